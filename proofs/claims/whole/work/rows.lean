section
-- ===== PART A: goes FIRST, ahead of the names: the tables' words, and 'selects' of the private methods out of them =====
/-- a private method of a class that the tables say can be made, by its rows of tables_1 -/
def lw_okq (q : MethodName × Nat) : Prop := (q.1.cls ≠ "java/lang/invoke/MethodHandle" ∧ q.1.cls ≠ "java/lang/invoke/VarHandle") ∧ Cond.instantiable q.1.cls q.2 ∈ tables_1 ∧ Cond.privateMethod q.1 ∈ tables_1 ∧ Cond.instanceMethod q.1 ∈ tables_1
theorem lw_p0 : lw_okq (⟨"ThenTables", "canEnd", "(II)Z"⟩, 6) := ⟨⟨by decide +kernel, by decide +kernel⟩, List.mem_of_getElem? (i := 11) (by decide +kernel), List.mem_of_getElem? (i := 214) (by decide +kernel), List.mem_of_getElem? (i := 215) (by decide +kernel)⟩
theorem lw_p1 : lw_okq (⟨"ThenTables", "isFixed", "(I)Z"⟩, 6) := ⟨⟨by decide +kernel, by decide +kernel⟩, List.mem_of_getElem? (i := 11) (by decide +kernel), List.mem_of_getElem? (i := 264) (by decide +kernel), List.mem_of_getElem? (i := 265) (by decide +kernel)⟩
theorem lw_p2 : lw_okq (⟨"ThenTables$Tellings", "isOf", "(III)Z"⟩, 5) := ⟨⟨by decide +kernel, by decide +kernel⟩, List.mem_of_getElem? (i := 73) (by decide +kernel), List.mem_of_getElem? (i := 276) (by decide +kernel), List.mem_of_getElem? (i := 277) (by decide +kernel)⟩
theorem lw_p3 : lw_okq (⟨"ThenTables$Tellings", "outdoes", "(III)Z"⟩, 5) := ⟨⟨by decide +kernel, by decide +kernel⟩, List.mem_of_getElem? (i := 73) (by decide +kernel), List.mem_of_getElem? (i := 288) (by decide +kernel), List.mem_of_getElem? (i := 289) (by decide +kernel)⟩
theorem lw_p4 : lw_okq (⟨"ThenTables$Things", "isEndKnown", "(II)Z"⟩, 10) := ⟨⟨by decide +kernel, by decide +kernel⟩, List.mem_of_getElem? (i := 36) (by decide +kernel), List.mem_of_getElem? (i := 374) (by decide +kernel), List.mem_of_getElem? (i := 375) (by decide +kernel)⟩
theorem lw_p5 : lw_okq (⟨"ThenTables", "thingOfFact", "(II)I"⟩, 6) := ⟨⟨by decide +kernel, by decide +kernel⟩, List.mem_of_getElem? (i := 11) (by decide +kernel), List.mem_of_getElem? (i := 399) (by decide +kernel), List.mem_of_getElem? (i := 400) (by decide +kernel)⟩
theorem lw_p6 : lw_okq (⟨"ThenTables", "isMarkedThen", "(IIII)Z"⟩, 6) := ⟨⟨by decide +kernel, by decide +kernel⟩, List.mem_of_getElem? (i := 11) (by decide +kernel), List.mem_of_getElem? (i := 437) (by decide +kernel), List.mem_of_getElem? (i := 438) (by decide +kernel)⟩
theorem lw_p7 : lw_okq (⟨"ThenTables", "carryAll", "(II)V"⟩, 6) := ⟨⟨by decide +kernel, by decide +kernel⟩, List.mem_of_getElem? (i := 11) (by decide +kernel), List.mem_of_getElem? (i := 449) (by decide +kernel), List.mem_of_getElem? (i := 450) (by decide +kernel)⟩
theorem lw_p8 : lw_okq (⟨"ThenTables", "sumOfFacts", "(IZ)J"⟩, 6) := ⟨⟨by decide +kernel, by decide +kernel⟩, List.mem_of_getElem? (i := 11) (by decide +kernel), List.mem_of_getElem? (i := 485) (by decide +kernel), List.mem_of_getElem? (i := 486) (by decide +kernel)⟩
theorem lw_p9 : lw_okq (⟨"ThenTables", "countLiving", "(IZIZI)I"⟩, 6) := ⟨⟨by decide +kernel, by decide +kernel⟩, List.mem_of_getElem? (i := 11) (by decide +kernel), List.mem_of_getElem? (i := 497) (by decide +kernel), List.mem_of_getElem? (i := 498) (by decide +kernel)⟩
theorem lw_p10 : lw_okq (⟨"ThenTables", "countMoved", "(IIII)I"⟩, 6) := ⟨⟨by decide +kernel, by decide +kernel⟩, List.mem_of_getElem? (i := 11) (by decide +kernel), List.mem_of_getElem? (i := 502) (by decide +kernel), List.mem_of_getElem? (i := 503) (by decide +kernel)⟩
theorem lw_p11 : lw_okq (⟨"ThenTablesModel", "isTaken", "(IIII)Z"⟩, 26) := ⟨⟨by decide +kernel, by decide +kernel⟩, List.mem_of_getElem? (i := 519) (by decide +kernel), List.mem_of_getElem? (i := 621) (by decide +kernel), List.mem_of_getElem? (i := 622) (by decide +kernel)⟩
theorem lw_p12 : lw_okq (⟨"ThenTablesModel", "lives", "(III)Z"⟩, 26) := ⟨⟨by decide +kernel, by decide +kernel⟩, List.mem_of_getElem? (i := 519) (by decide +kernel), List.mem_of_getElem? (i := 625) (by decide +kernel), List.mem_of_getElem? (i := 626) (by decide +kernel)⟩
theorem lw_p13 : lw_okq (⟨"ThenTablesModel", "endBy", "(II)I"⟩, 26) := ⟨⟨by decide +kernel, by decide +kernel⟩, List.mem_of_getElem? (i := 519) (by decide +kernel), List.mem_of_getElem? (i := 629) (by decide +kernel), List.mem_of_getElem? (i := 630) (by decide +kernel)⟩
theorem lw_p14 : lw_okq (⟨"ThenTablesModel", "comes", "(II)I"⟩, 26) := ⟨⟨by decide +kernel, by decide +kernel⟩, List.mem_of_getElem? (i := 519) (by decide +kernel), List.mem_of_getElem? (i := 633) (by decide +kernel), List.mem_of_getElem? (i := 634) (by decide +kernel)⟩
theorem lw_p15 : lw_okq (⟨"ThenTablesModel", "mayEnd", "(II)Z"⟩, 26) := ⟨⟨by decide +kernel, by decide +kernel⟩, List.mem_of_getElem? (i := 519) (by decide +kernel), List.mem_of_getElem? (i := 641) (by decide +kernel), List.mem_of_getElem? (i := 642) (by decide +kernel)⟩
def lw_privs_1 : List (MethodName × Nat) := [(⟨"ThenTables", "canEnd", "(II)Z"⟩, 6), (⟨"ThenTables", "isFixed", "(I)Z"⟩, 6), (⟨"ThenTables$Tellings", "isOf", "(III)Z"⟩, 5), (⟨"ThenTables$Tellings", "outdoes", "(III)Z"⟩, 5), (⟨"ThenTables$Things", "isEndKnown", "(II)Z"⟩, 10), (⟨"ThenTables", "thingOfFact", "(II)I"⟩, 6), (⟨"ThenTables", "isMarkedThen", "(IIII)Z"⟩, 6), (⟨"ThenTables", "carryAll", "(II)V"⟩, 6), (⟨"ThenTables", "sumOfFacts", "(IZ)J"⟩, 6), (⟨"ThenTables", "countLiving", "(IZIZI)I"⟩, 6), (⟨"ThenTables", "countMoved", "(IIII)I"⟩, 6), (⟨"ThenTablesModel", "isTaken", "(IIII)Z"⟩, 26), (⟨"ThenTablesModel", "lives", "(III)Z"⟩, 26), (⟨"ThenTablesModel", "endBy", "(II)I"⟩, 26), (⟨"ThenTablesModel", "comes", "(II)I"⟩, 26), (⟨"ThenTablesModel", "mayEnd", "(II)Z"⟩, 26)]
theorem lw_r1 : ∀ q ∈ lw_privs_1, lw_okq q := List.forall_mem_cons.mpr ⟨lw_p0, List.forall_mem_cons.mpr ⟨lw_p1, List.forall_mem_cons.mpr ⟨lw_p2, List.forall_mem_cons.mpr ⟨lw_p3, List.forall_mem_cons.mpr ⟨lw_p4, List.forall_mem_cons.mpr ⟨lw_p5, List.forall_mem_cons.mpr ⟨lw_p6, List.forall_mem_cons.mpr ⟨lw_p7, List.forall_mem_cons.mpr ⟨lw_p8, List.forall_mem_cons.mpr ⟨lw_p9, List.forall_mem_cons.mpr ⟨lw_p10, List.forall_mem_cons.mpr ⟨lw_p11, List.forall_mem_cons.mpr ⟨lw_p12, List.forall_mem_cons.mpr ⟨lw_p13, List.forall_mem_cons.mpr ⟨lw_p14, List.forall_mem_cons.mpr ⟨lw_p15, fun _ h => absurd h List.not_mem_nil⟩⟩⟩⟩⟩⟩⟩⟩⟩⟩⟩⟩⟩⟩⟩⟩
theorem lw_p16 : lw_okq (⟨"ThenTablesModel", "isThing", "(I)Z"⟩, 26) := ⟨⟨by decide +kernel, by decide +kernel⟩, List.mem_of_getElem? (i := 519) (by decide +kernel), List.mem_of_getElem? (i := 645) (by decide +kernel), List.mem_of_getElem? (i := 646) (by decide +kernel)⟩
theorem lw_p17 : lw_okq (⟨"ThenTablesModel", "goes", "(IIIIII)V"⟩, 26) := ⟨⟨by decide +kernel, by decide +kernel⟩, List.mem_of_getElem? (i := 519) (by decide +kernel), List.mem_of_getElem? (i := 649) (by decide +kernel), List.mem_of_getElem? (i := 650) (by decide +kernel)⟩
theorem lw_p18 : lw_okq (⟨"ThenTablesModel", "isTelling", "(IIII)Z"⟩, 26) := ⟨⟨by decide +kernel, by decide +kernel⟩, List.mem_of_getElem? (i := 519) (by decide +kernel), List.mem_of_getElem? (i := 668) (by decide +kernel), List.mem_of_getElem? (i := 669) (by decide +kernel)⟩
theorem lw_p19 : lw_okq (⟨"ThenTablesModel", "isKnown", "(III)Z"⟩, 26) := ⟨⟨by decide +kernel, by decide +kernel⟩, List.mem_of_getElem? (i := 519) (by decide +kernel), List.mem_of_getElem? (i := 672) (by decide +kernel), List.mem_of_getElem? (i := 673) (by decide +kernel)⟩
theorem lw_p20 : lw_okq (⟨"ThenTablesModel", "valueOf", "(IIII)I"⟩, 26) := ⟨⟨by decide +kernel, by decide +kernel⟩, List.mem_of_getElem? (i := 519) (by decide +kernel), List.mem_of_getElem? (i := 680) (by decide +kernel), List.mem_of_getElem? (i := 681) (by decide +kernel)⟩
theorem lw_p21 : lw_okq (⟨"ThenTablesModel", "turns", "(II)I"⟩, 26) := ⟨⟨by decide +kernel, by decide +kernel⟩, List.mem_of_getElem? (i := 519) (by decide +kernel), List.mem_of_getElem? (i := 688) (by decide +kernel), List.mem_of_getElem? (i := 689) (by decide +kernel)⟩
theorem lw_p22 : lw_okq (⟨"ThenTablesModel", "isFact", "(II)Z"⟩, 26) := ⟨⟨by decide +kernel, by decide +kernel⟩, List.mem_of_getElem? (i := 519) (by decide +kernel), List.mem_of_getElem? (i := 711) (by decide +kernel), List.mem_of_getElem? (i := 712) (by decide +kernel)⟩
theorem lw_p23 : lw_okq (⟨"ThenTablesModel", "thingOf", "(II)I"⟩, 26) := ⟨⟨by decide +kernel, by decide +kernel⟩, List.mem_of_getElem? (i := 519) (by decide +kernel), List.mem_of_getElem? (i := 715) (by decide +kernel), List.mem_of_getElem? (i := 716) (by decide +kernel)⟩
theorem lw_p24 : lw_okq (⟨"ThenTablesModel", "living", "(III)I"⟩, 26) := ⟨⟨by decide +kernel, by decide +kernel⟩, List.mem_of_getElem? (i := 519) (by decide +kernel), List.mem_of_getElem? (i := 719) (by decide +kernel), List.mem_of_getElem? (i := 720) (by decide +kernel)⟩
theorem lw_p25 : lw_okq (⟨"ThenTablesModel", "isAsked", "(III)Z"⟩, 26) := ⟨⟨by decide +kernel, by decide +kernel⟩, List.mem_of_getElem? (i := 519) (by decide +kernel), List.mem_of_getElem? (i := 731) (by decide +kernel), List.mem_of_getElem? (i := 732) (by decide +kernel)⟩
theorem lw_p26 : lw_okq (⟨"ThenTablesModel", "allCarried", "(IIII)J"⟩, 26) := ⟨⟨by decide +kernel, by decide +kernel⟩, List.mem_of_getElem? (i := 519) (by decide +kernel), List.mem_of_getElem? (i := 739) (by decide +kernel), List.mem_of_getElem? (i := 740) (by decide +kernel)⟩
theorem lw_p27 : lw_okq (⟨"ThenTablesModel", "carried", "(IIIIII)J"⟩, 26) := ⟨⟨by decide +kernel, by decide +kernel⟩, List.mem_of_getElem? (i := 519) (by decide +kernel), List.mem_of_getElem? (i := 743) (by decide +kernel), List.mem_of_getElem? (i := 744) (by decide +kernel)⟩
def lw_privs_2 : List (MethodName × Nat) := [(⟨"ThenTablesModel", "isThing", "(I)Z"⟩, 26), (⟨"ThenTablesModel", "goes", "(IIIIII)V"⟩, 26), (⟨"ThenTablesModel", "isTelling", "(IIII)Z"⟩, 26), (⟨"ThenTablesModel", "isKnown", "(III)Z"⟩, 26), (⟨"ThenTablesModel", "valueOf", "(IIII)I"⟩, 26), (⟨"ThenTablesModel", "turns", "(II)I"⟩, 26), (⟨"ThenTablesModel", "isFact", "(II)Z"⟩, 26), (⟨"ThenTablesModel", "thingOf", "(II)I"⟩, 26), (⟨"ThenTablesModel", "living", "(III)I"⟩, 26), (⟨"ThenTablesModel", "isAsked", "(III)Z"⟩, 26), (⟨"ThenTablesModel", "allCarried", "(IIII)J"⟩, 26), (⟨"ThenTablesModel", "carried", "(IIIIII)J"⟩, 26)]
theorem lw_r2 : ∀ q ∈ lw_privs_2, lw_okq q := List.forall_mem_cons.mpr ⟨lw_p16, List.forall_mem_cons.mpr ⟨lw_p17, List.forall_mem_cons.mpr ⟨lw_p18, List.forall_mem_cons.mpr ⟨lw_p19, List.forall_mem_cons.mpr ⟨lw_p20, List.forall_mem_cons.mpr ⟨lw_p21, List.forall_mem_cons.mpr ⟨lw_p22, List.forall_mem_cons.mpr ⟨lw_p23, List.forall_mem_cons.mpr ⟨lw_p24, List.forall_mem_cons.mpr ⟨lw_p25, List.forall_mem_cons.mpr ⟨lw_p26, List.forall_mem_cons.mpr ⟨lw_p27, fun _ h => absurd h List.not_mem_nil⟩⟩⟩⟩⟩⟩⟩⟩⟩⟩⟩⟩
def lw_privs : List (MethodName × Nat) := lw_privs_1 ++ (lw_privs_2)
def lw_tbl : List Cond := k2_sels lw_privs ++ tables_1
theorem lw_privs_ok : ∀ q ∈ lw_privs, lw_okq q := by
  show ∀ q ∈ lw_privs_1 ++ (lw_privs_2), lw_okq q
  exact List.forall_mem_append.mpr ⟨lw_r1, lw_r2⟩
end
section
def RX0 : String := "ThenTables$Carrying"
def TX0 : u_T := fun k => match k with
  | 0 => ("ThenTables$Carrying", "things", "LThenTables$Things;", true)
  | 1 => ("ThenTables$Carrying", "staying", "[J", true)
  | 2 => ("ThenTables$Carrying", "lost", "J", false)
  | 3 => ("ThenTables$Carrying", "onDay", "I", false)
  | _ => ("ThenTables$Carrying", "asKnown", "I", false)
def tyX0 : Nat → FieldType := fun k => match k with
  | 0 => .object "ThenTables$Things"
  | 1 => .array .long
  | 2 => .long
  | 3 => .int
  | _ => .int
abbrev wsX00 : List Cond := u_ws RX0 TX0 5
theorem nmX0 : ∀ a, a < 5 → ∀ b, b < 5 → a ≠ b → (TX0 a).2.1 ≠ (TX0 b).2.1 := by decide +kernel
theorem tyX0_ok : ∀ k, k < 5 → parseFieldDescriptor (TX0 k).2.2.1 = some (tyX0 k) := by decide +kernel
abbrev cX0_init : ByteArray := prog_2_method_1_code
def yX0_init : MethodName := ⟨RX0, "<init>", "(LThenTables$Things;)V"⟩
abbrev cX0_start : ByteArray := prog_2_method_2_code
def yX0_start : MethodName := ⟨RX0, "start", "(II)V"⟩
abbrev cX0_add : ByteArray := prog_2_method_3_code
def yX0_add : MethodName := ⟨RX0, "add", "(II)V"⟩
abbrev cX0_stayingOn : ByteArray := prog_2_method_4_code
def yX0_stayingOn : MethodName := ⟨RX0, "stayingOn", "(I)J"⟩
abbrev cX0_nowhere : ByteArray := prog_2_method_5_code
def yX0_nowhere : MethodName := ⟨RX0, "nowhere", "()J"⟩
abbrev cX0_carry : ByteArray := prog_2_method_6_code
def yX0_carry : MethodName := ⟨RX0, "carry", "(LThenTables$Carrying;III)V"⟩
def RX1 : String := "ThenTables$Facts"
def TX1 : u_T := fun k => match k with
  | 0 => ("ThenTables$Facts", "log", "LThenTables$Log;", true)
  | 1 => ("ThenTables$Facts", "codes", "[I", true)
  | 2 => ("ThenTables$Facts", "days", "[I", true)
  | _ => ("ThenTables$Facts", "amounts", "[I", true)
def tyX1 : Nat → FieldType := fun k => match k with
  | 0 => .object "ThenTables$Log"
  | 1 => .array .int
  | 2 => .array .int
  | _ => .array .int
abbrev wsX10 : List Cond := u_ws RX1 TX1 4
theorem nmX1 : ∀ a, a < 4 → ∀ b, b < 4 → a ≠ b → (TX1 a).2.1 ≠ (TX1 b).2.1 := by decide +kernel
theorem tyX1_ok : ∀ k, k < 4 → parseFieldDescriptor (TX1 k).2.2.1 = some (tyX1 k) := by decide +kernel
abbrev cX1_init : ByteArray := prog_3_method_1_code
def yX1_init : MethodName := ⟨RX1, "<init>", "(LThenTables$Loads;)V"⟩
abbrev cX1_size : ByteArray := prog_3_method_2_code
def yX1_size : MethodName := ⟨RX1, "size", "()I"⟩
abbrev cX1_isFull : ByteArray := prog_3_method_3_code
def yX1_isFull : MethodName := ⟨RX1, "isFull", "()Z"⟩
abbrev cX1_sizeOfLoad : ByteArray := prog_3_method_4_code
def yX1_sizeOfLoad : MethodName := ⟨RX1, "sizeOfLoad", "(I)I"⟩
abbrev cX1_isKnown : ByteArray := prog_3_method_5_code
def yX1_isKnown : MethodName := ⟨RX1, "isKnown", "(II)Z"⟩
abbrev cX1_add : ByteArray := prog_3_method_6_code
def yX1_add : MethodName := ⟨RX1, "add", "(IIII)I"⟩
abbrev cX1_codeOf : ByteArray := prog_3_method_7_code
def yX1_codeOf : MethodName := ⟨RX1, "codeOf", "(I)I"⟩
abbrev cX1_dayOf : ByteArray := prog_3_method_8_code
def yX1_dayOf : MethodName := ⟨RX1, "dayOf", "(I)I"⟩
abbrev cX1_amountOf : ByteArray := prog_3_method_9_code
def yX1_amountOf : MethodName := ⟨RX1, "amountOf", "(I)I"⟩
def RX2 : String := "ThenTables$Loads"
def TX2 : u_T := fun k => match k with
  | 0 => ("ThenTables$Loads", "undoneOn", "[I", true)
  | 1 => ("ThenTables$Loads", "size", "I", false)
  | _ => ("ThenTables$Loads", "undone", "I", false)
def tyX2 : Nat → FieldType := fun k => match k with
  | 0 => .array .int
  | 1 => .int
  | _ => .int
abbrev wsX20 : List Cond := u_ws RX2 TX2 3
theorem nmX2 : ∀ a, a < 3 → ∀ b, b < 3 → a ≠ b → (TX2 a).2.1 ≠ (TX2 b).2.1 := by decide +kernel
theorem tyX2_ok : ∀ k, k < 3 → parseFieldDescriptor (TX2 k).2.2.1 = some (tyX2 k) := by decide +kernel
abbrev cX2_init : ByteArray := prog_4_method_1_code
def yX2_init : MethodName := ⟨RX2, "<init>", "()V"⟩
abbrev cX2_open : ByteArray := prog_4_method_2_code
def yX2_open : MethodName := ⟨RX2, "open", "()I"⟩
abbrev cX2_openNext : ByteArray := prog_4_method_3_code
def yX2_openNext : MethodName := ⟨RX2, "openNext", "()I"⟩
abbrev cX2_canBeUndone : ByteArray := prog_4_method_4_code
def yX2_canBeUndone : MethodName := ⟨RX2, "canBeUndone", "(I)Z"⟩
abbrev cX2_setUndone : ByteArray := prog_4_method_5_code
def yX2_setUndone : MethodName := ⟨RX2, "setUndone", "(II)V"⟩
abbrev cX2_isUndone : ByteArray := prog_4_method_6_code
def yX2_isUndone : MethodName := ⟨RX2, "isUndone", "(II)Z"⟩
abbrev cX2_undoneCount : ByteArray := prog_4_method_7_code
def yX2_undoneCount : MethodName := ⟨RX2, "undoneCount", "()I"⟩
def RX3 : String := "ThenTables$Log"
def TX3 : u_T := fun k => match k with
  | 0 => ("ThenTables$Log", "loads", "LThenTables$Loads;", true)
  | 1 => ("ThenTables$Log", "toldOn", "[I", true)
  | 2 => ("ThenTables$Log", "loadOf", "[I", true)
  | 3 => ("ThenTables$Log", "most", "I", true)
  | _ => ("ThenTables$Log", "size", "I", false)
def tyX3 : Nat → FieldType := fun k => match k with
  | 0 => .object "ThenTables$Loads"
  | 1 => .array .int
  | 2 => .array .int
  | 3 => .int
  | _ => .int
abbrev wsX30 : List Cond := u_ws RX3 TX3 5
theorem nmX3 : ∀ a, a < 5 → ∀ b, b < 5 → a ≠ b → (TX3 a).2.1 ≠ (TX3 b).2.1 := by decide +kernel
theorem tyX3_ok : ∀ k, k < 5 → parseFieldDescriptor (TX3 k).2.2.1 = some (tyX3 k) := by decide +kernel
abbrev cX3_init : ByteArray := prog_5_method_1_code
def yX3_init : MethodName := ⟨RX3, "<init>", "(LThenTables$Loads;I)V"⟩
abbrev cX3_size : ByteArray := prog_5_method_2_code
def yX3_size : MethodName := ⟨RX3, "size", "()I"⟩
abbrev cX3_isFull : ByteArray := prog_5_method_3_code
def yX3_isFull : MethodName := ⟨RX3, "isFull", "()Z"⟩
abbrev cX3_add : ByteArray := prog_5_method_4_code
def yX3_add : MethodName := ⟨RX3, "add", "(I)I"⟩
abbrev cX3_isKnown : ByteArray := prog_5_method_5_code
def yX3_isKnown : MethodName := ⟨RX3, "isKnown", "(II)Z"⟩
abbrev cX3_sizeOfLoad : ByteArray := prog_5_method_6_code
def yX3_sizeOfLoad : MethodName := ⟨RX3, "sizeOfLoad", "(I)I"⟩
def RX4 : String := "ThenTables$Tellings"
def TX4 : u_T := fun k => match k with
  | 0 => ("ThenTables$Tellings", "log", "LThenTables$Log;", true)
  | 1 => ("ThenTables$Tellings", "thingOf", "[I", true)
  | 2 => ("ThenTables$Tellings", "markOf", "[I", true)
  | 3 => ("ThenTables$Tellings", "fromOf", "[I", true)
  | _ => ("ThenTables$Tellings", "valueOf", "[I", true)
def tyX4 : Nat → FieldType := fun k => match k with
  | 0 => .object "ThenTables$Log"
  | 1 => .array .int
  | 2 => .array .int
  | 3 => .array .int
  | _ => .array .int
abbrev wsX40 : List Cond := u_ws RX4 TX4 5
theorem nmX4 : ∀ a, a < 5 → ∀ b, b < 5 → a ≠ b → (TX4 a).2.1 ≠ (TX4 b).2.1 := by decide +kernel
theorem tyX4_ok : ∀ k, k < 5 → parseFieldDescriptor (TX4 k).2.2.1 = some (tyX4 k) := by decide +kernel
abbrev cX4_init : ByteArray := prog_6_method_1_code
def yX4_init : MethodName := ⟨RX4, "<init>", "(LThenTables$Loads;)V"⟩
abbrev cX4_size : ByteArray := prog_6_method_2_code
def yX4_size : MethodName := ⟨RX4, "size", "()I"⟩
abbrev cX4_isFull : ByteArray := prog_6_method_3_code
def yX4_isFull : MethodName := ⟨RX4, "isFull", "()Z"⟩
abbrev cX4_sizeOfLoad : ByteArray := prog_6_method_4_code
def yX4_sizeOfLoad : MethodName := ⟨RX4, "sizeOfLoad", "(I)I"⟩
abbrev cX4_add : ByteArray := prog_6_method_5_code
def yX4_add : MethodName := ⟨RX4, "add", "(IIIII)V"⟩
abbrev cX4_valueOn : ByteArray := prog_6_method_6_code
def yX4_valueOn : MethodName := ⟨RX4, "valueOn", "(IIII)I"⟩
abbrev cX4_timesToldOver : ByteArray := prog_6_method_7_code
def yX4_timesToldOver : MethodName := ⟨RX4, "timesToldOver", "(II)I"⟩
abbrev cX4_isOf : ByteArray := prog_6_method_8_code
def yX4_isOf : MethodName := ⟨RX4, "isOf", "(III)Z"⟩
abbrev cX4_outdoes : ByteArray := prog_6_method_9_code
def yX4_outdoes : MethodName := ⟨RX4, "outdoes", "(III)Z"⟩
def RX5 : String := "ThenTables$Things"
def TX5 : u_T := fun k => match k with
  | 0 => ("ThenTables$Things", "codes", "[I", true)
  | 1 => ("ThenTables$Things", "births", "[I", true)
  | 2 => ("ThenTables$Things", "bornKnownFrom", "[I", true)
  | 3 => ("ThenTables$Things", "endDays", "[I", true)
  | 4 => ("ThenTables$Things", "endKnownFrom", "[I", true)
  | 5 => ("ThenTables$Things", "endings", "[I", true)
  | 6 => ("ThenTables$Things", "heirs", "[I", true)
  | 7 => ("ThenTables$Things", "shareParts", "[I", true)
  | 8 => ("ThenTables$Things", "shareWholes", "[I", true)
  | _ => ("ThenTables$Things", "size", "I", false)
def tyX5 : Nat → FieldType := fun k => match k with
  | 0 => .array .int
  | 1 => .array .int
  | 2 => .array .int
  | 3 => .array .int
  | 4 => .array .int
  | 5 => .array .int
  | 6 => .array .int
  | 7 => .array .int
  | 8 => .array .int
  | _ => .int
abbrev wsX50 : List Cond := u_ws RX5 TX5 10
theorem nmX5 : ∀ a, a < 10 → ∀ b, b < 10 → a ≠ b → (TX5 a).2.1 ≠ (TX5 b).2.1 := by decide +kernel
theorem tyX5_ok : ∀ k, k < 10 → parseFieldDescriptor (TX5 k).2.2.1 = some (tyX5 k) := by decide +kernel
abbrev cX5_init : ByteArray := prog_7_method_1_code
def yX5_init : MethodName := ⟨RX5, "<init>", "()V"⟩
abbrev cX5_size : ByteArray := prog_7_method_2_code
def yX5_size : MethodName := ⟨RX5, "size", "()I"⟩
abbrev cX5_room : ByteArray := prog_7_method_3_code
def yX5_room : MethodName := ⟨RX5, "room", "()I"⟩
abbrev cX5_has : ByteArray := prog_7_method_4_code
def yX5_has : MethodName := ⟨RX5, "has", "(I)Z"⟩
abbrev cX5_add : ByteArray := prog_7_method_5_code
def yX5_add : MethodName := ⟨RX5, "add", "(III)I"⟩
abbrev cX5_finish : ByteArray := prog_7_method_6_code
def yX5_finish : MethodName := ⟨RX5, "finish", "(IIIII)V"⟩
abbrev cX5_setShare : ByteArray := prog_7_method_7_code
def yX5_setShare : MethodName := ⟨RX5, "setShare", "(III)V"⟩
abbrev cX5_isTaken : ByteArray := prog_7_method_8_code
def yX5_isTaken : MethodName := ⟨RX5, "isTaken", "(IIII)Z"⟩
abbrev cX5_hasEnd : ByteArray := prog_7_method_9_code
def yX5_hasEnd : MethodName := ⟨RX5, "hasEnd", "(I)Z"⟩
abbrev cX5_isKnown : ByteArray := prog_7_method_10_code
def yX5_isKnown : MethodName := ⟨RX5, "isKnown", "(II)Z"⟩
abbrev cX5_codeOf : ByteArray := prog_7_method_11_code
def yX5_codeOf : MethodName := ⟨RX5, "codeOf", "(I)I"⟩
abbrev cX5_birthOf : ByteArray := prog_7_method_12_code
def yX5_birthOf : MethodName := ⟨RX5, "birthOf", "(I)I"⟩
abbrev cX5_endOf : ByteArray := prog_7_method_13_code
def yX5_endOf : MethodName := ⟨RX5, "endOf", "(II)I"⟩
abbrev cX5_endingOf : ByteArray := prog_7_method_14_code
def yX5_endingOf : MethodName := ⟨RX5, "endingOf", "(II)I"⟩
abbrev cX5_heirOf : ByteArray := prog_7_method_15_code
def yX5_heirOf : MethodName := ⟨RX5, "heirOf", "(II)I"⟩
abbrev cX5_livesOn : ByteArray := prog_7_method_16_code
def yX5_livesOn : MethodName := ⟨RX5, "livesOn", "(III)Z"⟩
abbrev cX5_livingOn : ByteArray := prog_7_method_17_code
def yX5_livingOn : MethodName := ⟨RX5, "livingOn", "(III)I"⟩
abbrev cX5_firstShareOf : ByteArray := prog_7_method_18_code
def yX5_firstShareOf : MethodName := ⟨RX5, "firstShareOf", "(II)I"⟩
abbrev cX5_isEndKnown : ByteArray := prog_7_method_19_code
def yX5_isEndKnown : MethodName := ⟨RX5, "isEndKnown", "(II)Z"⟩
def RX6 : String := "ThenTables"
def TX6 : u_T := fun k => match k with
  | 0 => ("ThenTables", "loads", "LThenTables$Loads;", true)
  | 1 => ("ThenTables", "things", "LThenTables$Things;", true)
  | 2 => ("ThenTables", "tellings", "LThenTables$Tellings;", true)
  | 3 => ("ThenTables", "facts", "LThenTables$Facts;", true)
  | 4 => ("ThenTables", "carrying", "LThenTables$Carrying;", true)
  | _ => ("ThenTables", "today", "I", false)
def tyX6 : Nat → FieldType := fun k => match k with
  | 0 => .object "ThenTables$Loads"
  | 1 => .object "ThenTables$Things"
  | 2 => .object "ThenTables$Tellings"
  | 3 => .object "ThenTables$Facts"
  | 4 => .object "ThenTables$Carrying"
  | _ => .int
abbrev wsX60 : List Cond := u_ws RX6 TX6 6
theorem nmX6 : ∀ a, a < 6 → ∀ b, b < 6 → a ≠ b → (TX6 a).2.1 ≠ (TX6 b).2.1 := by decide +kernel
theorem tyX6_ok : ∀ k, k < 6 → parseFieldDescriptor (TX6 k).2.2.1 = some (tyX6 k) := by decide +kernel
abbrev cX6_init : ByteArray := prog_1_method_1_code
def yX6_init : MethodName := ⟨RX6, "<init>", "()V"⟩
abbrev cX6_day : ByteArray := prog_1_method_2_code
def yX6_day : MethodName := ⟨RX6, "day", "(I)Z"⟩
abbrev cX6_born : ByteArray := prog_1_method_3_code
def yX6_born : MethodName := ⟨RX6, "born", "(II)I"⟩
abbrev cX6_ends : ByteArray := prog_1_method_4_code
def yX6_ends : MethodName := ⟨RX6, "ends", "(II)Z"⟩
abbrev cX6_split : ByteArray := prog_1_method_5_code
def yX6_split : MethodName := ⟨RX6, "split", "(IIIIII)I"⟩
abbrev cX6_join : ByteArray := prog_1_method_6_code
def yX6_join : MethodName := ⟨RX6, "join", "(IIII)I"⟩
abbrev cX6_mark : ByteArray := prog_1_method_7_code
def yX6_mark : MethodName := ⟨RX6, "mark", "(IIII)Z"⟩
abbrev cX6_fact : ByteArray := prog_1_method_8_code
def yX6_fact : MethodName := ⟨RX6, "fact", "(III)I"⟩
abbrev cX6_load : ByteArray := prog_1_method_9_code
def yX6_load : MethodName := ⟨RX6, "load", "()I"⟩
abbrev cX6_undo : ByteArray := prog_1_method_10_code
def yX6_undo : MethodName := ⟨RX6, "undo", "(I)I"⟩
abbrev cX6_told : ByteArray := prog_1_method_11_code
def yX6_told : MethodName := ⟨RX6, "told", "(IIII)I"⟩
abbrev cX6_thing : ByteArray := prog_1_method_12_code
def yX6_thing : MethodName := ⟨RX6, "thing", "(III)I"⟩
abbrev cX6_hangs : ByteArray := prog_1_method_13_code
def yX6_hangs : MethodName := ⟨RX6, "hangs", "(II)I"⟩
abbrev cX6_find : ByteArray := prog_1_method_14_code
def yX6_find : MethodName := ⟨RX6, "find", "(III)I"⟩
abbrev cX6_then : ByteArray := prog_1_method_15_code
def yX6_then : MethodName := ⟨RX6, "then", "(III)J"⟩
abbrev cX6_by : ByteArray := prog_1_method_16_code
def yX6_by : MethodName := ⟨RX6, "by", "(IIII)J"⟩
abbrev cX6_sum : ByteArray := prog_1_method_17_code
def yX6_sum : MethodName := ⟨RX6, "sum", "(III)J"⟩
abbrev cX6_compare : ByteArray := prog_1_method_18_code
def yX6_compare : MethodName := ⟨RX6, "compare", "(IIIII)I"⟩
abbrev cX6_count : ByteArray := prog_1_method_19_code
def yX6_count : MethodName := ⟨RX6, "count", "(I)I"⟩
abbrev cX6_isDay : ByteArray := prog_1_method_20_code
def yX6_isDay : MethodName := ⟨RX6, "isDay", "(I)Z"⟩
abbrev cX6_isCode : ByteArray := prog_1_method_21_code
def yX6_isCode : MethodName := ⟨RX6, "isCode", "(I)Z"⟩
abbrev cX6_isMark : ByteArray := prog_1_method_22_code
def yX6_isMark : MethodName := ⟨RX6, "isMark", "(I)Z"⟩
abbrev cX6_isAnswer : ByteArray := prog_1_method_23_code
def yX6_isAnswer : MethodName := ⟨RX6, "isAnswer", "(I)Z"⟩
abbrev cX6_isShare : ByteArray := prog_1_method_24_code
def yX6_isShare : MethodName := ⟨RX6, "isShare", "(II)Z"⟩
abbrev cX6_canEnd : ByteArray := prog_1_method_25_code
def yX6_canEnd : MethodName := ⟨RX6, "canEnd", "(II)Z"⟩
abbrev cX6_isFixed : ByteArray := prog_1_method_26_code
def yX6_isFixed : MethodName := ⟨RX6, "isFixed", "(I)Z"⟩
abbrev cX6_thingOfFact : ByteArray := prog_1_method_27_code
def yX6_thingOfFact : MethodName := ⟨RX6, "thingOfFact", "(II)I"⟩
abbrev cX6_isMarkedThen : ByteArray := prog_1_method_28_code
def yX6_isMarkedThen : MethodName := ⟨RX6, "isMarkedThen", "(IIII)Z"⟩
abbrev cX6_carryAll : ByteArray := prog_1_method_29_code
def yX6_carryAll : MethodName := ⟨RX6, "carryAll", "(II)V"⟩
abbrev cX6_sumOfFacts : ByteArray := prog_1_method_30_code
def yX6_sumOfFacts : MethodName := ⟨RX6, "sumOfFacts", "(IZ)J"⟩
abbrev cX6_countLiving : ByteArray := prog_1_method_31_code
def yX6_countLiving : MethodName := ⟨RX6, "countLiving", "(IZIZI)I"⟩
abbrev cX6_countMoved : ByteArray := prog_1_method_32_code
def yX6_countMoved : MethodName := ⟨RX6, "countMoved", "(IIII)I"⟩
def RX7 : String := "ThenTablesModel"
def TX7 : u_T := fun k => match k with
  | 0 => ("ThenTablesModel", "today", "I", false)
  | 1 => ("ThenTablesModel", "things", "I", false)
  | 2 => ("ThenTablesModel", "facts", "I", false)
  | 3 => ("ThenTablesModel", "tellings", "I", false)
  | 4 => ("ThenTablesModel", "open", "I", false)
  | 5 => ("ThenTablesModel", "code", "[I", true)
  | 6 => ("ThenTablesModel", "birth", "[I", true)
  | 7 => ("ThenTablesModel", "bornKnown", "[I", true)
  | 8 => ("ThenTablesModel", "end", "[I", true)
  | 9 => ("ThenTablesModel", "endKnown", "[I", true)
  | 10 => ("ThenTablesModel", "how", "[I", true)
  | 11 => ("ThenTablesModel", "heir", "[I", true)
  | 12 => ("ThenTablesModel", "share", "[I", true)
  | 13 => ("ThenTablesModel", "whole", "[I", true)
  | 14 => ("ThenTablesModel", "factCode", "[I", true)
  | 15 => ("ThenTablesModel", "factDay", "[I", true)
  | 16 => ("ThenTablesModel", "amount", "[I", true)
  | 17 => ("ThenTablesModel", "factKnown", "[I", true)
  | 18 => ("ThenTablesModel", "factLoad", "[I", true)
  | 19 => ("ThenTablesModel", "markThing", "[I", true)
  | 20 => ("ThenTablesModel", "markOf", "[I", true)
  | 21 => ("ThenTablesModel", "markFrom", "[I", true)
  | 22 => ("ThenTablesModel", "markValue", "[I", true)
  | 23 => ("ThenTablesModel", "markKnown", "[I", true)
  | 24 => ("ThenTablesModel", "markLoad", "[I", true)
  | _ => ("ThenTablesModel", "undone", "[I", true)
def tyX7 : Nat → FieldType := fun k => match k with
  | 0 => .int
  | 1 => .int
  | 2 => .int
  | 3 => .int
  | 4 => .int
  | 5 => .array .int
  | 6 => .array .int
  | 7 => .array .int
  | 8 => .array .int
  | 9 => .array .int
  | 10 => .array .int
  | 11 => .array .int
  | 12 => .array .int
  | 13 => .array .int
  | 14 => .array .int
  | 15 => .array .int
  | 16 => .array .int
  | 17 => .array .int
  | 18 => .array .int
  | 19 => .array .int
  | 20 => .array .int
  | 21 => .array .int
  | 22 => .array .int
  | 23 => .array .int
  | 24 => .array .int
  | _ => .array .int
abbrev wsX70 : List Cond := u_ws RX7 TX7 26
theorem nmX7 : ∀ a, a < 26 → ∀ b, b < 26 → a ≠ b → (TX7 a).2.1 ≠ (TX7 b).2.1 := by decide +kernel
theorem tyX7_ok : ∀ k, k < 26 → parseFieldDescriptor (TX7 k).2.2.1 = some (tyX7 k) := by decide +kernel
abbrev cX7_init : ByteArray := prog_9_method_1_code
def yX7_init : MethodName := ⟨RX7, "<init>", "()V"⟩
abbrev cX7_isIn : ByteArray := prog_9_method_2_code
def yX7_isIn : MethodName := ⟨RX7, "isIn", "(III)Z"⟩
abbrev cX7_isDay : ByteArray := prog_9_method_3_code
def yX7_isDay : MethodName := ⟨RX7, "isDay", "(I)Z"⟩
abbrev cX7_isCode : ByteArray := prog_9_method_4_code
def yX7_isCode : MethodName := ⟨RX7, "isCode", "(I)Z"⟩
abbrev cX7_isMark : ByteArray := prog_9_method_5_code
def yX7_isMark : MethodName := ⟨RX7, "isMark", "(I)Z"⟩
abbrev cX7_one : ByteArray := prog_9_method_6_code
def yX7_one : MethodName := ⟨RX7, "one", "(Z)I"⟩
abbrev cX7_isThing : ByteArray := prog_9_method_7_code
def yX7_isThing : MethodName := ⟨RX7, "isThing", "(I)Z"⟩
abbrev cX7_day : ByteArray := prog_9_method_8_code
def yX7_day : MethodName := ⟨RX7, "day", "(I)Z"⟩
abbrev cX7_endBy : ByteArray := prog_9_method_9_code
def yX7_endBy : MethodName := ⟨RX7, "endBy", "(II)I"⟩
abbrev cX7_lives : ByteArray := prog_9_method_10_code
def yX7_lives : MethodName := ⟨RX7, "lives", "(III)Z"⟩
abbrev cX7_isTaken : ByteArray := prog_9_method_11_code
def yX7_isTaken : MethodName := ⟨RX7, "isTaken", "(IIII)Z"⟩
abbrev cX7_comes : ByteArray := prog_9_method_12_code
def yX7_comes : MethodName := ⟨RX7, "comes", "(II)I"⟩
abbrev cX7_goes : ByteArray := prog_9_method_13_code
def yX7_goes : MethodName := ⟨RX7, "goes", "(IIIIII)V"⟩
abbrev cX7_born : ByteArray := prog_9_method_14_code
def yX7_born : MethodName := ⟨RX7, "born", "(II)I"⟩
abbrev cX7_mayEnd : ByteArray := prog_9_method_15_code
def yX7_mayEnd : MethodName := ⟨RX7, "mayEnd", "(II)Z"⟩
abbrev cX7_ends : ByteArray := prog_9_method_16_code
def yX7_ends : MethodName := ⟨RX7, "ends", "(II)Z"⟩
abbrev cX7_split : ByteArray := prog_9_method_17_code
def yX7_split : MethodName := ⟨RX7, "split", "(IIIIII)I"⟩
abbrev cX7_join : ByteArray := prog_9_method_18_code
def yX7_join : MethodName := ⟨RX7, "join", "(IIII)I"⟩
abbrev cX7_isKnown : ByteArray := prog_9_method_19_code
def yX7_isKnown : MethodName := ⟨RX7, "isKnown", "(III)Z"⟩
abbrev cX7_isTelling : ByteArray := prog_9_method_20_code
def yX7_isTelling : MethodName := ⟨RX7, "isTelling", "(IIII)Z"⟩
abbrev cX7_mark : ByteArray := prog_9_method_21_code
def yX7_mark : MethodName := ⟨RX7, "mark", "(IIII)Z"⟩
abbrev cX7_valueOf : ByteArray := prog_9_method_22_code
def yX7_valueOf : MethodName := ⟨RX7, "valueOf", "(IIII)I"⟩
abbrev cX7_told : ByteArray := prog_9_method_23_code
def yX7_told : MethodName := ⟨RX7, "told", "(IIII)I"⟩
abbrev cX7_turns : ByteArray := prog_9_method_24_code
def yX7_turns : MethodName := ⟨RX7, "turns", "(II)I"⟩
abbrev cX7_thing : ByteArray := prog_9_method_25_code
def yX7_thing : MethodName := ⟨RX7, "thing", "(III)I"⟩
abbrev cX7_fact : ByteArray := prog_9_method_26_code
def yX7_fact : MethodName := ⟨RX7, "fact", "(III)I"⟩
abbrev cX7_load : ByteArray := prog_9_method_27_code
def yX7_load : MethodName := ⟨RX7, "load", "()I"⟩
abbrev cX7_undo : ByteArray := prog_9_method_28_code
def yX7_undo : MethodName := ⟨RX7, "undo", "(I)I"⟩
abbrev cX7_living : ByteArray := prog_9_method_29_code
def yX7_living : MethodName := ⟨RX7, "living", "(III)I"⟩
abbrev cX7_isFact : ByteArray := prog_9_method_30_code
def yX7_isFact : MethodName := ⟨RX7, "isFact", "(II)Z"⟩
abbrev cX7_thingOf : ByteArray := prog_9_method_31_code
def yX7_thingOf : MethodName := ⟨RX7, "thingOf", "(II)I"⟩
abbrev cX7_hangs : ByteArray := prog_9_method_32_code
def yX7_hangs : MethodName := ⟨RX7, "hangs", "(II)I"⟩
abbrev cX7_find : ByteArray := prog_9_method_33_code
def yX7_find : MethodName := ⟨RX7, "find", "(III)I"⟩
abbrev cX7_isAsked : ByteArray := prog_9_method_34_code
def yX7_isAsked : MethodName := ⟨RX7, "isAsked", "(III)Z"⟩
abbrev cX7_then : ByteArray := prog_9_method_35_code
def yX7_then : MethodName := ⟨RX7, "then", "(III)J"⟩
abbrev cX7_carried : ByteArray := prog_9_method_36_code
def yX7_carried : MethodName := ⟨RX7, "carried", "(IIIIII)J"⟩
abbrev cX7_allCarried : ByteArray := prog_9_method_37_code
def yX7_allCarried : MethodName := ⟨RX7, "allCarried", "(IIII)J"⟩
abbrev cX7_by : ByteArray := prog_9_method_38_code
def yX7_by : MethodName := ⟨RX7, "by", "(IIII)J"⟩
abbrev cX7_sum : ByteArray := prog_9_method_39_code
def yX7_sum : MethodName := ⟨RX7, "sum", "(III)J"⟩
abbrev cX7_compare : ByteArray := prog_9_method_40_code
def yX7_compare : MethodName := ⟨RX7, "compare", "(IIIII)I"⟩
abbrev cX7_count : ByteArray := prog_9_method_41_code
def yX7_count : MethodName := ⟨RX7, "count", "(I)I"⟩
def RJ9 : String := "java/lang/Math"
def yJ9_max_7cf53 : MethodName := ⟨RJ9, "max", "(II)I"⟩
def RL : String := "ThenTablesLaw"
abbrev cL_law : ByteArray := code
def yL_law : MethodName := ⟨RL, "law", "([I)Z"⟩
abbrev vwCl : List vw_C := [(RX0, TX0, 5), (RX1, TX1, 4), (RX2, TX2, 3), (RX3, TX3, 5), (RX4, TX4, 5), (RX5, TX5, 10), (RX6, TX6, 6), (RX7, TX7, 26)]
end
section
theorem i_t1 : ∀ w ∈ tables_1_1, w ∈ lw_tbl := fun w h => List.mem_append_right _ (List.mem_append_left _ h)
theorem i_t2 : ∀ w ∈ tables_1_2, w ∈ lw_tbl := fun w h => List.mem_append_right _ (List.mem_append_right _ (List.mem_append_left _ h))
theorem i_t3 : ∀ w ∈ tables_1_3, w ∈ lw_tbl := fun w h => List.mem_append_right _ (List.mem_append_right _ (List.mem_append_right _ (List.mem_append_left _ h)))
theorem i_t4 : ∀ w ∈ tables_1_4, w ∈ lw_tbl := fun w h => List.mem_append_right _ (List.mem_append_right _ (List.mem_append_right _ (List.mem_append_right _ h)))
/-- the words that keep: every contract stands on them -/
def tb : List Cond := lw_tbl.filter goodWord
theorem tbl_in {ws : List Cond} (h : ∀ w ∈ ws, w ∈ tb) : GoodIn tb ws := fun w hw => ⟨h w hw, good_of_word (List.mem_filter.mp (h w hw)).2⟩
theorem mt {w : Cond} (h : w ∈ lw_tbl) (hg : goodWord w = true) : w ∈ tb := List.mem_filter.mpr ⟨h, hg⟩
theorem in_L : Cond.initialized RL ∈ tb := mt (i_t1 _ (List.mem_of_getElem? (i := 0) rfl)) rfl
theorem in_X6 : Cond.initialized RX6 ∈ tb := mt (i_t1 _ (List.mem_of_getElem? (i := 1) rfl)) rfl
theorem in_X2 : Cond.initialized RX2 ∈ tb := mt (i_t1 _ (List.mem_of_getElem? (i := 2) rfl)) rfl
theorem in_X5 : Cond.initialized RX5 ∈ tb := mt (i_t1 _ (List.mem_of_getElem? (i := 3) rfl)) rfl
theorem in_X4 : Cond.initialized RX4 ∈ tb := mt (i_t1 _ (List.mem_of_getElem? (i := 4) rfl)) rfl
theorem in_X3 : Cond.initialized RX3 ∈ tb := mt (i_t1 _ (List.mem_of_getElem? (i := 5) rfl)) rfl
theorem in_J9 : Cond.initialized "java/lang/Math" ∈ tb := mt (i_t1 _ (List.mem_of_getElem? (i := 6) rfl)) rfl
theorem in_X1 : Cond.initialized RX1 ∈ tb := mt (i_t1 _ (List.mem_of_getElem? (i := 7) rfl)) rfl
theorem in_X0 : Cond.initialized RX0 ∈ tb := mt (i_t1 _ (List.mem_of_getElem? (i := 8) rfl)) rfl
theorem in_X7 : Cond.initialized RX7 ∈ tb := mt (i_t1 _ (List.mem_of_getElem? (i := 9) rfl)) rfl
theorem cl_L_7 : Cond.classLink RL 7 RX6 ∈ tb := mt (i_t1 _ (List.mem_of_getElem? (i := 10) rfl)) rfl
theorem ib_X6 : Cond.instantiable RX6 6 ∈ tb := mt (i_t1 _ (List.mem_of_getElem? (i := 11) rfl)) rfl
theorem ml_L_9 : Cond.methodLink RL 9 yX6_init ∈ tb := mt (i_t1 _ (List.mem_of_getElem? (i := 12) rfl)) rfl
theorem im_X6_init : Cond.instanceMethod yX6_init ∈ tb := mt (i_t1 _ (List.mem_of_getElem? (i := 13) rfl)) rfl
theorem co_X6_init : Cond.code yX6_init cX6_init 1 none ∈ tb := mt (i_t1 _ (List.mem_of_getElem? (i := 14) rfl)) rfl
theorem ml_X6_3 : Cond.methodLink RX6 3 objectInit ∈ tb := mt (i_t1 _ (List.mem_of_getElem? (i := 15) rfl)) rfl
theorem im_objInit : Cond.instanceMethod objectInit ∈ tb := mt (i_t1 _ (List.mem_of_getElem? (i := 16) rfl)) rfl
theorem co_objInit : Cond.code objectInit ⟨#[0xb1]⟩ 1 none ∈ tb := mt (i_t1 _ (List.mem_of_getElem? (i := 17) rfl)) rfl
theorem cl_X6_9 : Cond.classLink RX6 9 RX2 ∈ tb := mt (i_t1 _ (List.mem_of_getElem? (i := 18) rfl)) rfl
theorem ib_X2 : Cond.instantiable RX2 3 ∈ tb := mt (i_t1 _ (List.mem_of_getElem? (i := 19) rfl)) rfl
theorem ml_X6_11 : Cond.methodLink RX6 11 yX2_init ∈ tb := mt (i_t1 _ (List.mem_of_getElem? (i := 20) rfl)) rfl
theorem im_X2_init : Cond.instanceMethod yX2_init ∈ tb := mt (i_t1 _ (List.mem_of_getElem? (i := 21) rfl)) rfl
theorem co_X2_init : Cond.code yX2_init cX2_init 1 none ∈ tb := mt (i_t1 _ (List.mem_of_getElem? (i := 22) rfl)) rfl
theorem ml_X2_3 : Cond.methodLink RX2 3 objectInit ∈ tb := mt (i_t1 _ (List.mem_of_getElem? (i := 23) rfl)) rfl
theorem fl_X2_9 : Cond.fieldLink RX2 9 "ThenTables$Loads" "undoneOn" "[I" ∈ tb := mt (i_t1 _ (List.mem_of_getElem? (i := 24) rfl)) rfl
theorem fl_X2_15 : Cond.fieldLink RX2 15 "ThenTables$Loads" "size" "I" ∈ tb := mt (i_t1 _ (List.mem_of_getElem? (i := 25) rfl)) rfl
theorem fl_X2_19 : Cond.fieldLink RX2 19 "ThenTables$Loads" "undone" "I" ∈ tb := mt (i_t1 _ (List.mem_of_getElem? (i := 26) rfl)) rfl
theorem ac_I : Cond.arrayClass .int ∈ tb := mt (i_t1 _ (List.mem_of_getElem? (i := 34) rfl)) rfl
theorem cl_X6_16 : Cond.classLink RX6 16 RX5 ∈ tb := mt (i_t1 _ (List.mem_of_getElem? (i := 35) rfl)) rfl
theorem ib_X5 : Cond.instantiable RX5 10 ∈ tb := mt (i_t1 _ (List.mem_of_getElem? (i := 36) rfl)) rfl
theorem ml_X6_18 : Cond.methodLink RX6 18 yX5_init ∈ tb := mt (i_t1 _ (List.mem_of_getElem? (i := 37) rfl)) rfl
theorem im_X5_init : Cond.instanceMethod yX5_init ∈ tb := mt (i_t1 _ (List.mem_of_getElem? (i := 38) rfl)) rfl
theorem co_X5_init : Cond.code yX5_init cX5_init 1 none ∈ tb := mt (i_t1 _ (List.mem_of_getElem? (i := 39) rfl)) rfl
theorem ml_X5_3 : Cond.methodLink RX5 3 objectInit ∈ tb := mt (i_t1 _ (List.mem_of_getElem? (i := 40) rfl)) rfl
theorem fl_X5_9 : Cond.fieldLink RX5 9 "ThenTables$Things" "codes" "[I" ∈ tb := mt (i_t1 _ (List.mem_of_getElem? (i := 41) rfl)) rfl
theorem fl_X5_15 : Cond.fieldLink RX5 15 "ThenTables$Things" "births" "[I" ∈ tb := mt (i_t1 _ (List.mem_of_getElem? (i := 42) rfl)) rfl
theorem fl_X5_18 : Cond.fieldLink RX5 18 "ThenTables$Things" "bornKnownFrom" "[I" ∈ tb := mt (i_t1 _ (List.mem_of_getElem? (i := 43) rfl)) rfl
theorem fl_X5_21 : Cond.fieldLink RX5 21 "ThenTables$Things" "endDays" "[I" ∈ tb := mt (i_t1 _ (List.mem_of_getElem? (i := 44) rfl)) rfl
theorem fl_X5_24 : Cond.fieldLink RX5 24 "ThenTables$Things" "endKnownFrom" "[I" ∈ tb := mt (i_t1 _ (List.mem_of_getElem? (i := 45) rfl)) rfl
theorem fl_X5_27 : Cond.fieldLink RX5 27 "ThenTables$Things" "endings" "[I" ∈ tb := mt (i_t1 _ (List.mem_of_getElem? (i := 46) rfl)) rfl
theorem fl_X5_30 : Cond.fieldLink RX5 30 "ThenTables$Things" "heirs" "[I" ∈ tb := mt (i_t1 _ (List.mem_of_getElem? (i := 47) rfl)) rfl
theorem fl_X5_33 : Cond.fieldLink RX5 33 "ThenTables$Things" "shareParts" "[I" ∈ tb := mt (i_t1 _ (List.mem_of_getElem? (i := 48) rfl)) rfl
theorem fl_X5_36 : Cond.fieldLink RX5 36 "ThenTables$Things" "shareWholes" "[I" ∈ tb := mt (i_t1 _ (List.mem_of_getElem? (i := 49) rfl)) rfl
theorem fl_X5_39 : Cond.fieldLink RX5 39 "ThenTables$Things" "size" "I" ∈ tb := mt (i_t1 _ (List.mem_of_getElem? (i := 50) rfl)) rfl
theorem cl_X6_23 : Cond.classLink RX6 23 RX4 ∈ tb := mt (i_t1 _ (List.mem_of_getElem? (i := 72) rfl)) rfl
theorem ib_X4 : Cond.instantiable RX4 5 ∈ tb := mt (i_t1 _ (List.mem_of_getElem? (i := 73) rfl)) rfl
theorem ml_X6_25 : Cond.methodLink RX6 25 yX4_init ∈ tb := mt (i_t1 _ (List.mem_of_getElem? (i := 74) rfl)) rfl
theorem im_X4_init : Cond.instanceMethod yX4_init ∈ tb := mt (i_t1 _ (List.mem_of_getElem? (i := 75) rfl)) rfl
theorem co_X4_init : Cond.code yX4_init cX4_init 2 none ∈ tb := mt (i_t1 _ (List.mem_of_getElem? (i := 76) rfl)) rfl
theorem ml_X4_3 : Cond.methodLink RX4 3 objectInit ∈ tb := mt (i_t1 _ (List.mem_of_getElem? (i := 77) rfl)) rfl
theorem cl_X4_9 : Cond.classLink RX4 9 RX3 ∈ tb := mt (i_t1 _ (List.mem_of_getElem? (i := 78) rfl)) rfl
theorem ib_X3 : Cond.instantiable RX3 5 ∈ tb := mt (i_t1 _ (List.mem_of_getElem? (i := 79) rfl)) rfl
theorem ml_X4_11 : Cond.methodLink RX4 11 yX3_init ∈ tb := mt (i_t1 _ (List.mem_of_getElem? (i := 80) rfl)) rfl
theorem im_X3_init : Cond.instanceMethod yX3_init ∈ tb := mt (i_t1 _ (List.mem_of_getElem? (i := 81) rfl)) rfl
theorem co_X3_init : Cond.code yX3_init cX3_init 3 none ∈ tb := mt (i_t1 _ (List.mem_of_getElem? (i := 82) rfl)) rfl
theorem ml_X3_3 : Cond.methodLink RX3 3 objectInit ∈ tb := mt (i_t1 _ (List.mem_of_getElem? (i := 83) rfl)) rfl
theorem ml_X3_15 : Cond.methodLink RX3 15 Lib.Math.max.name ∈ tb := mt (i_t1 _ (List.mem_of_getElem? (i := 84) rfl)) rfl
theorem st_Lib_Math_max_name : Cond.static Lib.Math.max.name ∈ tb := mt (i_t1 _ (List.mem_of_getElem? (i := 85) rfl)) rfl
theorem co_Lib_Math_max_name : Cond.code Lib.Math.max.name Lib.Math.max.code 2 (some .int) ∈ tb := mt (i_t1 _ (List.mem_of_getElem? (i := 86) rfl)) rfl
theorem fl_X3_9 : Cond.fieldLink RX3 9 "ThenTables$Log" "loads" "LThenTables$Loads;" ∈ tb := mt (i_t1 _ (List.mem_of_getElem? (i := 87) rfl)) rfl
theorem fl_X3_25 : Cond.fieldLink RX3 25 "ThenTables$Log" "toldOn" "[I" ∈ tb := mt (i_t1 _ (List.mem_of_getElem? (i := 88) rfl)) rfl
theorem fl_X3_29 : Cond.fieldLink RX3 29 "ThenTables$Log" "loadOf" "[I" ∈ tb := mt (i_t1 _ (List.mem_of_getElem? (i := 89) rfl)) rfl
theorem fl_X3_21 : Cond.fieldLink RX3 21 "ThenTables$Log" "most" "I" ∈ tb := mt (i_t1 _ (List.mem_of_getElem? (i := 90) rfl)) rfl
theorem fl_X3_32 : Cond.fieldLink RX3 32 "ThenTables$Log" "size" "I" ∈ tb := mt (i_t1 _ (List.mem_of_getElem? (i := 91) rfl)) rfl
theorem fl_X4_14 : Cond.fieldLink RX4 14 "ThenTables$Tellings" "log" "LThenTables$Log;" ∈ tb := mt (i_t1 _ (List.mem_of_getElem? (i := 103) rfl)) rfl
theorem fl_X4_20 : Cond.fieldLink RX4 20 "ThenTables$Tellings" "thingOf" "[I" ∈ tb := mt (i_t1 _ (List.mem_of_getElem? (i := 104) rfl)) rfl
theorem fl_X4_24 : Cond.fieldLink RX4 24 "ThenTables$Tellings" "markOf" "[I" ∈ tb := mt (i_t1 _ (List.mem_of_getElem? (i := 105) rfl)) rfl
theorem fl_X4_27 : Cond.fieldLink RX4 27 "ThenTables$Tellings" "fromOf" "[I" ∈ tb := mt (i_t1 _ (List.mem_of_getElem? (i := 106) rfl)) rfl
theorem fl_X4_30 : Cond.fieldLink RX4 30 "ThenTables$Tellings" "valueOf" "[I" ∈ tb := mt (i_t1 _ (List.mem_of_getElem? (i := 107) rfl)) rfl
theorem cl_X6_32 : Cond.classLink RX6 32 RX1 ∈ tb := mt (i_t1 _ (List.mem_of_getElem? (i := 119) rfl)) rfl
theorem ib_X1 : Cond.instantiable RX1 4 ∈ tb := mt (i_t1 _ (List.mem_of_getElem? (i := 120) rfl)) rfl
theorem ml_X6_34 : Cond.methodLink RX6 34 yX1_init ∈ tb := mt (i_t1 _ (List.mem_of_getElem? (i := 121) rfl)) rfl
theorem im_X1_init : Cond.instanceMethod yX1_init ∈ tb := mt (i_t1 _ (List.mem_of_getElem? (i := 122) rfl)) rfl
theorem co_X1_init : Cond.code yX1_init cX1_init 2 none ∈ tb := mt (i_t1 _ (List.mem_of_getElem? (i := 123) rfl)) rfl
theorem ml_X1_3 : Cond.methodLink RX1 3 objectInit ∈ tb := mt (i_t1 _ (List.mem_of_getElem? (i := 124) rfl)) rfl
theorem cl_X1_9 : Cond.classLink RX1 9 RX3 ∈ tb := mt (i_t1 _ (List.mem_of_getElem? (i := 125) rfl)) rfl
theorem ml_X1_11 : Cond.methodLink RX1 11 yX3_init ∈ tb := mt (i_t1 _ (List.mem_of_getElem? (i := 126) rfl)) rfl
theorem fl_X1_14 : Cond.fieldLink RX1 14 "ThenTables$Facts" "log" "LThenTables$Log;" ∈ tb := mt (i_t1 _ (List.mem_of_getElem? (i := 127) rfl)) rfl
theorem fl_X1_20 : Cond.fieldLink RX1 20 "ThenTables$Facts" "codes" "[I" ∈ tb := mt (i_t1 _ (List.mem_of_getElem? (i := 128) rfl)) rfl
theorem fl_X1_24 : Cond.fieldLink RX1 24 "ThenTables$Facts" "days" "[I" ∈ tb := mt (i_t1 _ (List.mem_of_getElem? (i := 129) rfl)) rfl
theorem fl_X1_27 : Cond.fieldLink RX1 27 "ThenTables$Facts" "amounts" "[I" ∈ tb := mt (i_t1 _ (List.mem_of_getElem? (i := 130) rfl)) rfl
theorem cl_X6_39 : Cond.classLink RX6 39 RX0 ∈ tb := mt (i_t1 _ (List.mem_of_getElem? (i := 140) rfl)) rfl
theorem ib_X0 : Cond.instantiable RX0 5 ∈ tb := mt (i_t1 _ (List.mem_of_getElem? (i := 141) rfl)) rfl
theorem ml_X6_41 : Cond.methodLink RX6 41 yX0_init ∈ tb := mt (i_t1 _ (List.mem_of_getElem? (i := 142) rfl)) rfl
theorem im_X0_init : Cond.instanceMethod yX0_init ∈ tb := mt (i_t1 _ (List.mem_of_getElem? (i := 143) rfl)) rfl
theorem co_X0_init : Cond.code yX0_init cX0_init 2 none ∈ tb := mt (i_t1 _ (List.mem_of_getElem? (i := 144) rfl)) rfl
theorem ml_X0_3 : Cond.methodLink RX0 3 objectInit ∈ tb := mt (i_t1 _ (List.mem_of_getElem? (i := 145) rfl)) rfl
theorem fl_X0_9 : Cond.fieldLink RX0 9 "ThenTables$Carrying" "things" "LThenTables$Things;" ∈ tb := mt (i_t1 _ (List.mem_of_getElem? (i := 146) rfl)) rfl
theorem fl_X0_15 : Cond.fieldLink RX0 15 "ThenTables$Carrying" "staying" "[J" ∈ tb := mt (i_t1 _ (List.mem_of_getElem? (i := 147) rfl)) rfl
theorem fl_X0_19 : Cond.fieldLink RX0 19 "ThenTables$Carrying" "lost" "J" ∈ tb := mt (i_t1 _ (List.mem_of_getElem? (i := 148) rfl)) rfl
theorem fl_X0_23 : Cond.fieldLink RX0 23 "ThenTables$Carrying" "onDay" "I" ∈ tb := mt (i_t1 _ (List.mem_of_getElem? (i := 149) rfl)) rfl
theorem fl_X0_27 : Cond.fieldLink RX0 27 "ThenTables$Carrying" "asKnown" "I" ∈ tb := mt (i_t1 _ (List.mem_of_getElem? (i := 150) rfl)) rfl
theorem ac_J : Cond.arrayClass .long ∈ tb := mt (i_t1 _ (List.mem_of_getElem? (i := 162) rfl)) rfl
theorem fl_X6_12 : Cond.fieldLink RX6 12 "ThenTables" "loads" "LThenTables$Loads;" ∈ tb := mt (i_t1 _ (List.mem_of_getElem? (i := 163) rfl)) rfl
theorem fl_X6_19 : Cond.fieldLink RX6 19 "ThenTables" "things" "LThenTables$Things;" ∈ tb := mt (i_t1 _ (List.mem_of_getElem? (i := 164) rfl)) rfl
theorem fl_X6_28 : Cond.fieldLink RX6 28 "ThenTables" "tellings" "LThenTables$Tellings;" ∈ tb := mt (i_t1 _ (List.mem_of_getElem? (i := 165) rfl)) rfl
theorem fl_X6_35 : Cond.fieldLink RX6 35 "ThenTables" "facts" "LThenTables$Facts;" ∈ tb := mt (i_t1 _ (List.mem_of_getElem? (i := 166) rfl)) rfl
theorem fl_X6_44 : Cond.fieldLink RX6 44 "ThenTables" "carrying" "LThenTables$Carrying;" ∈ tb := mt (i_t1 _ (List.mem_of_getElem? (i := 167) rfl)) rfl
theorem fl_X6_48 : Cond.fieldLink RX6 48 "ThenTables" "today" "I" ∈ tb := mt (i_t1 _ (List.mem_of_getElem? (i := 168) rfl)) rfl
theorem ml_L_13 : Cond.methodLink RL 13 yX6_day ∈ tb := mt (i_t1 _ (List.mem_of_getElem? (i := 182) rfl)) rfl
theorem im_X6_day : Cond.instanceMethod yX6_day ∈ tb := mt (i_t1 _ (List.mem_of_getElem? (i := 183) rfl)) rfl
theorem se_X6_day : Cond.selects RX6 yX6_day yX6_day ∈ tb := mt (i_t1 _ (List.mem_of_getElem? (i := 184) rfl)) rfl
theorem co_X6_day : Cond.code yX6_day cX6_day 2 (some .boolean) ∈ tb := mt (i_t1 _ (List.mem_of_getElem? (i := 185) rfl)) rfl
theorem ml_L_18 : Cond.methodLink RL 18 yX6_born ∈ tb := mt (i_t1 _ (List.mem_of_getElem? (i := 186) rfl)) rfl
theorem im_X6_born : Cond.instanceMethod yX6_born ∈ tb := mt (i_t1 _ (List.mem_of_getElem? (i := 187) rfl)) rfl
theorem se_X6_born : Cond.selects RX6 yX6_born yX6_born ∈ tb := mt (i_t1 _ (List.mem_of_getElem? (i := 188) rfl)) rfl
theorem co_X6_born : Cond.code yX6_born cX6_born 3 (some .int) ∈ tb := mt (i_t1 _ (List.mem_of_getElem? (i := 189) rfl)) rfl
theorem ml_X6_52 : Cond.methodLink RX6 52 yX6_isCode ∈ tb := mt (i_t1 _ (List.mem_of_getElem? (i := 190) rfl)) rfl
theorem st_X6_isCode : Cond.static yX6_isCode ∈ tb := mt (i_t1 _ (List.mem_of_getElem? (i := 191) rfl)) rfl
theorem co_X6_isCode : Cond.code yX6_isCode cX6_isCode 1 (some .boolean) ∈ tb := mt (i_t1 _ (List.mem_of_getElem? (i := 192) rfl)) rfl
theorem ml_X6_56 : Cond.methodLink RX6 56 yX6_isDay ∈ tb := mt (i_t1 _ (List.mem_of_getElem? (i := 193) rfl)) rfl
theorem st_X6_isDay : Cond.static yX6_isDay ∈ tb := mt (i_t1 _ (List.mem_of_getElem? (i := 194) rfl)) rfl
theorem co_X6_isDay : Cond.code yX6_isDay cX6_isDay 1 (some .boolean) ∈ tb := mt (i_t1 _ (List.mem_of_getElem? (i := 195) rfl)) rfl
theorem ml_X6_59 : Cond.methodLink RX6 59 yX5_isTaken ∈ tb := mt (i_t1 _ (List.mem_of_getElem? (i := 196) rfl)) rfl
theorem im_X5_isTaken : Cond.instanceMethod yX5_isTaken ∈ tb := mt (i_t1 _ (List.mem_of_getElem? (i := 197) rfl)) rfl
theorem se_X5_isTaken : Cond.selects RX5 yX5_isTaken yX5_isTaken ∈ tb := mt (i_t1 _ (List.mem_of_getElem? (i := 198) rfl)) rfl
theorem co_X5_isTaken : Cond.code yX5_isTaken cX5_isTaken 6 (some .boolean) ∈ tb := mt (i_t1 _ (List.mem_of_getElem? (i := 199) rfl)) rfl
theorem ml_X6_63 : Cond.methodLink RX6 63 yX5_room ∈ tb := mt (i_t1 _ (List.mem_of_getElem? (i := 200) rfl)) rfl
theorem im_X5_room : Cond.instanceMethod yX5_room ∈ tb := mt (i_t1 _ (List.mem_of_getElem? (i := 201) rfl)) rfl
theorem se_X5_room : Cond.selects RX5 yX5_room yX5_room ∈ tb := mt (i_t1 _ (List.mem_of_getElem? (i := 202) rfl)) rfl
theorem co_X5_room : Cond.code yX5_room cX5_room 1 (some .int) ∈ tb := mt (i_t1 _ (List.mem_of_getElem? (i := 203) rfl)) rfl
theorem ml_X6_67 : Cond.methodLink RX6 67 yX5_add ∈ tb := mt (i_t1 _ (List.mem_of_getElem? (i := 204) rfl)) rfl
theorem im_X5_add : Cond.instanceMethod yX5_add ∈ tb := mt (i_t1 _ (List.mem_of_getElem? (i := 205) rfl)) rfl
theorem se_X5_add : Cond.selects RX5 yX5_add yX5_add ∈ tb := mt (i_t1 _ (List.mem_of_getElem? (i := 206) rfl)) rfl
theorem co_X5_add : Cond.code yX5_add cX5_add 4 (some .int) ∈ tb := mt (i_t1 _ (List.mem_of_getElem? (i := 207) rfl)) rfl
theorem ml_X5_43 : Cond.methodLink RX5 43 yX5_room ∈ tb := mt (i_t1 _ (List.mem_of_getElem? (i := 208) rfl)) rfl
theorem ml_L_23 : Cond.methodLink RL 23 yX6_ends ∈ tb := mt (i_t1 _ (List.mem_of_getElem? (i := 209) rfl)) rfl
theorem im_X6_ends : Cond.instanceMethod yX6_ends ∈ tb := mt (i_t1 _ (List.mem_of_getElem? (i := 210) rfl)) rfl
theorem se_X6_ends : Cond.selects RX6 yX6_ends yX6_ends ∈ tb := mt (i_t1 _ (List.mem_of_getElem? (i := 211) rfl)) rfl
theorem co_X6_ends : Cond.code yX6_ends cX6_ends 3 (some .boolean) ∈ tb := mt (i_t1 _ (List.mem_of_getElem? (i := 212) rfl)) rfl
theorem ml_X6_71 : Cond.methodLink RX6 71 yX6_canEnd ∈ tb := mt (i_t1 _ (List.mem_of_getElem? (i := 213) rfl)) rfl
theorem im_X6_canEnd : Cond.instanceMethod yX6_canEnd ∈ tb := mt (i_t1 _ (List.mem_of_getElem? (i := 215) rfl)) rfl
theorem co_X6_canEnd : Cond.code yX6_canEnd cX6_canEnd 3 (some .boolean) ∈ tb := mt (i_t1 _ (List.mem_of_getElem? (i := 216) rfl)) rfl
theorem ml_X6_86 : Cond.methodLink RX6 86 yX5_has ∈ tb := mt (i_t1 _ (List.mem_of_getElem? (i := 217) rfl)) rfl
theorem im_X5_has : Cond.instanceMethod yX5_has ∈ tb := mt (i_t1 _ (List.mem_of_getElem? (i := 218) rfl)) rfl
theorem se_X5_has : Cond.selects RX5 yX5_has yX5_has ∈ tb := mt (i_t1 _ (List.mem_of_getElem? (i := 219) rfl)) rfl
theorem co_X5_has : Cond.code yX5_has cX5_has 2 (some .boolean) ∈ tb := mt (i_t1 _ (List.mem_of_getElem? (i := 220) rfl)) rfl
theorem ml_X6_194 : Cond.methodLink RX6 194 yX5_hasEnd ∈ tb := mt (i_t1 _ (List.mem_of_getElem? (i := 221) rfl)) rfl
theorem im_X5_hasEnd : Cond.instanceMethod yX5_hasEnd ∈ tb := mt (i_t1 _ (List.mem_of_getElem? (i := 222) rfl)) rfl
theorem se_X5_hasEnd : Cond.selects RX5 yX5_hasEnd yX5_hasEnd ∈ tb := mt (i_t1 _ (List.mem_of_getElem? (i := 223) rfl)) rfl
theorem co_X5_hasEnd : Cond.code yX5_hasEnd cX5_hasEnd 2 (some .boolean) ∈ tb := mt (i_t1 _ (List.mem_of_getElem? (i := 224) rfl)) rfl
theorem ml_X6_129 : Cond.methodLink RX6 129 yX5_birthOf ∈ tb := mt (i_t1 _ (List.mem_of_getElem? (i := 225) rfl)) rfl
theorem im_X5_birthOf : Cond.instanceMethod yX5_birthOf ∈ tb := mt (i_t1 _ (List.mem_of_getElem? (i := 226) rfl)) rfl
theorem se_X5_birthOf : Cond.selects RX5 yX5_birthOf yX5_birthOf ∈ tb := mt (i_t1 _ (List.mem_of_getElem? (i := 227) rfl)) rfl
theorem co_X5_birthOf : Cond.code yX5_birthOf cX5_birthOf 2 (some .int) ∈ tb := mt (i_t1 _ (List.mem_of_getElem? (i := 228) rfl)) rfl
theorem ml_X6_75 : Cond.methodLink RX6 75 yX5_finish ∈ tb := mt (i_t1 _ (List.mem_of_getElem? (i := 229) rfl)) rfl
theorem im_X5_finish : Cond.instanceMethod yX5_finish ∈ tb := mt (i_t1 _ (List.mem_of_getElem? (i := 230) rfl)) rfl
theorem se_X5_finish : Cond.selects RX5 yX5_finish yX5_finish ∈ tb := mt (i_t1 _ (List.mem_of_getElem? (i := 231) rfl)) rfl
theorem co_X5_finish : Cond.code yX5_finish cX5_finish 6 none ∈ tb := mt (i_t1 _ (List.mem_of_getElem? (i := 232) rfl)) rfl
theorem ml_L_28 : Cond.methodLink RL 28 yX6_split ∈ tb := mt (i_t1 _ (List.mem_of_getElem? (i := 233) rfl)) rfl
theorem im_X6_split : Cond.instanceMethod yX6_split ∈ tb := mt (i_t1 _ (List.mem_of_getElem? (i := 234) rfl)) rfl
theorem se_X6_split : Cond.selects RX6 yX6_split yX6_split ∈ tb := mt (i_t1 _ (List.mem_of_getElem? (i := 235) rfl)) rfl
theorem co_X6_split : Cond.code yX6_split cX6_split 8 (some .int) ∈ tb := mt (i_t1 _ (List.mem_of_getElem? (i := 236) rfl)) rfl
theorem ml_X6_79 : Cond.methodLink RX6 79 yX6_isShare ∈ tb := mt (i_t1 _ (List.mem_of_getElem? (i := 237) rfl)) rfl
theorem st_X6_isShare : Cond.static yX6_isShare ∈ tb := mt (i_t1 _ (List.mem_of_getElem? (i := 238) rfl)) rfl
theorem co_X6_isShare : Cond.code yX6_isShare cX6_isShare 2 (some .boolean) ∈ tb := mt (i_t1 _ (List.mem_of_getElem? (i := 239) rfl)) rfl
theorem ml_X6_82 : Cond.methodLink RX6 82 yX5_setShare ∈ tb := mt (i_t2 _ (List.mem_of_getElem? (i := 0) rfl)) rfl
theorem im_X5_setShare : Cond.instanceMethod yX5_setShare ∈ tb := mt (i_t2 _ (List.mem_of_getElem? (i := 1) rfl)) rfl
theorem se_X5_setShare : Cond.selects RX5 yX5_setShare yX5_setShare ∈ tb := mt (i_t2 _ (List.mem_of_getElem? (i := 2) rfl)) rfl
theorem co_X5_setShare : Cond.code yX5_setShare cX5_setShare 4 none ∈ tb := mt (i_t2 _ (List.mem_of_getElem? (i := 3) rfl)) rfl
theorem ml_L_33 : Cond.methodLink RL 33 yX6_join ∈ tb := mt (i_t2 _ (List.mem_of_getElem? (i := 4) rfl)) rfl
theorem im_X6_join : Cond.instanceMethod yX6_join ∈ tb := mt (i_t2 _ (List.mem_of_getElem? (i := 5) rfl)) rfl
theorem se_X6_join : Cond.selects RX6 yX6_join yX6_join ∈ tb := mt (i_t2 _ (List.mem_of_getElem? (i := 6) rfl)) rfl
theorem co_X6_join : Cond.code yX6_join cX6_join 6 (some .int) ∈ tb := mt (i_t2 _ (List.mem_of_getElem? (i := 7) rfl)) rfl
theorem ml_L_38 : Cond.methodLink RL 38 yX6_mark ∈ tb := mt (i_t2 _ (List.mem_of_getElem? (i := 8) rfl)) rfl
theorem im_X6_mark : Cond.instanceMethod yX6_mark ∈ tb := mt (i_t2 _ (List.mem_of_getElem? (i := 9) rfl)) rfl
theorem se_X6_mark : Cond.selects RX6 yX6_mark yX6_mark ∈ tb := mt (i_t2 _ (List.mem_of_getElem? (i := 10) rfl)) rfl
theorem co_X6_mark : Cond.code yX6_mark cX6_mark 5 (some .boolean) ∈ tb := mt (i_t2 _ (List.mem_of_getElem? (i := 11) rfl)) rfl
theorem ml_X6_89 : Cond.methodLink RX6 89 yX6_isMark ∈ tb := mt (i_t2 _ (List.mem_of_getElem? (i := 12) rfl)) rfl
theorem st_X6_isMark : Cond.static yX6_isMark ∈ tb := mt (i_t2 _ (List.mem_of_getElem? (i := 13) rfl)) rfl
theorem co_X6_isMark : Cond.code yX6_isMark cX6_isMark 1 (some .boolean) ∈ tb := mt (i_t2 _ (List.mem_of_getElem? (i := 14) rfl)) rfl
theorem ml_X6_92 : Cond.methodLink RX6 92 yX4_isFull ∈ tb := mt (i_t2 _ (List.mem_of_getElem? (i := 15) rfl)) rfl
theorem im_X4_isFull : Cond.instanceMethod yX4_isFull ∈ tb := mt (i_t2 _ (List.mem_of_getElem? (i := 16) rfl)) rfl
theorem se_X4_isFull : Cond.selects RX4 yX4_isFull yX4_isFull ∈ tb := mt (i_t2 _ (List.mem_of_getElem? (i := 17) rfl)) rfl
theorem co_X4_isFull : Cond.code yX4_isFull cX4_isFull 1 (some .boolean) ∈ tb := mt (i_t2 _ (List.mem_of_getElem? (i := 18) rfl)) rfl
theorem ml_X4_37 : Cond.methodLink RX4 37 yX3_isFull ∈ tb := mt (i_t2 _ (List.mem_of_getElem? (i := 19) rfl)) rfl
theorem im_X3_isFull : Cond.instanceMethod yX3_isFull ∈ tb := mt (i_t2 _ (List.mem_of_getElem? (i := 20) rfl)) rfl
theorem se_X3_isFull : Cond.selects RX3 yX3_isFull yX3_isFull ∈ tb := mt (i_t2 _ (List.mem_of_getElem? (i := 21) rfl)) rfl
theorem co_X3_isFull : Cond.code yX3_isFull cX3_isFull 1 (some .boolean) ∈ tb := mt (i_t2 _ (List.mem_of_getElem? (i := 22) rfl)) rfl
theorem ml_X6_96 : Cond.methodLink RX6 96 yX6_isFixed ∈ tb := mt (i_t2 _ (List.mem_of_getElem? (i := 23) rfl)) rfl
theorem im_X6_isFixed : Cond.instanceMethod yX6_isFixed ∈ tb := mt (i_t2 _ (List.mem_of_getElem? (i := 25) rfl)) rfl
theorem co_X6_isFixed : Cond.code yX6_isFixed cX6_isFixed 2 (some .boolean) ∈ tb := mt (i_t2 _ (List.mem_of_getElem? (i := 26) rfl)) rfl
theorem ml_X6_123 : Cond.methodLink RX6 123 yX4_valueOn ∈ tb := mt (i_t2 _ (List.mem_of_getElem? (i := 27) rfl)) rfl
theorem im_X4_valueOn : Cond.instanceMethod yX4_valueOn ∈ tb := mt (i_t2 _ (List.mem_of_getElem? (i := 28) rfl)) rfl
theorem se_X4_valueOn : Cond.selects RX4 yX4_valueOn yX4_valueOn ∈ tb := mt (i_t2 _ (List.mem_of_getElem? (i := 29) rfl)) rfl
theorem co_X4_valueOn : Cond.code yX4_valueOn cX4_valueOn 7 (some .int) ∈ tb := mt (i_t2 _ (List.mem_of_getElem? (i := 30) rfl)) rfl
theorem ml_X4_33 : Cond.methodLink RX4 33 yX3_size ∈ tb := mt (i_t2 _ (List.mem_of_getElem? (i := 31) rfl)) rfl
theorem im_X3_size : Cond.instanceMethod yX3_size ∈ tb := mt (i_t2 _ (List.mem_of_getElem? (i := 32) rfl)) rfl
theorem se_X3_size : Cond.selects RX3 yX3_size yX3_size ∈ tb := mt (i_t2 _ (List.mem_of_getElem? (i := 33) rfl)) rfl
theorem co_X3_size : Cond.code yX3_size cX3_size 1 (some .int) ∈ tb := mt (i_t2 _ (List.mem_of_getElem? (i := 34) rfl)) rfl
theorem ml_X4_48 : Cond.methodLink RX4 48 yX4_isOf ∈ tb := mt (i_t2 _ (List.mem_of_getElem? (i := 35) rfl)) rfl
theorem im_X4_isOf : Cond.instanceMethod yX4_isOf ∈ tb := mt (i_t2 _ (List.mem_of_getElem? (i := 37) rfl)) rfl
theorem co_X4_isOf : Cond.code yX4_isOf cX4_isOf 4 (some .boolean) ∈ tb := mt (i_t2 _ (List.mem_of_getElem? (i := 38) rfl)) rfl
theorem ml_X4_52 : Cond.methodLink RX4 52 yX3_isKnown ∈ tb := mt (i_t2 _ (List.mem_of_getElem? (i := 39) rfl)) rfl
theorem im_X3_isKnown : Cond.instanceMethod yX3_isKnown ∈ tb := mt (i_t2 _ (List.mem_of_getElem? (i := 40) rfl)) rfl
theorem se_X3_isKnown : Cond.selects RX3 yX3_isKnown yX3_isKnown ∈ tb := mt (i_t2 _ (List.mem_of_getElem? (i := 41) rfl)) rfl
theorem co_X3_isKnown : Cond.code yX3_isKnown cX3_isKnown 3 (some .boolean) ∈ tb := mt (i_t2 _ (List.mem_of_getElem? (i := 42) rfl)) rfl
theorem ml_X3_45 : Cond.methodLink RX3 45 yX2_isUndone ∈ tb := mt (i_t2 _ (List.mem_of_getElem? (i := 43) rfl)) rfl
theorem im_X2_isUndone : Cond.instanceMethod yX2_isUndone ∈ tb := mt (i_t2 _ (List.mem_of_getElem? (i := 44) rfl)) rfl
theorem se_X2_isUndone : Cond.selects RX2 yX2_isUndone yX2_isUndone ∈ tb := mt (i_t2 _ (List.mem_of_getElem? (i := 45) rfl)) rfl
theorem co_X2_isUndone : Cond.code yX2_isUndone cX2_isUndone 3 (some .boolean) ∈ tb := mt (i_t2 _ (List.mem_of_getElem? (i := 46) rfl)) rfl
theorem ml_X4_56 : Cond.methodLink RX4 56 yX4_outdoes ∈ tb := mt (i_t2 _ (List.mem_of_getElem? (i := 47) rfl)) rfl
theorem im_X4_outdoes : Cond.instanceMethod yX4_outdoes ∈ tb := mt (i_t2 _ (List.mem_of_getElem? (i := 49) rfl)) rfl
theorem co_X4_outdoes : Cond.code yX4_outdoes cX4_outdoes 4 (some .boolean) ∈ tb := mt (i_t2 _ (List.mem_of_getElem? (i := 50) rfl)) rfl
theorem ml_X6_99 : Cond.methodLink RX6 99 yX4_add ∈ tb := mt (i_t2 _ (List.mem_of_getElem? (i := 51) rfl)) rfl
theorem im_X4_add : Cond.instanceMethod yX4_add ∈ tb := mt (i_t2 _ (List.mem_of_getElem? (i := 52) rfl)) rfl
theorem se_X4_add : Cond.selects RX4 yX4_add yX4_add ∈ tb := mt (i_t2 _ (List.mem_of_getElem? (i := 53) rfl)) rfl
theorem co_X4_add : Cond.code yX4_add cX4_add 7 none ∈ tb := mt (i_t2 _ (List.mem_of_getElem? (i := 54) rfl)) rfl
theorem ml_X4_45 : Cond.methodLink RX4 45 yX3_add ∈ tb := mt (i_t2 _ (List.mem_of_getElem? (i := 55) rfl)) rfl
theorem im_X3_add : Cond.instanceMethod yX3_add ∈ tb := mt (i_t2 _ (List.mem_of_getElem? (i := 56) rfl)) rfl
theorem se_X3_add : Cond.selects RX3 yX3_add yX3_add ∈ tb := mt (i_t2 _ (List.mem_of_getElem? (i := 57) rfl)) rfl
theorem co_X3_add : Cond.code yX3_add cX3_add 2 (some .int) ∈ tb := mt (i_t2 _ (List.mem_of_getElem? (i := 58) rfl)) rfl
theorem ml_X3_35 : Cond.methodLink RX3 35 yX3_isFull ∈ tb := mt (i_t2 _ (List.mem_of_getElem? (i := 59) rfl)) rfl
theorem ml_X3_39 : Cond.methodLink RX3 39 yX2_open ∈ tb := mt (i_t2 _ (List.mem_of_getElem? (i := 60) rfl)) rfl
theorem im_X2_open : Cond.instanceMethod yX2_open ∈ tb := mt (i_t2 _ (List.mem_of_getElem? (i := 61) rfl)) rfl
theorem se_X2_open : Cond.selects RX2 yX2_open yX2_open ∈ tb := mt (i_t2 _ (List.mem_of_getElem? (i := 62) rfl)) rfl
theorem co_X2_open : Cond.code yX2_open cX2_open 1 (some .int) ∈ tb := mt (i_t2 _ (List.mem_of_getElem? (i := 63) rfl)) rfl
theorem ml_L_43 : Cond.methodLink RL 43 yX6_fact ∈ tb := mt (i_t2 _ (List.mem_of_getElem? (i := 64) rfl)) rfl
theorem im_X6_fact : Cond.instanceMethod yX6_fact ∈ tb := mt (i_t2 _ (List.mem_of_getElem? (i := 65) rfl)) rfl
theorem se_X6_fact : Cond.selects RX6 yX6_fact yX6_fact ∈ tb := mt (i_t2 _ (List.mem_of_getElem? (i := 66) rfl)) rfl
theorem co_X6_fact : Cond.code yX6_fact cX6_fact 4 (some .int) ∈ tb := mt (i_t2 _ (List.mem_of_getElem? (i := 67) rfl)) rfl
theorem ml_X6_101 : Cond.methodLink RX6 101 yX1_isFull ∈ tb := mt (i_t2 _ (List.mem_of_getElem? (i := 68) rfl)) rfl
theorem im_X1_isFull : Cond.instanceMethod yX1_isFull ∈ tb := mt (i_t2 _ (List.mem_of_getElem? (i := 69) rfl)) rfl
theorem se_X1_isFull : Cond.selects RX1 yX1_isFull yX1_isFull ∈ tb := mt (i_t2 _ (List.mem_of_getElem? (i := 70) rfl)) rfl
theorem co_X1_isFull : Cond.code yX1_isFull cX1_isFull 1 (some .boolean) ∈ tb := mt (i_t2 _ (List.mem_of_getElem? (i := 71) rfl)) rfl
theorem ml_X1_34 : Cond.methodLink RX1 34 yX3_isFull ∈ tb := mt (i_t2 _ (List.mem_of_getElem? (i := 72) rfl)) rfl
theorem ml_X6_102 : Cond.methodLink RX6 102 yX1_add ∈ tb := mt (i_t2 _ (List.mem_of_getElem? (i := 73) rfl)) rfl
theorem im_X1_add : Cond.instanceMethod yX1_add ∈ tb := mt (i_t2 _ (List.mem_of_getElem? (i := 74) rfl)) rfl
theorem se_X1_add : Cond.selects RX1 yX1_add yX1_add ∈ tb := mt (i_t2 _ (List.mem_of_getElem? (i := 75) rfl)) rfl
theorem co_X1_add : Cond.code yX1_add cX1_add 6 (some .int) ∈ tb := mt (i_t2 _ (List.mem_of_getElem? (i := 76) rfl)) rfl
theorem ml_X1_46 : Cond.methodLink RX1 46 yX3_add ∈ tb := mt (i_t2 _ (List.mem_of_getElem? (i := 77) rfl)) rfl
theorem ml_L_48 : Cond.methodLink RL 48 yX6_load ∈ tb := mt (i_t2 _ (List.mem_of_getElem? (i := 78) rfl)) rfl
theorem im_X6_load : Cond.instanceMethod yX6_load ∈ tb := mt (i_t2 _ (List.mem_of_getElem? (i := 79) rfl)) rfl
theorem se_X6_load : Cond.selects RX6 yX6_load yX6_load ∈ tb := mt (i_t2 _ (List.mem_of_getElem? (i := 80) rfl)) rfl
theorem co_X6_load : Cond.code yX6_load cX6_load 1 (some .int) ∈ tb := mt (i_t2 _ (List.mem_of_getElem? (i := 81) rfl)) rfl
theorem ml_X6_105 : Cond.methodLink RX6 105 yX2_openNext ∈ tb := mt (i_t2 _ (List.mem_of_getElem? (i := 82) rfl)) rfl
theorem im_X2_openNext : Cond.instanceMethod yX2_openNext ∈ tb := mt (i_t2 _ (List.mem_of_getElem? (i := 83) rfl)) rfl
theorem se_X2_openNext : Cond.selects RX2 yX2_openNext yX2_openNext ∈ tb := mt (i_t2 _ (List.mem_of_getElem? (i := 84) rfl)) rfl
theorem co_X2_openNext : Cond.code yX2_openNext cX2_openNext 1 (some .int) ∈ tb := mt (i_t2 _ (List.mem_of_getElem? (i := 85) rfl)) rfl
theorem ml_X2_22 : Cond.methodLink RX2 22 yX2_open ∈ tb := mt (i_t2 _ (List.mem_of_getElem? (i := 86) rfl)) rfl
theorem ml_L_53 : Cond.methodLink RL 53 yX6_undo ∈ tb := mt (i_t2 _ (List.mem_of_getElem? (i := 87) rfl)) rfl
theorem im_X6_undo : Cond.instanceMethod yX6_undo ∈ tb := mt (i_t2 _ (List.mem_of_getElem? (i := 88) rfl)) rfl
theorem se_X6_undo : Cond.selects RX6 yX6_undo yX6_undo ∈ tb := mt (i_t2 _ (List.mem_of_getElem? (i := 89) rfl)) rfl
theorem co_X6_undo : Cond.code yX6_undo cX6_undo 2 (some .int) ∈ tb := mt (i_t2 _ (List.mem_of_getElem? (i := 90) rfl)) rfl
theorem ml_X6_108 : Cond.methodLink RX6 108 yX2_canBeUndone ∈ tb := mt (i_t2 _ (List.mem_of_getElem? (i := 91) rfl)) rfl
theorem im_X2_canBeUndone : Cond.instanceMethod yX2_canBeUndone ∈ tb := mt (i_t2 _ (List.mem_of_getElem? (i := 92) rfl)) rfl
theorem se_X2_canBeUndone : Cond.selects RX2 yX2_canBeUndone yX2_canBeUndone ∈ tb := mt (i_t2 _ (List.mem_of_getElem? (i := 93) rfl)) rfl
theorem co_X2_canBeUndone : Cond.code yX2_canBeUndone cX2_canBeUndone 2 (some .boolean) ∈ tb := mt (i_t2 _ (List.mem_of_getElem? (i := 94) rfl)) rfl
theorem ml_X6_111 : Cond.methodLink RX6 111 yX2_setUndone ∈ tb := mt (i_t2 _ (List.mem_of_getElem? (i := 95) rfl)) rfl
theorem im_X2_setUndone : Cond.instanceMethod yX2_setUndone ∈ tb := mt (i_t2 _ (List.mem_of_getElem? (i := 96) rfl)) rfl
theorem se_X2_setUndone : Cond.selects RX2 yX2_setUndone yX2_setUndone ∈ tb := mt (i_t2 _ (List.mem_of_getElem? (i := 97) rfl)) rfl
theorem co_X2_setUndone : Cond.code yX2_setUndone cX2_setUndone 3 none ∈ tb := mt (i_t2 _ (List.mem_of_getElem? (i := 98) rfl)) rfl
theorem ml_X6_115 : Cond.methodLink RX6 115 yX4_sizeOfLoad ∈ tb := mt (i_t2 _ (List.mem_of_getElem? (i := 99) rfl)) rfl
theorem im_X4_sizeOfLoad : Cond.instanceMethod yX4_sizeOfLoad ∈ tb := mt (i_t2 _ (List.mem_of_getElem? (i := 100) rfl)) rfl
theorem se_X4_sizeOfLoad : Cond.selects RX4 yX4_sizeOfLoad yX4_sizeOfLoad ∈ tb := mt (i_t2 _ (List.mem_of_getElem? (i := 101) rfl)) rfl
theorem co_X4_sizeOfLoad : Cond.code yX4_sizeOfLoad cX4_sizeOfLoad 2 (some .int) ∈ tb := mt (i_t2 _ (List.mem_of_getElem? (i := 102) rfl)) rfl
theorem ml_X4_41 : Cond.methodLink RX4 41 yX3_sizeOfLoad ∈ tb := mt (i_t2 _ (List.mem_of_getElem? (i := 103) rfl)) rfl
theorem im_X3_sizeOfLoad : Cond.instanceMethod yX3_sizeOfLoad ∈ tb := mt (i_t2 _ (List.mem_of_getElem? (i := 104) rfl)) rfl
theorem se_X3_sizeOfLoad : Cond.selects RX3 yX3_sizeOfLoad yX3_sizeOfLoad ∈ tb := mt (i_t2 _ (List.mem_of_getElem? (i := 105) rfl)) rfl
theorem co_X3_sizeOfLoad : Cond.code yX3_sizeOfLoad cX3_sizeOfLoad 4 (some .int) ∈ tb := mt (i_t2 _ (List.mem_of_getElem? (i := 106) rfl)) rfl
theorem ml_X6_119 : Cond.methodLink RX6 119 yX1_sizeOfLoad ∈ tb := mt (i_t2 _ (List.mem_of_getElem? (i := 107) rfl)) rfl
theorem im_X1_sizeOfLoad : Cond.instanceMethod yX1_sizeOfLoad ∈ tb := mt (i_t2 _ (List.mem_of_getElem? (i := 108) rfl)) rfl
theorem se_X1_sizeOfLoad : Cond.selects RX1 yX1_sizeOfLoad yX1_sizeOfLoad ∈ tb := mt (i_t2 _ (List.mem_of_getElem? (i := 109) rfl)) rfl
theorem co_X1_sizeOfLoad : Cond.code yX1_sizeOfLoad cX1_sizeOfLoad 2 (some .int) ∈ tb := mt (i_t2 _ (List.mem_of_getElem? (i := 110) rfl)) rfl
theorem ml_X1_38 : Cond.methodLink RX1 38 yX3_sizeOfLoad ∈ tb := mt (i_t2 _ (List.mem_of_getElem? (i := 111) rfl)) rfl
theorem ml_L_58 : Cond.methodLink RL 58 yX6_told ∈ tb := mt (i_t2 _ (List.mem_of_getElem? (i := 112) rfl)) rfl
theorem im_X6_told : Cond.instanceMethod yX6_told ∈ tb := mt (i_t2 _ (List.mem_of_getElem? (i := 113) rfl)) rfl
theorem se_X6_told : Cond.selects RX6 yX6_told yX6_told ∈ tb := mt (i_t2 _ (List.mem_of_getElem? (i := 114) rfl)) rfl
theorem co_X6_told : Cond.code yX6_told cX6_told 5 (some .int) ∈ tb := mt (i_t2 _ (List.mem_of_getElem? (i := 115) rfl)) rfl
theorem ml_X6_120 : Cond.methodLink RX6 120 yX5_isKnown ∈ tb := mt (i_t2 _ (List.mem_of_getElem? (i := 116) rfl)) rfl
theorem im_X5_isKnown : Cond.instanceMethod yX5_isKnown ∈ tb := mt (i_t2 _ (List.mem_of_getElem? (i := 117) rfl)) rfl
theorem se_X5_isKnown : Cond.selects RX5 yX5_isKnown yX5_isKnown ∈ tb := mt (i_t2 _ (List.mem_of_getElem? (i := 118) rfl)) rfl
theorem co_X5_isKnown : Cond.code yX5_isKnown cX5_isKnown 3 (some .boolean) ∈ tb := mt (i_t2 _ (List.mem_of_getElem? (i := 119) rfl)) rfl
theorem ml_X5_47 : Cond.methodLink RX5 47 yX5_has ∈ tb := mt (i_t2 _ (List.mem_of_getElem? (i := 120) rfl)) rfl
theorem ml_L_62 : Cond.methodLink RL 62 yX6_thing ∈ tb := mt (i_t2 _ (List.mem_of_getElem? (i := 121) rfl)) rfl
theorem im_X6_thing : Cond.instanceMethod yX6_thing ∈ tb := mt (i_t2 _ (List.mem_of_getElem? (i := 122) rfl)) rfl
theorem se_X6_thing : Cond.selects RX6 yX6_thing yX6_thing ∈ tb := mt (i_t2 _ (List.mem_of_getElem? (i := 123) rfl)) rfl
theorem co_X6_thing : Cond.code yX6_thing cX6_thing 4 (some .int) ∈ tb := mt (i_t2 _ (List.mem_of_getElem? (i := 124) rfl)) rfl
theorem ml_X6_126 : Cond.methodLink RX6 126 yX5_codeOf ∈ tb := mt (i_t2 _ (List.mem_of_getElem? (i := 125) rfl)) rfl
theorem im_X5_codeOf : Cond.instanceMethod yX5_codeOf ∈ tb := mt (i_t2 _ (List.mem_of_getElem? (i := 126) rfl)) rfl
theorem se_X5_codeOf : Cond.selects RX5 yX5_codeOf yX5_codeOf ∈ tb := mt (i_t2 _ (List.mem_of_getElem? (i := 127) rfl)) rfl
theorem co_X5_codeOf : Cond.code yX5_codeOf cX5_codeOf 2 (some .int) ∈ tb := mt (i_t2 _ (List.mem_of_getElem? (i := 128) rfl)) rfl
theorem ml_X6_132 : Cond.methodLink RX6 132 yX5_endOf ∈ tb := mt (i_t2 _ (List.mem_of_getElem? (i := 129) rfl)) rfl
theorem im_X5_endOf : Cond.instanceMethod yX5_endOf ∈ tb := mt (i_t2 _ (List.mem_of_getElem? (i := 130) rfl)) rfl
theorem se_X5_endOf : Cond.selects RX5 yX5_endOf yX5_endOf ∈ tb := mt (i_t2 _ (List.mem_of_getElem? (i := 131) rfl)) rfl
theorem co_X5_endOf : Cond.code yX5_endOf cX5_endOf 3 (some .int) ∈ tb := mt (i_t2 _ (List.mem_of_getElem? (i := 132) rfl)) rfl
theorem ml_X5_51 : Cond.methodLink RX5 51 yX5_isEndKnown ∈ tb := mt (i_t2 _ (List.mem_of_getElem? (i := 133) rfl)) rfl
theorem im_X5_isEndKnown : Cond.instanceMethod yX5_isEndKnown ∈ tb := mt (i_t2 _ (List.mem_of_getElem? (i := 135) rfl)) rfl
theorem co_X5_isEndKnown : Cond.code yX5_isEndKnown cX5_isEndKnown 3 (some .boolean) ∈ tb := mt (i_t2 _ (List.mem_of_getElem? (i := 136) rfl)) rfl
theorem ml_X6_136 : Cond.methodLink RX6 136 yX5_endingOf ∈ tb := mt (i_t2 _ (List.mem_of_getElem? (i := 137) rfl)) rfl
theorem im_X5_endingOf : Cond.instanceMethod yX5_endingOf ∈ tb := mt (i_t2 _ (List.mem_of_getElem? (i := 138) rfl)) rfl
theorem se_X5_endingOf : Cond.selects RX5 yX5_endingOf yX5_endingOf ∈ tb := mt (i_t2 _ (List.mem_of_getElem? (i := 139) rfl)) rfl
theorem co_X5_endingOf : Cond.code yX5_endingOf cX5_endingOf 3 (some .int) ∈ tb := mt (i_t2 _ (List.mem_of_getElem? (i := 140) rfl)) rfl
theorem ml_X6_139 : Cond.methodLink RX6 139 yX5_heirOf ∈ tb := mt (i_t2 _ (List.mem_of_getElem? (i := 141) rfl)) rfl
theorem im_X5_heirOf : Cond.instanceMethod yX5_heirOf ∈ tb := mt (i_t2 _ (List.mem_of_getElem? (i := 142) rfl)) rfl
theorem se_X5_heirOf : Cond.selects RX5 yX5_heirOf yX5_heirOf ∈ tb := mt (i_t2 _ (List.mem_of_getElem? (i := 143) rfl)) rfl
theorem co_X5_heirOf : Cond.code yX5_heirOf cX5_heirOf 3 (some .int) ∈ tb := mt (i_t2 _ (List.mem_of_getElem? (i := 144) rfl)) rfl
theorem ml_X6_142 : Cond.methodLink RX6 142 yX4_timesToldOver ∈ tb := mt (i_t2 _ (List.mem_of_getElem? (i := 145) rfl)) rfl
theorem im_X4_timesToldOver : Cond.instanceMethod yX4_timesToldOver ∈ tb := mt (i_t2 _ (List.mem_of_getElem? (i := 146) rfl)) rfl
theorem se_X4_timesToldOver : Cond.selects RX4 yX4_timesToldOver yX4_timesToldOver ∈ tb := mt (i_t2 _ (List.mem_of_getElem? (i := 147) rfl)) rfl
theorem co_X4_timesToldOver : Cond.code yX4_timesToldOver cX4_timesToldOver 6 (some .int) ∈ tb := mt (i_t2 _ (List.mem_of_getElem? (i := 148) rfl)) rfl
theorem ml_L_66 : Cond.methodLink RL 66 yX6_hangs ∈ tb := mt (i_t2 _ (List.mem_of_getElem? (i := 149) rfl)) rfl
theorem im_X6_hangs : Cond.instanceMethod yX6_hangs ∈ tb := mt (i_t2 _ (List.mem_of_getElem? (i := 150) rfl)) rfl
theorem se_X6_hangs : Cond.selects RX6 yX6_hangs yX6_hangs ∈ tb := mt (i_t2 _ (List.mem_of_getElem? (i := 151) rfl)) rfl
theorem co_X6_hangs : Cond.code yX6_hangs cX6_hangs 3 (some .int) ∈ tb := mt (i_t2 _ (List.mem_of_getElem? (i := 152) rfl)) rfl
theorem ml_X6_145 : Cond.methodLink RX6 145 yX1_isKnown ∈ tb := mt (i_t2 _ (List.mem_of_getElem? (i := 153) rfl)) rfl
theorem im_X1_isKnown : Cond.instanceMethod yX1_isKnown ∈ tb := mt (i_t2 _ (List.mem_of_getElem? (i := 154) rfl)) rfl
theorem se_X1_isKnown : Cond.selects RX1 yX1_isKnown yX1_isKnown ∈ tb := mt (i_t2 _ (List.mem_of_getElem? (i := 155) rfl)) rfl
theorem co_X1_isKnown : Cond.code yX1_isKnown cX1_isKnown 3 (some .boolean) ∈ tb := mt (i_t2 _ (List.mem_of_getElem? (i := 156) rfl)) rfl
theorem ml_X1_42 : Cond.methodLink RX1 42 yX3_isKnown ∈ tb := mt (i_t2 _ (List.mem_of_getElem? (i := 157) rfl)) rfl
theorem ml_X6_146 : Cond.methodLink RX6 146 yX6_thingOfFact ∈ tb := mt (i_t2 _ (List.mem_of_getElem? (i := 158) rfl)) rfl
theorem im_X6_thingOfFact : Cond.instanceMethod yX6_thingOfFact ∈ tb := mt (i_t2 _ (List.mem_of_getElem? (i := 160) rfl)) rfl
theorem co_X6_thingOfFact : Cond.code yX6_thingOfFact cX6_thingOfFact 3 (some .int) ∈ tb := mt (i_t2 _ (List.mem_of_getElem? (i := 161) rfl)) rfl
theorem ml_X6_197 : Cond.methodLink RX6 197 yX1_codeOf ∈ tb := mt (i_t2 _ (List.mem_of_getElem? (i := 162) rfl)) rfl
theorem im_X1_codeOf : Cond.instanceMethod yX1_codeOf ∈ tb := mt (i_t2 _ (List.mem_of_getElem? (i := 163) rfl)) rfl
theorem se_X1_codeOf : Cond.selects RX1 yX1_codeOf yX1_codeOf ∈ tb := mt (i_t2 _ (List.mem_of_getElem? (i := 164) rfl)) rfl
theorem co_X1_codeOf : Cond.code yX1_codeOf cX1_codeOf 2 (some .int) ∈ tb := mt (i_t2 _ (List.mem_of_getElem? (i := 165) rfl)) rfl
theorem ml_X6_198 : Cond.methodLink RX6 198 yX1_dayOf ∈ tb := mt (i_t2 _ (List.mem_of_getElem? (i := 166) rfl)) rfl
theorem im_X1_dayOf : Cond.instanceMethod yX1_dayOf ∈ tb := mt (i_t2 _ (List.mem_of_getElem? (i := 167) rfl)) rfl
theorem se_X1_dayOf : Cond.selects RX1 yX1_dayOf yX1_dayOf ∈ tb := mt (i_t2 _ (List.mem_of_getElem? (i := 168) rfl)) rfl
theorem co_X1_dayOf : Cond.code yX1_dayOf cX1_dayOf 2 (some .int) ∈ tb := mt (i_t2 _ (List.mem_of_getElem? (i := 169) rfl)) rfl
theorem ml_X6_149 : Cond.methodLink RX6 149 yX5_livingOn ∈ tb := mt (i_t2 _ (List.mem_of_getElem? (i := 170) rfl)) rfl
theorem im_X5_livingOn : Cond.instanceMethod yX5_livingOn ∈ tb := mt (i_t2 _ (List.mem_of_getElem? (i := 171) rfl)) rfl
theorem se_X5_livingOn : Cond.selects RX5 yX5_livingOn yX5_livingOn ∈ tb := mt (i_t2 _ (List.mem_of_getElem? (i := 172) rfl)) rfl
theorem co_X5_livingOn : Cond.code yX5_livingOn cX5_livingOn 5 (some .int) ∈ tb := mt (i_t2 _ (List.mem_of_getElem? (i := 173) rfl)) rfl
theorem ml_X5_62 : Cond.methodLink RX5 62 yX5_livesOn ∈ tb := mt (i_t2 _ (List.mem_of_getElem? (i := 174) rfl)) rfl
theorem im_X5_livesOn : Cond.instanceMethod yX5_livesOn ∈ tb := mt (i_t2 _ (List.mem_of_getElem? (i := 175) rfl)) rfl
theorem se_X5_livesOn : Cond.selects RX5 yX5_livesOn yX5_livesOn ∈ tb := mt (i_t2 _ (List.mem_of_getElem? (i := 176) rfl)) rfl
theorem co_X5_livesOn : Cond.code yX5_livesOn cX5_livesOn 4 (some .boolean) ∈ tb := mt (i_t2 _ (List.mem_of_getElem? (i := 177) rfl)) rfl
theorem ml_X5_55 : Cond.methodLink RX5 55 yX5_isKnown ∈ tb := mt (i_t2 _ (List.mem_of_getElem? (i := 178) rfl)) rfl
theorem ml_X5_58 : Cond.methodLink RX5 58 yX5_endOf ∈ tb := mt (i_t2 _ (List.mem_of_getElem? (i := 179) rfl)) rfl
theorem ml_L_70 : Cond.methodLink RL 70 yX6_find ∈ tb := mt (i_t2 _ (List.mem_of_getElem? (i := 180) rfl)) rfl
theorem im_X6_find : Cond.instanceMethod yX6_find ∈ tb := mt (i_t2 _ (List.mem_of_getElem? (i := 181) rfl)) rfl
theorem se_X6_find : Cond.selects RX6 yX6_find yX6_find ∈ tb := mt (i_t2 _ (List.mem_of_getElem? (i := 182) rfl)) rfl
theorem co_X6_find : Cond.code yX6_find cX6_find 4 (some .int) ∈ tb := mt (i_t2 _ (List.mem_of_getElem? (i := 183) rfl)) rfl
theorem ml_L_74 : Cond.methodLink RL 74 yX6_then ∈ tb := mt (i_t2 _ (List.mem_of_getElem? (i := 184) rfl)) rfl
theorem im_X6_then : Cond.instanceMethod yX6_then ∈ tb := mt (i_t2 _ (List.mem_of_getElem? (i := 185) rfl)) rfl
theorem se_X6_then : Cond.selects RX6 yX6_then yX6_then ∈ tb := mt (i_t2 _ (List.mem_of_getElem? (i := 186) rfl)) rfl
theorem co_X6_then : Cond.code yX6_then cX6_then 7 (some .long) ∈ tb := mt (i_t2 _ (List.mem_of_getElem? (i := 187) rfl)) rfl
theorem ml_X6_152 : Cond.methodLink RX6 152 yX6_isAnswer ∈ tb := mt (i_t2 _ (List.mem_of_getElem? (i := 188) rfl)) rfl
theorem st_X6_isAnswer : Cond.static yX6_isAnswer ∈ tb := mt (i_t2 _ (List.mem_of_getElem? (i := 189) rfl)) rfl
theorem co_X6_isAnswer : Cond.code yX6_isAnswer cX6_isAnswer 1 (some .boolean) ∈ tb := mt (i_t2 _ (List.mem_of_getElem? (i := 190) rfl)) rfl
theorem ml_X6_155 : Cond.methodLink RX6 155 yX1_size ∈ tb := mt (i_t2 _ (List.mem_of_getElem? (i := 191) rfl)) rfl
theorem im_X1_size : Cond.instanceMethod yX1_size ∈ tb := mt (i_t2 _ (List.mem_of_getElem? (i := 192) rfl)) rfl
theorem se_X1_size : Cond.selects RX1 yX1_size yX1_size ∈ tb := mt (i_t2 _ (List.mem_of_getElem? (i := 193) rfl)) rfl
theorem co_X1_size : Cond.code yX1_size cX1_size 1 (some .int) ∈ tb := mt (i_t2 _ (List.mem_of_getElem? (i := 194) rfl)) rfl
theorem ml_X1_30 : Cond.methodLink RX1 30 yX3_size ∈ tb := mt (i_t2 _ (List.mem_of_getElem? (i := 195) rfl)) rfl
theorem ml_X6_158 : Cond.methodLink RX6 158 yX6_isMarkedThen ∈ tb := mt (i_t2 _ (List.mem_of_getElem? (i := 196) rfl)) rfl
theorem im_X6_isMarkedThen : Cond.instanceMethod yX6_isMarkedThen ∈ tb := mt (i_t2 _ (List.mem_of_getElem? (i := 198) rfl)) rfl
theorem co_X6_isMarkedThen : Cond.code yX6_isMarkedThen cX6_isMarkedThen 6 (some .boolean) ∈ tb := mt (i_t2 _ (List.mem_of_getElem? (i := 199) rfl)) rfl
theorem ml_X6_161 : Cond.methodLink RX6 161 yX1_amountOf ∈ tb := mt (i_t2 _ (List.mem_of_getElem? (i := 200) rfl)) rfl
theorem im_X1_amountOf : Cond.instanceMethod yX1_amountOf ∈ tb := mt (i_t2 _ (List.mem_of_getElem? (i := 201) rfl)) rfl
theorem se_X1_amountOf : Cond.selects RX1 yX1_amountOf yX1_amountOf ∈ tb := mt (i_t2 _ (List.mem_of_getElem? (i := 202) rfl)) rfl
theorem co_X1_amountOf : Cond.code yX1_amountOf cX1_amountOf 2 (some .int) ∈ tb := mt (i_t2 _ (List.mem_of_getElem? (i := 203) rfl)) rfl
theorem ml_L_79 : Cond.methodLink RL 79 yX6_by ∈ tb := mt (i_t2 _ (List.mem_of_getElem? (i := 204) rfl)) rfl
theorem im_X6_by : Cond.instanceMethod yX6_by ∈ tb := mt (i_t2 _ (List.mem_of_getElem? (i := 205) rfl)) rfl
theorem se_X6_by : Cond.selects RX6 yX6_by yX6_by ∈ tb := mt (i_t2 _ (List.mem_of_getElem? (i := 206) rfl)) rfl
theorem co_X6_by : Cond.code yX6_by cX6_by 8 (some .long) ∈ tb := mt (i_t2 _ (List.mem_of_getElem? (i := 207) rfl)) rfl
theorem ml_X6_164 : Cond.methodLink RX6 164 yX6_carryAll ∈ tb := mt (i_t2 _ (List.mem_of_getElem? (i := 208) rfl)) rfl
theorem im_X6_carryAll : Cond.instanceMethod yX6_carryAll ∈ tb := mt (i_t2 _ (List.mem_of_getElem? (i := 210) rfl)) rfl
theorem co_X6_carryAll : Cond.code yX6_carryAll cX6_carryAll 4 none ∈ tb := mt (i_t2 _ (List.mem_of_getElem? (i := 211) rfl)) rfl
theorem ml_X6_201 : Cond.methodLink RX6 201 yX0_start ∈ tb := mt (i_t2 _ (List.mem_of_getElem? (i := 212) rfl)) rfl
theorem im_X0_start : Cond.instanceMethod yX0_start ∈ tb := mt (i_t2 _ (List.mem_of_getElem? (i := 213) rfl)) rfl
theorem se_X0_start : Cond.selects RX0 yX0_start yX0_start ∈ tb := mt (i_t2 _ (List.mem_of_getElem? (i := 214) rfl)) rfl
theorem co_X0_start : Cond.code yX0_start cX0_start 4 none ∈ tb := mt (i_t2 _ (List.mem_of_getElem? (i := 215) rfl)) rfl
theorem ml_X6_204 : Cond.methodLink RX6 204 yX0_add ∈ tb := mt (i_t2 _ (List.mem_of_getElem? (i := 216) rfl)) rfl
theorem im_X0_add : Cond.instanceMethod yX0_add ∈ tb := mt (i_t2 _ (List.mem_of_getElem? (i := 217) rfl)) rfl
theorem se_X0_add : Cond.selects RX0 yX0_add yX0_add ∈ tb := mt (i_t2 _ (List.mem_of_getElem? (i := 218) rfl)) rfl
theorem co_X0_add : Cond.code yX0_add cX0_add 3 none ∈ tb := mt (i_t2 _ (List.mem_of_getElem? (i := 219) rfl)) rfl
theorem ml_X0_30 : Cond.methodLink RX0 30 yX0_carry ∈ tb := mt (i_t2 _ (List.mem_of_getElem? (i := 220) rfl)) rfl
theorem st_X0_carry : Cond.static yX0_carry ∈ tb := mt (i_t2 _ (List.mem_of_getElem? (i := 221) rfl)) rfl
theorem co_X0_carry : Cond.code yX0_carry cX0_carry 8 none ∈ tb := mt (i_t2 _ (List.mem_of_getElem? (i := 222) rfl)) rfl
theorem ml_X0_34 : Cond.methodLink RX0 34 yX5_has ∈ tb := mt (i_t2 _ (List.mem_of_getElem? (i := 223) rfl)) rfl
theorem ml_X0_40 : Cond.methodLink RX0 40 yX5_livesOn ∈ tb := mt (i_t2 _ (List.mem_of_getElem? (i := 224) rfl)) rfl
theorem ml_X0_44 : Cond.methodLink RX0 44 yX5_birthOf ∈ tb := mt (i_t2 _ (List.mem_of_getElem? (i := 225) rfl)) rfl
theorem ml_X0_48 : Cond.methodLink RX0 48 yX5_endingOf ∈ tb := mt (i_t2 _ (List.mem_of_getElem? (i := 226) rfl)) rfl
theorem ml_X0_52 : Cond.methodLink RX0 52 yX5_heirOf ∈ tb := mt (i_t2 _ (List.mem_of_getElem? (i := 227) rfl)) rfl
theorem ml_X0_55 : Cond.methodLink RX0 55 yX5_firstShareOf ∈ tb := mt (i_t2 _ (List.mem_of_getElem? (i := 228) rfl)) rfl
theorem im_X5_firstShareOf : Cond.instanceMethod yX5_firstShareOf ∈ tb := mt (i_t2 _ (List.mem_of_getElem? (i := 229) rfl)) rfl
theorem se_X5_firstShareOf : Cond.selects RX5 yX5_firstShareOf yX5_firstShareOf ∈ tb := mt (i_t2 _ (List.mem_of_getElem? (i := 230) rfl)) rfl
theorem co_X5_firstShareOf : Cond.code yX5_firstShareOf cX5_firstShareOf 4 (some .int) ∈ tb := mt (i_t2 _ (List.mem_of_getElem? (i := 231) rfl)) rfl
theorem ml_X6_167 : Cond.methodLink RX6 167 yX5_size ∈ tb := mt (i_t2 _ (List.mem_of_getElem? (i := 232) rfl)) rfl
theorem im_X5_size : Cond.instanceMethod yX5_size ∈ tb := mt (i_t2 _ (List.mem_of_getElem? (i := 233) rfl)) rfl
theorem se_X5_size : Cond.selects RX5 yX5_size yX5_size ∈ tb := mt (i_t2 _ (List.mem_of_getElem? (i := 234) rfl)) rfl
theorem co_X5_size : Cond.code yX5_size cX5_size 1 (some .int) ∈ tb := mt (i_t2 _ (List.mem_of_getElem? (i := 235) rfl)) rfl
theorem ml_X6_168 : Cond.methodLink RX6 168 yX0_stayingOn ∈ tb := mt (i_t2 _ (List.mem_of_getElem? (i := 236) rfl)) rfl
theorem im_X0_stayingOn : Cond.instanceMethod yX0_stayingOn ∈ tb := mt (i_t2 _ (List.mem_of_getElem? (i := 237) rfl)) rfl
theorem se_X0_stayingOn : Cond.selects RX0 yX0_stayingOn yX0_stayingOn ∈ tb := mt (i_t2 _ (List.mem_of_getElem? (i := 238) rfl)) rfl
theorem co_X0_stayingOn : Cond.code yX0_stayingOn cX0_stayingOn 2 (some .long) ∈ tb := mt (i_t2 _ (List.mem_of_getElem? (i := 239) rfl)) rfl
theorem ml_L_84 : Cond.methodLink RL 84 yX6_sum ∈ tb := mt (i_t3 _ (List.mem_of_getElem? (i := 0) rfl)) rfl
theorem im_X6_sum : Cond.instanceMethod yX6_sum ∈ tb := mt (i_t3 _ (List.mem_of_getElem? (i := 1) rfl)) rfl
theorem se_X6_sum : Cond.selects RX6 yX6_sum yX6_sum ∈ tb := mt (i_t3 _ (List.mem_of_getElem? (i := 2) rfl)) rfl
theorem co_X6_sum : Cond.code yX6_sum cX6_sum 4 (some .long) ∈ tb := mt (i_t3 _ (List.mem_of_getElem? (i := 3) rfl)) rfl
theorem ml_X6_172 : Cond.methodLink RX6 172 yX6_sumOfFacts ∈ tb := mt (i_t3 _ (List.mem_of_getElem? (i := 4) rfl)) rfl
theorem im_X6_sumOfFacts : Cond.instanceMethod yX6_sumOfFacts ∈ tb := mt (i_t3 _ (List.mem_of_getElem? (i := 6) rfl)) rfl
theorem co_X6_sumOfFacts : Cond.code yX6_sumOfFacts cX6_sumOfFacts 6 (some .long) ∈ tb := mt (i_t3 _ (List.mem_of_getElem? (i := 7) rfl)) rfl
theorem ml_X6_176 : Cond.methodLink RX6 176 yX0_nowhere ∈ tb := mt (i_t3 _ (List.mem_of_getElem? (i := 8) rfl)) rfl
theorem im_X0_nowhere : Cond.instanceMethod yX0_nowhere ∈ tb := mt (i_t3 _ (List.mem_of_getElem? (i := 9) rfl)) rfl
theorem se_X0_nowhere : Cond.selects RX0 yX0_nowhere yX0_nowhere ∈ tb := mt (i_t3 _ (List.mem_of_getElem? (i := 10) rfl)) rfl
theorem co_X0_nowhere : Cond.code yX0_nowhere cX0_nowhere 1 (some .long) ∈ tb := mt (i_t3 _ (List.mem_of_getElem? (i := 11) rfl)) rfl
theorem ml_L_88 : Cond.methodLink RL 88 yX6_compare ∈ tb := mt (i_t3 _ (List.mem_of_getElem? (i := 12) rfl)) rfl
theorem im_X6_compare : Cond.instanceMethod yX6_compare ∈ tb := mt (i_t3 _ (List.mem_of_getElem? (i := 13) rfl)) rfl
theorem se_X6_compare : Cond.selects RX6 yX6_compare yX6_compare ∈ tb := mt (i_t3 _ (List.mem_of_getElem? (i := 14) rfl)) rfl
theorem co_X6_compare : Cond.code yX6_compare cX6_compare 6 (some .int) ∈ tb := mt (i_t3 _ (List.mem_of_getElem? (i := 15) rfl)) rfl
theorem ml_X6_180 : Cond.methodLink RX6 180 yX6_countLiving ∈ tb := mt (i_t3 _ (List.mem_of_getElem? (i := 16) rfl)) rfl
theorem im_X6_countLiving : Cond.instanceMethod yX6_countLiving ∈ tb := mt (i_t3 _ (List.mem_of_getElem? (i := 18) rfl)) rfl
theorem co_X6_countLiving : Cond.code yX6_countLiving cX6_countLiving 8 (some .int) ∈ tb := mt (i_t3 _ (List.mem_of_getElem? (i := 19) rfl)) rfl
theorem ml_X6_206 : Cond.methodLink RX6 206 yX5_livesOn ∈ tb := mt (i_t3 _ (List.mem_of_getElem? (i := 20) rfl)) rfl
theorem ml_X6_184 : Cond.methodLink RX6 184 yX6_countMoved ∈ tb := mt (i_t3 _ (List.mem_of_getElem? (i := 21) rfl)) rfl
theorem im_X6_countMoved : Cond.instanceMethod yX6_countMoved ∈ tb := mt (i_t3 _ (List.mem_of_getElem? (i := 23) rfl)) rfl
theorem co_X6_countMoved : Cond.code yX6_countMoved cX6_countMoved 7 (some .int) ∈ tb := mt (i_t3 _ (List.mem_of_getElem? (i := 24) rfl)) rfl
theorem ml_L_93 : Cond.methodLink RL 93 yX6_count ∈ tb := mt (i_t3 _ (List.mem_of_getElem? (i := 25) rfl)) rfl
theorem im_X6_count : Cond.instanceMethod yX6_count ∈ tb := mt (i_t3 _ (List.mem_of_getElem? (i := 26) rfl)) rfl
theorem se_X6_count : Cond.selects RX6 yX6_count yX6_count ∈ tb := mt (i_t3 _ (List.mem_of_getElem? (i := 27) rfl)) rfl
theorem co_X6_count : Cond.code yX6_count cX6_count 2 (some .int) ∈ tb := mt (i_t3 _ (List.mem_of_getElem? (i := 28) rfl)) rfl
theorem ml_X6_187 : Cond.methodLink RX6 187 yX4_size ∈ tb := mt (i_t3 _ (List.mem_of_getElem? (i := 29) rfl)) rfl
theorem im_X4_size : Cond.instanceMethod yX4_size ∈ tb := mt (i_t3 _ (List.mem_of_getElem? (i := 30) rfl)) rfl
theorem se_X4_size : Cond.selects RX4 yX4_size yX4_size ∈ tb := mt (i_t3 _ (List.mem_of_getElem? (i := 31) rfl)) rfl
theorem co_X4_size : Cond.code yX4_size cX4_size 1 (some .int) ∈ tb := mt (i_t3 _ (List.mem_of_getElem? (i := 32) rfl)) rfl
theorem ml_X6_188 : Cond.methodLink RX6 188 yX2_open ∈ tb := mt (i_t3 _ (List.mem_of_getElem? (i := 33) rfl)) rfl
theorem ml_X6_191 : Cond.methodLink RX6 191 yX2_undoneCount ∈ tb := mt (i_t3 _ (List.mem_of_getElem? (i := 34) rfl)) rfl
theorem im_X2_undoneCount : Cond.instanceMethod yX2_undoneCount ∈ tb := mt (i_t3 _ (List.mem_of_getElem? (i := 35) rfl)) rfl
theorem se_X2_undoneCount : Cond.selects RX2 yX2_undoneCount yX2_undoneCount ∈ tb := mt (i_t3 _ (List.mem_of_getElem? (i := 36) rfl)) rfl
theorem co_X2_undoneCount : Cond.code yX2_undoneCount cX2_undoneCount 1 (some .int) ∈ tb := mt (i_t3 _ (List.mem_of_getElem? (i := 37) rfl)) rfl
theorem cl_L_10 : Cond.classLink RL 10 RX7 ∈ tb := mt (i_t3 _ (List.mem_of_getElem? (i := 38) rfl)) rfl
theorem ib_X7 : Cond.instantiable RX7 26 ∈ tb := mt (i_t3 _ (List.mem_of_getElem? (i := 39) rfl)) rfl
theorem ml_L_12 : Cond.methodLink RL 12 yX7_init ∈ tb := mt (i_t3 _ (List.mem_of_getElem? (i := 40) rfl)) rfl
theorem im_X7_init : Cond.instanceMethod yX7_init ∈ tb := mt (i_t3 _ (List.mem_of_getElem? (i := 41) rfl)) rfl
theorem co_X7_init : Cond.code yX7_init cX7_init 2 none ∈ tb := mt (i_t3 _ (List.mem_of_getElem? (i := 42) rfl)) rfl
theorem ml_X7_1 : Cond.methodLink RX7 1 objectInit ∈ tb := mt (i_t3 _ (List.mem_of_getElem? (i := 43) rfl)) rfl
theorem fl_X7_81 : Cond.fieldLink RX7 81 "ThenTablesModel" "today" "I" ∈ tb := mt (i_t3 _ (List.mem_of_getElem? (i := 44) rfl)) rfl
theorem fl_X7_77 : Cond.fieldLink RX7 77 "ThenTablesModel" "things" "I" ∈ tb := mt (i_t3 _ (List.mem_of_getElem? (i := 45) rfl)) rfl
theorem fl_X7_142 : Cond.fieldLink RX7 142 "ThenTablesModel" "facts" "I" ∈ tb := mt (i_t3 _ (List.mem_of_getElem? (i := 46) rfl)) rfl
theorem fl_X7_122 : Cond.fieldLink RX7 122 "ThenTablesModel" "tellings" "I" ∈ tb := mt (i_t3 _ (List.mem_of_getElem? (i := 47) rfl)) rfl
theorem fl_X7_128 : Cond.fieldLink RX7 128 "ThenTablesModel" "open" "I" ∈ tb := mt (i_t3 _ (List.mem_of_getElem? (i := 48) rfl)) rfl
theorem fl_X7_7 : Cond.fieldLink RX7 7 "ThenTablesModel" "code" "[I" ∈ tb := mt (i_t3 _ (List.mem_of_getElem? (i := 49) rfl)) rfl
theorem fl_X7_13 : Cond.fieldLink RX7 13 "ThenTablesModel" "birth" "[I" ∈ tb := mt (i_t3 _ (List.mem_of_getElem? (i := 50) rfl)) rfl
theorem fl_X7_16 : Cond.fieldLink RX7 16 "ThenTablesModel" "bornKnown" "[I" ∈ tb := mt (i_t3 _ (List.mem_of_getElem? (i := 51) rfl)) rfl
theorem fl_X7_19 : Cond.fieldLink RX7 19 "ThenTablesModel" "end" "[I" ∈ tb := mt (i_t3 _ (List.mem_of_getElem? (i := 52) rfl)) rfl
theorem fl_X7_22 : Cond.fieldLink RX7 22 "ThenTablesModel" "endKnown" "[I" ∈ tb := mt (i_t3 _ (List.mem_of_getElem? (i := 53) rfl)) rfl
theorem fl_X7_25 : Cond.fieldLink RX7 25 "ThenTablesModel" "how" "[I" ∈ tb := mt (i_t3 _ (List.mem_of_getElem? (i := 54) rfl)) rfl
theorem fl_X7_28 : Cond.fieldLink RX7 28 "ThenTablesModel" "heir" "[I" ∈ tb := mt (i_t3 _ (List.mem_of_getElem? (i := 55) rfl)) rfl
theorem fl_X7_31 : Cond.fieldLink RX7 31 "ThenTablesModel" "share" "[I" ∈ tb := mt (i_t3 _ (List.mem_of_getElem? (i := 56) rfl)) rfl
theorem fl_X7_34 : Cond.fieldLink RX7 34 "ThenTablesModel" "whole" "[I" ∈ tb := mt (i_t3 _ (List.mem_of_getElem? (i := 57) rfl)) rfl
theorem fl_X7_37 : Cond.fieldLink RX7 37 "ThenTablesModel" "factCode" "[I" ∈ tb := mt (i_t3 _ (List.mem_of_getElem? (i := 58) rfl)) rfl
theorem fl_X7_40 : Cond.fieldLink RX7 40 "ThenTablesModel" "factDay" "[I" ∈ tb := mt (i_t3 _ (List.mem_of_getElem? (i := 59) rfl)) rfl
theorem fl_X7_43 : Cond.fieldLink RX7 43 "ThenTablesModel" "amount" "[I" ∈ tb := mt (i_t3 _ (List.mem_of_getElem? (i := 60) rfl)) rfl
theorem fl_X7_46 : Cond.fieldLink RX7 46 "ThenTablesModel" "factKnown" "[I" ∈ tb := mt (i_t3 _ (List.mem_of_getElem? (i := 61) rfl)) rfl
theorem fl_X7_49 : Cond.fieldLink RX7 49 "ThenTablesModel" "factLoad" "[I" ∈ tb := mt (i_t3 _ (List.mem_of_getElem? (i := 62) rfl)) rfl
theorem fl_X7_52 : Cond.fieldLink RX7 52 "ThenTablesModel" "markThing" "[I" ∈ tb := mt (i_t3 _ (List.mem_of_getElem? (i := 63) rfl)) rfl
theorem fl_X7_55 : Cond.fieldLink RX7 55 "ThenTablesModel" "markOf" "[I" ∈ tb := mt (i_t3 _ (List.mem_of_getElem? (i := 64) rfl)) rfl
theorem fl_X7_58 : Cond.fieldLink RX7 58 "ThenTablesModel" "markFrom" "[I" ∈ tb := mt (i_t3 _ (List.mem_of_getElem? (i := 65) rfl)) rfl
theorem fl_X7_61 : Cond.fieldLink RX7 61 "ThenTablesModel" "markValue" "[I" ∈ tb := mt (i_t3 _ (List.mem_of_getElem? (i := 66) rfl)) rfl
theorem fl_X7_64 : Cond.fieldLink RX7 64 "ThenTablesModel" "markKnown" "[I" ∈ tb := mt (i_t3 _ (List.mem_of_getElem? (i := 67) rfl)) rfl
theorem fl_X7_67 : Cond.fieldLink RX7 67 "ThenTablesModel" "markLoad" "[I" ∈ tb := mt (i_t3 _ (List.mem_of_getElem? (i := 68) rfl)) rfl
theorem fl_X7_70 : Cond.fieldLink RX7 70 "ThenTablesModel" "undone" "[I" ∈ tb := mt (i_t3 _ (List.mem_of_getElem? (i := 69) rfl)) rfl
theorem ml_L_17 : Cond.methodLink RL 17 yX7_day ∈ tb := mt (i_t3 _ (List.mem_of_getElem? (i := 123) rfl)) rfl
theorem im_X7_day : Cond.instanceMethod yX7_day ∈ tb := mt (i_t3 _ (List.mem_of_getElem? (i := 124) rfl)) rfl
theorem se_X7_day : Cond.selects RX7 yX7_day yX7_day ∈ tb := mt (i_t3 _ (List.mem_of_getElem? (i := 125) rfl)) rfl
theorem co_X7_day : Cond.code yX7_day cX7_day 2 (some .boolean) ∈ tb := mt (i_t3 _ (List.mem_of_getElem? (i := 126) rfl)) rfl
theorem ml_L_22 : Cond.methodLink RL 22 yX7_born ∈ tb := mt (i_t3 _ (List.mem_of_getElem? (i := 127) rfl)) rfl
theorem im_X7_born : Cond.instanceMethod yX7_born ∈ tb := mt (i_t3 _ (List.mem_of_getElem? (i := 128) rfl)) rfl
theorem se_X7_born : Cond.selects RX7 yX7_born yX7_born ∈ tb := mt (i_t3 _ (List.mem_of_getElem? (i := 129) rfl)) rfl
theorem co_X7_born : Cond.code yX7_born cX7_born 3 (some .int) ∈ tb := mt (i_t3 _ (List.mem_of_getElem? (i := 130) rfl)) rfl
theorem ml_X7_91 : Cond.methodLink RX7 91 yX7_isCode ∈ tb := mt (i_t3 _ (List.mem_of_getElem? (i := 131) rfl)) rfl
theorem st_X7_isCode : Cond.static yX7_isCode ∈ tb := mt (i_t3 _ (List.mem_of_getElem? (i := 132) rfl)) rfl
theorem co_X7_isCode : Cond.code yX7_isCode cX7_isCode 1 (some .boolean) ∈ tb := mt (i_t3 _ (List.mem_of_getElem? (i := 133) rfl)) rfl
theorem ml_X7_73 : Cond.methodLink RX7 73 yX7_isIn ∈ tb := mt (i_t3 _ (List.mem_of_getElem? (i := 134) rfl)) rfl
theorem st_X7_isIn : Cond.static yX7_isIn ∈ tb := mt (i_t3 _ (List.mem_of_getElem? (i := 135) rfl)) rfl
theorem co_X7_isIn : Cond.code yX7_isIn cX7_isIn 3 (some .boolean) ∈ tb := mt (i_t3 _ (List.mem_of_getElem? (i := 136) rfl)) rfl
theorem ml_X7_95 : Cond.methodLink RX7 95 yX7_isDay ∈ tb := mt (i_t3 _ (List.mem_of_getElem? (i := 137) rfl)) rfl
theorem st_X7_isDay : Cond.static yX7_isDay ∈ tb := mt (i_t3 _ (List.mem_of_getElem? (i := 138) rfl)) rfl
theorem co_X7_isDay : Cond.code yX7_isDay cX7_isDay 1 (some .boolean) ∈ tb := mt (i_t3 _ (List.mem_of_getElem? (i := 139) rfl)) rfl
theorem ml_X7_98 : Cond.methodLink RX7 98 yX7_isTaken ∈ tb := mt (i_t3 _ (List.mem_of_getElem? (i := 140) rfl)) rfl
theorem im_X7_isTaken : Cond.instanceMethod yX7_isTaken ∈ tb := mt (i_t3 _ (List.mem_of_getElem? (i := 142) rfl)) rfl
theorem co_X7_isTaken : Cond.code yX7_isTaken cX7_isTaken 7 (some .boolean) ∈ tb := mt (i_t3 _ (List.mem_of_getElem? (i := 143) rfl)) rfl
theorem ml_X7_88 : Cond.methodLink RX7 88 yX7_lives ∈ tb := mt (i_t3 _ (List.mem_of_getElem? (i := 144) rfl)) rfl
theorem im_X7_lives : Cond.instanceMethod yX7_lives ∈ tb := mt (i_t3 _ (List.mem_of_getElem? (i := 146) rfl)) rfl
theorem co_X7_lives : Cond.code yX7_lives cX7_lives 4 (some .boolean) ∈ tb := mt (i_t3 _ (List.mem_of_getElem? (i := 147) rfl)) rfl
theorem ml_X7_84 : Cond.methodLink RX7 84 yX7_endBy ∈ tb := mt (i_t3 _ (List.mem_of_getElem? (i := 148) rfl)) rfl
theorem im_X7_endBy : Cond.instanceMethod yX7_endBy ∈ tb := mt (i_t3 _ (List.mem_of_getElem? (i := 150) rfl)) rfl
theorem co_X7_endBy : Cond.code yX7_endBy cX7_endBy 3 (some .int) ∈ tb := mt (i_t3 _ (List.mem_of_getElem? (i := 151) rfl)) rfl
theorem ml_X7_102 : Cond.methodLink RX7 102 yX7_comes ∈ tb := mt (i_t3 _ (List.mem_of_getElem? (i := 152) rfl)) rfl
theorem im_X7_comes : Cond.instanceMethod yX7_comes ∈ tb := mt (i_t3 _ (List.mem_of_getElem? (i := 154) rfl)) rfl
theorem co_X7_comes : Cond.code yX7_comes cX7_comes 4 (some .int) ∈ tb := mt (i_t3 _ (List.mem_of_getElem? (i := 155) rfl)) rfl
theorem ml_L_27 : Cond.methodLink RL 27 yX7_ends ∈ tb := mt (i_t3 _ (List.mem_of_getElem? (i := 156) rfl)) rfl
theorem im_X7_ends : Cond.instanceMethod yX7_ends ∈ tb := mt (i_t3 _ (List.mem_of_getElem? (i := 157) rfl)) rfl
theorem se_X7_ends : Cond.selects RX7 yX7_ends yX7_ends ∈ tb := mt (i_t3 _ (List.mem_of_getElem? (i := 158) rfl)) rfl
theorem co_X7_ends : Cond.code yX7_ends cX7_ends 3 (some .boolean) ∈ tb := mt (i_t3 _ (List.mem_of_getElem? (i := 159) rfl)) rfl
theorem ml_X7_108 : Cond.methodLink RX7 108 yX7_mayEnd ∈ tb := mt (i_t3 _ (List.mem_of_getElem? (i := 160) rfl)) rfl
theorem im_X7_mayEnd : Cond.instanceMethod yX7_mayEnd ∈ tb := mt (i_t3 _ (List.mem_of_getElem? (i := 162) rfl)) rfl
theorem co_X7_mayEnd : Cond.code yX7_mayEnd cX7_mayEnd 3 (some .boolean) ∈ tb := mt (i_t3 _ (List.mem_of_getElem? (i := 163) rfl)) rfl
theorem ml_X7_105 : Cond.methodLink RX7 105 yX7_isThing ∈ tb := mt (i_t3 _ (List.mem_of_getElem? (i := 164) rfl)) rfl
theorem im_X7_isThing : Cond.instanceMethod yX7_isThing ∈ tb := mt (i_t3 _ (List.mem_of_getElem? (i := 166) rfl)) rfl
theorem co_X7_isThing : Cond.code yX7_isThing cX7_isThing 2 (some .boolean) ∈ tb := mt (i_t3 _ (List.mem_of_getElem? (i := 167) rfl)) rfl
theorem ml_X7_112 : Cond.methodLink RX7 112 yX7_goes ∈ tb := mt (i_t3 _ (List.mem_of_getElem? (i := 168) rfl)) rfl
theorem im_X7_goes : Cond.instanceMethod yX7_goes ∈ tb := mt (i_t3 _ (List.mem_of_getElem? (i := 170) rfl)) rfl
theorem co_X7_goes : Cond.code yX7_goes cX7_goes 7 none ∈ tb := mt (i_t3 _ (List.mem_of_getElem? (i := 171) rfl)) rfl
theorem ml_L_32 : Cond.methodLink RL 32 yX7_split ∈ tb := mt (i_t3 _ (List.mem_of_getElem? (i := 172) rfl)) rfl
theorem im_X7_split : Cond.instanceMethod yX7_split ∈ tb := mt (i_t3 _ (List.mem_of_getElem? (i := 173) rfl)) rfl
theorem se_X7_split : Cond.selects RX7 yX7_split yX7_split ∈ tb := mt (i_t3 _ (List.mem_of_getElem? (i := 174) rfl)) rfl
theorem co_X7_split : Cond.code yX7_split cX7_split 8 (some .int) ∈ tb := mt (i_t3 _ (List.mem_of_getElem? (i := 175) rfl)) rfl
theorem ml_L_37 : Cond.methodLink RL 37 yX7_join ∈ tb := mt (i_t3 _ (List.mem_of_getElem? (i := 176) rfl)) rfl
theorem im_X7_join : Cond.instanceMethod yX7_join ∈ tb := mt (i_t3 _ (List.mem_of_getElem? (i := 177) rfl)) rfl
theorem se_X7_join : Cond.selects RX7 yX7_join yX7_join ∈ tb := mt (i_t3 _ (List.mem_of_getElem? (i := 178) rfl)) rfl
theorem co_X7_join : Cond.code yX7_join cX7_join 6 (some .int) ∈ tb := mt (i_t3 _ (List.mem_of_getElem? (i := 179) rfl)) rfl
theorem ml_L_42 : Cond.methodLink RL 42 yX7_mark ∈ tb := mt (i_t3 _ (List.mem_of_getElem? (i := 180) rfl)) rfl
theorem im_X7_mark : Cond.instanceMethod yX7_mark ∈ tb := mt (i_t3 _ (List.mem_of_getElem? (i := 181) rfl)) rfl
theorem se_X7_mark : Cond.selects RX7 yX7_mark yX7_mark ∈ tb := mt (i_t3 _ (List.mem_of_getElem? (i := 182) rfl)) rfl
theorem co_X7_mark : Cond.code yX7_mark cX7_mark 6 (some .boolean) ∈ tb := mt (i_t3 _ (List.mem_of_getElem? (i := 183) rfl)) rfl
theorem ml_X7_119 : Cond.methodLink RX7 119 yX7_isMark ∈ tb := mt (i_t3 _ (List.mem_of_getElem? (i := 184) rfl)) rfl
theorem st_X7_isMark : Cond.static yX7_isMark ∈ tb := mt (i_t3 _ (List.mem_of_getElem? (i := 185) rfl)) rfl
theorem co_X7_isMark : Cond.code yX7_isMark cX7_isMark 1 (some .boolean) ∈ tb := mt (i_t3 _ (List.mem_of_getElem? (i := 186) rfl)) rfl
theorem ml_X7_125 : Cond.methodLink RX7 125 yX7_isTelling ∈ tb := mt (i_t3 _ (List.mem_of_getElem? (i := 187) rfl)) rfl
theorem im_X7_isTelling : Cond.instanceMethod yX7_isTelling ∈ tb := mt (i_t3 _ (List.mem_of_getElem? (i := 189) rfl)) rfl
theorem co_X7_isTelling : Cond.code yX7_isTelling cX7_isTelling 5 (some .boolean) ∈ tb := mt (i_t3 _ (List.mem_of_getElem? (i := 190) rfl)) rfl
theorem ml_X7_116 : Cond.methodLink RX7 116 yX7_isKnown ∈ tb := mt (i_t3 _ (List.mem_of_getElem? (i := 191) rfl)) rfl
theorem im_X7_isKnown : Cond.instanceMethod yX7_isKnown ∈ tb := mt (i_t3 _ (List.mem_of_getElem? (i := 193) rfl)) rfl
theorem co_X7_isKnown : Cond.code yX7_isKnown cX7_isKnown 4 (some .boolean) ∈ tb := mt (i_t3 _ (List.mem_of_getElem? (i := 194) rfl)) rfl
theorem ml_L_61 : Cond.methodLink RL 61 yX7_told ∈ tb := mt (i_t3 _ (List.mem_of_getElem? (i := 195) rfl)) rfl
theorem im_X7_told : Cond.instanceMethod yX7_told ∈ tb := mt (i_t3 _ (List.mem_of_getElem? (i := 196) rfl)) rfl
theorem se_X7_told : Cond.selects RX7 yX7_told yX7_told ∈ tb := mt (i_t3 _ (List.mem_of_getElem? (i := 197) rfl)) rfl
theorem co_X7_told : Cond.code yX7_told cX7_told 5 (some .int) ∈ tb := mt (i_t3 _ (List.mem_of_getElem? (i := 198) rfl)) rfl
theorem ml_X7_131 : Cond.methodLink RX7 131 yX7_valueOf ∈ tb := mt (i_t3 _ (List.mem_of_getElem? (i := 199) rfl)) rfl
theorem im_X7_valueOf : Cond.instanceMethod yX7_valueOf ∈ tb := mt (i_t3 _ (List.mem_of_getElem? (i := 201) rfl)) rfl
theorem co_X7_valueOf : Cond.code yX7_valueOf cX7_valueOf 7 (some .int) ∈ tb := mt (i_t3 _ (List.mem_of_getElem? (i := 202) rfl)) rfl
theorem ml_L_65 : Cond.methodLink RL 65 yX7_thing ∈ tb := mt (i_t3 _ (List.mem_of_getElem? (i := 203) rfl)) rfl
theorem im_X7_thing : Cond.instanceMethod yX7_thing ∈ tb := mt (i_t3 _ (List.mem_of_getElem? (i := 204) rfl)) rfl
theorem se_X7_thing : Cond.selects RX7 yX7_thing yX7_thing ∈ tb := mt (i_t3 _ (List.mem_of_getElem? (i := 205) rfl)) rfl
theorem co_X7_thing : Cond.code yX7_thing cX7_thing 5 (some .int) ∈ tb := mt (i_t3 _ (List.mem_of_getElem? (i := 206) rfl)) rfl
theorem ml_X7_139 : Cond.methodLink RX7 139 yX7_turns ∈ tb := mt (i_t3 _ (List.mem_of_getElem? (i := 207) rfl)) rfl
theorem im_X7_turns : Cond.instanceMethod yX7_turns ∈ tb := mt (i_t3 _ (List.mem_of_getElem? (i := 209) rfl)) rfl
theorem co_X7_turns : Cond.code yX7_turns cX7_turns 6 (some .int) ∈ tb := mt (i_t3 _ (List.mem_of_getElem? (i := 210) rfl)) rfl
theorem ml_X7_135 : Cond.methodLink RX7 135 yX7_one ∈ tb := mt (i_t3 _ (List.mem_of_getElem? (i := 211) rfl)) rfl
theorem st_X7_one : Cond.static yX7_one ∈ tb := mt (i_t3 _ (List.mem_of_getElem? (i := 212) rfl)) rfl
theorem co_X7_one : Cond.code yX7_one cX7_one 1 (some .int) ∈ tb := mt (i_t3 _ (List.mem_of_getElem? (i := 213) rfl)) rfl
theorem ml_L_47 : Cond.methodLink RL 47 yX7_fact ∈ tb := mt (i_t3 _ (List.mem_of_getElem? (i := 214) rfl)) rfl
theorem im_X7_fact : Cond.instanceMethod yX7_fact ∈ tb := mt (i_t3 _ (List.mem_of_getElem? (i := 215) rfl)) rfl
theorem se_X7_fact : Cond.selects RX7 yX7_fact yX7_fact ∈ tb := mt (i_t3 _ (List.mem_of_getElem? (i := 216) rfl)) rfl
theorem co_X7_fact : Cond.code yX7_fact cX7_fact 4 (some .int) ∈ tb := mt (i_t3 _ (List.mem_of_getElem? (i := 217) rfl)) rfl
theorem ml_L_52 : Cond.methodLink RL 52 yX7_load ∈ tb := mt (i_t3 _ (List.mem_of_getElem? (i := 218) rfl)) rfl
theorem im_X7_load : Cond.instanceMethod yX7_load ∈ tb := mt (i_t3 _ (List.mem_of_getElem? (i := 219) rfl)) rfl
theorem se_X7_load : Cond.selects RX7 yX7_load yX7_load ∈ tb := mt (i_t3 _ (List.mem_of_getElem? (i := 220) rfl)) rfl
theorem co_X7_load : Cond.code yX7_load cX7_load 1 (some .int) ∈ tb := mt (i_t3 _ (List.mem_of_getElem? (i := 221) rfl)) rfl
theorem ml_L_57 : Cond.methodLink RL 57 yX7_undo ∈ tb := mt (i_t3 _ (List.mem_of_getElem? (i := 222) rfl)) rfl
theorem im_X7_undo : Cond.instanceMethod yX7_undo ∈ tb := mt (i_t3 _ (List.mem_of_getElem? (i := 223) rfl)) rfl
theorem se_X7_undo : Cond.selects RX7 yX7_undo yX7_undo ∈ tb := mt (i_t3 _ (List.mem_of_getElem? (i := 224) rfl)) rfl
theorem co_X7_undo : Cond.code yX7_undo cX7_undo 4 (some .int) ∈ tb := mt (i_t3 _ (List.mem_of_getElem? (i := 225) rfl)) rfl
theorem ml_L_69 : Cond.methodLink RL 69 yX7_hangs ∈ tb := mt (i_t3 _ (List.mem_of_getElem? (i := 226) rfl)) rfl
theorem im_X7_hangs : Cond.instanceMethod yX7_hangs ∈ tb := mt (i_t3 _ (List.mem_of_getElem? (i := 227) rfl)) rfl
theorem se_X7_hangs : Cond.selects RX7 yX7_hangs yX7_hangs ∈ tb := mt (i_t3 _ (List.mem_of_getElem? (i := 228) rfl)) rfl
theorem co_X7_hangs : Cond.code yX7_hangs cX7_hangs 3 (some .int) ∈ tb := mt (i_t3 _ (List.mem_of_getElem? (i := 229) rfl)) rfl
theorem ml_X7_149 : Cond.methodLink RX7 149 yX7_isFact ∈ tb := mt (i_t3 _ (List.mem_of_getElem? (i := 230) rfl)) rfl
theorem im_X7_isFact : Cond.instanceMethod yX7_isFact ∈ tb := mt (i_t3 _ (List.mem_of_getElem? (i := 232) rfl)) rfl
theorem co_X7_isFact : Cond.code yX7_isFact cX7_isFact 3 (some .boolean) ∈ tb := mt (i_t3 _ (List.mem_of_getElem? (i := 233) rfl)) rfl
theorem ml_X7_152 : Cond.methodLink RX7 152 yX7_thingOf ∈ tb := mt (i_t3 _ (List.mem_of_getElem? (i := 234) rfl)) rfl
theorem im_X7_thingOf : Cond.instanceMethod yX7_thingOf ∈ tb := mt (i_t3 _ (List.mem_of_getElem? (i := 236) rfl)) rfl
theorem co_X7_thingOf : Cond.code yX7_thingOf cX7_thingOf 3 (some .int) ∈ tb := mt (i_t3 _ (List.mem_of_getElem? (i := 237) rfl)) rfl
theorem ml_X7_145 : Cond.methodLink RX7 145 yX7_living ∈ tb := mt (i_t3 _ (List.mem_of_getElem? (i := 238) rfl)) rfl
theorem im_X7_living : Cond.instanceMethod yX7_living ∈ tb := mt (i_t4 _ (List.mem_of_getElem? (i := 0) rfl)) rfl
theorem co_X7_living : Cond.code yX7_living cX7_living 5 (some .int) ∈ tb := mt (i_t4 _ (List.mem_of_getElem? (i := 1) rfl)) rfl
theorem ml_L_73 : Cond.methodLink RL 73 yX7_find ∈ tb := mt (i_t4 _ (List.mem_of_getElem? (i := 2) rfl)) rfl
theorem im_X7_find : Cond.instanceMethod yX7_find ∈ tb := mt (i_t4 _ (List.mem_of_getElem? (i := 3) rfl)) rfl
theorem se_X7_find : Cond.selects RX7 yX7_find yX7_find ∈ tb := mt (i_t4 _ (List.mem_of_getElem? (i := 4) rfl)) rfl
theorem co_X7_find : Cond.code yX7_find cX7_find 4 (some .int) ∈ tb := mt (i_t4 _ (List.mem_of_getElem? (i := 5) rfl)) rfl
theorem ml_L_78 : Cond.methodLink RL 78 yX7_then ∈ tb := mt (i_t4 _ (List.mem_of_getElem? (i := 6) rfl)) rfl
theorem im_X7_then : Cond.instanceMethod yX7_then ∈ tb := mt (i_t4 _ (List.mem_of_getElem? (i := 7) rfl)) rfl
theorem se_X7_then : Cond.selects RX7 yX7_then yX7_then ∈ tb := mt (i_t4 _ (List.mem_of_getElem? (i := 8) rfl)) rfl
theorem co_X7_then : Cond.code yX7_then cX7_then 8 (some .long) ∈ tb := mt (i_t4 _ (List.mem_of_getElem? (i := 9) rfl)) rfl
theorem ml_X7_155 : Cond.methodLink RX7 155 yX7_isAsked ∈ tb := mt (i_t4 _ (List.mem_of_getElem? (i := 10) rfl)) rfl
theorem im_X7_isAsked : Cond.instanceMethod yX7_isAsked ∈ tb := mt (i_t4 _ (List.mem_of_getElem? (i := 12) rfl)) rfl
theorem co_X7_isAsked : Cond.code yX7_isAsked cX7_isAsked 4 (some .boolean) ∈ tb := mt (i_t4 _ (List.mem_of_getElem? (i := 13) rfl)) rfl
theorem ml_L_83 : Cond.methodLink RL 83 yX7_by ∈ tb := mt (i_t4 _ (List.mem_of_getElem? (i := 14) rfl)) rfl
theorem im_X7_by : Cond.instanceMethod yX7_by ∈ tb := mt (i_t4 _ (List.mem_of_getElem? (i := 15) rfl)) rfl
theorem se_X7_by : Cond.selects RX7 yX7_by yX7_by ∈ tb := mt (i_t4 _ (List.mem_of_getElem? (i := 16) rfl)) rfl
theorem co_X7_by : Cond.code yX7_by cX7_by 5 (some .long) ∈ tb := mt (i_t4 _ (List.mem_of_getElem? (i := 17) rfl)) rfl
theorem ml_X7_162 : Cond.methodLink RX7 162 yX7_allCarried ∈ tb := mt (i_t4 _ (List.mem_of_getElem? (i := 18) rfl)) rfl
theorem im_X7_allCarried : Cond.instanceMethod yX7_allCarried ∈ tb := mt (i_t4 _ (List.mem_of_getElem? (i := 20) rfl)) rfl
theorem co_X7_allCarried : Cond.code yX7_allCarried cX7_allCarried 9 (some .long) ∈ tb := mt (i_t4 _ (List.mem_of_getElem? (i := 21) rfl)) rfl
theorem ml_X7_158 : Cond.methodLink RX7 158 yX7_carried ∈ tb := mt (i_t4 _ (List.mem_of_getElem? (i := 22) rfl)) rfl
theorem im_X7_carried : Cond.instanceMethod yX7_carried ∈ tb := mt (i_t4 _ (List.mem_of_getElem? (i := 24) rfl)) rfl
theorem co_X7_carried : Cond.code yX7_carried cX7_carried 9 (some .long) ∈ tb := mt (i_t4 _ (List.mem_of_getElem? (i := 25) rfl)) rfl
theorem ml_L_87 : Cond.methodLink RL 87 yX7_sum ∈ tb := mt (i_t4 _ (List.mem_of_getElem? (i := 26) rfl)) rfl
theorem im_X7_sum : Cond.instanceMethod yX7_sum ∈ tb := mt (i_t4 _ (List.mem_of_getElem? (i := 27) rfl)) rfl
theorem se_X7_sum : Cond.selects RX7 yX7_sum yX7_sum ∈ tb := mt (i_t4 _ (List.mem_of_getElem? (i := 28) rfl)) rfl
theorem co_X7_sum : Cond.code yX7_sum cX7_sum 7 (some .long) ∈ tb := mt (i_t4 _ (List.mem_of_getElem? (i := 29) rfl)) rfl
theorem ml_L_92 : Cond.methodLink RL 92 yX7_compare ∈ tb := mt (i_t4 _ (List.mem_of_getElem? (i := 30) rfl)) rfl
theorem im_X7_compare : Cond.instanceMethod yX7_compare ∈ tb := mt (i_t4 _ (List.mem_of_getElem? (i := 31) rfl)) rfl
theorem se_X7_compare : Cond.selects RX7 yX7_compare yX7_compare ∈ tb := mt (i_t4 _ (List.mem_of_getElem? (i := 32) rfl)) rfl
theorem co_X7_compare : Cond.code yX7_compare cX7_compare 11 (some .int) ∈ tb := mt (i_t4 _ (List.mem_of_getElem? (i := 33) rfl)) rfl
theorem ml_L_96 : Cond.methodLink RL 96 yX7_count ∈ tb := mt (i_t4 _ (List.mem_of_getElem? (i := 34) rfl)) rfl
theorem im_X7_count : Cond.instanceMethod yX7_count ∈ tb := mt (i_t4 _ (List.mem_of_getElem? (i := 35) rfl)) rfl
theorem se_X7_count : Cond.selects RX7 yX7_count yX7_count ∈ tb := mt (i_t4 _ (List.mem_of_getElem? (i := 36) rfl)) rfl
theorem co_X7_count : Cond.code yX7_count cX7_count 4 (some .int) ∈ tb := mt (i_t4 _ (List.mem_of_getElem? (i := 37) rfl)) rfl
theorem se_X6_canEnd : Cond.selects RX6 yX6_canEnd yX6_canEnd ∈ tb := mt (List.mem_append_left _ (List.mem_of_getElem? (i := 0) rfl)) rfl
theorem se_X6_isFixed : Cond.selects RX6 yX6_isFixed yX6_isFixed ∈ tb := mt (List.mem_append_left _ (List.mem_of_getElem? (i := 1) rfl)) rfl
theorem se_X4_isOf : Cond.selects RX4 yX4_isOf yX4_isOf ∈ tb := mt (List.mem_append_left _ (List.mem_of_getElem? (i := 2) rfl)) rfl
theorem se_X4_outdoes : Cond.selects RX4 yX4_outdoes yX4_outdoes ∈ tb := mt (List.mem_append_left _ (List.mem_of_getElem? (i := 3) rfl)) rfl
theorem se_X5_isEndKnown : Cond.selects RX5 yX5_isEndKnown yX5_isEndKnown ∈ tb := mt (List.mem_append_left _ (List.mem_of_getElem? (i := 4) rfl)) rfl
theorem se_X6_thingOfFact : Cond.selects RX6 yX6_thingOfFact yX6_thingOfFact ∈ tb := mt (List.mem_append_left _ (List.mem_of_getElem? (i := 5) rfl)) rfl
theorem se_X6_isMarkedThen : Cond.selects RX6 yX6_isMarkedThen yX6_isMarkedThen ∈ tb := mt (List.mem_append_left _ (List.mem_of_getElem? (i := 6) rfl)) rfl
theorem se_X6_carryAll : Cond.selects RX6 yX6_carryAll yX6_carryAll ∈ tb := mt (List.mem_append_left _ (List.mem_of_getElem? (i := 7) rfl)) rfl
theorem se_X6_sumOfFacts : Cond.selects RX6 yX6_sumOfFacts yX6_sumOfFacts ∈ tb := mt (List.mem_append_left _ (List.mem_of_getElem? (i := 8) rfl)) rfl
theorem se_X6_countLiving : Cond.selects RX6 yX6_countLiving yX6_countLiving ∈ tb := mt (List.mem_append_left _ (List.mem_of_getElem? (i := 9) rfl)) rfl
theorem se_X6_countMoved : Cond.selects RX6 yX6_countMoved yX6_countMoved ∈ tb := mt (List.mem_append_left _ (List.mem_of_getElem? (i := 10) rfl)) rfl
theorem se_X7_isTaken : Cond.selects RX7 yX7_isTaken yX7_isTaken ∈ tb := mt (List.mem_append_left _ (List.mem_of_getElem? (i := 11) rfl)) rfl
theorem se_X7_lives : Cond.selects RX7 yX7_lives yX7_lives ∈ tb := mt (List.mem_append_left _ (List.mem_of_getElem? (i := 12) rfl)) rfl
theorem se_X7_endBy : Cond.selects RX7 yX7_endBy yX7_endBy ∈ tb := mt (List.mem_append_left _ (List.mem_of_getElem? (i := 13) rfl)) rfl
theorem se_X7_comes : Cond.selects RX7 yX7_comes yX7_comes ∈ tb := mt (List.mem_append_left _ (List.mem_of_getElem? (i := 14) rfl)) rfl
theorem se_X7_mayEnd : Cond.selects RX7 yX7_mayEnd yX7_mayEnd ∈ tb := mt (List.mem_append_left _ (List.mem_of_getElem? (i := 15) rfl)) rfl
theorem se_X7_isThing : Cond.selects RX7 yX7_isThing yX7_isThing ∈ tb := mt (List.mem_append_left _ (List.mem_of_getElem? (i := 16) rfl)) rfl
theorem se_X7_goes : Cond.selects RX7 yX7_goes yX7_goes ∈ tb := mt (List.mem_append_left _ (List.mem_of_getElem? (i := 17) rfl)) rfl
theorem se_X7_isTelling : Cond.selects RX7 yX7_isTelling yX7_isTelling ∈ tb := mt (List.mem_append_left _ (List.mem_of_getElem? (i := 18) rfl)) rfl
theorem se_X7_isKnown : Cond.selects RX7 yX7_isKnown yX7_isKnown ∈ tb := mt (List.mem_append_left _ (List.mem_of_getElem? (i := 19) rfl)) rfl
theorem se_X7_valueOf : Cond.selects RX7 yX7_valueOf yX7_valueOf ∈ tb := mt (List.mem_append_left _ (List.mem_of_getElem? (i := 20) rfl)) rfl
theorem se_X7_turns : Cond.selects RX7 yX7_turns yX7_turns ∈ tb := mt (List.mem_append_left _ (List.mem_of_getElem? (i := 21) rfl)) rfl
theorem se_X7_isFact : Cond.selects RX7 yX7_isFact yX7_isFact ∈ tb := mt (List.mem_append_left _ (List.mem_of_getElem? (i := 22) rfl)) rfl
theorem se_X7_thingOf : Cond.selects RX7 yX7_thingOf yX7_thingOf ∈ tb := mt (List.mem_append_left _ (List.mem_of_getElem? (i := 23) rfl)) rfl
theorem se_X7_living : Cond.selects RX7 yX7_living yX7_living ∈ tb := mt (List.mem_append_left _ (List.mem_of_getElem? (i := 24) rfl)) rfl
theorem se_X7_isAsked : Cond.selects RX7 yX7_isAsked yX7_isAsked ∈ tb := mt (List.mem_append_left _ (List.mem_of_getElem? (i := 25) rfl)) rfl
theorem se_X7_allCarried : Cond.selects RX7 yX7_allCarried yX7_allCarried ∈ tb := mt (List.mem_append_left _ (List.mem_of_getElem? (i := 26) rfl)) rfl
theorem se_X7_carried : Cond.selects RX7 yX7_carried yX7_carried ∈ tb := mt (List.mem_append_left _ (List.mem_of_getElem? (i := 27) rfl)) rfl
theorem ly_X2_0 : u_lay RX2 TX2 0 ∈ tb := mt (i_t1 _ (List.mem_of_getElem? (i := 27) rfl)) rfl
theorem ly_X2_1 : u_lay RX2 TX2 1 ∈ tb := mt (i_t1 _ (List.mem_of_getElem? (i := 29) rfl)) rfl
theorem ly_X2_2 : u_lay RX2 TX2 2 ∈ tb := mt (i_t1 _ (List.mem_of_getElem? (i := 31) rfl)) rfl
theorem inX2 : ∀ w ∈ u_ws RX2 TX2 3, w ∈ tb := by
  intro w hw
  obtain ⟨k, hk, rfl⟩ := List.mem_map.mp hw
  have hk : k < 3 := List.mem_range.mp hk
  match k, hk with
  | 0, _ => exact ly_X2_0
  | 1, _ => exact ly_X2_1
  | 2, _ => exact ly_X2_2
  | k + 3, h => exact absurd h (by omega)
theorem ly_X5_0 : u_lay RX5 TX5 0 ∈ tb := mt (i_t1 _ (List.mem_of_getElem? (i := 51) rfl)) rfl
theorem ly_X5_1 : u_lay RX5 TX5 1 ∈ tb := mt (i_t1 _ (List.mem_of_getElem? (i := 53) rfl)) rfl
theorem ly_X5_2 : u_lay RX5 TX5 2 ∈ tb := mt (i_t1 _ (List.mem_of_getElem? (i := 55) rfl)) rfl
theorem ly_X5_3 : u_lay RX5 TX5 3 ∈ tb := mt (i_t1 _ (List.mem_of_getElem? (i := 57) rfl)) rfl
theorem ly_X5_4 : u_lay RX5 TX5 4 ∈ tb := mt (i_t1 _ (List.mem_of_getElem? (i := 59) rfl)) rfl
theorem ly_X5_5 : u_lay RX5 TX5 5 ∈ tb := mt (i_t1 _ (List.mem_of_getElem? (i := 61) rfl)) rfl
theorem ly_X5_6 : u_lay RX5 TX5 6 ∈ tb := mt (i_t1 _ (List.mem_of_getElem? (i := 63) rfl)) rfl
theorem ly_X5_7 : u_lay RX5 TX5 7 ∈ tb := mt (i_t1 _ (List.mem_of_getElem? (i := 65) rfl)) rfl
theorem ly_X5_8 : u_lay RX5 TX5 8 ∈ tb := mt (i_t1 _ (List.mem_of_getElem? (i := 67) rfl)) rfl
theorem ly_X5_9 : u_lay RX5 TX5 9 ∈ tb := mt (i_t1 _ (List.mem_of_getElem? (i := 69) rfl)) rfl
theorem inX5 : ∀ w ∈ u_ws RX5 TX5 10, w ∈ tb := by
  intro w hw
  obtain ⟨k, hk, rfl⟩ := List.mem_map.mp hw
  have hk : k < 10 := List.mem_range.mp hk
  match k, hk with
  | 0, _ => exact ly_X5_0
  | 1, _ => exact ly_X5_1
  | 2, _ => exact ly_X5_2
  | 3, _ => exact ly_X5_3
  | 4, _ => exact ly_X5_4
  | 5, _ => exact ly_X5_5
  | 6, _ => exact ly_X5_6
  | 7, _ => exact ly_X5_7
  | 8, _ => exact ly_X5_8
  | 9, _ => exact ly_X5_9
  | k + 10, h => exact absurd h (by omega)
theorem ly_X3_0 : u_lay RX3 TX3 0 ∈ tb := mt (i_t1 _ (List.mem_of_getElem? (i := 92) rfl)) rfl
theorem ly_X3_1 : u_lay RX3 TX3 1 ∈ tb := mt (i_t1 _ (List.mem_of_getElem? (i := 94) rfl)) rfl
theorem ly_X3_2 : u_lay RX3 TX3 2 ∈ tb := mt (i_t1 _ (List.mem_of_getElem? (i := 96) rfl)) rfl
theorem ly_X3_3 : u_lay RX3 TX3 3 ∈ tb := mt (i_t1 _ (List.mem_of_getElem? (i := 98) rfl)) rfl
theorem ly_X3_4 : u_lay RX3 TX3 4 ∈ tb := mt (i_t1 _ (List.mem_of_getElem? (i := 100) rfl)) rfl
theorem inX3 : ∀ w ∈ u_ws RX3 TX3 5, w ∈ tb := by
  intro w hw
  obtain ⟨k, hk, rfl⟩ := List.mem_map.mp hw
  have hk : k < 5 := List.mem_range.mp hk
  match k, hk with
  | 0, _ => exact ly_X3_0
  | 1, _ => exact ly_X3_1
  | 2, _ => exact ly_X3_2
  | 3, _ => exact ly_X3_3
  | 4, _ => exact ly_X3_4
  | k + 5, h => exact absurd h (by omega)
theorem ly_X4_0 : u_lay RX4 TX4 0 ∈ tb := mt (i_t1 _ (List.mem_of_getElem? (i := 108) rfl)) rfl
theorem ly_X4_1 : u_lay RX4 TX4 1 ∈ tb := mt (i_t1 _ (List.mem_of_getElem? (i := 110) rfl)) rfl
theorem ly_X4_2 : u_lay RX4 TX4 2 ∈ tb := mt (i_t1 _ (List.mem_of_getElem? (i := 112) rfl)) rfl
theorem ly_X4_3 : u_lay RX4 TX4 3 ∈ tb := mt (i_t1 _ (List.mem_of_getElem? (i := 114) rfl)) rfl
theorem ly_X4_4 : u_lay RX4 TX4 4 ∈ tb := mt (i_t1 _ (List.mem_of_getElem? (i := 116) rfl)) rfl
theorem inX4 : ∀ w ∈ u_ws RX4 TX4 5, w ∈ tb := by
  intro w hw
  obtain ⟨k, hk, rfl⟩ := List.mem_map.mp hw
  have hk : k < 5 := List.mem_range.mp hk
  match k, hk with
  | 0, _ => exact ly_X4_0
  | 1, _ => exact ly_X4_1
  | 2, _ => exact ly_X4_2
  | 3, _ => exact ly_X4_3
  | 4, _ => exact ly_X4_4
  | k + 5, h => exact absurd h (by omega)
theorem ly_X1_0 : u_lay RX1 TX1 0 ∈ tb := mt (i_t1 _ (List.mem_of_getElem? (i := 131) rfl)) rfl
theorem ly_X1_1 : u_lay RX1 TX1 1 ∈ tb := mt (i_t1 _ (List.mem_of_getElem? (i := 133) rfl)) rfl
theorem ly_X1_2 : u_lay RX1 TX1 2 ∈ tb := mt (i_t1 _ (List.mem_of_getElem? (i := 135) rfl)) rfl
theorem ly_X1_3 : u_lay RX1 TX1 3 ∈ tb := mt (i_t1 _ (List.mem_of_getElem? (i := 137) rfl)) rfl
theorem inX1 : ∀ w ∈ u_ws RX1 TX1 4, w ∈ tb := by
  intro w hw
  obtain ⟨k, hk, rfl⟩ := List.mem_map.mp hw
  have hk : k < 4 := List.mem_range.mp hk
  match k, hk with
  | 0, _ => exact ly_X1_0
  | 1, _ => exact ly_X1_1
  | 2, _ => exact ly_X1_2
  | 3, _ => exact ly_X1_3
  | k + 4, h => exact absurd h (by omega)
theorem ly_X0_0 : u_lay RX0 TX0 0 ∈ tb := mt (i_t1 _ (List.mem_of_getElem? (i := 151) rfl)) rfl
theorem ly_X0_1 : u_lay RX0 TX0 1 ∈ tb := mt (i_t1 _ (List.mem_of_getElem? (i := 153) rfl)) rfl
theorem ly_X0_2 : u_lay RX0 TX0 2 ∈ tb := mt (i_t1 _ (List.mem_of_getElem? (i := 155) rfl)) rfl
theorem ly_X0_3 : u_lay RX0 TX0 3 ∈ tb := mt (i_t1 _ (List.mem_of_getElem? (i := 157) rfl)) rfl
theorem ly_X0_4 : u_lay RX0 TX0 4 ∈ tb := mt (i_t1 _ (List.mem_of_getElem? (i := 159) rfl)) rfl
theorem inX0 : ∀ w ∈ u_ws RX0 TX0 5, w ∈ tb := by
  intro w hw
  obtain ⟨k, hk, rfl⟩ := List.mem_map.mp hw
  have hk : k < 5 := List.mem_range.mp hk
  match k, hk with
  | 0, _ => exact ly_X0_0
  | 1, _ => exact ly_X0_1
  | 2, _ => exact ly_X0_2
  | 3, _ => exact ly_X0_3
  | 4, _ => exact ly_X0_4
  | k + 5, h => exact absurd h (by omega)
theorem ly_X6_0 : u_lay RX6 TX6 0 ∈ tb := mt (i_t1 _ (List.mem_of_getElem? (i := 169) rfl)) rfl
theorem ly_X6_1 : u_lay RX6 TX6 1 ∈ tb := mt (i_t1 _ (List.mem_of_getElem? (i := 171) rfl)) rfl
theorem ly_X6_2 : u_lay RX6 TX6 2 ∈ tb := mt (i_t1 _ (List.mem_of_getElem? (i := 173) rfl)) rfl
theorem ly_X6_3 : u_lay RX6 TX6 3 ∈ tb := mt (i_t1 _ (List.mem_of_getElem? (i := 175) rfl)) rfl
theorem ly_X6_4 : u_lay RX6 TX6 4 ∈ tb := mt (i_t1 _ (List.mem_of_getElem? (i := 177) rfl)) rfl
theorem ly_X6_5 : u_lay RX6 TX6 5 ∈ tb := mt (i_t1 _ (List.mem_of_getElem? (i := 179) rfl)) rfl
theorem inX6 : ∀ w ∈ u_ws RX6 TX6 6, w ∈ tb := by
  intro w hw
  obtain ⟨k, hk, rfl⟩ := List.mem_map.mp hw
  have hk : k < 6 := List.mem_range.mp hk
  match k, hk with
  | 0, _ => exact ly_X6_0
  | 1, _ => exact ly_X6_1
  | 2, _ => exact ly_X6_2
  | 3, _ => exact ly_X6_3
  | 4, _ => exact ly_X6_4
  | 5, _ => exact ly_X6_5
  | k + 6, h => exact absurd h (by omega)
theorem ly_X7_0 : u_lay RX7 TX7 0 ∈ tb := mt (i_t3 _ (List.mem_of_getElem? (i := 70) rfl)) rfl
theorem ly_X7_1 : u_lay RX7 TX7 1 ∈ tb := mt (i_t3 _ (List.mem_of_getElem? (i := 72) rfl)) rfl
theorem ly_X7_2 : u_lay RX7 TX7 2 ∈ tb := mt (i_t3 _ (List.mem_of_getElem? (i := 74) rfl)) rfl
theorem ly_X7_3 : u_lay RX7 TX7 3 ∈ tb := mt (i_t3 _ (List.mem_of_getElem? (i := 76) rfl)) rfl
theorem ly_X7_4 : u_lay RX7 TX7 4 ∈ tb := mt (i_t3 _ (List.mem_of_getElem? (i := 78) rfl)) rfl
theorem ly_X7_5 : u_lay RX7 TX7 5 ∈ tb := mt (i_t3 _ (List.mem_of_getElem? (i := 80) rfl)) rfl
theorem ly_X7_6 : u_lay RX7 TX7 6 ∈ tb := mt (i_t3 _ (List.mem_of_getElem? (i := 82) rfl)) rfl
theorem ly_X7_7 : u_lay RX7 TX7 7 ∈ tb := mt (i_t3 _ (List.mem_of_getElem? (i := 84) rfl)) rfl
theorem ly_X7_8 : u_lay RX7 TX7 8 ∈ tb := mt (i_t3 _ (List.mem_of_getElem? (i := 86) rfl)) rfl
theorem ly_X7_9 : u_lay RX7 TX7 9 ∈ tb := mt (i_t3 _ (List.mem_of_getElem? (i := 88) rfl)) rfl
theorem ly_X7_10 : u_lay RX7 TX7 10 ∈ tb := mt (i_t3 _ (List.mem_of_getElem? (i := 90) rfl)) rfl
theorem ly_X7_11 : u_lay RX7 TX7 11 ∈ tb := mt (i_t3 _ (List.mem_of_getElem? (i := 92) rfl)) rfl
theorem ly_X7_12 : u_lay RX7 TX7 12 ∈ tb := mt (i_t3 _ (List.mem_of_getElem? (i := 94) rfl)) rfl
theorem ly_X7_13 : u_lay RX7 TX7 13 ∈ tb := mt (i_t3 _ (List.mem_of_getElem? (i := 96) rfl)) rfl
theorem ly_X7_14 : u_lay RX7 TX7 14 ∈ tb := mt (i_t3 _ (List.mem_of_getElem? (i := 98) rfl)) rfl
theorem ly_X7_15 : u_lay RX7 TX7 15 ∈ tb := mt (i_t3 _ (List.mem_of_getElem? (i := 100) rfl)) rfl
theorem ly_X7_16 : u_lay RX7 TX7 16 ∈ tb := mt (i_t3 _ (List.mem_of_getElem? (i := 102) rfl)) rfl
theorem ly_X7_17 : u_lay RX7 TX7 17 ∈ tb := mt (i_t3 _ (List.mem_of_getElem? (i := 104) rfl)) rfl
theorem ly_X7_18 : u_lay RX7 TX7 18 ∈ tb := mt (i_t3 _ (List.mem_of_getElem? (i := 106) rfl)) rfl
theorem ly_X7_19 : u_lay RX7 TX7 19 ∈ tb := mt (i_t3 _ (List.mem_of_getElem? (i := 108) rfl)) rfl
theorem ly_X7_20 : u_lay RX7 TX7 20 ∈ tb := mt (i_t3 _ (List.mem_of_getElem? (i := 110) rfl)) rfl
theorem ly_X7_21 : u_lay RX7 TX7 21 ∈ tb := mt (i_t3 _ (List.mem_of_getElem? (i := 112) rfl)) rfl
theorem ly_X7_22 : u_lay RX7 TX7 22 ∈ tb := mt (i_t3 _ (List.mem_of_getElem? (i := 114) rfl)) rfl
theorem ly_X7_23 : u_lay RX7 TX7 23 ∈ tb := mt (i_t3 _ (List.mem_of_getElem? (i := 116) rfl)) rfl
theorem ly_X7_24 : u_lay RX7 TX7 24 ∈ tb := mt (i_t3 _ (List.mem_of_getElem? (i := 118) rfl)) rfl
theorem ly_X7_25 : u_lay RX7 TX7 25 ∈ tb := mt (i_t3 _ (List.mem_of_getElem? (i := 120) rfl)) rfl
theorem inX7 : ∀ w ∈ u_ws RX7 TX7 26, w ∈ tb := by
  intro w hw
  obtain ⟨k, hk, rfl⟩ := List.mem_map.mp hw
  have hk : k < 26 := List.mem_range.mp hk
  match k, hk with
  | 0, _ => exact ly_X7_0
  | 1, _ => exact ly_X7_1
  | 2, _ => exact ly_X7_2
  | 3, _ => exact ly_X7_3
  | 4, _ => exact ly_X7_4
  | 5, _ => exact ly_X7_5
  | 6, _ => exact ly_X7_6
  | 7, _ => exact ly_X7_7
  | 8, _ => exact ly_X7_8
  | 9, _ => exact ly_X7_9
  | 10, _ => exact ly_X7_10
  | 11, _ => exact ly_X7_11
  | 12, _ => exact ly_X7_12
  | 13, _ => exact ly_X7_13
  | 14, _ => exact ly_X7_14
  | 15, _ => exact ly_X7_15
  | 16, _ => exact ly_X7_16
  | 17, _ => exact ly_X7_17
  | 18, _ => exact ly_X7_18
  | 19, _ => exact ly_X7_19
  | 20, _ => exact ly_X7_20
  | 21, _ => exact ly_X7_21
  | 22, _ => exact ly_X7_22
  | 23, _ => exact ly_X7_23
  | 24, _ => exact ly_X7_24
  | 25, _ => exact ly_X7_25
  | k + 26, h => exact absurd h (by omega)
end
section
theorem dX0_init_0 : decode cX0_init 0 = .ok (.aload_n 0, 1) := by decide +kernel
theorem dX0_init_1 : decode cX0_init 1 = .ok (.invokespecial 3, 3) := by decide +kernel
theorem dX0_init_4 : decode cX0_init 4 = .ok (.aload_n 0, 1) := by decide +kernel
theorem dX0_init_5 : decode cX0_init 5 = .ok (.aload_n 1, 1) := by decide +kernel
theorem dX0_init_6 : decode cX0_init 6 = .ok (.putfield 9, 3) := by decide +kernel
theorem dX0_init_9 : decode cX0_init 9 = .ok (.aload_n 0, 1) := by decide +kernel
theorem dX0_init_10 : decode cX0_init 10 = .ok (.bipush 40, 2) := by decide +kernel
theorem dX0_init_12 : decode cX0_init 12 = .ok (.newarray .long, 2) := by decide +kernel
theorem dX0_init_14 : decode cX0_init 14 = .ok (.putfield 15, 3) := by decide +kernel
theorem dX0_init_17 : decode cX0_init 17 = .ok (.aload_n 0, 1) := by decide +kernel
theorem dX0_init_18 : decode cX0_init 18 = .ok (.lconst 0, 1) := by decide +kernel
theorem dX0_init_19 : decode cX0_init 19 = .ok (.putfield 19, 3) := by decide +kernel
theorem dX0_init_22 : decode cX0_init 22 = .ok (.aload_n 0, 1) := by decide +kernel
theorem dX0_init_23 : decode cX0_init 23 = .ok (.iconst 0, 1) := by decide +kernel
theorem dX0_init_24 : decode cX0_init 24 = .ok (.putfield 23, 3) := by decide +kernel
theorem dX0_init_27 : decode cX0_init 27 = .ok (.aload_n 0, 1) := by decide +kernel
theorem dX0_init_28 : decode cX0_init 28 = .ok (.iconst 0, 1) := by decide +kernel
theorem dX0_init_29 : decode cX0_init 29 = .ok (.putfield 27, 3) := by decide +kernel
theorem dX0_init_32 : decode cX0_init 32 = .ok (.return_, 1) := by decide +kernel
theorem dX0_start_0 : decode cX0_start 0 = .ok (.aload_n 0, 1) := by decide +kernel
theorem dX0_start_1 : decode cX0_start 1 = .ok (.iload_n 1, 1) := by decide +kernel
theorem dX0_start_2 : decode cX0_start 2 = .ok (.putfield 23, 3) := by decide +kernel
theorem dX0_start_5 : decode cX0_start 5 = .ok (.aload_n 0, 1) := by decide +kernel
theorem dX0_start_6 : decode cX0_start 6 = .ok (.iload_n 2, 1) := by decide +kernel
theorem dX0_start_7 : decode cX0_start 7 = .ok (.putfield 27, 3) := by decide +kernel
theorem dX0_start_10 : decode cX0_start 10 = .ok (.aload_n 0, 1) := by decide +kernel
theorem dX0_start_11 : decode cX0_start 11 = .ok (.lconst 0, 1) := by decide +kernel
theorem dX0_start_12 : decode cX0_start 12 = .ok (.putfield 19, 3) := by decide +kernel
theorem dX0_start_15 : decode cX0_start 15 = .ok (.iconst 0, 1) := by decide +kernel
theorem dX0_start_16 : decode cX0_start 16 = .ok (.istore_n 3, 1) := by decide +kernel
theorem dX0_start_17 : decode cX0_start 17 = .ok (.iload_n 3, 1) := by decide +kernel
theorem dX0_start_18 : decode cX0_start 18 = .ok (.bipush 40, 2) := by decide +kernel
theorem dX0_start_20 : decode cX0_start 20 = .ok (.if_icmp .ge 16, 3) := by decide +kernel
theorem dX0_start_23 : decode cX0_start 23 = .ok (.aload_n 0, 1) := by decide +kernel
theorem dX0_start_24 : decode cX0_start 24 = .ok (.getfield 15, 3) := by decide +kernel
theorem dX0_start_27 : decode cX0_start 27 = .ok (.iload_n 3, 1) := by decide +kernel
theorem dX0_start_28 : decode cX0_start 28 = .ok (.lconst 0, 1) := by decide +kernel
theorem dX0_start_29 : decode cX0_start 29 = .ok (.lastore, 1) := by decide +kernel
theorem dX0_start_30 : decode cX0_start 30 = .ok (.iinc 3 1, 3) := by decide +kernel
theorem dX0_start_33 : decode cX0_start 33 = .ok (.goto (-16), 3) := by decide +kernel
theorem dX0_start_36 : decode cX0_start 36 = .ok (.return_, 1) := by decide +kernel
theorem dX0_add_0 : decode cX0_add 0 = .ok (.aload_n 0, 1) := by decide +kernel
theorem dX0_add_1 : decode cX0_add 1 = .ok (.iload_n 1, 1) := by decide +kernel
theorem dX0_add_2 : decode cX0_add 2 = .ok (.iload_n 2, 1) := by decide +kernel
theorem dX0_add_3 : decode cX0_add 3 = .ok (.iconst 0, 1) := by decide +kernel
theorem dX0_add_4 : decode cX0_add 4 = .ok (.invokestatic 30, 3) := by decide +kernel
theorem dX0_add_7 : decode cX0_add 7 = .ok (.return_, 1) := by decide +kernel
theorem dX0_stayingOn_0 : decode cX0_stayingOn 0 = .ok (.aload_n 0, 1) := by decide +kernel
theorem dX0_stayingOn_1 : decode cX0_stayingOn 1 = .ok (.getfield 15, 3) := by decide +kernel
theorem dX0_stayingOn_4 : decode cX0_stayingOn 4 = .ok (.iload_n 1, 1) := by decide +kernel
theorem dX0_stayingOn_5 : decode cX0_stayingOn 5 = .ok (.laload, 1) := by decide +kernel
theorem dX0_stayingOn_6 : decode cX0_stayingOn 6 = .ok (.lreturn, 1) := by decide +kernel
theorem dX0_nowhere_0 : decode cX0_nowhere 0 = .ok (.aload_n 0, 1) := by decide +kernel
theorem dX0_nowhere_1 : decode cX0_nowhere 1 = .ok (.getfield 19, 3) := by decide +kernel
theorem dX0_nowhere_4 : decode cX0_nowhere 4 = .ok (.lreturn, 1) := by decide +kernel
theorem dX0_carry_0 : decode cX0_carry 0 = .ok (.aload_n 0, 1) := by decide +kernel
theorem dX0_carry_1 : decode cX0_carry 1 = .ok (.getfield 9, 3) := by decide +kernel
theorem dX0_carry_4 : decode cX0_carry 4 = .ok (.astore 4, 2) := by decide +kernel
theorem dX0_carry_6 : decode cX0_carry 6 = .ok (.iload_n 2, 1) := by decide +kernel
theorem dX0_carry_7 : decode cX0_carry 7 = .ok (.ifCond .eq 18, 3) := by decide +kernel
theorem dX0_carry_10 : decode cX0_carry 10 = .ok (.iload_n 3, 1) := by decide +kernel
theorem dX0_carry_11 : decode cX0_carry 11 = .ok (.bipush 40, 2) := by decide +kernel
theorem dX0_carry_13 : decode cX0_carry 13 = .ok (.if_icmp .ge 12, 3) := by decide +kernel
theorem dX0_carry_16 : decode cX0_carry 16 = .ok (.aload 4, 2) := by decide +kernel
theorem dX0_carry_18 : decode cX0_carry 18 = .ok (.iload_n 1, 1) := by decide +kernel
theorem dX0_carry_19 : decode cX0_carry 19 = .ok (.invokevirtual 34, 3) := by decide +kernel
theorem dX0_carry_22 : decode cX0_carry 22 = .ok (.ifCond .ne 4, 3) := by decide +kernel
theorem dX0_carry_25 : decode cX0_carry 25 = .ok (.return_, 1) := by decide +kernel
theorem dX0_carry_26 : decode cX0_carry 26 = .ok (.aload 4, 2) := by decide +kernel
theorem dX0_carry_28 : decode cX0_carry 28 = .ok (.iload_n 1, 1) := by decide +kernel
theorem dX0_carry_29 : decode cX0_carry 29 = .ok (.aload_n 0, 1) := by decide +kernel
theorem dX0_carry_30 : decode cX0_carry 30 = .ok (.getfield 23, 3) := by decide +kernel
theorem dX0_carry_33 : decode cX0_carry 33 = .ok (.aload_n 0, 1) := by decide +kernel
theorem dX0_carry_34 : decode cX0_carry 34 = .ok (.getfield 27, 3) := by decide +kernel
theorem dX0_carry_37 : decode cX0_carry 37 = .ok (.invokevirtual 40, 3) := by decide +kernel
theorem dX0_carry_40 : decode cX0_carry 40 = .ok (.ifCond .eq 15, 3) := by decide +kernel
theorem dX0_carry_43 : decode cX0_carry 43 = .ok (.aload_n 0, 1) := by decide +kernel
theorem dX0_carry_44 : decode cX0_carry 44 = .ok (.getfield 15, 3) := by decide +kernel
theorem dX0_carry_47 : decode cX0_carry 47 = .ok (.iload_n 1, 1) := by decide +kernel
theorem dX0_carry_48 : decode cX0_carry 48 = .ok (.dup2, 1) := by decide +kernel
theorem dX0_carry_49 : decode cX0_carry 49 = .ok (.laload, 1) := by decide +kernel
theorem dX0_carry_50 : decode cX0_carry 50 = .ok (.iload_n 2, 1) := by decide +kernel
theorem dX0_carry_51 : decode cX0_carry 51 = .ok (.i2l, 1) := by decide +kernel
theorem dX0_carry_52 : decode cX0_carry 52 = .ok (.ladd, 1) := by decide +kernel
theorem dX0_carry_53 : decode cX0_carry 53 = .ok (.lastore, 1) := by decide +kernel
theorem dX0_carry_54 : decode cX0_carry 54 = .ok (.return_, 1) := by decide +kernel
theorem dX0_carry_55 : decode cX0_carry 55 = .ok (.aload_n 0, 1) := by decide +kernel
theorem dX0_carry_56 : decode cX0_carry 56 = .ok (.getfield 23, 3) := by decide +kernel
theorem dX0_carry_59 : decode cX0_carry 59 = .ok (.aload 4, 2) := by decide +kernel
theorem dX0_carry_61 : decode cX0_carry 61 = .ok (.iload_n 1, 1) := by decide +kernel
theorem dX0_carry_62 : decode cX0_carry 62 = .ok (.invokevirtual 44, 3) := by decide +kernel
theorem dX0_carry_65 : decode cX0_carry 65 = .ok (.if_icmp .ge 7, 3) := by decide +kernel
theorem dX0_carry_68 : decode cX0_carry 68 = .ok (.iconst 1, 1) := by decide +kernel
theorem dX0_carry_69 : decode cX0_carry 69 = .ok (.goto 13, 3) := by decide +kernel
theorem dX0_carry_72 : decode cX0_carry 72 = .ok (.aload 4, 2) := by decide +kernel
theorem dX0_carry_74 : decode cX0_carry 74 = .ok (.iload_n 1, 1) := by decide +kernel
theorem dX0_carry_75 : decode cX0_carry 75 = .ok (.aload_n 0, 1) := by decide +kernel
theorem dX0_carry_76 : decode cX0_carry 76 = .ok (.getfield 27, 3) := by decide +kernel
theorem dX0_carry_79 : decode cX0_carry 79 = .ok (.invokevirtual 48, 3) := by decide +kernel
theorem dX0_carry_82 : decode cX0_carry 82 = .ok (.istore 5, 2) := by decide +kernel
theorem dX0_carry_84 : decode cX0_carry 84 = .ok (.aload 4, 2) := by decide +kernel
theorem dX0_carry_86 : decode cX0_carry 86 = .ok (.iload_n 1, 1) := by decide +kernel
theorem dX0_carry_87 : decode cX0_carry 87 = .ok (.aload_n 0, 1) := by decide +kernel
theorem dX0_carry_88 : decode cX0_carry 88 = .ok (.getfield 27, 3) := by decide +kernel
theorem dX0_carry_91 : decode cX0_carry 91 = .ok (.invokevirtual 52, 3) := by decide +kernel
theorem dX0_carry_94 : decode cX0_carry 94 = .ok (.istore 6, 2) := by decide +kernel
theorem dX0_carry_96 : decode cX0_carry 96 = .ok (.iload 5, 2) := by decide +kernel
theorem dX0_carry_98 : decode cX0_carry 98 = .ok (.iconst 2, 1) := by decide +kernel
theorem dX0_carry_99 : decode cX0_carry 99 = .ok (.if_icmp .ne 41, 3) := by decide +kernel
theorem dX0_carry_102 : decode cX0_carry 102 = .ok (.aload 4, 2) := by decide +kernel
theorem dX0_carry_104 : decode cX0_carry 104 = .ok (.iload_n 1, 1) := by decide +kernel
theorem dX0_carry_105 : decode cX0_carry 105 = .ok (.iload_n 2, 1) := by decide +kernel
theorem dX0_carry_106 : decode cX0_carry 106 = .ok (.invokevirtual 55, 3) := by decide +kernel
theorem dX0_carry_109 : decode cX0_carry 109 = .ok (.istore 7, 2) := by decide +kernel
theorem dX0_carry_111 : decode cX0_carry 111 = .ok (.aload_n 0, 1) := by decide +kernel
theorem dX0_carry_112 : decode cX0_carry 112 = .ok (.iload 6, 2) := by decide +kernel
theorem dX0_carry_114 : decode cX0_carry 114 = .ok (.iload 7, 2) := by decide +kernel
theorem dX0_carry_116 : decode cX0_carry 116 = .ok (.iload_n 3, 1) := by decide +kernel
theorem dX0_carry_117 : decode cX0_carry 117 = .ok (.iconst 1, 1) := by decide +kernel
theorem dX0_carry_118 : decode cX0_carry 118 = .ok (.iadd, 1) := by decide +kernel
theorem dX0_carry_119 : decode cX0_carry 119 = .ok (.invokestatic 30, 3) := by decide +kernel
theorem dX0_carry_122 : decode cX0_carry 122 = .ok (.aload_n 0, 1) := by decide +kernel
theorem dX0_carry_123 : decode cX0_carry 123 = .ok (.iload 6, 2) := by decide +kernel
theorem dX0_carry_125 : decode cX0_carry 125 = .ok (.iconst 1, 1) := by decide +kernel
theorem dX0_carry_126 : decode cX0_carry 126 = .ok (.iadd, 1) := by decide +kernel
theorem dX0_carry_127 : decode cX0_carry 127 = .ok (.iload_n 2, 1) := by decide +kernel
theorem dX0_carry_128 : decode cX0_carry 128 = .ok (.iload 7, 2) := by decide +kernel
theorem dX0_carry_130 : decode cX0_carry 130 = .ok (.isub, 1) := by decide +kernel
theorem dX0_carry_131 : decode cX0_carry 131 = .ok (.iload_n 3, 1) := by decide +kernel
theorem dX0_carry_132 : decode cX0_carry 132 = .ok (.iconst 1, 1) := by decide +kernel
theorem dX0_carry_133 : decode cX0_carry 133 = .ok (.iadd, 1) := by decide +kernel
theorem dX0_carry_134 : decode cX0_carry 134 = .ok (.invokestatic 30, 3) := by decide +kernel
theorem dX0_carry_137 : decode cX0_carry 137 = .ok (.goto 33, 3) := by decide +kernel
theorem dX0_carry_140 : decode cX0_carry 140 = .ok (.iload 5, 2) := by decide +kernel
theorem dX0_carry_142 : decode cX0_carry 142 = .ok (.iconst 3, 1) := by decide +kernel
theorem dX0_carry_143 : decode cX0_carry 143 = .ok (.if_icmp .ne 16, 3) := by decide +kernel
theorem dX0_carry_146 : decode cX0_carry 146 = .ok (.aload_n 0, 1) := by decide +kernel
theorem dX0_carry_147 : decode cX0_carry 147 = .ok (.iload 6, 2) := by decide +kernel
theorem dX0_carry_149 : decode cX0_carry 149 = .ok (.iload_n 2, 1) := by decide +kernel
theorem dX0_carry_150 : decode cX0_carry 150 = .ok (.iload_n 3, 1) := by decide +kernel
theorem dX0_carry_151 : decode cX0_carry 151 = .ok (.iconst 1, 1) := by decide +kernel
theorem dX0_carry_152 : decode cX0_carry 152 = .ok (.iadd, 1) := by decide +kernel
theorem dX0_carry_153 : decode cX0_carry 153 = .ok (.invokestatic 30, 3) := by decide +kernel
theorem dX0_carry_156 : decode cX0_carry 156 = .ok (.goto 14, 3) := by decide +kernel
theorem dX0_carry_159 : decode cX0_carry 159 = .ok (.aload_n 0, 1) := by decide +kernel
theorem dX0_carry_160 : decode cX0_carry 160 = .ok (.dup, 1) := by decide +kernel
theorem dX0_carry_161 : decode cX0_carry 161 = .ok (.getfield 19, 3) := by decide +kernel
theorem dX0_carry_164 : decode cX0_carry 164 = .ok (.iload_n 2, 1) := by decide +kernel
theorem dX0_carry_165 : decode cX0_carry 165 = .ok (.i2l, 1) := by decide +kernel
theorem dX0_carry_166 : decode cX0_carry 166 = .ok (.ladd, 1) := by decide +kernel
theorem dX0_carry_167 : decode cX0_carry 167 = .ok (.putfield 19, 3) := by decide +kernel
theorem dX0_carry_170 : decode cX0_carry 170 = .ok (.return_, 1) := by decide +kernel
theorem dX1_init_0 : decode cX1_init 0 = .ok (.aload_n 0, 1) := by decide +kernel
theorem dX1_init_1 : decode cX1_init 1 = .ok (.invokespecial 3, 3) := by decide +kernel
theorem dX1_init_4 : decode cX1_init 4 = .ok (.aload_n 0, 1) := by decide +kernel
theorem dX1_init_5 : decode cX1_init 5 = .ok (.new 9, 3) := by decide +kernel
theorem dX1_init_8 : decode cX1_init 8 = .ok (.dup, 1) := by decide +kernel
theorem dX1_init_9 : decode cX1_init 9 = .ok (.aload_n 1, 1) := by decide +kernel
theorem dX1_init_10 : decode cX1_init 10 = .ok (.sipush 200, 3) := by decide +kernel
theorem dX1_init_13 : decode cX1_init 13 = .ok (.invokespecial 11, 3) := by decide +kernel
theorem dX1_init_16 : decode cX1_init 16 = .ok (.putfield 14, 3) := by decide +kernel
theorem dX1_init_19 : decode cX1_init 19 = .ok (.aload_n 0, 1) := by decide +kernel
theorem dX1_init_20 : decode cX1_init 20 = .ok (.sipush 200, 3) := by decide +kernel
theorem dX1_init_23 : decode cX1_init 23 = .ok (.newarray .int, 2) := by decide +kernel
theorem dX1_init_25 : decode cX1_init 25 = .ok (.putfield 20, 3) := by decide +kernel
theorem dX1_init_28 : decode cX1_init 28 = .ok (.aload_n 0, 1) := by decide +kernel
theorem dX1_init_29 : decode cX1_init 29 = .ok (.sipush 200, 3) := by decide +kernel
theorem dX1_init_32 : decode cX1_init 32 = .ok (.newarray .int, 2) := by decide +kernel
theorem dX1_init_34 : decode cX1_init 34 = .ok (.putfield 24, 3) := by decide +kernel
theorem dX1_init_37 : decode cX1_init 37 = .ok (.aload_n 0, 1) := by decide +kernel
theorem dX1_init_38 : decode cX1_init 38 = .ok (.sipush 200, 3) := by decide +kernel
theorem dX1_init_41 : decode cX1_init 41 = .ok (.newarray .int, 2) := by decide +kernel
theorem dX1_init_43 : decode cX1_init 43 = .ok (.putfield 27, 3) := by decide +kernel
theorem dX1_init_46 : decode cX1_init 46 = .ok (.return_, 1) := by decide +kernel
theorem dX1_size_0 : decode cX1_size 0 = .ok (.aload_n 0, 1) := by decide +kernel
theorem dX1_size_1 : decode cX1_size 1 = .ok (.getfield 14, 3) := by decide +kernel
theorem dX1_size_4 : decode cX1_size 4 = .ok (.invokevirtual 30, 3) := by decide +kernel
theorem dX1_size_7 : decode cX1_size 7 = .ok (.ireturn, 1) := by decide +kernel
theorem dX1_isFull_0 : decode cX1_isFull 0 = .ok (.aload_n 0, 1) := by decide +kernel
theorem dX1_isFull_1 : decode cX1_isFull 1 = .ok (.getfield 14, 3) := by decide +kernel
theorem dX1_isFull_4 : decode cX1_isFull 4 = .ok (.invokevirtual 34, 3) := by decide +kernel
theorem dX1_isFull_7 : decode cX1_isFull 7 = .ok (.ireturn, 1) := by decide +kernel
theorem dX1_sizeOfLoad_0 : decode cX1_sizeOfLoad 0 = .ok (.aload_n 0, 1) := by decide +kernel
theorem dX1_sizeOfLoad_1 : decode cX1_sizeOfLoad 1 = .ok (.getfield 14, 3) := by decide +kernel
theorem dX1_sizeOfLoad_4 : decode cX1_sizeOfLoad 4 = .ok (.iload_n 1, 1) := by decide +kernel
theorem dX1_sizeOfLoad_5 : decode cX1_sizeOfLoad 5 = .ok (.invokevirtual 38, 3) := by decide +kernel
theorem dX1_sizeOfLoad_8 : decode cX1_sizeOfLoad 8 = .ok (.ireturn, 1) := by decide +kernel
theorem dX1_isKnown_0 : decode cX1_isKnown 0 = .ok (.aload_n 0, 1) := by decide +kernel
theorem dX1_isKnown_1 : decode cX1_isKnown 1 = .ok (.getfield 14, 3) := by decide +kernel
theorem dX1_isKnown_4 : decode cX1_isKnown 4 = .ok (.iload_n 1, 1) := by decide +kernel
theorem dX1_isKnown_5 : decode cX1_isKnown 5 = .ok (.iload_n 2, 1) := by decide +kernel
theorem dX1_isKnown_6 : decode cX1_isKnown 6 = .ok (.invokevirtual 42, 3) := by decide +kernel
theorem dX1_isKnown_9 : decode cX1_isKnown 9 = .ok (.ireturn, 1) := by decide +kernel
theorem dX1_add_0 : decode cX1_add 0 = .ok (.aload_n 0, 1) := by decide +kernel
theorem dX1_add_1 : decode cX1_add 1 = .ok (.getfield 14, 3) := by decide +kernel
theorem dX1_add_4 : decode cX1_add 4 = .ok (.iload 4, 2) := by decide +kernel
theorem dX1_add_6 : decode cX1_add 6 = .ok (.invokevirtual 46, 3) := by decide +kernel
theorem dX1_add_9 : decode cX1_add 9 = .ok (.istore 5, 2) := by decide +kernel
theorem dX1_add_11 : decode cX1_add 11 = .ok (.iload 5, 2) := by decide +kernel
theorem dX1_add_13 : decode cX1_add 13 = .ok (.iconst (-1), 1) := by decide +kernel
theorem dX1_add_14 : decode cX1_add 14 = .ok (.if_icmp .ne 5, 3) := by decide +kernel
theorem dX1_add_17 : decode cX1_add 17 = .ok (.iconst (-1), 1) := by decide +kernel
theorem dX1_add_18 : decode cX1_add 18 = .ok (.ireturn, 1) := by decide +kernel
theorem dX1_add_19 : decode cX1_add 19 = .ok (.aload_n 0, 1) := by decide +kernel
theorem dX1_add_20 : decode cX1_add 20 = .ok (.getfield 20, 3) := by decide +kernel
theorem dX1_add_23 : decode cX1_add 23 = .ok (.iload 5, 2) := by decide +kernel
theorem dX1_add_25 : decode cX1_add 25 = .ok (.iload_n 1, 1) := by decide +kernel
theorem dX1_add_26 : decode cX1_add 26 = .ok (.iastore, 1) := by decide +kernel
theorem dX1_add_27 : decode cX1_add 27 = .ok (.aload_n 0, 1) := by decide +kernel
theorem dX1_add_28 : decode cX1_add 28 = .ok (.getfield 24, 3) := by decide +kernel
theorem dX1_add_31 : decode cX1_add 31 = .ok (.iload 5, 2) := by decide +kernel
theorem dX1_add_33 : decode cX1_add 33 = .ok (.iload_n 2, 1) := by decide +kernel
theorem dX1_add_34 : decode cX1_add 34 = .ok (.iastore, 1) := by decide +kernel
theorem dX1_add_35 : decode cX1_add 35 = .ok (.aload_n 0, 1) := by decide +kernel
theorem dX1_add_36 : decode cX1_add 36 = .ok (.getfield 27, 3) := by decide +kernel
theorem dX1_add_39 : decode cX1_add 39 = .ok (.iload 5, 2) := by decide +kernel
theorem dX1_add_41 : decode cX1_add 41 = .ok (.iload_n 3, 1) := by decide +kernel
theorem dX1_add_42 : decode cX1_add 42 = .ok (.iastore, 1) := by decide +kernel
theorem dX1_add_43 : decode cX1_add 43 = .ok (.iload 5, 2) := by decide +kernel
theorem dX1_add_45 : decode cX1_add 45 = .ok (.ireturn, 1) := by decide +kernel
theorem dX1_codeOf_0 : decode cX1_codeOf 0 = .ok (.aload_n 0, 1) := by decide +kernel
theorem dX1_codeOf_1 : decode cX1_codeOf 1 = .ok (.getfield 20, 3) := by decide +kernel
theorem dX1_codeOf_4 : decode cX1_codeOf 4 = .ok (.iload_n 1, 1) := by decide +kernel
theorem dX1_codeOf_5 : decode cX1_codeOf 5 = .ok (.iaload, 1) := by decide +kernel
theorem dX1_codeOf_6 : decode cX1_codeOf 6 = .ok (.ireturn, 1) := by decide +kernel
theorem dX1_dayOf_0 : decode cX1_dayOf 0 = .ok (.aload_n 0, 1) := by decide +kernel
theorem dX1_dayOf_1 : decode cX1_dayOf 1 = .ok (.getfield 24, 3) := by decide +kernel
theorem dX1_dayOf_4 : decode cX1_dayOf 4 = .ok (.iload_n 1, 1) := by decide +kernel
theorem dX1_dayOf_5 : decode cX1_dayOf 5 = .ok (.iaload, 1) := by decide +kernel
theorem dX1_dayOf_6 : decode cX1_dayOf 6 = .ok (.ireturn, 1) := by decide +kernel
theorem dX1_amountOf_0 : decode cX1_amountOf 0 = .ok (.aload_n 0, 1) := by decide +kernel
theorem dX1_amountOf_1 : decode cX1_amountOf 1 = .ok (.getfield 27, 3) := by decide +kernel
theorem dX1_amountOf_4 : decode cX1_amountOf 4 = .ok (.iload_n 1, 1) := by decide +kernel
theorem dX1_amountOf_5 : decode cX1_amountOf 5 = .ok (.iaload, 1) := by decide +kernel
theorem dX1_amountOf_6 : decode cX1_amountOf 6 = .ok (.ireturn, 1) := by decide +kernel
theorem dX2_init_0 : decode cX2_init 0 = .ok (.aload_n 0, 1) := by decide +kernel
theorem dX2_init_1 : decode cX2_init 1 = .ok (.invokespecial 3, 3) := by decide +kernel
theorem dX2_init_4 : decode cX2_init 4 = .ok (.aload_n 0, 1) := by decide +kernel
theorem dX2_init_5 : decode cX2_init 5 = .ok (.bipush 40, 2) := by decide +kernel
theorem dX2_init_7 : decode cX2_init 7 = .ok (.newarray .int, 2) := by decide +kernel
theorem dX2_init_9 : decode cX2_init 9 = .ok (.putfield 9, 3) := by decide +kernel
theorem dX2_init_12 : decode cX2_init 12 = .ok (.aload_n 0, 1) := by decide +kernel
theorem dX2_init_13 : decode cX2_init 13 = .ok (.getfield 9, 3) := by decide +kernel
theorem dX2_init_16 : decode cX2_init 16 = .ok (.iconst 0, 1) := by decide +kernel
theorem dX2_init_17 : decode cX2_init 17 = .ok (.sipush 2001, 3) := by decide +kernel
theorem dX2_init_20 : decode cX2_init 20 = .ok (.iastore, 1) := by decide +kernel
theorem dX2_init_21 : decode cX2_init 21 = .ok (.aload_n 0, 1) := by decide +kernel
theorem dX2_init_22 : decode cX2_init 22 = .ok (.iconst 1, 1) := by decide +kernel
theorem dX2_init_23 : decode cX2_init 23 = .ok (.putfield 15, 3) := by decide +kernel
theorem dX2_init_26 : decode cX2_init 26 = .ok (.aload_n 0, 1) := by decide +kernel
theorem dX2_init_27 : decode cX2_init 27 = .ok (.iconst 0, 1) := by decide +kernel
theorem dX2_init_28 : decode cX2_init 28 = .ok (.putfield 19, 3) := by decide +kernel
theorem dX2_init_31 : decode cX2_init 31 = .ok (.return_, 1) := by decide +kernel
theorem dX2_open_0 : decode cX2_open 0 = .ok (.aload_n 0, 1) := by decide +kernel
theorem dX2_open_1 : decode cX2_open 1 = .ok (.getfield 15, 3) := by decide +kernel
theorem dX2_open_4 : decode cX2_open 4 = .ok (.iconst 1, 1) := by decide +kernel
theorem dX2_open_5 : decode cX2_open 5 = .ok (.isub, 1) := by decide +kernel
theorem dX2_open_6 : decode cX2_open 6 = .ok (.ireturn, 1) := by decide +kernel
theorem dX2_openNext_0 : decode cX2_openNext 0 = .ok (.aload_n 0, 1) := by decide +kernel
theorem dX2_openNext_1 : decode cX2_openNext 1 = .ok (.getfield 15, 3) := by decide +kernel
theorem dX2_openNext_4 : decode cX2_openNext 4 = .ok (.bipush 40, 2) := by decide +kernel
theorem dX2_openNext_6 : decode cX2_openNext 6 = .ok (.if_icmp .lt 5, 3) := by decide +kernel
theorem dX2_openNext_9 : decode cX2_openNext 9 = .ok (.iconst (-1), 1) := by decide +kernel
theorem dX2_openNext_10 : decode cX2_openNext 10 = .ok (.ireturn, 1) := by decide +kernel
theorem dX2_openNext_11 : decode cX2_openNext 11 = .ok (.aload_n 0, 1) := by decide +kernel
theorem dX2_openNext_12 : decode cX2_openNext 12 = .ok (.getfield 9, 3) := by decide +kernel
theorem dX2_openNext_15 : decode cX2_openNext 15 = .ok (.aload_n 0, 1) := by decide +kernel
theorem dX2_openNext_16 : decode cX2_openNext 16 = .ok (.getfield 15, 3) := by decide +kernel
theorem dX2_openNext_19 : decode cX2_openNext 19 = .ok (.sipush 2001, 3) := by decide +kernel
theorem dX2_openNext_22 : decode cX2_openNext 22 = .ok (.iastore, 1) := by decide +kernel
theorem dX2_openNext_23 : decode cX2_openNext 23 = .ok (.aload_n 0, 1) := by decide +kernel
theorem dX2_openNext_24 : decode cX2_openNext 24 = .ok (.dup, 1) := by decide +kernel
theorem dX2_openNext_25 : decode cX2_openNext 25 = .ok (.getfield 15, 3) := by decide +kernel
theorem dX2_openNext_28 : decode cX2_openNext 28 = .ok (.iconst 1, 1) := by decide +kernel
theorem dX2_openNext_29 : decode cX2_openNext 29 = .ok (.iadd, 1) := by decide +kernel
theorem dX2_openNext_30 : decode cX2_openNext 30 = .ok (.putfield 15, 3) := by decide +kernel
theorem dX2_openNext_33 : decode cX2_openNext 33 = .ok (.aload_n 0, 1) := by decide +kernel
theorem dX2_openNext_34 : decode cX2_openNext 34 = .ok (.invokevirtual 22, 3) := by decide +kernel
theorem dX2_openNext_37 : decode cX2_openNext 37 = .ok (.ireturn, 1) := by decide +kernel
theorem dX2_canBeUndone_0 : decode cX2_canBeUndone 0 = .ok (.iload_n 1, 1) := by decide +kernel
theorem dX2_canBeUndone_1 : decode cX2_canBeUndone 1 = .ok (.ifCond .lt 27, 3) := by decide +kernel
theorem dX2_canBeUndone_4 : decode cX2_canBeUndone 4 = .ok (.iload_n 1, 1) := by decide +kernel
theorem dX2_canBeUndone_5 : decode cX2_canBeUndone 5 = .ok (.aload_n 0, 1) := by decide +kernel
theorem dX2_canBeUndone_6 : decode cX2_canBeUndone 6 = .ok (.invokevirtual 22, 3) := by decide +kernel
theorem dX2_canBeUndone_9 : decode cX2_canBeUndone 9 = .ok (.if_icmp .ge 19, 3) := by decide +kernel
theorem dX2_canBeUndone_12 : decode cX2_canBeUndone 12 = .ok (.aload_n 0, 1) := by decide +kernel
theorem dX2_canBeUndone_13 : decode cX2_canBeUndone 13 = .ok (.getfield 9, 3) := by decide +kernel
theorem dX2_canBeUndone_16 : decode cX2_canBeUndone 16 = .ok (.iload_n 1, 1) := by decide +kernel
theorem dX2_canBeUndone_17 : decode cX2_canBeUndone 17 = .ok (.iaload, 1) := by decide +kernel
theorem dX2_canBeUndone_18 : decode cX2_canBeUndone 18 = .ok (.sipush 2001, 3) := by decide +kernel
theorem dX2_canBeUndone_21 : decode cX2_canBeUndone 21 = .ok (.if_icmp .ne 7, 3) := by decide +kernel
theorem dX2_canBeUndone_24 : decode cX2_canBeUndone 24 = .ok (.iconst 1, 1) := by decide +kernel
theorem dX2_canBeUndone_25 : decode cX2_canBeUndone 25 = .ok (.goto 4, 3) := by decide +kernel
theorem dX2_canBeUndone_28 : decode cX2_canBeUndone 28 = .ok (.iconst 0, 1) := by decide +kernel
theorem dX2_canBeUndone_29 : decode cX2_canBeUndone 29 = .ok (.ireturn, 1) := by decide +kernel
theorem dX2_setUndone_0 : decode cX2_setUndone 0 = .ok (.aload_n 0, 1) := by decide +kernel
theorem dX2_setUndone_1 : decode cX2_setUndone 1 = .ok (.getfield 9, 3) := by decide +kernel
theorem dX2_setUndone_4 : decode cX2_setUndone 4 = .ok (.iload_n 1, 1) := by decide +kernel
theorem dX2_setUndone_5 : decode cX2_setUndone 5 = .ok (.iload_n 2, 1) := by decide +kernel
theorem dX2_setUndone_6 : decode cX2_setUndone 6 = .ok (.iastore, 1) := by decide +kernel
theorem dX2_setUndone_7 : decode cX2_setUndone 7 = .ok (.aload_n 0, 1) := by decide +kernel
theorem dX2_setUndone_8 : decode cX2_setUndone 8 = .ok (.dup, 1) := by decide +kernel
theorem dX2_setUndone_9 : decode cX2_setUndone 9 = .ok (.getfield 19, 3) := by decide +kernel
theorem dX2_setUndone_12 : decode cX2_setUndone 12 = .ok (.iconst 1, 1) := by decide +kernel
theorem dX2_setUndone_13 : decode cX2_setUndone 13 = .ok (.iadd, 1) := by decide +kernel
theorem dX2_setUndone_14 : decode cX2_setUndone 14 = .ok (.putfield 19, 3) := by decide +kernel
theorem dX2_setUndone_17 : decode cX2_setUndone 17 = .ok (.return_, 1) := by decide +kernel
theorem dX2_isUndone_0 : decode cX2_isUndone 0 = .ok (.aload_n 0, 1) := by decide +kernel
theorem dX2_isUndone_1 : decode cX2_isUndone 1 = .ok (.getfield 9, 3) := by decide +kernel
theorem dX2_isUndone_4 : decode cX2_isUndone 4 = .ok (.iload_n 1, 1) := by decide +kernel
theorem dX2_isUndone_5 : decode cX2_isUndone 5 = .ok (.iaload, 1) := by decide +kernel
theorem dX2_isUndone_6 : decode cX2_isUndone 6 = .ok (.iload_n 2, 1) := by decide +kernel
theorem dX2_isUndone_7 : decode cX2_isUndone 7 = .ok (.if_icmp .gt 7, 3) := by decide +kernel
theorem dX2_isUndone_10 : decode cX2_isUndone 10 = .ok (.iconst 1, 1) := by decide +kernel
theorem dX2_isUndone_11 : decode cX2_isUndone 11 = .ok (.goto 4, 3) := by decide +kernel
theorem dX2_isUndone_14 : decode cX2_isUndone 14 = .ok (.iconst 0, 1) := by decide +kernel
theorem dX2_isUndone_15 : decode cX2_isUndone 15 = .ok (.ireturn, 1) := by decide +kernel
theorem dX2_undoneCount_0 : decode cX2_undoneCount 0 = .ok (.aload_n 0, 1) := by decide +kernel
theorem dX2_undoneCount_1 : decode cX2_undoneCount 1 = .ok (.getfield 19, 3) := by decide +kernel
theorem dX2_undoneCount_4 : decode cX2_undoneCount 4 = .ok (.ireturn, 1) := by decide +kernel
theorem dX3_init_0 : decode cX3_init 0 = .ok (.aload_n 0, 1) := by decide +kernel
theorem dX3_init_1 : decode cX3_init 1 = .ok (.invokespecial 3, 3) := by decide +kernel
theorem dX3_init_4 : decode cX3_init 4 = .ok (.aload_n 0, 1) := by decide +kernel
theorem dX3_init_5 : decode cX3_init 5 = .ok (.aload_n 1, 1) := by decide +kernel
theorem dX3_init_6 : decode cX3_init 6 = .ok (.putfield 9, 3) := by decide +kernel
theorem dX3_init_9 : decode cX3_init 9 = .ok (.aload_n 0, 1) := by decide +kernel
theorem dX3_init_10 : decode cX3_init 10 = .ok (.iconst 0, 1) := by decide +kernel
theorem dX3_init_11 : decode cX3_init 11 = .ok (.iload_n 2, 1) := by decide +kernel
theorem dX3_init_12 : decode cX3_init 12 = .ok (.invokestatic 15, 3) := by decide +kernel
theorem dX3_init_15 : decode cX3_init 15 = .ok (.putfield 21, 3) := by decide +kernel
theorem dX3_init_18 : decode cX3_init 18 = .ok (.aload_n 0, 1) := by decide +kernel
theorem dX3_init_19 : decode cX3_init 19 = .ok (.aload_n 0, 1) := by decide +kernel
theorem dX3_init_20 : decode cX3_init 20 = .ok (.getfield 21, 3) := by decide +kernel
theorem dX3_init_23 : decode cX3_init 23 = .ok (.newarray .int, 2) := by decide +kernel
theorem dX3_init_25 : decode cX3_init 25 = .ok (.putfield 25, 3) := by decide +kernel
theorem dX3_init_28 : decode cX3_init 28 = .ok (.aload_n 0, 1) := by decide +kernel
theorem dX3_init_29 : decode cX3_init 29 = .ok (.aload_n 0, 1) := by decide +kernel
theorem dX3_init_30 : decode cX3_init 30 = .ok (.getfield 21, 3) := by decide +kernel
theorem dX3_init_33 : decode cX3_init 33 = .ok (.newarray .int, 2) := by decide +kernel
theorem dX3_init_35 : decode cX3_init 35 = .ok (.putfield 29, 3) := by decide +kernel
theorem dX3_init_38 : decode cX3_init 38 = .ok (.aload_n 0, 1) := by decide +kernel
theorem dX3_init_39 : decode cX3_init 39 = .ok (.iconst 0, 1) := by decide +kernel
theorem dX3_init_40 : decode cX3_init 40 = .ok (.putfield 32, 3) := by decide +kernel
theorem dX3_init_43 : decode cX3_init 43 = .ok (.return_, 1) := by decide +kernel
theorem dX3_size_0 : decode cX3_size 0 = .ok (.aload_n 0, 1) := by decide +kernel
theorem dX3_size_1 : decode cX3_size 1 = .ok (.getfield 32, 3) := by decide +kernel
theorem dX3_size_4 : decode cX3_size 4 = .ok (.ireturn, 1) := by decide +kernel
theorem dX3_isFull_0 : decode cX3_isFull 0 = .ok (.aload_n 0, 1) := by decide +kernel
theorem dX3_isFull_1 : decode cX3_isFull 1 = .ok (.getfield 32, 3) := by decide +kernel
theorem dX3_isFull_4 : decode cX3_isFull 4 = .ok (.aload_n 0, 1) := by decide +kernel
theorem dX3_isFull_5 : decode cX3_isFull 5 = .ok (.getfield 21, 3) := by decide +kernel
theorem dX3_isFull_8 : decode cX3_isFull 8 = .ok (.if_icmp .lt 7, 3) := by decide +kernel
theorem dX3_isFull_11 : decode cX3_isFull 11 = .ok (.iconst 1, 1) := by decide +kernel
theorem dX3_isFull_12 : decode cX3_isFull 12 = .ok (.goto 4, 3) := by decide +kernel
theorem dX3_isFull_15 : decode cX3_isFull 15 = .ok (.iconst 0, 1) := by decide +kernel
theorem dX3_isFull_16 : decode cX3_isFull 16 = .ok (.ireturn, 1) := by decide +kernel
theorem dX3_add_0 : decode cX3_add 0 = .ok (.aload_n 0, 1) := by decide +kernel
theorem dX3_add_1 : decode cX3_add 1 = .ok (.invokevirtual 35, 3) := by decide +kernel
theorem dX3_add_4 : decode cX3_add 4 = .ok (.ifCond .eq 5, 3) := by decide +kernel
theorem dX3_add_7 : decode cX3_add 7 = .ok (.iconst (-1), 1) := by decide +kernel
theorem dX3_add_8 : decode cX3_add 8 = .ok (.ireturn, 1) := by decide +kernel
theorem dX3_add_9 : decode cX3_add 9 = .ok (.aload_n 0, 1) := by decide +kernel
theorem dX3_add_10 : decode cX3_add 10 = .ok (.getfield 25, 3) := by decide +kernel
theorem dX3_add_13 : decode cX3_add 13 = .ok (.aload_n 0, 1) := by decide +kernel
theorem dX3_add_14 : decode cX3_add 14 = .ok (.getfield 32, 3) := by decide +kernel
theorem dX3_add_17 : decode cX3_add 17 = .ok (.iload_n 1, 1) := by decide +kernel
theorem dX3_add_18 : decode cX3_add 18 = .ok (.iastore, 1) := by decide +kernel
theorem dX3_add_19 : decode cX3_add 19 = .ok (.aload_n 0, 1) := by decide +kernel
theorem dX3_add_20 : decode cX3_add 20 = .ok (.getfield 29, 3) := by decide +kernel
theorem dX3_add_23 : decode cX3_add 23 = .ok (.aload_n 0, 1) := by decide +kernel
theorem dX3_add_24 : decode cX3_add 24 = .ok (.getfield 32, 3) := by decide +kernel
theorem dX3_add_27 : decode cX3_add 27 = .ok (.aload_n 0, 1) := by decide +kernel
theorem dX3_add_28 : decode cX3_add 28 = .ok (.getfield 9, 3) := by decide +kernel
theorem dX3_add_31 : decode cX3_add 31 = .ok (.invokevirtual 39, 3) := by decide +kernel
theorem dX3_add_34 : decode cX3_add 34 = .ok (.iastore, 1) := by decide +kernel
theorem dX3_add_35 : decode cX3_add 35 = .ok (.aload_n 0, 1) := by decide +kernel
theorem dX3_add_36 : decode cX3_add 36 = .ok (.dup, 1) := by decide +kernel
theorem dX3_add_37 : decode cX3_add 37 = .ok (.getfield 32, 3) := by decide +kernel
theorem dX3_add_40 : decode cX3_add 40 = .ok (.iconst 1, 1) := by decide +kernel
theorem dX3_add_41 : decode cX3_add 41 = .ok (.iadd, 1) := by decide +kernel
theorem dX3_add_42 : decode cX3_add 42 = .ok (.putfield 32, 3) := by decide +kernel
theorem dX3_add_45 : decode cX3_add 45 = .ok (.aload_n 0, 1) := by decide +kernel
theorem dX3_add_46 : decode cX3_add 46 = .ok (.getfield 32, 3) := by decide +kernel
theorem dX3_add_49 : decode cX3_add 49 = .ok (.iconst 1, 1) := by decide +kernel
theorem dX3_add_50 : decode cX3_add 50 = .ok (.isub, 1) := by decide +kernel
theorem dX3_add_51 : decode cX3_add 51 = .ok (.ireturn, 1) := by decide +kernel
theorem dX3_isKnown_0 : decode cX3_isKnown 0 = .ok (.iload_n 1, 1) := by decide +kernel
theorem dX3_isKnown_1 : decode cX3_isKnown 1 = .ok (.ifCond .lt 42, 3) := by decide +kernel
theorem dX3_isKnown_4 : decode cX3_isKnown 4 = .ok (.iload_n 1, 1) := by decide +kernel
theorem dX3_isKnown_5 : decode cX3_isKnown 5 = .ok (.aload_n 0, 1) := by decide +kernel
theorem dX3_isKnown_6 : decode cX3_isKnown 6 = .ok (.getfield 32, 3) := by decide +kernel
theorem dX3_isKnown_9 : decode cX3_isKnown 9 = .ok (.if_icmp .ge 34, 3) := by decide +kernel
theorem dX3_isKnown_12 : decode cX3_isKnown 12 = .ok (.aload_n 0, 1) := by decide +kernel
theorem dX3_isKnown_13 : decode cX3_isKnown 13 = .ok (.getfield 25, 3) := by decide +kernel
theorem dX3_isKnown_16 : decode cX3_isKnown 16 = .ok (.iload_n 1, 1) := by decide +kernel
theorem dX3_isKnown_17 : decode cX3_isKnown 17 = .ok (.iaload, 1) := by decide +kernel
theorem dX3_isKnown_18 : decode cX3_isKnown 18 = .ok (.iload_n 2, 1) := by decide +kernel
theorem dX3_isKnown_19 : decode cX3_isKnown 19 = .ok (.if_icmp .gt 24, 3) := by decide +kernel
theorem dX3_isKnown_22 : decode cX3_isKnown 22 = .ok (.aload_n 0, 1) := by decide +kernel
theorem dX3_isKnown_23 : decode cX3_isKnown 23 = .ok (.getfield 9, 3) := by decide +kernel
theorem dX3_isKnown_26 : decode cX3_isKnown 26 = .ok (.aload_n 0, 1) := by decide +kernel
theorem dX3_isKnown_27 : decode cX3_isKnown 27 = .ok (.getfield 29, 3) := by decide +kernel
theorem dX3_isKnown_30 : decode cX3_isKnown 30 = .ok (.iload_n 1, 1) := by decide +kernel
theorem dX3_isKnown_31 : decode cX3_isKnown 31 = .ok (.iaload, 1) := by decide +kernel
theorem dX3_isKnown_32 : decode cX3_isKnown 32 = .ok (.iload_n 2, 1) := by decide +kernel
theorem dX3_isKnown_33 : decode cX3_isKnown 33 = .ok (.invokevirtual 45, 3) := by decide +kernel
theorem dX3_isKnown_36 : decode cX3_isKnown 36 = .ok (.ifCond .ne 7, 3) := by decide +kernel
theorem dX3_isKnown_39 : decode cX3_isKnown 39 = .ok (.iconst 1, 1) := by decide +kernel
theorem dX3_isKnown_40 : decode cX3_isKnown 40 = .ok (.goto 4, 3) := by decide +kernel
theorem dX3_isKnown_43 : decode cX3_isKnown 43 = .ok (.iconst 0, 1) := by decide +kernel
theorem dX3_isKnown_44 : decode cX3_isKnown 44 = .ok (.ireturn, 1) := by decide +kernel
theorem dX3_sizeOfLoad_0 : decode cX3_sizeOfLoad 0 = .ok (.iconst 0, 1) := by decide +kernel
theorem dX3_sizeOfLoad_1 : decode cX3_sizeOfLoad 1 = .ok (.istore_n 2, 1) := by decide +kernel
theorem dX3_sizeOfLoad_2 : decode cX3_sizeOfLoad 2 = .ok (.iconst 0, 1) := by decide +kernel
theorem dX3_sizeOfLoad_3 : decode cX3_sizeOfLoad 3 = .ok (.istore_n 3, 1) := by decide +kernel
theorem dX3_sizeOfLoad_4 : decode cX3_sizeOfLoad 4 = .ok (.iload_n 3, 1) := by decide +kernel
theorem dX3_sizeOfLoad_5 : decode cX3_sizeOfLoad 5 = .ok (.aload_n 0, 1) := by decide +kernel
theorem dX3_sizeOfLoad_6 : decode cX3_sizeOfLoad 6 = .ok (.getfield 32, 3) := by decide +kernel
theorem dX3_sizeOfLoad_9 : decode cX3_sizeOfLoad 9 = .ok (.if_icmp .ge 22, 3) := by decide +kernel
theorem dX3_sizeOfLoad_12 : decode cX3_sizeOfLoad 12 = .ok (.aload_n 0, 1) := by decide +kernel
theorem dX3_sizeOfLoad_13 : decode cX3_sizeOfLoad 13 = .ok (.getfield 29, 3) := by decide +kernel
theorem dX3_sizeOfLoad_16 : decode cX3_sizeOfLoad 16 = .ok (.iload_n 3, 1) := by decide +kernel
theorem dX3_sizeOfLoad_17 : decode cX3_sizeOfLoad 17 = .ok (.iaload, 1) := by decide +kernel
theorem dX3_sizeOfLoad_18 : decode cX3_sizeOfLoad 18 = .ok (.iload_n 1, 1) := by decide +kernel
theorem dX3_sizeOfLoad_19 : decode cX3_sizeOfLoad 19 = .ok (.if_icmp .ne 6, 3) := by decide +kernel
theorem dX3_sizeOfLoad_22 : decode cX3_sizeOfLoad 22 = .ok (.iinc 2 1, 3) := by decide +kernel
theorem dX3_sizeOfLoad_25 : decode cX3_sizeOfLoad 25 = .ok (.iinc 3 1, 3) := by decide +kernel
theorem dX3_sizeOfLoad_28 : decode cX3_sizeOfLoad 28 = .ok (.goto (-24), 3) := by decide +kernel
theorem dX3_sizeOfLoad_31 : decode cX3_sizeOfLoad 31 = .ok (.iload_n 2, 1) := by decide +kernel
theorem dX3_sizeOfLoad_32 : decode cX3_sizeOfLoad 32 = .ok (.ireturn, 1) := by decide +kernel
theorem dX4_init_0 : decode cX4_init 0 = .ok (.aload_n 0, 1) := by decide +kernel
theorem dX4_init_1 : decode cX4_init 1 = .ok (.invokespecial 3, 3) := by decide +kernel
theorem dX4_init_4 : decode cX4_init 4 = .ok (.aload_n 0, 1) := by decide +kernel
theorem dX4_init_5 : decode cX4_init 5 = .ok (.new 9, 3) := by decide +kernel
theorem dX4_init_8 : decode cX4_init 8 = .ok (.dup, 1) := by decide +kernel
theorem dX4_init_9 : decode cX4_init 9 = .ok (.aload_n 1, 1) := by decide +kernel
theorem dX4_init_10 : decode cX4_init 10 = .ok (.sipush 300, 3) := by decide +kernel
theorem dX4_init_13 : decode cX4_init 13 = .ok (.invokespecial 11, 3) := by decide +kernel
theorem dX4_init_16 : decode cX4_init 16 = .ok (.putfield 14, 3) := by decide +kernel
theorem dX4_init_19 : decode cX4_init 19 = .ok (.aload_n 0, 1) := by decide +kernel
theorem dX4_init_20 : decode cX4_init 20 = .ok (.sipush 300, 3) := by decide +kernel
theorem dX4_init_23 : decode cX4_init 23 = .ok (.newarray .int, 2) := by decide +kernel
theorem dX4_init_25 : decode cX4_init 25 = .ok (.putfield 20, 3) := by decide +kernel
theorem dX4_init_28 : decode cX4_init 28 = .ok (.aload_n 0, 1) := by decide +kernel
theorem dX4_init_29 : decode cX4_init 29 = .ok (.sipush 300, 3) := by decide +kernel
theorem dX4_init_32 : decode cX4_init 32 = .ok (.newarray .int, 2) := by decide +kernel
theorem dX4_init_34 : decode cX4_init 34 = .ok (.putfield 24, 3) := by decide +kernel
theorem dX4_init_37 : decode cX4_init 37 = .ok (.aload_n 0, 1) := by decide +kernel
theorem dX4_init_38 : decode cX4_init 38 = .ok (.sipush 300, 3) := by decide +kernel
theorem dX4_init_41 : decode cX4_init 41 = .ok (.newarray .int, 2) := by decide +kernel
theorem dX4_init_43 : decode cX4_init 43 = .ok (.putfield 27, 3) := by decide +kernel
theorem dX4_init_46 : decode cX4_init 46 = .ok (.aload_n 0, 1) := by decide +kernel
theorem dX4_init_47 : decode cX4_init 47 = .ok (.sipush 300, 3) := by decide +kernel
theorem dX4_init_50 : decode cX4_init 50 = .ok (.newarray .int, 2) := by decide +kernel
theorem dX4_init_52 : decode cX4_init 52 = .ok (.putfield 30, 3) := by decide +kernel
theorem dX4_init_55 : decode cX4_init 55 = .ok (.return_, 1) := by decide +kernel
theorem dX4_size_0 : decode cX4_size 0 = .ok (.aload_n 0, 1) := by decide +kernel
theorem dX4_size_1 : decode cX4_size 1 = .ok (.getfield 14, 3) := by decide +kernel
theorem dX4_size_4 : decode cX4_size 4 = .ok (.invokevirtual 33, 3) := by decide +kernel
theorem dX4_size_7 : decode cX4_size 7 = .ok (.ireturn, 1) := by decide +kernel
theorem dX4_isFull_0 : decode cX4_isFull 0 = .ok (.aload_n 0, 1) := by decide +kernel
theorem dX4_isFull_1 : decode cX4_isFull 1 = .ok (.getfield 14, 3) := by decide +kernel
theorem dX4_isFull_4 : decode cX4_isFull 4 = .ok (.invokevirtual 37, 3) := by decide +kernel
theorem dX4_isFull_7 : decode cX4_isFull 7 = .ok (.ireturn, 1) := by decide +kernel
theorem dX4_sizeOfLoad_0 : decode cX4_sizeOfLoad 0 = .ok (.aload_n 0, 1) := by decide +kernel
theorem dX4_sizeOfLoad_1 : decode cX4_sizeOfLoad 1 = .ok (.getfield 14, 3) := by decide +kernel
theorem dX4_sizeOfLoad_4 : decode cX4_sizeOfLoad 4 = .ok (.iload_n 1, 1) := by decide +kernel
theorem dX4_sizeOfLoad_5 : decode cX4_sizeOfLoad 5 = .ok (.invokevirtual 41, 3) := by decide +kernel
theorem dX4_sizeOfLoad_8 : decode cX4_sizeOfLoad 8 = .ok (.ireturn, 1) := by decide +kernel
theorem dX4_add_0 : decode cX4_add 0 = .ok (.aload_n 0, 1) := by decide +kernel
theorem dX4_add_1 : decode cX4_add 1 = .ok (.getfield 14, 3) := by decide +kernel
theorem dX4_add_4 : decode cX4_add 4 = .ok (.iload 5, 2) := by decide +kernel
theorem dX4_add_6 : decode cX4_add 6 = .ok (.invokevirtual 45, 3) := by decide +kernel
theorem dX4_add_9 : decode cX4_add 9 = .ok (.istore 6, 2) := by decide +kernel
theorem dX4_add_11 : decode cX4_add 11 = .ok (.iload 6, 2) := by decide +kernel
theorem dX4_add_13 : decode cX4_add 13 = .ok (.iconst (-1), 1) := by decide +kernel
theorem dX4_add_14 : decode cX4_add 14 = .ok (.if_icmp .ne 4, 3) := by decide +kernel
theorem dX4_add_17 : decode cX4_add 17 = .ok (.return_, 1) := by decide +kernel
theorem dX4_add_18 : decode cX4_add 18 = .ok (.aload_n 0, 1) := by decide +kernel
theorem dX4_add_19 : decode cX4_add 19 = .ok (.getfield 20, 3) := by decide +kernel
theorem dX4_add_22 : decode cX4_add 22 = .ok (.iload 6, 2) := by decide +kernel
theorem dX4_add_24 : decode cX4_add 24 = .ok (.iload_n 1, 1) := by decide +kernel
theorem dX4_add_25 : decode cX4_add 25 = .ok (.iastore, 1) := by decide +kernel
theorem dX4_add_26 : decode cX4_add 26 = .ok (.aload_n 0, 1) := by decide +kernel
theorem dX4_add_27 : decode cX4_add 27 = .ok (.getfield 24, 3) := by decide +kernel
theorem dX4_add_30 : decode cX4_add 30 = .ok (.iload 6, 2) := by decide +kernel
theorem dX4_add_32 : decode cX4_add 32 = .ok (.iload_n 2, 1) := by decide +kernel
theorem dX4_add_33 : decode cX4_add 33 = .ok (.iastore, 1) := by decide +kernel
theorem dX4_add_34 : decode cX4_add 34 = .ok (.aload_n 0, 1) := by decide +kernel
theorem dX4_add_35 : decode cX4_add 35 = .ok (.getfield 27, 3) := by decide +kernel
theorem dX4_add_38 : decode cX4_add 38 = .ok (.iload 6, 2) := by decide +kernel
theorem dX4_add_40 : decode cX4_add 40 = .ok (.iload_n 3, 1) := by decide +kernel
theorem dX4_add_41 : decode cX4_add 41 = .ok (.iastore, 1) := by decide +kernel
theorem dX4_add_42 : decode cX4_add 42 = .ok (.aload_n 0, 1) := by decide +kernel
theorem dX4_add_43 : decode cX4_add 43 = .ok (.getfield 30, 3) := by decide +kernel
theorem dX4_add_46 : decode cX4_add 46 = .ok (.iload 6, 2) := by decide +kernel
theorem dX4_add_48 : decode cX4_add 48 = .ok (.iload 4, 2) := by decide +kernel
theorem dX4_add_50 : decode cX4_add 50 = .ok (.iastore, 1) := by decide +kernel
theorem dX4_add_51 : decode cX4_add 51 = .ok (.return_, 1) := by decide +kernel
theorem dX4_valueOn_0 : decode cX4_valueOn 0 = .ok (.iconst (-1), 1) := by decide +kernel
theorem dX4_valueOn_1 : decode cX4_valueOn 1 = .ok (.istore 5, 2) := by decide +kernel
theorem dX4_valueOn_3 : decode cX4_valueOn 3 = .ok (.iconst 0, 1) := by decide +kernel
theorem dX4_valueOn_4 : decode cX4_valueOn 4 = .ok (.istore 6, 2) := by decide +kernel
theorem dX4_valueOn_6 : decode cX4_valueOn 6 = .ok (.iload 6, 2) := by decide +kernel
theorem dX4_valueOn_8 : decode cX4_valueOn 8 = .ok (.aload_n 0, 1) := by decide +kernel
theorem dX4_valueOn_9 : decode cX4_valueOn 9 = .ok (.getfield 14, 3) := by decide +kernel
theorem dX4_valueOn_12 : decode cX4_valueOn 12 = .ok (.invokevirtual 33, 3) := by decide +kernel
theorem dX4_valueOn_15 : decode cX4_valueOn 15 = .ok (.if_icmp .ge 50, 3) := by decide +kernel
theorem dX4_valueOn_18 : decode cX4_valueOn 18 = .ok (.aload_n 0, 1) := by decide +kernel
theorem dX4_valueOn_19 : decode cX4_valueOn 19 = .ok (.iload 6, 2) := by decide +kernel
theorem dX4_valueOn_21 : decode cX4_valueOn 21 = .ok (.iload_n 1, 1) := by decide +kernel
theorem dX4_valueOn_22 : decode cX4_valueOn 22 = .ok (.iload_n 2, 1) := by decide +kernel
theorem dX4_valueOn_23 : decode cX4_valueOn 23 = .ok (.invokevirtual 48, 3) := by decide +kernel
theorem dX4_valueOn_26 : decode cX4_valueOn 26 = .ok (.ifCond .eq 33, 3) := by decide +kernel
theorem dX4_valueOn_29 : decode cX4_valueOn 29 = .ok (.aload_n 0, 1) := by decide +kernel
theorem dX4_valueOn_30 : decode cX4_valueOn 30 = .ok (.getfield 14, 3) := by decide +kernel
theorem dX4_valueOn_33 : decode cX4_valueOn 33 = .ok (.iload 6, 2) := by decide +kernel
theorem dX4_valueOn_35 : decode cX4_valueOn 35 = .ok (.iload 4, 2) := by decide +kernel
theorem dX4_valueOn_37 : decode cX4_valueOn 37 = .ok (.invokevirtual 52, 3) := by decide +kernel
theorem dX4_valueOn_40 : decode cX4_valueOn 40 = .ok (.ifCond .eq 19, 3) := by decide +kernel
theorem dX4_valueOn_43 : decode cX4_valueOn 43 = .ok (.aload_n 0, 1) := by decide +kernel
theorem dX4_valueOn_44 : decode cX4_valueOn 44 = .ok (.iload 6, 2) := by decide +kernel
theorem dX4_valueOn_46 : decode cX4_valueOn 46 = .ok (.iload 5, 2) := by decide +kernel
theorem dX4_valueOn_48 : decode cX4_valueOn 48 = .ok (.iload_n 3, 1) := by decide +kernel
theorem dX4_valueOn_49 : decode cX4_valueOn 49 = .ok (.invokevirtual 56, 3) := by decide +kernel
theorem dX4_valueOn_52 : decode cX4_valueOn 52 = .ok (.ifCond .eq 7, 3) := by decide +kernel
theorem dX4_valueOn_55 : decode cX4_valueOn 55 = .ok (.iload 6, 2) := by decide +kernel
theorem dX4_valueOn_57 : decode cX4_valueOn 57 = .ok (.istore 5, 2) := by decide +kernel
theorem dX4_valueOn_59 : decode cX4_valueOn 59 = .ok (.iinc 6 1, 3) := by decide +kernel
theorem dX4_valueOn_62 : decode cX4_valueOn 62 = .ok (.goto (-56), 3) := by decide +kernel
theorem dX4_valueOn_65 : decode cX4_valueOn 65 = .ok (.iload 5, 2) := by decide +kernel
theorem dX4_valueOn_67 : decode cX4_valueOn 67 = .ok (.iconst (-1), 1) := by decide +kernel
theorem dX4_valueOn_68 : decode cX4_valueOn 68 = .ok (.if_icmp .ne 8, 3) := by decide +kernel
theorem dX4_valueOn_71 : decode cX4_valueOn 71 = .ok (.bipush 100, 2) := by decide +kernel
theorem dX4_valueOn_73 : decode cX4_valueOn 73 = .ok (.goto 10, 3) := by decide +kernel
theorem dX4_valueOn_76 : decode cX4_valueOn 76 = .ok (.aload_n 0, 1) := by decide +kernel
theorem dX4_valueOn_77 : decode cX4_valueOn 77 = .ok (.getfield 30, 3) := by decide +kernel
theorem dX4_valueOn_80 : decode cX4_valueOn 80 = .ok (.iload 5, 2) := by decide +kernel
theorem dX4_valueOn_82 : decode cX4_valueOn 82 = .ok (.iaload, 1) := by decide +kernel
theorem dX4_valueOn_83 : decode cX4_valueOn 83 = .ok (.ireturn, 1) := by decide +kernel
theorem dX4_timesToldOver_0 : decode cX4_timesToldOver 0 = .ok (.iconst 0, 1) := by decide +kernel
theorem dX4_timesToldOver_1 : decode cX4_timesToldOver 1 = .ok (.istore_n 3, 1) := by decide +kernel
theorem dX4_timesToldOver_2 : decode cX4_timesToldOver 2 = .ok (.bipush 100, 2) := by decide +kernel
theorem dX4_timesToldOver_4 : decode cX4_timesToldOver 4 = .ok (.istore 4, 2) := by decide +kernel
theorem dX4_timesToldOver_6 : decode cX4_timesToldOver 6 = .ok (.iconst 0, 1) := by decide +kernel
theorem dX4_timesToldOver_7 : decode cX4_timesToldOver 7 = .ok (.istore 5, 2) := by decide +kernel
theorem dX4_timesToldOver_9 : decode cX4_timesToldOver 9 = .ok (.iload 5, 2) := by decide +kernel
theorem dX4_timesToldOver_11 : decode cX4_timesToldOver 11 = .ok (.aload_n 0, 1) := by decide +kernel
theorem dX4_timesToldOver_12 : decode cX4_timesToldOver 12 = .ok (.getfield 14, 3) := by decide +kernel
theorem dX4_timesToldOver_15 : decode cX4_timesToldOver 15 = .ok (.invokevirtual 33, 3) := by decide +kernel
theorem dX4_timesToldOver_18 : decode cX4_timesToldOver 18 = .ok (.if_icmp .ge 64, 3) := by decide +kernel
theorem dX4_timesToldOver_21 : decode cX4_timesToldOver 21 = .ok (.aload_n 0, 1) := by decide +kernel
theorem dX4_timesToldOver_22 : decode cX4_timesToldOver 22 = .ok (.iload 5, 2) := by decide +kernel
theorem dX4_timesToldOver_24 : decode cX4_timesToldOver 24 = .ok (.iload_n 1, 1) := by decide +kernel
theorem dX4_timesToldOver_25 : decode cX4_timesToldOver 25 = .ok (.iconst 1, 1) := by decide +kernel
theorem dX4_timesToldOver_26 : decode cX4_timesToldOver 26 = .ok (.invokevirtual 48, 3) := by decide +kernel
theorem dX4_timesToldOver_29 : decode cX4_timesToldOver 29 = .ok (.ifCond .eq 47, 3) := by decide +kernel
theorem dX4_timesToldOver_32 : decode cX4_timesToldOver 32 = .ok (.aload_n 0, 1) := by decide +kernel
theorem dX4_timesToldOver_33 : decode cX4_timesToldOver 33 = .ok (.getfield 14, 3) := by decide +kernel
theorem dX4_timesToldOver_36 : decode cX4_timesToldOver 36 = .ok (.iload 5, 2) := by decide +kernel
theorem dX4_timesToldOver_38 : decode cX4_timesToldOver 38 = .ok (.iload_n 2, 1) := by decide +kernel
theorem dX4_timesToldOver_39 : decode cX4_timesToldOver 39 = .ok (.invokevirtual 52, 3) := by decide +kernel
theorem dX4_timesToldOver_42 : decode cX4_timesToldOver 42 = .ok (.ifCond .eq 34, 3) := by decide +kernel
theorem dX4_timesToldOver_45 : decode cX4_timesToldOver 45 = .ok (.iload 4, 2) := by decide +kernel
theorem dX4_timesToldOver_47 : decode cX4_timesToldOver 47 = .ok (.bipush 100, 2) := by decide +kernel
theorem dX4_timesToldOver_49 : decode cX4_timesToldOver 49 = .ok (.if_icmp .eq 18, 3) := by decide +kernel
theorem dX4_timesToldOver_52 : decode cX4_timesToldOver 52 = .ok (.iload 4, 2) := by decide +kernel
theorem dX4_timesToldOver_54 : decode cX4_timesToldOver 54 = .ok (.aload_n 0, 1) := by decide +kernel
theorem dX4_timesToldOver_55 : decode cX4_timesToldOver 55 = .ok (.getfield 30, 3) := by decide +kernel
theorem dX4_timesToldOver_58 : decode cX4_timesToldOver 58 = .ok (.iload 5, 2) := by decide +kernel
theorem dX4_timesToldOver_60 : decode cX4_timesToldOver 60 = .ok (.iaload, 1) := by decide +kernel
theorem dX4_timesToldOver_61 : decode cX4_timesToldOver 61 = .ok (.if_icmp .eq 6, 3) := by decide +kernel
theorem dX4_timesToldOver_64 : decode cX4_timesToldOver 64 = .ok (.iinc 3 1, 3) := by decide +kernel
theorem dX4_timesToldOver_67 : decode cX4_timesToldOver 67 = .ok (.aload_n 0, 1) := by decide +kernel
theorem dX4_timesToldOver_68 : decode cX4_timesToldOver 68 = .ok (.getfield 30, 3) := by decide +kernel
theorem dX4_timesToldOver_71 : decode cX4_timesToldOver 71 = .ok (.iload 5, 2) := by decide +kernel
theorem dX4_timesToldOver_73 : decode cX4_timesToldOver 73 = .ok (.iaload, 1) := by decide +kernel
theorem dX4_timesToldOver_74 : decode cX4_timesToldOver 74 = .ok (.istore 4, 2) := by decide +kernel
theorem dX4_timesToldOver_76 : decode cX4_timesToldOver 76 = .ok (.iinc 5 1, 3) := by decide +kernel
theorem dX4_timesToldOver_79 : decode cX4_timesToldOver 79 = .ok (.goto (-70), 3) := by decide +kernel
theorem dX4_timesToldOver_82 : decode cX4_timesToldOver 82 = .ok (.iload_n 3, 1) := by decide +kernel
theorem dX4_timesToldOver_83 : decode cX4_timesToldOver 83 = .ok (.ireturn, 1) := by decide +kernel
theorem dX4_isOf_0 : decode cX4_isOf 0 = .ok (.aload_n 0, 1) := by decide +kernel
theorem dX4_isOf_1 : decode cX4_isOf 1 = .ok (.getfield 20, 3) := by decide +kernel
theorem dX4_isOf_4 : decode cX4_isOf 4 = .ok (.iload_n 1, 1) := by decide +kernel
theorem dX4_isOf_5 : decode cX4_isOf 5 = .ok (.iaload, 1) := by decide +kernel
theorem dX4_isOf_6 : decode cX4_isOf 6 = .ok (.iload_n 2, 1) := by decide +kernel
theorem dX4_isOf_7 : decode cX4_isOf 7 = .ok (.if_icmp .ne 17, 3) := by decide +kernel
theorem dX4_isOf_10 : decode cX4_isOf 10 = .ok (.aload_n 0, 1) := by decide +kernel
theorem dX4_isOf_11 : decode cX4_isOf 11 = .ok (.getfield 24, 3) := by decide +kernel
theorem dX4_isOf_14 : decode cX4_isOf 14 = .ok (.iload_n 1, 1) := by decide +kernel
theorem dX4_isOf_15 : decode cX4_isOf 15 = .ok (.iaload, 1) := by decide +kernel
theorem dX4_isOf_16 : decode cX4_isOf 16 = .ok (.iload_n 3, 1) := by decide +kernel
theorem dX4_isOf_17 : decode cX4_isOf 17 = .ok (.if_icmp .ne 7, 3) := by decide +kernel
theorem dX4_isOf_20 : decode cX4_isOf 20 = .ok (.iconst 1, 1) := by decide +kernel
theorem dX4_isOf_21 : decode cX4_isOf 21 = .ok (.goto 4, 3) := by decide +kernel
theorem dX4_isOf_24 : decode cX4_isOf 24 = .ok (.iconst 0, 1) := by decide +kernel
theorem dX4_isOf_25 : decode cX4_isOf 25 = .ok (.ireturn, 1) := by decide +kernel
theorem dX4_outdoes_0 : decode cX4_outdoes 0 = .ok (.aload_n 0, 1) := by decide +kernel
theorem dX4_outdoes_1 : decode cX4_outdoes 1 = .ok (.getfield 24, 3) := by decide +kernel
theorem dX4_outdoes_4 : decode cX4_outdoes 4 = .ok (.iload_n 1, 1) := by decide +kernel
theorem dX4_outdoes_5 : decode cX4_outdoes 5 = .ok (.iaload, 1) := by decide +kernel
theorem dX4_outdoes_6 : decode cX4_outdoes 6 = .ok (.iconst 1, 1) := by decide +kernel
theorem dX4_outdoes_7 : decode cX4_outdoes 7 = .ok (.if_icmp .gt 5, 3) := by decide +kernel
theorem dX4_outdoes_10 : decode cX4_outdoes 10 = .ok (.iconst 1, 1) := by decide +kernel
theorem dX4_outdoes_11 : decode cX4_outdoes 11 = .ok (.ireturn, 1) := by decide +kernel
theorem dX4_outdoes_12 : decode cX4_outdoes 12 = .ok (.aload_n 0, 1) := by decide +kernel
theorem dX4_outdoes_13 : decode cX4_outdoes 13 = .ok (.getfield 27, 3) := by decide +kernel
theorem dX4_outdoes_16 : decode cX4_outdoes 16 = .ok (.iload_n 1, 1) := by decide +kernel
theorem dX4_outdoes_17 : decode cX4_outdoes 17 = .ok (.iaload, 1) := by decide +kernel
theorem dX4_outdoes_18 : decode cX4_outdoes 18 = .ok (.iload_n 3, 1) := by decide +kernel
theorem dX4_outdoes_19 : decode cX4_outdoes 19 = .ok (.if_icmp .gt 27, 3) := by decide +kernel
theorem dX4_outdoes_22 : decode cX4_outdoes 22 = .ok (.iload_n 2, 1) := by decide +kernel
theorem dX4_outdoes_23 : decode cX4_outdoes 23 = .ok (.iconst (-1), 1) := by decide +kernel
theorem dX4_outdoes_24 : decode cX4_outdoes 24 = .ok (.if_icmp .eq 18, 3) := by decide +kernel
theorem dX4_outdoes_27 : decode cX4_outdoes 27 = .ok (.aload_n 0, 1) := by decide +kernel
theorem dX4_outdoes_28 : decode cX4_outdoes 28 = .ok (.getfield 27, 3) := by decide +kernel
theorem dX4_outdoes_31 : decode cX4_outdoes 31 = .ok (.iload_n 1, 1) := by decide +kernel
theorem dX4_outdoes_32 : decode cX4_outdoes 32 = .ok (.iaload, 1) := by decide +kernel
theorem dX4_outdoes_33 : decode cX4_outdoes 33 = .ok (.aload_n 0, 1) := by decide +kernel
theorem dX4_outdoes_34 : decode cX4_outdoes 34 = .ok (.getfield 27, 3) := by decide +kernel
theorem dX4_outdoes_37 : decode cX4_outdoes 37 = .ok (.iload_n 2, 1) := by decide +kernel
theorem dX4_outdoes_38 : decode cX4_outdoes 38 = .ok (.iaload, 1) := by decide +kernel
theorem dX4_outdoes_39 : decode cX4_outdoes 39 = .ok (.if_icmp .lt 7, 3) := by decide +kernel
theorem dX4_outdoes_42 : decode cX4_outdoes 42 = .ok (.iconst 1, 1) := by decide +kernel
theorem dX4_outdoes_43 : decode cX4_outdoes 43 = .ok (.goto 4, 3) := by decide +kernel
theorem dX4_outdoes_46 : decode cX4_outdoes 46 = .ok (.iconst 0, 1) := by decide +kernel
theorem dX4_outdoes_47 : decode cX4_outdoes 47 = .ok (.ireturn, 1) := by decide +kernel
theorem dX5_init_0 : decode cX5_init 0 = .ok (.aload_n 0, 1) := by decide +kernel
theorem dX5_init_1 : decode cX5_init 1 = .ok (.invokespecial 3, 3) := by decide +kernel
theorem dX5_init_4 : decode cX5_init 4 = .ok (.aload_n 0, 1) := by decide +kernel
theorem dX5_init_5 : decode cX5_init 5 = .ok (.bipush 40, 2) := by decide +kernel
theorem dX5_init_7 : decode cX5_init 7 = .ok (.newarray .int, 2) := by decide +kernel
theorem dX5_init_9 : decode cX5_init 9 = .ok (.putfield 9, 3) := by decide +kernel
theorem dX5_init_12 : decode cX5_init 12 = .ok (.aload_n 0, 1) := by decide +kernel
theorem dX5_init_13 : decode cX5_init 13 = .ok (.bipush 40, 2) := by decide +kernel
theorem dX5_init_15 : decode cX5_init 15 = .ok (.newarray .int, 2) := by decide +kernel
theorem dX5_init_17 : decode cX5_init 17 = .ok (.putfield 15, 3) := by decide +kernel
theorem dX5_init_20 : decode cX5_init 20 = .ok (.aload_n 0, 1) := by decide +kernel
theorem dX5_init_21 : decode cX5_init 21 = .ok (.bipush 40, 2) := by decide +kernel
theorem dX5_init_23 : decode cX5_init 23 = .ok (.newarray .int, 2) := by decide +kernel
theorem dX5_init_25 : decode cX5_init 25 = .ok (.putfield 18, 3) := by decide +kernel
theorem dX5_init_28 : decode cX5_init 28 = .ok (.aload_n 0, 1) := by decide +kernel
theorem dX5_init_29 : decode cX5_init 29 = .ok (.bipush 40, 2) := by decide +kernel
theorem dX5_init_31 : decode cX5_init 31 = .ok (.newarray .int, 2) := by decide +kernel
theorem dX5_init_33 : decode cX5_init 33 = .ok (.putfield 21, 3) := by decide +kernel
theorem dX5_init_36 : decode cX5_init 36 = .ok (.aload_n 0, 1) := by decide +kernel
theorem dX5_init_37 : decode cX5_init 37 = .ok (.bipush 40, 2) := by decide +kernel
theorem dX5_init_39 : decode cX5_init 39 = .ok (.newarray .int, 2) := by decide +kernel
theorem dX5_init_41 : decode cX5_init 41 = .ok (.putfield 24, 3) := by decide +kernel
theorem dX5_init_44 : decode cX5_init 44 = .ok (.aload_n 0, 1) := by decide +kernel
theorem dX5_init_45 : decode cX5_init 45 = .ok (.bipush 40, 2) := by decide +kernel
theorem dX5_init_47 : decode cX5_init 47 = .ok (.newarray .int, 2) := by decide +kernel
theorem dX5_init_49 : decode cX5_init 49 = .ok (.putfield 27, 3) := by decide +kernel
theorem dX5_init_52 : decode cX5_init 52 = .ok (.aload_n 0, 1) := by decide +kernel
theorem dX5_init_53 : decode cX5_init 53 = .ok (.bipush 40, 2) := by decide +kernel
theorem dX5_init_55 : decode cX5_init 55 = .ok (.newarray .int, 2) := by decide +kernel
theorem dX5_init_57 : decode cX5_init 57 = .ok (.putfield 30, 3) := by decide +kernel
theorem dX5_init_60 : decode cX5_init 60 = .ok (.aload_n 0, 1) := by decide +kernel
theorem dX5_init_61 : decode cX5_init 61 = .ok (.bipush 40, 2) := by decide +kernel
theorem dX5_init_63 : decode cX5_init 63 = .ok (.newarray .int, 2) := by decide +kernel
theorem dX5_init_65 : decode cX5_init 65 = .ok (.putfield 33, 3) := by decide +kernel
theorem dX5_init_68 : decode cX5_init 68 = .ok (.aload_n 0, 1) := by decide +kernel
theorem dX5_init_69 : decode cX5_init 69 = .ok (.bipush 40, 2) := by decide +kernel
theorem dX5_init_71 : decode cX5_init 71 = .ok (.newarray .int, 2) := by decide +kernel
theorem dX5_init_73 : decode cX5_init 73 = .ok (.putfield 36, 3) := by decide +kernel
theorem dX5_init_76 : decode cX5_init 76 = .ok (.aload_n 0, 1) := by decide +kernel
theorem dX5_init_77 : decode cX5_init 77 = .ok (.iconst 0, 1) := by decide +kernel
theorem dX5_init_78 : decode cX5_init 78 = .ok (.putfield 39, 3) := by decide +kernel
theorem dX5_init_81 : decode cX5_init 81 = .ok (.return_, 1) := by decide +kernel
theorem dX5_size_0 : decode cX5_size 0 = .ok (.aload_n 0, 1) := by decide +kernel
theorem dX5_size_1 : decode cX5_size 1 = .ok (.getfield 39, 3) := by decide +kernel
theorem dX5_size_4 : decode cX5_size 4 = .ok (.ireturn, 1) := by decide +kernel
theorem dX5_room_0 : decode cX5_room 0 = .ok (.bipush 40, 2) := by decide +kernel
theorem dX5_room_2 : decode cX5_room 2 = .ok (.aload_n 0, 1) := by decide +kernel
theorem dX5_room_3 : decode cX5_room 3 = .ok (.getfield 39, 3) := by decide +kernel
theorem dX5_room_6 : decode cX5_room 6 = .ok (.isub, 1) := by decide +kernel
theorem dX5_room_7 : decode cX5_room 7 = .ok (.ireturn, 1) := by decide +kernel
theorem dX5_has_0 : decode cX5_has 0 = .ok (.iload_n 1, 1) := by decide +kernel
theorem dX5_has_1 : decode cX5_has 1 = .ok (.ifCond .lt 15, 3) := by decide +kernel
theorem dX5_has_4 : decode cX5_has 4 = .ok (.iload_n 1, 1) := by decide +kernel
theorem dX5_has_5 : decode cX5_has 5 = .ok (.aload_n 0, 1) := by decide +kernel
theorem dX5_has_6 : decode cX5_has 6 = .ok (.getfield 39, 3) := by decide +kernel
theorem dX5_has_9 : decode cX5_has 9 = .ok (.if_icmp .ge 7, 3) := by decide +kernel
theorem dX5_has_12 : decode cX5_has 12 = .ok (.iconst 1, 1) := by decide +kernel
theorem dX5_has_13 : decode cX5_has 13 = .ok (.goto 4, 3) := by decide +kernel
theorem dX5_has_16 : decode cX5_has 16 = .ok (.iconst 0, 1) := by decide +kernel
theorem dX5_has_17 : decode cX5_has 17 = .ok (.ireturn, 1) := by decide +kernel
theorem dX5_add_0 : decode cX5_add 0 = .ok (.aload_n 0, 1) := by decide +kernel
theorem dX5_add_1 : decode cX5_add 1 = .ok (.invokevirtual 43, 3) := by decide +kernel
theorem dX5_add_4 : decode cX5_add 4 = .ok (.iconst 1, 1) := by decide +kernel
theorem dX5_add_5 : decode cX5_add 5 = .ok (.if_icmp .ge 5, 3) := by decide +kernel
theorem dX5_add_8 : decode cX5_add 8 = .ok (.iconst (-1), 1) := by decide +kernel
theorem dX5_add_9 : decode cX5_add 9 = .ok (.ireturn, 1) := by decide +kernel
theorem dX5_add_10 : decode cX5_add 10 = .ok (.aload_n 0, 1) := by decide +kernel
theorem dX5_add_11 : decode cX5_add 11 = .ok (.getfield 9, 3) := by decide +kernel
theorem dX5_add_14 : decode cX5_add 14 = .ok (.aload_n 0, 1) := by decide +kernel
theorem dX5_add_15 : decode cX5_add 15 = .ok (.getfield 39, 3) := by decide +kernel
theorem dX5_add_18 : decode cX5_add 18 = .ok (.iload_n 1, 1) := by decide +kernel
theorem dX5_add_19 : decode cX5_add 19 = .ok (.iastore, 1) := by decide +kernel
end
section
theorem dX5_add_20 : decode cX5_add 20 = .ok (.aload_n 0, 1) := by decide +kernel
theorem dX5_add_21 : decode cX5_add 21 = .ok (.getfield 15, 3) := by decide +kernel
theorem dX5_add_24 : decode cX5_add 24 = .ok (.aload_n 0, 1) := by decide +kernel
theorem dX5_add_25 : decode cX5_add 25 = .ok (.getfield 39, 3) := by decide +kernel
theorem dX5_add_28 : decode cX5_add 28 = .ok (.iload_n 2, 1) := by decide +kernel
theorem dX5_add_29 : decode cX5_add 29 = .ok (.iastore, 1) := by decide +kernel
theorem dX5_add_30 : decode cX5_add 30 = .ok (.aload_n 0, 1) := by decide +kernel
theorem dX5_add_31 : decode cX5_add 31 = .ok (.getfield 18, 3) := by decide +kernel
theorem dX5_add_34 : decode cX5_add 34 = .ok (.aload_n 0, 1) := by decide +kernel
theorem dX5_add_35 : decode cX5_add 35 = .ok (.getfield 39, 3) := by decide +kernel
theorem dX5_add_38 : decode cX5_add 38 = .ok (.iload_n 3, 1) := by decide +kernel
theorem dX5_add_39 : decode cX5_add 39 = .ok (.iastore, 1) := by decide +kernel
theorem dX5_add_40 : decode cX5_add 40 = .ok (.aload_n 0, 1) := by decide +kernel
theorem dX5_add_41 : decode cX5_add 41 = .ok (.getfield 21, 3) := by decide +kernel
theorem dX5_add_44 : decode cX5_add 44 = .ok (.aload_n 0, 1) := by decide +kernel
theorem dX5_add_45 : decode cX5_add 45 = .ok (.getfield 39, 3) := by decide +kernel
theorem dX5_add_48 : decode cX5_add 48 = .ok (.sipush 2001, 3) := by decide +kernel
theorem dX5_add_51 : decode cX5_add 51 = .ok (.iastore, 1) := by decide +kernel
theorem dX5_add_52 : decode cX5_add 52 = .ok (.aload_n 0, 1) := by decide +kernel
theorem dX5_add_53 : decode cX5_add 53 = .ok (.getfield 24, 3) := by decide +kernel
theorem dX5_add_56 : decode cX5_add 56 = .ok (.aload_n 0, 1) := by decide +kernel
theorem dX5_add_57 : decode cX5_add 57 = .ok (.getfield 39, 3) := by decide +kernel
theorem dX5_add_60 : decode cX5_add 60 = .ok (.sipush 2001, 3) := by decide +kernel
theorem dX5_add_63 : decode cX5_add 63 = .ok (.iastore, 1) := by decide +kernel
theorem dX5_add_64 : decode cX5_add 64 = .ok (.aload_n 0, 1) := by decide +kernel
theorem dX5_add_65 : decode cX5_add 65 = .ok (.getfield 27, 3) := by decide +kernel
theorem dX5_add_68 : decode cX5_add 68 = .ok (.aload_n 0, 1) := by decide +kernel
theorem dX5_add_69 : decode cX5_add 69 = .ok (.getfield 39, 3) := by decide +kernel
theorem dX5_add_72 : decode cX5_add 72 = .ok (.iconst 0, 1) := by decide +kernel
theorem dX5_add_73 : decode cX5_add 73 = .ok (.iastore, 1) := by decide +kernel
theorem dX5_add_74 : decode cX5_add 74 = .ok (.aload_n 0, 1) := by decide +kernel
theorem dX5_add_75 : decode cX5_add 75 = .ok (.getfield 30, 3) := by decide +kernel
theorem dX5_add_78 : decode cX5_add 78 = .ok (.aload_n 0, 1) := by decide +kernel
theorem dX5_add_79 : decode cX5_add 79 = .ok (.getfield 39, 3) := by decide +kernel
theorem dX5_add_82 : decode cX5_add 82 = .ok (.iconst (-1), 1) := by decide +kernel
theorem dX5_add_83 : decode cX5_add 83 = .ok (.iastore, 1) := by decide +kernel
theorem dX5_add_84 : decode cX5_add 84 = .ok (.aload_n 0, 1) := by decide +kernel
theorem dX5_add_85 : decode cX5_add 85 = .ok (.getfield 33, 3) := by decide +kernel
theorem dX5_add_88 : decode cX5_add 88 = .ok (.aload_n 0, 1) := by decide +kernel
theorem dX5_add_89 : decode cX5_add 89 = .ok (.getfield 39, 3) := by decide +kernel
theorem dX5_add_92 : decode cX5_add 92 = .ok (.iconst 0, 1) := by decide +kernel
theorem dX5_add_93 : decode cX5_add 93 = .ok (.iastore, 1) := by decide +kernel
theorem dX5_add_94 : decode cX5_add 94 = .ok (.aload_n 0, 1) := by decide +kernel
theorem dX5_add_95 : decode cX5_add 95 = .ok (.getfield 36, 3) := by decide +kernel
theorem dX5_add_98 : decode cX5_add 98 = .ok (.aload_n 0, 1) := by decide +kernel
theorem dX5_add_99 : decode cX5_add 99 = .ok (.getfield 39, 3) := by decide +kernel
theorem dX5_add_102 : decode cX5_add 102 = .ok (.iconst 1, 1) := by decide +kernel
theorem dX5_add_103 : decode cX5_add 103 = .ok (.iastore, 1) := by decide +kernel
theorem dX5_add_104 : decode cX5_add 104 = .ok (.aload_n 0, 1) := by decide +kernel
theorem dX5_add_105 : decode cX5_add 105 = .ok (.dup, 1) := by decide +kernel
theorem dX5_add_106 : decode cX5_add 106 = .ok (.getfield 39, 3) := by decide +kernel
theorem dX5_add_109 : decode cX5_add 109 = .ok (.iconst 1, 1) := by decide +kernel
theorem dX5_add_110 : decode cX5_add 110 = .ok (.iadd, 1) := by decide +kernel
theorem dX5_add_111 : decode cX5_add 111 = .ok (.putfield 39, 3) := by decide +kernel
theorem dX5_add_114 : decode cX5_add 114 = .ok (.aload_n 0, 1) := by decide +kernel
theorem dX5_add_115 : decode cX5_add 115 = .ok (.getfield 39, 3) := by decide +kernel
theorem dX5_add_118 : decode cX5_add 118 = .ok (.iconst 1, 1) := by decide +kernel
theorem dX5_add_119 : decode cX5_add 119 = .ok (.isub, 1) := by decide +kernel
theorem dX5_add_120 : decode cX5_add 120 = .ok (.ireturn, 1) := by decide +kernel
theorem dX5_finish_0 : decode cX5_finish 0 = .ok (.aload_n 0, 1) := by decide +kernel
theorem dX5_finish_1 : decode cX5_finish 1 = .ok (.getfield 21, 3) := by decide +kernel
theorem dX5_finish_4 : decode cX5_finish 4 = .ok (.iload_n 1, 1) := by decide +kernel
theorem dX5_finish_5 : decode cX5_finish 5 = .ok (.iload_n 2, 1) := by decide +kernel
theorem dX5_finish_6 : decode cX5_finish 6 = .ok (.iastore, 1) := by decide +kernel
theorem dX5_finish_7 : decode cX5_finish 7 = .ok (.aload_n 0, 1) := by decide +kernel
theorem dX5_finish_8 : decode cX5_finish 8 = .ok (.getfield 24, 3) := by decide +kernel
theorem dX5_finish_11 : decode cX5_finish 11 = .ok (.iload_n 1, 1) := by decide +kernel
theorem dX5_finish_12 : decode cX5_finish 12 = .ok (.iload_n 3, 1) := by decide +kernel
theorem dX5_finish_13 : decode cX5_finish 13 = .ok (.iastore, 1) := by decide +kernel
theorem dX5_finish_14 : decode cX5_finish 14 = .ok (.aload_n 0, 1) := by decide +kernel
theorem dX5_finish_15 : decode cX5_finish 15 = .ok (.getfield 27, 3) := by decide +kernel
theorem dX5_finish_18 : decode cX5_finish 18 = .ok (.iload_n 1, 1) := by decide +kernel
theorem dX5_finish_19 : decode cX5_finish 19 = .ok (.iload 4, 2) := by decide +kernel
theorem dX5_finish_21 : decode cX5_finish 21 = .ok (.iastore, 1) := by decide +kernel
theorem dX5_finish_22 : decode cX5_finish 22 = .ok (.aload_n 0, 1) := by decide +kernel
theorem dX5_finish_23 : decode cX5_finish 23 = .ok (.getfield 30, 3) := by decide +kernel
theorem dX5_finish_26 : decode cX5_finish 26 = .ok (.iload_n 1, 1) := by decide +kernel
theorem dX5_finish_27 : decode cX5_finish 27 = .ok (.iload 5, 2) := by decide +kernel
theorem dX5_finish_29 : decode cX5_finish 29 = .ok (.iastore, 1) := by decide +kernel
theorem dX5_finish_30 : decode cX5_finish 30 = .ok (.return_, 1) := by decide +kernel
theorem dX5_setShare_0 : decode cX5_setShare 0 = .ok (.aload_n 0, 1) := by decide +kernel
theorem dX5_setShare_1 : decode cX5_setShare 1 = .ok (.getfield 33, 3) := by decide +kernel
theorem dX5_setShare_4 : decode cX5_setShare 4 = .ok (.iload_n 1, 1) := by decide +kernel
theorem dX5_setShare_5 : decode cX5_setShare 5 = .ok (.iload_n 2, 1) := by decide +kernel
theorem dX5_setShare_6 : decode cX5_setShare 6 = .ok (.iastore, 1) := by decide +kernel
theorem dX5_setShare_7 : decode cX5_setShare 7 = .ok (.aload_n 0, 1) := by decide +kernel
theorem dX5_setShare_8 : decode cX5_setShare 8 = .ok (.getfield 36, 3) := by decide +kernel
theorem dX5_setShare_11 : decode cX5_setShare 11 = .ok (.iload_n 1, 1) := by decide +kernel
theorem dX5_setShare_12 : decode cX5_setShare 12 = .ok (.iload_n 3, 1) := by decide +kernel
theorem dX5_setShare_13 : decode cX5_setShare 13 = .ok (.iastore, 1) := by decide +kernel
theorem dX5_setShare_14 : decode cX5_setShare 14 = .ok (.return_, 1) := by decide +kernel
theorem dX5_isTaken_0 : decode cX5_isTaken 0 = .ok (.iconst 0, 1) := by decide +kernel
theorem dX5_isTaken_1 : decode cX5_isTaken 1 = .ok (.istore 5, 2) := by decide +kernel
theorem dX5_isTaken_3 : decode cX5_isTaken 3 = .ok (.iload 5, 2) := by decide +kernel
theorem dX5_isTaken_5 : decode cX5_isTaken 5 = .ok (.aload_n 0, 1) := by decide +kernel
theorem dX5_isTaken_6 : decode cX5_isTaken 6 = .ok (.getfield 39, 3) := by decide +kernel
theorem dX5_isTaken_9 : decode cX5_isTaken 9 = .ok (.if_icmp .ge 46, 3) := by decide +kernel
theorem dX5_isTaken_12 : decode cX5_isTaken 12 = .ok (.iload 5, 2) := by decide +kernel
theorem dX5_isTaken_14 : decode cX5_isTaken 14 = .ok (.iload_n 3, 1) := by decide +kernel
theorem dX5_isTaken_15 : decode cX5_isTaken 15 = .ok (.if_icmp .eq 34, 3) := by decide +kernel
theorem dX5_isTaken_18 : decode cX5_isTaken 18 = .ok (.iload 5, 2) := by decide +kernel
theorem dX5_isTaken_20 : decode cX5_isTaken 20 = .ok (.iload 4, 2) := by decide +kernel
theorem dX5_isTaken_22 : decode cX5_isTaken 22 = .ok (.if_icmp .eq 27, 3) := by decide +kernel
theorem dX5_isTaken_25 : decode cX5_isTaken 25 = .ok (.aload_n 0, 1) := by decide +kernel
theorem dX5_isTaken_26 : decode cX5_isTaken 26 = .ok (.getfield 9, 3) := by decide +kernel
theorem dX5_isTaken_29 : decode cX5_isTaken 29 = .ok (.iload 5, 2) := by decide +kernel
theorem dX5_isTaken_31 : decode cX5_isTaken 31 = .ok (.iaload, 1) := by decide +kernel
theorem dX5_isTaken_32 : decode cX5_isTaken 32 = .ok (.iload_n 1, 1) := by decide +kernel
theorem dX5_isTaken_33 : decode cX5_isTaken 33 = .ok (.if_icmp .ne 16, 3) := by decide +kernel
theorem dX5_isTaken_36 : decode cX5_isTaken 36 = .ok (.aload_n 0, 1) := by decide +kernel
theorem dX5_isTaken_37 : decode cX5_isTaken 37 = .ok (.getfield 21, 3) := by decide +kernel
theorem dX5_isTaken_40 : decode cX5_isTaken 40 = .ok (.iload 5, 2) := by decide +kernel
theorem dX5_isTaken_42 : decode cX5_isTaken 42 = .ok (.iaload, 1) := by decide +kernel
theorem dX5_isTaken_43 : decode cX5_isTaken 43 = .ok (.iload_n 2, 1) := by decide +kernel
theorem dX5_isTaken_44 : decode cX5_isTaken 44 = .ok (.if_icmp .le 5, 3) := by decide +kernel
theorem dX5_isTaken_47 : decode cX5_isTaken 47 = .ok (.iconst 1, 1) := by decide +kernel
theorem dX5_isTaken_48 : decode cX5_isTaken 48 = .ok (.ireturn, 1) := by decide +kernel
theorem dX5_isTaken_49 : decode cX5_isTaken 49 = .ok (.iinc 5 1, 3) := by decide +kernel
theorem dX5_isTaken_52 : decode cX5_isTaken 52 = .ok (.goto (-49), 3) := by decide +kernel
theorem dX5_isTaken_55 : decode cX5_isTaken 55 = .ok (.iconst 0, 1) := by decide +kernel
theorem dX5_isTaken_56 : decode cX5_isTaken 56 = .ok (.ireturn, 1) := by decide +kernel
theorem dX5_hasEnd_0 : decode cX5_hasEnd 0 = .ok (.aload_n 0, 1) := by decide +kernel
theorem dX5_hasEnd_1 : decode cX5_hasEnd 1 = .ok (.getfield 21, 3) := by decide +kernel
theorem dX5_hasEnd_4 : decode cX5_hasEnd 4 = .ok (.iload_n 1, 1) := by decide +kernel
theorem dX5_hasEnd_5 : decode cX5_hasEnd 5 = .ok (.iaload, 1) := by decide +kernel
theorem dX5_hasEnd_6 : decode cX5_hasEnd 6 = .ok (.sipush 2001, 3) := by decide +kernel
theorem dX5_hasEnd_9 : decode cX5_hasEnd 9 = .ok (.if_icmp .eq 7, 3) := by decide +kernel
theorem dX5_hasEnd_12 : decode cX5_hasEnd 12 = .ok (.iconst 1, 1) := by decide +kernel
theorem dX5_hasEnd_13 : decode cX5_hasEnd 13 = .ok (.goto 4, 3) := by decide +kernel
theorem dX5_hasEnd_16 : decode cX5_hasEnd 16 = .ok (.iconst 0, 1) := by decide +kernel
theorem dX5_hasEnd_17 : decode cX5_hasEnd 17 = .ok (.ireturn, 1) := by decide +kernel
theorem dX5_isKnown_0 : decode cX5_isKnown 0 = .ok (.aload_n 0, 1) := by decide +kernel
theorem dX5_isKnown_1 : decode cX5_isKnown 1 = .ok (.iload_n 1, 1) := by decide +kernel
theorem dX5_isKnown_2 : decode cX5_isKnown 2 = .ok (.invokevirtual 47, 3) := by decide +kernel
theorem dX5_isKnown_5 : decode cX5_isKnown 5 = .ok (.ifCond .eq 17, 3) := by decide +kernel
theorem dX5_isKnown_8 : decode cX5_isKnown 8 = .ok (.aload_n 0, 1) := by decide +kernel
theorem dX5_isKnown_9 : decode cX5_isKnown 9 = .ok (.getfield 18, 3) := by decide +kernel
theorem dX5_isKnown_12 : decode cX5_isKnown 12 = .ok (.iload_n 1, 1) := by decide +kernel
theorem dX5_isKnown_13 : decode cX5_isKnown 13 = .ok (.iaload, 1) := by decide +kernel
theorem dX5_isKnown_14 : decode cX5_isKnown 14 = .ok (.iload_n 2, 1) := by decide +kernel
theorem dX5_isKnown_15 : decode cX5_isKnown 15 = .ok (.if_icmp .gt 7, 3) := by decide +kernel
theorem dX5_isKnown_18 : decode cX5_isKnown 18 = .ok (.iconst 1, 1) := by decide +kernel
theorem dX5_isKnown_19 : decode cX5_isKnown 19 = .ok (.goto 4, 3) := by decide +kernel
theorem dX5_isKnown_22 : decode cX5_isKnown 22 = .ok (.iconst 0, 1) := by decide +kernel
theorem dX5_isKnown_23 : decode cX5_isKnown 23 = .ok (.ireturn, 1) := by decide +kernel
theorem dX5_codeOf_0 : decode cX5_codeOf 0 = .ok (.aload_n 0, 1) := by decide +kernel
theorem dX5_codeOf_1 : decode cX5_codeOf 1 = .ok (.getfield 9, 3) := by decide +kernel
theorem dX5_codeOf_4 : decode cX5_codeOf 4 = .ok (.iload_n 1, 1) := by decide +kernel
theorem dX5_codeOf_5 : decode cX5_codeOf 5 = .ok (.iaload, 1) := by decide +kernel
theorem dX5_codeOf_6 : decode cX5_codeOf 6 = .ok (.ireturn, 1) := by decide +kernel
theorem dX5_birthOf_0 : decode cX5_birthOf 0 = .ok (.aload_n 0, 1) := by decide +kernel
theorem dX5_birthOf_1 : decode cX5_birthOf 1 = .ok (.getfield 15, 3) := by decide +kernel
theorem dX5_birthOf_4 : decode cX5_birthOf 4 = .ok (.iload_n 1, 1) := by decide +kernel
theorem dX5_birthOf_5 : decode cX5_birthOf 5 = .ok (.iaload, 1) := by decide +kernel
theorem dX5_birthOf_6 : decode cX5_birthOf 6 = .ok (.ireturn, 1) := by decide +kernel
theorem dX5_endOf_0 : decode cX5_endOf 0 = .ok (.aload_n 0, 1) := by decide +kernel
theorem dX5_endOf_1 : decode cX5_endOf 1 = .ok (.iload_n 1, 1) := by decide +kernel
theorem dX5_endOf_2 : decode cX5_endOf 2 = .ok (.iload_n 2, 1) := by decide +kernel
theorem dX5_endOf_3 : decode cX5_endOf 3 = .ok (.invokevirtual 51, 3) := by decide +kernel
theorem dX5_endOf_6 : decode cX5_endOf 6 = .ok (.ifCond .eq 12, 3) := by decide +kernel
theorem dX5_endOf_9 : decode cX5_endOf 9 = .ok (.aload_n 0, 1) := by decide +kernel
theorem dX5_endOf_10 : decode cX5_endOf 10 = .ok (.getfield 21, 3) := by decide +kernel
theorem dX5_endOf_13 : decode cX5_endOf 13 = .ok (.iload_n 1, 1) := by decide +kernel
theorem dX5_endOf_14 : decode cX5_endOf 14 = .ok (.iaload, 1) := by decide +kernel
theorem dX5_endOf_15 : decode cX5_endOf 15 = .ok (.goto 6, 3) := by decide +kernel
theorem dX5_endOf_18 : decode cX5_endOf 18 = .ok (.sipush 2001, 3) := by decide +kernel
theorem dX5_endOf_21 : decode cX5_endOf 21 = .ok (.ireturn, 1) := by decide +kernel
theorem dX5_endingOf_0 : decode cX5_endingOf 0 = .ok (.aload_n 0, 1) := by decide +kernel
theorem dX5_endingOf_1 : decode cX5_endingOf 1 = .ok (.iload_n 1, 1) := by decide +kernel
theorem dX5_endingOf_2 : decode cX5_endingOf 2 = .ok (.iload_n 2, 1) := by decide +kernel
theorem dX5_endingOf_3 : decode cX5_endingOf 3 = .ok (.invokevirtual 51, 3) := by decide +kernel
theorem dX5_endingOf_6 : decode cX5_endingOf 6 = .ok (.ifCond .eq 12, 3) := by decide +kernel
theorem dX5_endingOf_9 : decode cX5_endingOf 9 = .ok (.aload_n 0, 1) := by decide +kernel
theorem dX5_endingOf_10 : decode cX5_endingOf 10 = .ok (.getfield 27, 3) := by decide +kernel
theorem dX5_endingOf_13 : decode cX5_endingOf 13 = .ok (.iload_n 1, 1) := by decide +kernel
theorem dX5_endingOf_14 : decode cX5_endingOf 14 = .ok (.iaload, 1) := by decide +kernel
theorem dX5_endingOf_15 : decode cX5_endingOf 15 = .ok (.goto 4, 3) := by decide +kernel
theorem dX5_endingOf_18 : decode cX5_endingOf 18 = .ok (.iconst 0, 1) := by decide +kernel
theorem dX5_endingOf_19 : decode cX5_endingOf 19 = .ok (.ireturn, 1) := by decide +kernel
theorem dX5_heirOf_0 : decode cX5_heirOf 0 = .ok (.aload_n 0, 1) := by decide +kernel
theorem dX5_heirOf_1 : decode cX5_heirOf 1 = .ok (.iload_n 1, 1) := by decide +kernel
theorem dX5_heirOf_2 : decode cX5_heirOf 2 = .ok (.iload_n 2, 1) := by decide +kernel
theorem dX5_heirOf_3 : decode cX5_heirOf 3 = .ok (.invokevirtual 51, 3) := by decide +kernel
theorem dX5_heirOf_6 : decode cX5_heirOf 6 = .ok (.ifCond .eq 12, 3) := by decide +kernel
theorem dX5_heirOf_9 : decode cX5_heirOf 9 = .ok (.aload_n 0, 1) := by decide +kernel
theorem dX5_heirOf_10 : decode cX5_heirOf 10 = .ok (.getfield 30, 3) := by decide +kernel
theorem dX5_heirOf_13 : decode cX5_heirOf 13 = .ok (.iload_n 1, 1) := by decide +kernel
theorem dX5_heirOf_14 : decode cX5_heirOf 14 = .ok (.iaload, 1) := by decide +kernel
theorem dX5_heirOf_15 : decode cX5_heirOf 15 = .ok (.goto 4, 3) := by decide +kernel
theorem dX5_heirOf_18 : decode cX5_heirOf 18 = .ok (.iconst (-1), 1) := by decide +kernel
theorem dX5_heirOf_19 : decode cX5_heirOf 19 = .ok (.ireturn, 1) := by decide +kernel
theorem dX5_livesOn_0 : decode cX5_livesOn 0 = .ok (.aload_n 0, 1) := by decide +kernel
theorem dX5_livesOn_1 : decode cX5_livesOn 1 = .ok (.iload_n 1, 1) := by decide +kernel
theorem dX5_livesOn_2 : decode cX5_livesOn 2 = .ok (.iload_n 3, 1) := by decide +kernel
theorem dX5_livesOn_3 : decode cX5_livesOn 3 = .ok (.invokevirtual 55, 3) := by decide +kernel
theorem dX5_livesOn_6 : decode cX5_livesOn 6 = .ok (.ifCond .eq 27, 3) := by decide +kernel
theorem dX5_livesOn_9 : decode cX5_livesOn 9 = .ok (.aload_n 0, 1) := by decide +kernel
theorem dX5_livesOn_10 : decode cX5_livesOn 10 = .ok (.getfield 15, 3) := by decide +kernel
theorem dX5_livesOn_13 : decode cX5_livesOn 13 = .ok (.iload_n 1, 1) := by decide +kernel
theorem dX5_livesOn_14 : decode cX5_livesOn 14 = .ok (.iaload, 1) := by decide +kernel
theorem dX5_livesOn_15 : decode cX5_livesOn 15 = .ok (.iload_n 2, 1) := by decide +kernel
theorem dX5_livesOn_16 : decode cX5_livesOn 16 = .ok (.if_icmp .gt 17, 3) := by decide +kernel
theorem dX5_livesOn_19 : decode cX5_livesOn 19 = .ok (.iload_n 2, 1) := by decide +kernel
theorem dX5_livesOn_20 : decode cX5_livesOn 20 = .ok (.aload_n 0, 1) := by decide +kernel
theorem dX5_livesOn_21 : decode cX5_livesOn 21 = .ok (.iload_n 1, 1) := by decide +kernel
theorem dX5_livesOn_22 : decode cX5_livesOn 22 = .ok (.iload_n 3, 1) := by decide +kernel
theorem dX5_livesOn_23 : decode cX5_livesOn 23 = .ok (.invokevirtual 58, 3) := by decide +kernel
theorem dX5_livesOn_26 : decode cX5_livesOn 26 = .ok (.if_icmp .ge 7, 3) := by decide +kernel
theorem dX5_livesOn_29 : decode cX5_livesOn 29 = .ok (.iconst 1, 1) := by decide +kernel
theorem dX5_livesOn_30 : decode cX5_livesOn 30 = .ok (.goto 4, 3) := by decide +kernel
theorem dX5_livesOn_33 : decode cX5_livesOn 33 = .ok (.iconst 0, 1) := by decide +kernel
theorem dX5_livesOn_34 : decode cX5_livesOn 34 = .ok (.ireturn, 1) := by decide +kernel
theorem dX5_livingOn_0 : decode cX5_livingOn 0 = .ok (.iconst 0, 1) := by decide +kernel
theorem dX5_livingOn_1 : decode cX5_livingOn 1 = .ok (.istore 4, 2) := by decide +kernel
theorem dX5_livingOn_3 : decode cX5_livingOn 3 = .ok (.iload 4, 2) := by decide +kernel
theorem dX5_livingOn_5 : decode cX5_livingOn 5 = .ok (.aload_n 0, 1) := by decide +kernel
theorem dX5_livingOn_6 : decode cX5_livingOn 6 = .ok (.getfield 39, 3) := by decide +kernel
theorem dX5_livingOn_9 : decode cX5_livingOn 9 = .ok (.if_icmp .ge 34, 3) := by decide +kernel
theorem dX5_livingOn_12 : decode cX5_livingOn 12 = .ok (.aload_n 0, 1) := by decide +kernel
theorem dX5_livingOn_13 : decode cX5_livingOn 13 = .ok (.getfield 9, 3) := by decide +kernel
theorem dX5_livingOn_16 : decode cX5_livingOn 16 = .ok (.iload 4, 2) := by decide +kernel
theorem dX5_livingOn_18 : decode cX5_livingOn 18 = .ok (.iaload, 1) := by decide +kernel
theorem dX5_livingOn_19 : decode cX5_livingOn 19 = .ok (.iload_n 1, 1) := by decide +kernel
theorem dX5_livingOn_20 : decode cX5_livingOn 20 = .ok (.if_icmp .ne 17, 3) := by decide +kernel
theorem dX5_livingOn_23 : decode cX5_livingOn 23 = .ok (.aload_n 0, 1) := by decide +kernel
theorem dX5_livingOn_24 : decode cX5_livingOn 24 = .ok (.iload 4, 2) := by decide +kernel
theorem dX5_livingOn_26 : decode cX5_livingOn 26 = .ok (.iload_n 2, 1) := by decide +kernel
theorem dX5_livingOn_27 : decode cX5_livingOn 27 = .ok (.iload_n 3, 1) := by decide +kernel
theorem dX5_livingOn_28 : decode cX5_livingOn 28 = .ok (.invokevirtual 62, 3) := by decide +kernel
theorem dX5_livingOn_31 : decode cX5_livingOn 31 = .ok (.ifCond .eq 6, 3) := by decide +kernel
theorem dX5_livingOn_34 : decode cX5_livingOn 34 = .ok (.iload 4, 2) := by decide +kernel
theorem dX5_livingOn_36 : decode cX5_livingOn 36 = .ok (.ireturn, 1) := by decide +kernel
theorem dX5_livingOn_37 : decode cX5_livingOn 37 = .ok (.iinc 4 1, 3) := by decide +kernel
theorem dX5_livingOn_40 : decode cX5_livingOn 40 = .ok (.goto (-37), 3) := by decide +kernel
theorem dX5_livingOn_43 : decode cX5_livingOn 43 = .ok (.iconst (-1), 1) := by decide +kernel
theorem dX5_livingOn_44 : decode cX5_livingOn 44 = .ok (.ireturn, 1) := by decide +kernel
theorem dX5_firstShareOf_0 : decode cX5_firstShareOf 0 = .ok (.aload_n 0, 1) := by decide +kernel
theorem dX5_firstShareOf_1 : decode cX5_firstShareOf 1 = .ok (.getfield 36, 3) := by decide +kernel
theorem dX5_firstShareOf_4 : decode cX5_firstShareOf 4 = .ok (.iload_n 1, 1) := by decide +kernel
theorem dX5_firstShareOf_5 : decode cX5_firstShareOf 5 = .ok (.iaload, 1) := by decide +kernel
theorem dX5_firstShareOf_6 : decode cX5_firstShareOf 6 = .ok (.istore_n 3, 1) := by decide +kernel
theorem dX5_firstShareOf_7 : decode cX5_firstShareOf 7 = .ok (.iload_n 3, 1) := by decide +kernel
theorem dX5_firstShareOf_8 : decode cX5_firstShareOf 8 = .ok (.iconst 1, 1) := by decide +kernel
theorem dX5_firstShareOf_9 : decode cX5_firstShareOf 9 = .ok (.if_icmp .ge 7, 3) := by decide +kernel
theorem dX5_firstShareOf_12 : decode cX5_firstShareOf 12 = .ok (.iconst 0, 1) := by decide +kernel
theorem dX5_firstShareOf_13 : decode cX5_firstShareOf 13 = .ok (.goto 13, 3) := by decide +kernel
theorem dX5_firstShareOf_16 : decode cX5_firstShareOf 16 = .ok (.iload_n 2, 1) := by decide +kernel
theorem dX5_firstShareOf_17 : decode cX5_firstShareOf 17 = .ok (.aload_n 0, 1) := by decide +kernel
theorem dX5_firstShareOf_18 : decode cX5_firstShareOf 18 = .ok (.getfield 33, 3) := by decide +kernel
theorem dX5_firstShareOf_21 : decode cX5_firstShareOf 21 = .ok (.iload_n 1, 1) := by decide +kernel
theorem dX5_firstShareOf_22 : decode cX5_firstShareOf 22 = .ok (.iaload, 1) := by decide +kernel
theorem dX5_firstShareOf_23 : decode cX5_firstShareOf 23 = .ok (.imul, 1) := by decide +kernel
theorem dX5_firstShareOf_24 : decode cX5_firstShareOf 24 = .ok (.iload_n 3, 1) := by decide +kernel
theorem dX5_firstShareOf_25 : decode cX5_firstShareOf 25 = .ok (.idiv, 1) := by decide +kernel
theorem dX5_firstShareOf_26 : decode cX5_firstShareOf 26 = .ok (.ireturn, 1) := by decide +kernel
theorem dX5_isEndKnown_0 : decode cX5_isEndKnown 0 = .ok (.aload_n 0, 1) := by decide +kernel
theorem dX5_isEndKnown_1 : decode cX5_isEndKnown 1 = .ok (.getfield 24, 3) := by decide +kernel
theorem dX5_isEndKnown_4 : decode cX5_isEndKnown 4 = .ok (.iload_n 1, 1) := by decide +kernel
theorem dX5_isEndKnown_5 : decode cX5_isEndKnown 5 = .ok (.iaload, 1) := by decide +kernel
theorem dX5_isEndKnown_6 : decode cX5_isEndKnown 6 = .ok (.iload_n 2, 1) := by decide +kernel
theorem dX5_isEndKnown_7 : decode cX5_isEndKnown 7 = .ok (.if_icmp .gt 7, 3) := by decide +kernel
theorem dX5_isEndKnown_10 : decode cX5_isEndKnown 10 = .ok (.iconst 1, 1) := by decide +kernel
theorem dX5_isEndKnown_11 : decode cX5_isEndKnown 11 = .ok (.goto 4, 3) := by decide +kernel
theorem dX5_isEndKnown_14 : decode cX5_isEndKnown 14 = .ok (.iconst 0, 1) := by decide +kernel
theorem dX5_isEndKnown_15 : decode cX5_isEndKnown 15 = .ok (.ireturn, 1) := by decide +kernel
theorem dX6_init_0 : decode cX6_init 0 = .ok (.aload_n 0, 1) := by decide +kernel
theorem dX6_init_1 : decode cX6_init 1 = .ok (.invokespecial 3, 3) := by decide +kernel
theorem dX6_init_4 : decode cX6_init 4 = .ok (.aload_n 0, 1) := by decide +kernel
theorem dX6_init_5 : decode cX6_init 5 = .ok (.new 9, 3) := by decide +kernel
theorem dX6_init_8 : decode cX6_init 8 = .ok (.dup, 1) := by decide +kernel
theorem dX6_init_9 : decode cX6_init 9 = .ok (.invokespecial 11, 3) := by decide +kernel
theorem dX6_init_12 : decode cX6_init 12 = .ok (.putfield 12, 3) := by decide +kernel
theorem dX6_init_15 : decode cX6_init 15 = .ok (.aload_n 0, 1) := by decide +kernel
theorem dX6_init_16 : decode cX6_init 16 = .ok (.new 16, 3) := by decide +kernel
theorem dX6_init_19 : decode cX6_init 19 = .ok (.dup, 1) := by decide +kernel
theorem dX6_init_20 : decode cX6_init 20 = .ok (.invokespecial 18, 3) := by decide +kernel
theorem dX6_init_23 : decode cX6_init 23 = .ok (.putfield 19, 3) := by decide +kernel
theorem dX6_init_26 : decode cX6_init 26 = .ok (.aload_n 0, 1) := by decide +kernel
theorem dX6_init_27 : decode cX6_init 27 = .ok (.new 23, 3) := by decide +kernel
theorem dX6_init_30 : decode cX6_init 30 = .ok (.dup, 1) := by decide +kernel
theorem dX6_init_31 : decode cX6_init 31 = .ok (.aload_n 0, 1) := by decide +kernel
theorem dX6_init_32 : decode cX6_init 32 = .ok (.getfield 12, 3) := by decide +kernel
theorem dX6_init_35 : decode cX6_init 35 = .ok (.invokespecial 25, 3) := by decide +kernel
theorem dX6_init_38 : decode cX6_init 38 = .ok (.putfield 28, 3) := by decide +kernel
theorem dX6_init_41 : decode cX6_init 41 = .ok (.aload_n 0, 1) := by decide +kernel
theorem dX6_init_42 : decode cX6_init 42 = .ok (.new 32, 3) := by decide +kernel
theorem dX6_init_45 : decode cX6_init 45 = .ok (.dup, 1) := by decide +kernel
theorem dX6_init_46 : decode cX6_init 46 = .ok (.aload_n 0, 1) := by decide +kernel
theorem dX6_init_47 : decode cX6_init 47 = .ok (.getfield 12, 3) := by decide +kernel
theorem dX6_init_50 : decode cX6_init 50 = .ok (.invokespecial 34, 3) := by decide +kernel
theorem dX6_init_53 : decode cX6_init 53 = .ok (.putfield 35, 3) := by decide +kernel
theorem dX6_init_56 : decode cX6_init 56 = .ok (.aload_n 0, 1) := by decide +kernel
theorem dX6_init_57 : decode cX6_init 57 = .ok (.new 39, 3) := by decide +kernel
theorem dX6_init_60 : decode cX6_init 60 = .ok (.dup, 1) := by decide +kernel
theorem dX6_init_61 : decode cX6_init 61 = .ok (.aload_n 0, 1) := by decide +kernel
theorem dX6_init_62 : decode cX6_init 62 = .ok (.getfield 19, 3) := by decide +kernel
theorem dX6_init_65 : decode cX6_init 65 = .ok (.invokespecial 41, 3) := by decide +kernel
theorem dX6_init_68 : decode cX6_init 68 = .ok (.putfield 44, 3) := by decide +kernel
theorem dX6_init_71 : decode cX6_init 71 = .ok (.aload_n 0, 1) := by decide +kernel
theorem dX6_init_72 : decode cX6_init 72 = .ok (.iconst 0, 1) := by decide +kernel
theorem dX6_init_73 : decode cX6_init 73 = .ok (.putfield 48, 3) := by decide +kernel
theorem dX6_init_76 : decode cX6_init 76 = .ok (.return_, 1) := by decide +kernel
theorem dX6_day_0 : decode cX6_day 0 = .ok (.iload_n 1, 1) := by decide +kernel
theorem dX6_day_1 : decode cX6_day 1 = .ok (.aload_n 0, 1) := by decide +kernel
theorem dX6_day_2 : decode cX6_day 2 = .ok (.getfield 48, 3) := by decide +kernel
theorem dX6_day_5 : decode cX6_day 5 = .ok (.if_icmp .le 10, 3) := by decide +kernel
theorem dX6_day_8 : decode cX6_day 8 = .ok (.iload_n 1, 1) := by decide +kernel
theorem dX6_day_9 : decode cX6_day 9 = .ok (.sipush 2000, 3) := by decide +kernel
theorem dX6_day_12 : decode cX6_day 12 = .ok (.if_icmp .le 5, 3) := by decide +kernel
theorem dX6_day_15 : decode cX6_day 15 = .ok (.iconst 0, 1) := by decide +kernel
theorem dX6_day_16 : decode cX6_day 16 = .ok (.ireturn, 1) := by decide +kernel
theorem dX6_day_17 : decode cX6_day 17 = .ok (.aload_n 0, 1) := by decide +kernel
theorem dX6_day_18 : decode cX6_day 18 = .ok (.iload_n 1, 1) := by decide +kernel
theorem dX6_day_19 : decode cX6_day 19 = .ok (.putfield 48, 3) := by decide +kernel
theorem dX6_day_22 : decode cX6_day 22 = .ok (.iconst 1, 1) := by decide +kernel
theorem dX6_day_23 : decode cX6_day 23 = .ok (.ireturn, 1) := by decide +kernel
theorem dX6_born_0 : decode cX6_born 0 = .ok (.iload_n 1, 1) := by decide +kernel
theorem dX6_born_1 : decode cX6_born 1 = .ok (.invokestatic 52, 3) := by decide +kernel
theorem dX6_born_4 : decode cX6_born 4 = .ok (.ifCond .eq 10, 3) := by decide +kernel
theorem dX6_born_7 : decode cX6_born 7 = .ok (.iload_n 2, 1) := by decide +kernel
theorem dX6_born_8 : decode cX6_born 8 = .ok (.invokestatic 56, 3) := by decide +kernel
theorem dX6_born_11 : decode cX6_born 11 = .ok (.ifCond .ne 6, 3) := by decide +kernel
theorem dX6_born_14 : decode cX6_born 14 = .ok (.bipush (-2), 2) := by decide +kernel
theorem dX6_born_16 : decode cX6_born 16 = .ok (.ireturn, 1) := by decide +kernel
theorem dX6_born_17 : decode cX6_born 17 = .ok (.aload_n 0, 1) := by decide +kernel
theorem dX6_born_18 : decode cX6_born 18 = .ok (.getfield 19, 3) := by decide +kernel
theorem dX6_born_21 : decode cX6_born 21 = .ok (.iload_n 1, 1) := by decide +kernel
theorem dX6_born_22 : decode cX6_born 22 = .ok (.iload_n 2, 1) := by decide +kernel
theorem dX6_born_23 : decode cX6_born 23 = .ok (.iconst (-1), 1) := by decide +kernel
theorem dX6_born_24 : decode cX6_born 24 = .ok (.iconst (-1), 1) := by decide +kernel
theorem dX6_born_25 : decode cX6_born 25 = .ok (.invokevirtual 59, 3) := by decide +kernel
theorem dX6_born_28 : decode cX6_born 28 = .ok (.ifCond .eq 6, 3) := by decide +kernel
theorem dX6_born_31 : decode cX6_born 31 = .ok (.bipush (-3), 2) := by decide +kernel
theorem dX6_born_33 : decode cX6_born 33 = .ok (.ireturn, 1) := by decide +kernel
theorem dX6_born_34 : decode cX6_born 34 = .ok (.aload_n 0, 1) := by decide +kernel
theorem dX6_born_35 : decode cX6_born 35 = .ok (.getfield 19, 3) := by decide +kernel
theorem dX6_born_38 : decode cX6_born 38 = .ok (.invokevirtual 63, 3) := by decide +kernel
theorem dX6_born_41 : decode cX6_born 41 = .ok (.iconst 1, 1) := by decide +kernel
theorem dX6_born_42 : decode cX6_born 42 = .ok (.if_icmp .ge 6, 3) := by decide +kernel
theorem dX6_born_45 : decode cX6_born 45 = .ok (.bipush (-4), 2) := by decide +kernel
theorem dX6_born_47 : decode cX6_born 47 = .ok (.ireturn, 1) := by decide +kernel
theorem dX6_born_48 : decode cX6_born 48 = .ok (.aload_n 0, 1) := by decide +kernel
theorem dX6_born_49 : decode cX6_born 49 = .ok (.getfield 19, 3) := by decide +kernel
theorem dX6_born_52 : decode cX6_born 52 = .ok (.iload_n 1, 1) := by decide +kernel
theorem dX6_born_53 : decode cX6_born 53 = .ok (.iload_n 2, 1) := by decide +kernel
theorem dX6_born_54 : decode cX6_born 54 = .ok (.aload_n 0, 1) := by decide +kernel
theorem dX6_born_55 : decode cX6_born 55 = .ok (.getfield 48, 3) := by decide +kernel
theorem dX6_born_58 : decode cX6_born 58 = .ok (.invokevirtual 67, 3) := by decide +kernel
theorem dX6_born_61 : decode cX6_born 61 = .ok (.ireturn, 1) := by decide +kernel
theorem dX6_ends_0 : decode cX6_ends 0 = .ok (.aload_n 0, 1) := by decide +kernel
theorem dX6_ends_1 : decode cX6_ends 1 = .ok (.iload_n 1, 1) := by decide +kernel
theorem dX6_ends_2 : decode cX6_ends 2 = .ok (.iload_n 2, 1) := by decide +kernel
theorem dX6_ends_3 : decode cX6_ends 3 = .ok (.invokevirtual 71, 3) := by decide +kernel
theorem dX6_ends_6 : decode cX6_ends 6 = .ok (.ifCond .ne 5, 3) := by decide +kernel
theorem dX6_ends_9 : decode cX6_ends 9 = .ok (.iconst 0, 1) := by decide +kernel
theorem dX6_ends_10 : decode cX6_ends 10 = .ok (.ireturn, 1) := by decide +kernel
theorem dX6_ends_11 : decode cX6_ends 11 = .ok (.aload_n 0, 1) := by decide +kernel
theorem dX6_ends_12 : decode cX6_ends 12 = .ok (.getfield 19, 3) := by decide +kernel
theorem dX6_ends_15 : decode cX6_ends 15 = .ok (.iload_n 1, 1) := by decide +kernel
theorem dX6_ends_16 : decode cX6_ends 16 = .ok (.iload_n 2, 1) := by decide +kernel
theorem dX6_ends_17 : decode cX6_ends 17 = .ok (.aload_n 0, 1) := by decide +kernel
theorem dX6_ends_18 : decode cX6_ends 18 = .ok (.getfield 48, 3) := by decide +kernel
theorem dX6_ends_21 : decode cX6_ends 21 = .ok (.iconst 1, 1) := by decide +kernel
theorem dX6_ends_22 : decode cX6_ends 22 = .ok (.iconst (-1), 1) := by decide +kernel
theorem dX6_ends_23 : decode cX6_ends 23 = .ok (.invokevirtual 75, 3) := by decide +kernel
theorem dX6_ends_26 : decode cX6_ends 26 = .ok (.iconst 1, 1) := by decide +kernel
theorem dX6_ends_27 : decode cX6_ends 27 = .ok (.ireturn, 1) := by decide +kernel
theorem dX6_split_0 : decode cX6_split 0 = .ok (.aload_n 0, 1) := by decide +kernel
theorem dX6_split_1 : decode cX6_split 1 = .ok (.iload_n 1, 1) := by decide +kernel
theorem dX6_split_2 : decode cX6_split 2 = .ok (.iload_n 2, 1) := by decide +kernel
theorem dX6_split_3 : decode cX6_split 3 = .ok (.invokevirtual 71, 3) := by decide +kernel
theorem dX6_split_6 : decode cX6_split 6 = .ok (.ifCond .eq 34, 3) := by decide +kernel
theorem dX6_split_9 : decode cX6_split 9 = .ok (.iload_n 3, 1) := by decide +kernel
theorem dX6_split_10 : decode cX6_split 10 = .ok (.invokestatic 52, 3) := by decide +kernel
theorem dX6_split_13 : decode cX6_split 13 = .ok (.ifCond .eq 27, 3) := by decide +kernel
theorem dX6_split_16 : decode cX6_split 16 = .ok (.iload 4, 2) := by decide +kernel
theorem dX6_split_18 : decode cX6_split 18 = .ok (.invokestatic 52, 3) := by decide +kernel
theorem dX6_split_21 : decode cX6_split 21 = .ok (.ifCond .eq 19, 3) := by decide +kernel
theorem dX6_split_24 : decode cX6_split 24 = .ok (.iload_n 3, 1) := by decide +kernel
theorem dX6_split_25 : decode cX6_split 25 = .ok (.iload 4, 2) := by decide +kernel
theorem dX6_split_27 : decode cX6_split 27 = .ok (.if_icmp .eq 13, 3) := by decide +kernel
theorem dX6_split_30 : decode cX6_split 30 = .ok (.iload 5, 2) := by decide +kernel
theorem dX6_split_32 : decode cX6_split 32 = .ok (.iload 6, 2) := by decide +kernel
theorem dX6_split_34 : decode cX6_split 34 = .ok (.invokestatic 79, 3) := by decide +kernel
theorem dX6_split_37 : decode cX6_split 37 = .ok (.ifCond .ne 6, 3) := by decide +kernel
theorem dX6_split_40 : decode cX6_split 40 = .ok (.bipush (-2), 2) := by decide +kernel
theorem dX6_split_42 : decode cX6_split 42 = .ok (.ireturn, 1) := by decide +kernel
theorem dX6_split_43 : decode cX6_split 43 = .ok (.aload_n 0, 1) := by decide +kernel
theorem dX6_split_44 : decode cX6_split 44 = .ok (.getfield 19, 3) := by decide +kernel
theorem dX6_split_47 : decode cX6_split 47 = .ok (.iload_n 3, 1) := by decide +kernel
theorem dX6_split_48 : decode cX6_split 48 = .ok (.iload_n 2, 1) := by decide +kernel
theorem dX6_split_49 : decode cX6_split 49 = .ok (.iload_n 1, 1) := by decide +kernel
theorem dX6_split_50 : decode cX6_split 50 = .ok (.iconst (-1), 1) := by decide +kernel
theorem dX6_split_51 : decode cX6_split 51 = .ok (.invokevirtual 59, 3) := by decide +kernel
theorem dX6_split_54 : decode cX6_split 54 = .ok (.ifCond .ne 18, 3) := by decide +kernel
theorem dX6_split_57 : decode cX6_split 57 = .ok (.aload_n 0, 1) := by decide +kernel
theorem dX6_split_58 : decode cX6_split 58 = .ok (.getfield 19, 3) := by decide +kernel
theorem dX6_split_61 : decode cX6_split 61 = .ok (.iload 4, 2) := by decide +kernel
theorem dX6_split_63 : decode cX6_split 63 = .ok (.iload_n 2, 1) := by decide +kernel
theorem dX6_split_64 : decode cX6_split 64 = .ok (.iload_n 1, 1) := by decide +kernel
theorem dX6_split_65 : decode cX6_split 65 = .ok (.iconst (-1), 1) := by decide +kernel
theorem dX6_split_66 : decode cX6_split 66 = .ok (.invokevirtual 59, 3) := by decide +kernel
theorem dX6_split_69 : decode cX6_split 69 = .ok (.ifCond .eq 6, 3) := by decide +kernel
theorem dX6_split_72 : decode cX6_split 72 = .ok (.bipush (-3), 2) := by decide +kernel
theorem dX6_split_74 : decode cX6_split 74 = .ok (.ireturn, 1) := by decide +kernel
theorem dX6_split_75 : decode cX6_split 75 = .ok (.aload_n 0, 1) := by decide +kernel
theorem dX6_split_76 : decode cX6_split 76 = .ok (.getfield 19, 3) := by decide +kernel
theorem dX6_split_79 : decode cX6_split 79 = .ok (.invokevirtual 63, 3) := by decide +kernel
theorem dX6_split_82 : decode cX6_split 82 = .ok (.iconst 2, 1) := by decide +kernel
theorem dX6_split_83 : decode cX6_split 83 = .ok (.if_icmp .ge 6, 3) := by decide +kernel
theorem dX6_split_86 : decode cX6_split 86 = .ok (.bipush (-4), 2) := by decide +kernel
theorem dX6_split_88 : decode cX6_split 88 = .ok (.ireturn, 1) := by decide +kernel
theorem dX6_split_89 : decode cX6_split 89 = .ok (.aload_n 0, 1) := by decide +kernel
theorem dX6_split_90 : decode cX6_split 90 = .ok (.getfield 19, 3) := by decide +kernel
theorem dX6_split_93 : decode cX6_split 93 = .ok (.iload_n 3, 1) := by decide +kernel
theorem dX6_split_94 : decode cX6_split 94 = .ok (.iload_n 2, 1) := by decide +kernel
theorem dX6_split_95 : decode cX6_split 95 = .ok (.aload_n 0, 1) := by decide +kernel
theorem dX6_split_96 : decode cX6_split 96 = .ok (.getfield 48, 3) := by decide +kernel
theorem dX6_split_99 : decode cX6_split 99 = .ok (.invokevirtual 67, 3) := by decide +kernel
theorem dX6_split_102 : decode cX6_split 102 = .ok (.istore 7, 2) := by decide +kernel
theorem dX6_split_104 : decode cX6_split 104 = .ok (.aload_n 0, 1) := by decide +kernel
theorem dX6_split_105 : decode cX6_split 105 = .ok (.getfield 19, 3) := by decide +kernel
theorem dX6_split_108 : decode cX6_split 108 = .ok (.iload 4, 2) := by decide +kernel
theorem dX6_split_110 : decode cX6_split 110 = .ok (.iload_n 2, 1) := by decide +kernel
theorem dX6_split_111 : decode cX6_split 111 = .ok (.aload_n 0, 1) := by decide +kernel
theorem dX6_split_112 : decode cX6_split 112 = .ok (.getfield 48, 3) := by decide +kernel
theorem dX6_split_115 : decode cX6_split 115 = .ok (.invokevirtual 67, 3) := by decide +kernel
theorem dX6_split_118 : decode cX6_split 118 = .ok (.pop, 1) := by decide +kernel
theorem dX6_split_119 : decode cX6_split 119 = .ok (.aload_n 0, 1) := by decide +kernel
theorem dX6_split_120 : decode cX6_split 120 = .ok (.getfield 19, 3) := by decide +kernel
theorem dX6_split_123 : decode cX6_split 123 = .ok (.iload_n 1, 1) := by decide +kernel
theorem dX6_split_124 : decode cX6_split 124 = .ok (.iload_n 2, 1) := by decide +kernel
theorem dX6_split_125 : decode cX6_split 125 = .ok (.aload_n 0, 1) := by decide +kernel
theorem dX6_split_126 : decode cX6_split 126 = .ok (.getfield 48, 3) := by decide +kernel
theorem dX6_split_129 : decode cX6_split 129 = .ok (.iconst 2, 1) := by decide +kernel
theorem dX6_split_130 : decode cX6_split 130 = .ok (.iload 7, 2) := by decide +kernel
theorem dX6_split_132 : decode cX6_split 132 = .ok (.invokevirtual 75, 3) := by decide +kernel
theorem dX6_split_135 : decode cX6_split 135 = .ok (.aload_n 0, 1) := by decide +kernel
theorem dX6_split_136 : decode cX6_split 136 = .ok (.getfield 19, 3) := by decide +kernel
theorem dX6_split_139 : decode cX6_split 139 = .ok (.iload_n 1, 1) := by decide +kernel
theorem dX6_split_140 : decode cX6_split 140 = .ok (.iload 5, 2) := by decide +kernel
theorem dX6_split_142 : decode cX6_split 142 = .ok (.iload 6, 2) := by decide +kernel
theorem dX6_split_144 : decode cX6_split 144 = .ok (.invokevirtual 82, 3) := by decide +kernel
theorem dX6_split_147 : decode cX6_split 147 = .ok (.iload 7, 2) := by decide +kernel
theorem dX6_split_149 : decode cX6_split 149 = .ok (.ireturn, 1) := by decide +kernel
theorem dX6_join_0 : decode cX6_join 0 = .ok (.iload_n 1, 1) := by decide +kernel
theorem dX6_join_1 : decode cX6_join 1 = .ok (.iload_n 2, 1) := by decide +kernel
theorem dX6_join_2 : decode cX6_join 2 = .ok (.if_icmp .eq 29, 3) := by decide +kernel
theorem dX6_join_5 : decode cX6_join 5 = .ok (.aload_n 0, 1) := by decide +kernel
theorem dX6_join_6 : decode cX6_join 6 = .ok (.iload_n 1, 1) := by decide +kernel
theorem dX6_join_7 : decode cX6_join 7 = .ok (.iload_n 3, 1) := by decide +kernel
theorem dX6_join_8 : decode cX6_join 8 = .ok (.invokevirtual 71, 3) := by decide +kernel
theorem dX6_join_11 : decode cX6_join 11 = .ok (.ifCond .eq 20, 3) := by decide +kernel
theorem dX6_join_14 : decode cX6_join 14 = .ok (.aload_n 0, 1) := by decide +kernel
theorem dX6_join_15 : decode cX6_join 15 = .ok (.iload_n 2, 1) := by decide +kernel
theorem dX6_join_16 : decode cX6_join 16 = .ok (.iload_n 3, 1) := by decide +kernel
theorem dX6_join_17 : decode cX6_join 17 = .ok (.invokevirtual 71, 3) := by decide +kernel
theorem dX6_join_20 : decode cX6_join 20 = .ok (.ifCond .eq 11, 3) := by decide +kernel
theorem dX6_join_23 : decode cX6_join 23 = .ok (.iload 4, 2) := by decide +kernel
theorem dX6_join_25 : decode cX6_join 25 = .ok (.invokestatic 52, 3) := by decide +kernel
theorem dX6_join_28 : decode cX6_join 28 = .ok (.ifCond .ne 6, 3) := by decide +kernel
theorem dX6_join_31 : decode cX6_join 31 = .ok (.bipush (-2), 2) := by decide +kernel
theorem dX6_join_33 : decode cX6_join 33 = .ok (.ireturn, 1) := by decide +kernel
theorem dX6_join_34 : decode cX6_join 34 = .ok (.aload_n 0, 1) := by decide +kernel
theorem dX6_join_35 : decode cX6_join 35 = .ok (.getfield 19, 3) := by decide +kernel
theorem dX6_join_38 : decode cX6_join 38 = .ok (.iload 4, 2) := by decide +kernel
theorem dX6_join_40 : decode cX6_join 40 = .ok (.iload_n 3, 1) := by decide +kernel
theorem dX6_join_41 : decode cX6_join 41 = .ok (.iload_n 1, 1) := by decide +kernel
theorem dX6_join_42 : decode cX6_join 42 = .ok (.iload_n 2, 1) := by decide +kernel
theorem dX6_join_43 : decode cX6_join 43 = .ok (.invokevirtual 59, 3) := by decide +kernel
theorem dX6_join_46 : decode cX6_join 46 = .ok (.ifCond .eq 6, 3) := by decide +kernel
theorem dX6_join_49 : decode cX6_join 49 = .ok (.bipush (-3), 2) := by decide +kernel
theorem dX6_join_51 : decode cX6_join 51 = .ok (.ireturn, 1) := by decide +kernel
theorem dX6_join_52 : decode cX6_join 52 = .ok (.aload_n 0, 1) := by decide +kernel
theorem dX6_join_53 : decode cX6_join 53 = .ok (.getfield 19, 3) := by decide +kernel
theorem dX6_join_56 : decode cX6_join 56 = .ok (.invokevirtual 63, 3) := by decide +kernel
theorem dX6_join_59 : decode cX6_join 59 = .ok (.iconst 1, 1) := by decide +kernel
theorem dX6_join_60 : decode cX6_join 60 = .ok (.if_icmp .ge 6, 3) := by decide +kernel
theorem dX6_join_63 : decode cX6_join 63 = .ok (.bipush (-4), 2) := by decide +kernel
theorem dX6_join_65 : decode cX6_join 65 = .ok (.ireturn, 1) := by decide +kernel
theorem dX6_join_66 : decode cX6_join 66 = .ok (.aload_n 0, 1) := by decide +kernel
theorem dX6_join_67 : decode cX6_join 67 = .ok (.getfield 19, 3) := by decide +kernel
theorem dX6_join_70 : decode cX6_join 70 = .ok (.iload 4, 2) := by decide +kernel
theorem dX6_join_72 : decode cX6_join 72 = .ok (.iload_n 3, 1) := by decide +kernel
theorem dX6_join_73 : decode cX6_join 73 = .ok (.aload_n 0, 1) := by decide +kernel
theorem dX6_join_74 : decode cX6_join 74 = .ok (.getfield 48, 3) := by decide +kernel
theorem dX6_join_77 : decode cX6_join 77 = .ok (.invokevirtual 67, 3) := by decide +kernel
theorem dX6_join_80 : decode cX6_join 80 = .ok (.istore 5, 2) := by decide +kernel
theorem dX6_join_82 : decode cX6_join 82 = .ok (.aload_n 0, 1) := by decide +kernel
theorem dX6_join_83 : decode cX6_join 83 = .ok (.getfield 19, 3) := by decide +kernel
theorem dX6_join_86 : decode cX6_join 86 = .ok (.iload_n 1, 1) := by decide +kernel
theorem dX6_join_87 : decode cX6_join 87 = .ok (.iload_n 3, 1) := by decide +kernel
theorem dX6_join_88 : decode cX6_join 88 = .ok (.aload_n 0, 1) := by decide +kernel
theorem dX6_join_89 : decode cX6_join 89 = .ok (.getfield 48, 3) := by decide +kernel
theorem dX6_join_92 : decode cX6_join 92 = .ok (.iconst 3, 1) := by decide +kernel
theorem dX6_join_93 : decode cX6_join 93 = .ok (.iload 5, 2) := by decide +kernel
theorem dX6_join_95 : decode cX6_join 95 = .ok (.invokevirtual 75, 3) := by decide +kernel
theorem dX6_join_98 : decode cX6_join 98 = .ok (.aload_n 0, 1) := by decide +kernel
theorem dX6_join_99 : decode cX6_join 99 = .ok (.getfield 19, 3) := by decide +kernel
theorem dX6_join_102 : decode cX6_join 102 = .ok (.iload_n 2, 1) := by decide +kernel
theorem dX6_join_103 : decode cX6_join 103 = .ok (.iload_n 3, 1) := by decide +kernel
theorem dX6_join_104 : decode cX6_join 104 = .ok (.aload_n 0, 1) := by decide +kernel
theorem dX6_join_105 : decode cX6_join 105 = .ok (.getfield 48, 3) := by decide +kernel
theorem dX6_join_108 : decode cX6_join 108 = .ok (.iconst 3, 1) := by decide +kernel
theorem dX6_join_109 : decode cX6_join 109 = .ok (.iload 5, 2) := by decide +kernel
theorem dX6_join_111 : decode cX6_join 111 = .ok (.invokevirtual 75, 3) := by decide +kernel
theorem dX6_join_114 : decode cX6_join 114 = .ok (.iload 5, 2) := by decide +kernel
theorem dX6_join_116 : decode cX6_join 116 = .ok (.ireturn, 1) := by decide +kernel
theorem dX6_mark_0 : decode cX6_mark 0 = .ok (.aload_n 0, 1) := by decide +kernel
theorem dX6_mark_1 : decode cX6_mark 1 = .ok (.getfield 19, 3) := by decide +kernel
theorem dX6_mark_4 : decode cX6_mark 4 = .ok (.iload_n 1, 1) := by decide +kernel
theorem dX6_mark_5 : decode cX6_mark 5 = .ok (.invokevirtual 86, 3) := by decide +kernel
theorem dX6_mark_8 : decode cX6_mark 8 = .ok (.ifCond .eq 29, 3) := by decide +kernel
theorem dX6_mark_11 : decode cX6_mark 11 = .ok (.iload_n 2, 1) := by decide +kernel
theorem dX6_mark_12 : decode cX6_mark 12 = .ok (.invokestatic 89, 3) := by decide +kernel
theorem dX6_mark_15 : decode cX6_mark 15 = .ok (.ifCond .eq 22, 3) := by decide +kernel
theorem dX6_mark_18 : decode cX6_mark 18 = .ok (.iload_n 3, 1) := by decide +kernel
theorem dX6_mark_19 : decode cX6_mark 19 = .ok (.invokestatic 56, 3) := by decide +kernel
theorem dX6_mark_22 : decode cX6_mark 22 = .ok (.ifCond .eq 15, 3) := by decide +kernel
theorem dX6_mark_25 : decode cX6_mark 25 = .ok (.iload 4, 2) := by decide +kernel
theorem dX6_mark_27 : decode cX6_mark 27 = .ok (.ifCond .lt 10, 3) := by decide +kernel
theorem dX6_mark_30 : decode cX6_mark 30 = .ok (.iload 4, 2) := by decide +kernel
theorem dX6_mark_32 : decode cX6_mark 32 = .ok (.bipush 99, 2) := by decide +kernel
theorem dX6_mark_34 : decode cX6_mark 34 = .ok (.if_icmp .le 5, 3) := by decide +kernel
theorem dX6_mark_37 : decode cX6_mark 37 = .ok (.iconst 0, 1) := by decide +kernel
theorem dX6_mark_38 : decode cX6_mark 38 = .ok (.ireturn, 1) := by decide +kernel
theorem dX6_mark_39 : decode cX6_mark 39 = .ok (.aload_n 0, 1) := by decide +kernel
theorem dX6_mark_40 : decode cX6_mark 40 = .ok (.getfield 28, 3) := by decide +kernel
theorem dX6_mark_43 : decode cX6_mark 43 = .ok (.invokevirtual 92, 3) := by decide +kernel
theorem dX6_mark_46 : decode cX6_mark 46 = .ok (.ifCond .ne 15, 3) := by decide +kernel
theorem dX6_mark_49 : decode cX6_mark 49 = .ok (.iload_n 2, 1) := by decide +kernel
theorem dX6_mark_50 : decode cX6_mark 50 = .ok (.ifCond .ne 13, 3) := by decide +kernel
theorem dX6_mark_53 : decode cX6_mark 53 = .ok (.aload_n 0, 1) := by decide +kernel
theorem dX6_mark_54 : decode cX6_mark 54 = .ok (.iload_n 1, 1) := by decide +kernel
theorem dX6_mark_55 : decode cX6_mark 55 = .ok (.invokevirtual 96, 3) := by decide +kernel
theorem dX6_mark_58 : decode cX6_mark 58 = .ok (.ifCond .eq 5, 3) := by decide +kernel
theorem dX6_mark_61 : decode cX6_mark 61 = .ok (.iconst 0, 1) := by decide +kernel
theorem dX6_mark_62 : decode cX6_mark 62 = .ok (.ireturn, 1) := by decide +kernel
theorem dX6_mark_63 : decode cX6_mark 63 = .ok (.aload_n 0, 1) := by decide +kernel
theorem dX6_mark_64 : decode cX6_mark 64 = .ok (.getfield 28, 3) := by decide +kernel
theorem dX6_mark_67 : decode cX6_mark 67 = .ok (.iload_n 1, 1) := by decide +kernel
theorem dX6_mark_68 : decode cX6_mark 68 = .ok (.iload_n 2, 1) := by decide +kernel
theorem dX6_mark_69 : decode cX6_mark 69 = .ok (.iload_n 3, 1) := by decide +kernel
theorem dX6_mark_70 : decode cX6_mark 70 = .ok (.iload 4, 2) := by decide +kernel
theorem dX6_mark_72 : decode cX6_mark 72 = .ok (.aload_n 0, 1) := by decide +kernel
theorem dX6_mark_73 : decode cX6_mark 73 = .ok (.getfield 48, 3) := by decide +kernel
theorem dX6_mark_76 : decode cX6_mark 76 = .ok (.invokevirtual 99, 3) := by decide +kernel
theorem dX6_mark_79 : decode cX6_mark 79 = .ok (.iconst 1, 1) := by decide +kernel
theorem dX6_mark_80 : decode cX6_mark 80 = .ok (.ireturn, 1) := by decide +kernel
theorem dX6_fact_0 : decode cX6_fact 0 = .ok (.iload_n 1, 1) := by decide +kernel
theorem dX6_fact_1 : decode cX6_fact 1 = .ok (.invokestatic 52, 3) := by decide +kernel
theorem dX6_fact_4 : decode cX6_fact 4 = .ok (.ifCond .eq 34, 3) := by decide +kernel
theorem dX6_fact_7 : decode cX6_fact 7 = .ok (.iload_n 2, 1) := by decide +kernel
theorem dX6_fact_8 : decode cX6_fact 8 = .ok (.invokestatic 56, 3) := by decide +kernel
theorem dX6_fact_11 : decode cX6_fact 11 = .ok (.ifCond .eq 27, 3) := by decide +kernel
theorem dX6_fact_14 : decode cX6_fact 14 = .ok (.iload_n 3, 1) := by decide +kernel
theorem dX6_fact_15 : decode cX6_fact 15 = .ok (.sipush (-10000), 3) := by decide +kernel
theorem dX6_fact_18 : decode cX6_fact 18 = .ok (.if_icmp .lt 20, 3) := by decide +kernel
theorem dX6_fact_21 : decode cX6_fact 21 = .ok (.iload_n 3, 1) := by decide +kernel
theorem dX6_fact_22 : decode cX6_fact 22 = .ok (.sipush 10000, 3) := by decide +kernel
theorem dX6_fact_25 : decode cX6_fact 25 = .ok (.if_icmp .gt 13, 3) := by decide +kernel
theorem dX6_fact_28 : decode cX6_fact 28 = .ok (.aload_n 0, 1) := by decide +kernel
theorem dX6_fact_29 : decode cX6_fact 29 = .ok (.getfield 35, 3) := by decide +kernel
theorem dX6_fact_32 : decode cX6_fact 32 = .ok (.invokevirtual 101, 3) := by decide +kernel
theorem dX6_fact_35 : decode cX6_fact 35 = .ok (.ifCond .eq 5, 3) := by decide +kernel
theorem dX6_fact_38 : decode cX6_fact 38 = .ok (.iconst (-1), 1) := by decide +kernel
theorem dX6_fact_39 : decode cX6_fact 39 = .ok (.ireturn, 1) := by decide +kernel
theorem dX6_fact_40 : decode cX6_fact 40 = .ok (.aload_n 0, 1) := by decide +kernel
theorem dX6_fact_41 : decode cX6_fact 41 = .ok (.getfield 35, 3) := by decide +kernel
theorem dX6_fact_44 : decode cX6_fact 44 = .ok (.iload_n 1, 1) := by decide +kernel
theorem dX6_fact_45 : decode cX6_fact 45 = .ok (.iload_n 2, 1) := by decide +kernel
theorem dX6_fact_46 : decode cX6_fact 46 = .ok (.iload_n 3, 1) := by decide +kernel
theorem dX6_fact_47 : decode cX6_fact 47 = .ok (.aload_n 0, 1) := by decide +kernel
theorem dX6_fact_48 : decode cX6_fact 48 = .ok (.getfield 48, 3) := by decide +kernel
theorem dX6_fact_51 : decode cX6_fact 51 = .ok (.invokevirtual 102, 3) := by decide +kernel
theorem dX6_fact_54 : decode cX6_fact 54 = .ok (.ireturn, 1) := by decide +kernel
theorem dX6_load_0 : decode cX6_load 0 = .ok (.aload_n 0, 1) := by decide +kernel
theorem dX6_load_1 : decode cX6_load 1 = .ok (.getfield 12, 3) := by decide +kernel
theorem dX6_load_4 : decode cX6_load 4 = .ok (.invokevirtual 105, 3) := by decide +kernel
theorem dX6_load_7 : decode cX6_load 7 = .ok (.ireturn, 1) := by decide +kernel
theorem dX6_undo_0 : decode cX6_undo 0 = .ok (.aload_n 0, 1) := by decide +kernel
theorem dX6_undo_1 : decode cX6_undo 1 = .ok (.getfield 12, 3) := by decide +kernel
theorem dX6_undo_4 : decode cX6_undo 4 = .ok (.iload_n 1, 1) := by decide +kernel
theorem dX6_undo_5 : decode cX6_undo 5 = .ok (.invokevirtual 108, 3) := by decide +kernel
theorem dX6_undo_8 : decode cX6_undo 8 = .ok (.ifCond .ne 5, 3) := by decide +kernel
theorem dX6_undo_11 : decode cX6_undo 11 = .ok (.iconst (-1), 1) := by decide +kernel
theorem dX6_undo_12 : decode cX6_undo 12 = .ok (.ireturn, 1) := by decide +kernel
theorem dX6_undo_13 : decode cX6_undo 13 = .ok (.aload_n 0, 1) := by decide +kernel
theorem dX6_undo_14 : decode cX6_undo 14 = .ok (.getfield 12, 3) := by decide +kernel
theorem dX6_undo_17 : decode cX6_undo 17 = .ok (.iload_n 1, 1) := by decide +kernel
theorem dX6_undo_18 : decode cX6_undo 18 = .ok (.aload_n 0, 1) := by decide +kernel
theorem dX6_undo_19 : decode cX6_undo 19 = .ok (.getfield 48, 3) := by decide +kernel
theorem dX6_undo_22 : decode cX6_undo 22 = .ok (.invokevirtual 111, 3) := by decide +kernel
theorem dX6_undo_25 : decode cX6_undo 25 = .ok (.aload_n 0, 1) := by decide +kernel
theorem dX6_undo_26 : decode cX6_undo 26 = .ok (.getfield 28, 3) := by decide +kernel
theorem dX6_undo_29 : decode cX6_undo 29 = .ok (.iload_n 1, 1) := by decide +kernel
theorem dX6_undo_30 : decode cX6_undo 30 = .ok (.invokevirtual 115, 3) := by decide +kernel
theorem dX6_undo_33 : decode cX6_undo 33 = .ok (.aload_n 0, 1) := by decide +kernel
theorem dX6_undo_34 : decode cX6_undo 34 = .ok (.getfield 35, 3) := by decide +kernel
theorem dX6_undo_37 : decode cX6_undo 37 = .ok (.iload_n 1, 1) := by decide +kernel
theorem dX6_undo_38 : decode cX6_undo 38 = .ok (.invokevirtual 119, 3) := by decide +kernel
theorem dX6_undo_41 : decode cX6_undo 41 = .ok (.iadd, 1) := by decide +kernel
theorem dX6_undo_42 : decode cX6_undo 42 = .ok (.ireturn, 1) := by decide +kernel
theorem dX6_told_0 : decode cX6_told 0 = .ok (.iload_n 2, 1) := by decide +kernel
theorem dX6_told_1 : decode cX6_told 1 = .ok (.invokestatic 89, 3) := by decide +kernel
theorem dX6_told_4 : decode cX6_told 4 = .ok (.ifCond .eq 31, 3) := by decide +kernel
theorem dX6_told_7 : decode cX6_told 7 = .ok (.iload_n 3, 1) := by decide +kernel
theorem dX6_told_8 : decode cX6_told 8 = .ok (.invokestatic 56, 3) := by decide +kernel
theorem dX6_told_11 : decode cX6_told 11 = .ok (.ifCond .eq 24, 3) := by decide +kernel
theorem dX6_told_14 : decode cX6_told 14 = .ok (.iload 4, 2) := by decide +kernel
theorem dX6_told_16 : decode cX6_told 16 = .ok (.invokestatic 56, 3) := by decide +kernel
theorem dX6_told_19 : decode cX6_told 19 = .ok (.ifCond .eq 16, 3) := by decide +kernel
theorem dX6_told_22 : decode cX6_told 22 = .ok (.aload_n 0, 1) := by decide +kernel
theorem dX6_told_23 : decode cX6_told 23 = .ok (.getfield 19, 3) := by decide +kernel
theorem dX6_told_26 : decode cX6_told 26 = .ok (.iload_n 1, 1) := by decide +kernel
theorem dX6_told_27 : decode cX6_told 27 = .ok (.iload 4, 2) := by decide +kernel
theorem dX6_told_29 : decode cX6_told 29 = .ok (.invokevirtual 120, 3) := by decide +kernel
theorem dX6_told_32 : decode cX6_told 32 = .ok (.ifCond .ne 5, 3) := by decide +kernel
theorem dX6_told_35 : decode cX6_told 35 = .ok (.iconst (-1), 1) := by decide +kernel
theorem dX6_told_36 : decode cX6_told 36 = .ok (.ireturn, 1) := by decide +kernel
theorem dX6_told_37 : decode cX6_told 37 = .ok (.aload_n 0, 1) := by decide +kernel
theorem dX6_told_38 : decode cX6_told 38 = .ok (.getfield 28, 3) := by decide +kernel
theorem dX6_told_41 : decode cX6_told 41 = .ok (.iload_n 1, 1) := by decide +kernel
theorem dX6_told_42 : decode cX6_told 42 = .ok (.iload_n 2, 1) := by decide +kernel
theorem dX6_told_43 : decode cX6_told 43 = .ok (.iload_n 3, 1) := by decide +kernel
theorem dX6_told_44 : decode cX6_told 44 = .ok (.iload 4, 2) := by decide +kernel
theorem dX6_told_46 : decode cX6_told 46 = .ok (.invokevirtual 123, 3) := by decide +kernel
theorem dX6_told_49 : decode cX6_told 49 = .ok (.ireturn, 1) := by decide +kernel
theorem dX6_thing_0 : decode cX6_thing 0 = .ok (.iload_n 2, 1) := by decide +kernel
theorem dX6_thing_1 : decode cX6_thing 1 = .ok (.invokestatic 56, 3) := by decide +kernel
theorem dX6_thing_4 : decode cX6_thing 4 = .ok (.ifCond .eq 15, 3) := by decide +kernel
theorem dX6_thing_7 : decode cX6_thing 7 = .ok (.aload_n 0, 1) := by decide +kernel
theorem dX6_thing_8 : decode cX6_thing 8 = .ok (.getfield 19, 3) := by decide +kernel
theorem dX6_thing_11 : decode cX6_thing 11 = .ok (.iload_n 1, 1) := by decide +kernel
theorem dX6_thing_12 : decode cX6_thing 12 = .ok (.iload_n 2, 1) := by decide +kernel
theorem dX6_thing_13 : decode cX6_thing 13 = .ok (.invokevirtual 120, 3) := by decide +kernel
theorem dX6_thing_16 : decode cX6_thing 16 = .ok (.ifCond .ne 5, 3) := by decide +kernel
theorem dX6_thing_19 : decode cX6_thing 19 = .ok (.iconst (-1), 1) := by decide +kernel
theorem dX6_thing_20 : decode cX6_thing 20 = .ok (.ireturn, 1) := by decide +kernel
theorem dX6_thing_21 : decode cX6_thing 21 = .ok (.iload_n 3, 1) := by decide +kernel
theorem dX6_thing_22 : decode cX6_thing 22 = .ok (.tableswitch 96 0 5 #[38, 47, 56, 66, 76, 86], 38) := by decide +kernel
theorem dX6_thing_60 : decode cX6_thing 60 = .ok (.aload_n 0, 1) := by decide +kernel
theorem dX6_thing_61 : decode cX6_thing 61 = .ok (.getfield 19, 3) := by decide +kernel
theorem dX6_thing_64 : decode cX6_thing 64 = .ok (.iload_n 1, 1) := by decide +kernel
theorem dX6_thing_65 : decode cX6_thing 65 = .ok (.invokevirtual 126, 3) := by decide +kernel
theorem dX6_thing_68 : decode cX6_thing 68 = .ok (.ireturn, 1) := by decide +kernel
theorem dX6_thing_69 : decode cX6_thing 69 = .ok (.aload_n 0, 1) := by decide +kernel
theorem dX6_thing_70 : decode cX6_thing 70 = .ok (.getfield 19, 3) := by decide +kernel
theorem dX6_thing_73 : decode cX6_thing 73 = .ok (.iload_n 1, 1) := by decide +kernel
theorem dX6_thing_74 : decode cX6_thing 74 = .ok (.invokevirtual 129, 3) := by decide +kernel
theorem dX6_thing_77 : decode cX6_thing 77 = .ok (.ireturn, 1) := by decide +kernel
theorem dX6_thing_78 : decode cX6_thing 78 = .ok (.aload_n 0, 1) := by decide +kernel
theorem dX6_thing_79 : decode cX6_thing 79 = .ok (.getfield 19, 3) := by decide +kernel
theorem dX6_thing_82 : decode cX6_thing 82 = .ok (.iload_n 1, 1) := by decide +kernel
theorem dX6_thing_83 : decode cX6_thing 83 = .ok (.iload_n 2, 1) := by decide +kernel
theorem dX6_thing_84 : decode cX6_thing 84 = .ok (.invokevirtual 132, 3) := by decide +kernel
theorem dX6_thing_87 : decode cX6_thing 87 = .ok (.ireturn, 1) := by decide +kernel
theorem dX6_thing_88 : decode cX6_thing 88 = .ok (.aload_n 0, 1) := by decide +kernel
theorem dX6_thing_89 : decode cX6_thing 89 = .ok (.getfield 19, 3) := by decide +kernel
theorem dX6_thing_92 : decode cX6_thing 92 = .ok (.iload_n 1, 1) := by decide +kernel
theorem dX6_thing_93 : decode cX6_thing 93 = .ok (.iload_n 2, 1) := by decide +kernel
theorem dX6_thing_94 : decode cX6_thing 94 = .ok (.invokevirtual 136, 3) := by decide +kernel
theorem dX6_thing_97 : decode cX6_thing 97 = .ok (.ireturn, 1) := by decide +kernel
theorem dX6_thing_98 : decode cX6_thing 98 = .ok (.aload_n 0, 1) := by decide +kernel
theorem dX6_thing_99 : decode cX6_thing 99 = .ok (.getfield 19, 3) := by decide +kernel
theorem dX6_thing_102 : decode cX6_thing 102 = .ok (.iload_n 1, 1) := by decide +kernel
theorem dX6_thing_103 : decode cX6_thing 103 = .ok (.iload_n 2, 1) := by decide +kernel
theorem dX6_thing_104 : decode cX6_thing 104 = .ok (.invokevirtual 139, 3) := by decide +kernel
theorem dX6_thing_107 : decode cX6_thing 107 = .ok (.ireturn, 1) := by decide +kernel
theorem dX6_thing_108 : decode cX6_thing 108 = .ok (.aload_n 0, 1) := by decide +kernel
theorem dX6_thing_109 : decode cX6_thing 109 = .ok (.getfield 28, 3) := by decide +kernel
theorem dX6_thing_112 : decode cX6_thing 112 = .ok (.iload_n 1, 1) := by decide +kernel
theorem dX6_thing_113 : decode cX6_thing 113 = .ok (.iload_n 2, 1) := by decide +kernel
theorem dX6_thing_114 : decode cX6_thing 114 = .ok (.invokevirtual 142, 3) := by decide +kernel
theorem dX6_thing_117 : decode cX6_thing 117 = .ok (.ireturn, 1) := by decide +kernel
theorem dX6_thing_118 : decode cX6_thing 118 = .ok (.iconst (-1), 1) := by decide +kernel
theorem dX6_thing_119 : decode cX6_thing 119 = .ok (.ireturn, 1) := by decide +kernel
theorem dX6_hangs_0 : decode cX6_hangs 0 = .ok (.iload_n 2, 1) := by decide +kernel
theorem dX6_hangs_1 : decode cX6_hangs 1 = .ok (.invokestatic 56, 3) := by decide +kernel
theorem dX6_hangs_4 : decode cX6_hangs 4 = .ok (.ifCond .eq 15, 3) := by decide +kernel
theorem dX6_hangs_7 : decode cX6_hangs 7 = .ok (.aload_n 0, 1) := by decide +kernel
theorem dX6_hangs_8 : decode cX6_hangs 8 = .ok (.getfield 35, 3) := by decide +kernel
theorem dX6_hangs_11 : decode cX6_hangs 11 = .ok (.iload_n 1, 1) := by decide +kernel
theorem dX6_hangs_12 : decode cX6_hangs 12 = .ok (.iload_n 2, 1) := by decide +kernel
theorem dX6_hangs_13 : decode cX6_hangs 13 = .ok (.invokevirtual 145, 3) := by decide +kernel
theorem dX6_hangs_16 : decode cX6_hangs 16 = .ok (.ifCond .ne 6, 3) := by decide +kernel
theorem dX6_hangs_19 : decode cX6_hangs 19 = .ok (.bipush (-2), 2) := by decide +kernel
theorem dX6_hangs_21 : decode cX6_hangs 21 = .ok (.ireturn, 1) := by decide +kernel
theorem dX6_hangs_22 : decode cX6_hangs 22 = .ok (.aload_n 0, 1) := by decide +kernel
theorem dX6_hangs_23 : decode cX6_hangs 23 = .ok (.iload_n 1, 1) := by decide +kernel
theorem dX6_hangs_24 : decode cX6_hangs 24 = .ok (.iload_n 2, 1) := by decide +kernel
theorem dX6_hangs_25 : decode cX6_hangs 25 = .ok (.invokevirtual 146, 3) := by decide +kernel
theorem dX6_hangs_28 : decode cX6_hangs 28 = .ok (.ireturn, 1) := by decide +kernel
theorem dX6_find_0 : decode cX6_find 0 = .ok (.iload_n 1, 1) := by decide +kernel
theorem dX6_find_1 : decode cX6_find 1 = .ok (.invokestatic 52, 3) := by decide +kernel
theorem dX6_find_4 : decode cX6_find 4 = .ok (.ifCond .eq 17, 3) := by decide +kernel
theorem dX6_find_7 : decode cX6_find 7 = .ok (.iload_n 2, 1) := by decide +kernel
theorem dX6_find_8 : decode cX6_find 8 = .ok (.invokestatic 56, 3) := by decide +kernel
theorem dX6_find_11 : decode cX6_find 11 = .ok (.ifCond .eq 10, 3) := by decide +kernel
theorem dX6_find_14 : decode cX6_find 14 = .ok (.iload_n 3, 1) := by decide +kernel
end
section
theorem dX6_find_15 : decode cX6_find 15 = .ok (.invokestatic 56, 3) := by decide +kernel
theorem dX6_find_18 : decode cX6_find 18 = .ok (.ifCond .ne 5, 3) := by decide +kernel
theorem dX6_find_21 : decode cX6_find 21 = .ok (.iconst (-1), 1) := by decide +kernel
theorem dX6_find_22 : decode cX6_find 22 = .ok (.ireturn, 1) := by decide +kernel
theorem dX6_find_23 : decode cX6_find 23 = .ok (.aload_n 0, 1) := by decide +kernel
theorem dX6_find_24 : decode cX6_find 24 = .ok (.getfield 19, 3) := by decide +kernel
theorem dX6_find_27 : decode cX6_find 27 = .ok (.iload_n 1, 1) := by decide +kernel
theorem dX6_find_28 : decode cX6_find 28 = .ok (.iload_n 2, 1) := by decide +kernel
theorem dX6_find_29 : decode cX6_find 29 = .ok (.iload_n 3, 1) := by decide +kernel
theorem dX6_find_30 : decode cX6_find 30 = .ok (.invokevirtual 149, 3) := by decide +kernel
theorem dX6_find_33 : decode cX6_find 33 = .ok (.ireturn, 1) := by decide +kernel
theorem dX6_then_0 : decode cX6_then 0 = .ok (.iload_n 1, 1) := by decide +kernel
theorem dX6_then_1 : decode cX6_then 1 = .ok (.invokestatic 89, 3) := by decide +kernel
theorem dX6_then_4 : decode cX6_then 4 = .ok (.ifCond .eq 17, 3) := by decide +kernel
theorem dX6_then_7 : decode cX6_then 7 = .ok (.iload_n 2, 1) := by decide +kernel
theorem dX6_then_8 : decode cX6_then 8 = .ok (.invokestatic 152, 3) := by decide +kernel
theorem dX6_then_11 : decode cX6_then 11 = .ok (.ifCond .eq 10, 3) := by decide +kernel
theorem dX6_then_14 : decode cX6_then 14 = .ok (.iload_n 3, 1) := by decide +kernel
theorem dX6_then_15 : decode cX6_then 15 = .ok (.invokestatic 56, 3) := by decide +kernel
theorem dX6_then_18 : decode cX6_then 18 = .ok (.ifCond .ne 5, 3) := by decide +kernel
theorem dX6_then_21 : decode cX6_then 21 = .ok (.lconst 0, 1) := by decide +kernel
theorem dX6_then_22 : decode cX6_then 22 = .ok (.lreturn, 1) := by decide +kernel
theorem dX6_then_23 : decode cX6_then 23 = .ok (.lconst 0, 1) := by decide +kernel
theorem dX6_then_24 : decode cX6_then 24 = .ok (.lstore 4, 2) := by decide +kernel
theorem dX6_then_26 : decode cX6_then 26 = .ok (.iconst 0, 1) := by decide +kernel
theorem dX6_then_27 : decode cX6_then 27 = .ok (.istore 6, 2) := by decide +kernel
theorem dX6_then_29 : decode cX6_then 29 = .ok (.iload 6, 2) := by decide +kernel
theorem dX6_then_31 : decode cX6_then 31 = .ok (.aload_n 0, 1) := by decide +kernel
theorem dX6_then_32 : decode cX6_then 32 = .ok (.getfield 35, 3) := by decide +kernel
theorem dX6_then_35 : decode cX6_then 35 = .ok (.invokevirtual 155, 3) := by decide +kernel
theorem dX6_then_38 : decode cX6_then 38 = .ok (.if_icmp .ge 49, 3) := by decide +kernel
theorem dX6_then_41 : decode cX6_then 41 = .ok (.aload_n 0, 1) := by decide +kernel
theorem dX6_then_42 : decode cX6_then 42 = .ok (.getfield 35, 3) := by decide +kernel
theorem dX6_then_45 : decode cX6_then 45 = .ok (.iload 6, 2) := by decide +kernel
theorem dX6_then_47 : decode cX6_then 47 = .ok (.iload_n 3, 1) := by decide +kernel
theorem dX6_then_48 : decode cX6_then 48 = .ok (.invokevirtual 145, 3) := by decide +kernel
theorem dX6_then_51 : decode cX6_then 51 = .ok (.ifCond .eq 30, 3) := by decide +kernel
theorem dX6_then_54 : decode cX6_then 54 = .ok (.aload_n 0, 1) := by decide +kernel
theorem dX6_then_55 : decode cX6_then 55 = .ok (.iload 6, 2) := by decide +kernel
theorem dX6_then_57 : decode cX6_then 57 = .ok (.iload_n 1, 1) := by decide +kernel
theorem dX6_then_58 : decode cX6_then 58 = .ok (.iload_n 2, 1) := by decide +kernel
theorem dX6_then_59 : decode cX6_then 59 = .ok (.iload_n 3, 1) := by decide +kernel
theorem dX6_then_60 : decode cX6_then 60 = .ok (.invokevirtual 158, 3) := by decide +kernel
theorem dX6_then_63 : decode cX6_then 63 = .ok (.ifCond .eq 18, 3) := by decide +kernel
theorem dX6_then_66 : decode cX6_then 66 = .ok (.lload 4, 2) := by decide +kernel
theorem dX6_then_68 : decode cX6_then 68 = .ok (.aload_n 0, 1) := by decide +kernel
theorem dX6_then_69 : decode cX6_then 69 = .ok (.getfield 35, 3) := by decide +kernel
theorem dX6_then_72 : decode cX6_then 72 = .ok (.iload 6, 2) := by decide +kernel
theorem dX6_then_74 : decode cX6_then 74 = .ok (.invokevirtual 161, 3) := by decide +kernel
theorem dX6_then_77 : decode cX6_then 77 = .ok (.i2l, 1) := by decide +kernel
theorem dX6_then_78 : decode cX6_then 78 = .ok (.ladd, 1) := by decide +kernel
theorem dX6_then_79 : decode cX6_then 79 = .ok (.lstore 4, 2) := by decide +kernel
theorem dX6_then_81 : decode cX6_then 81 = .ok (.iinc 6 1, 3) := by decide +kernel
theorem dX6_then_84 : decode cX6_then 84 = .ok (.goto (-55), 3) := by decide +kernel
theorem dX6_then_87 : decode cX6_then 87 = .ok (.lload 4, 2) := by decide +kernel
theorem dX6_then_89 : decode cX6_then 89 = .ok (.lreturn, 1) := by decide +kernel
theorem dX6_by_0 : decode cX6_by 0 = .ok (.iload_n 1, 1) := by decide +kernel
theorem dX6_by_1 : decode cX6_by 1 = .ok (.invokestatic 89, 3) := by decide +kernel
theorem dX6_by_4 : decode cX6_by 4 = .ok (.ifCond .eq 25, 3) := by decide +kernel
theorem dX6_by_7 : decode cX6_by 7 = .ok (.iload_n 2, 1) := by decide +kernel
theorem dX6_by_8 : decode cX6_by 8 = .ok (.invokestatic 152, 3) := by decide +kernel
theorem dX6_by_11 : decode cX6_by 11 = .ok (.ifCond .eq 18, 3) := by decide +kernel
theorem dX6_by_14 : decode cX6_by 14 = .ok (.iload_n 3, 1) := by decide +kernel
theorem dX6_by_15 : decode cX6_by 15 = .ok (.invokestatic 56, 3) := by decide +kernel
theorem dX6_by_18 : decode cX6_by 18 = .ok (.ifCond .eq 11, 3) := by decide +kernel
theorem dX6_by_21 : decode cX6_by 21 = .ok (.iload 4, 2) := by decide +kernel
theorem dX6_by_23 : decode cX6_by 23 = .ok (.invokestatic 56, 3) := by decide +kernel
theorem dX6_by_26 : decode cX6_by 26 = .ok (.ifCond .ne 5, 3) := by decide +kernel
theorem dX6_by_29 : decode cX6_by 29 = .ok (.lconst 0, 1) := by decide +kernel
theorem dX6_by_30 : decode cX6_by 30 = .ok (.lreturn, 1) := by decide +kernel
theorem dX6_by_31 : decode cX6_by 31 = .ok (.aload_n 0, 1) := by decide +kernel
theorem dX6_by_32 : decode cX6_by 32 = .ok (.iload_n 3, 1) := by decide +kernel
theorem dX6_by_33 : decode cX6_by 33 = .ok (.iload 4, 2) := by decide +kernel
theorem dX6_by_35 : decode cX6_by 35 = .ok (.invokevirtual 164, 3) := by decide +kernel
theorem dX6_by_38 : decode cX6_by 38 = .ok (.lconst 0, 1) := by decide +kernel
theorem dX6_by_39 : decode cX6_by 39 = .ok (.lstore 5, 2) := by decide +kernel
theorem dX6_by_41 : decode cX6_by 41 = .ok (.iconst 0, 1) := by decide +kernel
theorem dX6_by_42 : decode cX6_by 42 = .ok (.istore 7, 2) := by decide +kernel
theorem dX6_by_44 : decode cX6_by 44 = .ok (.iload 7, 2) := by decide +kernel
theorem dX6_by_46 : decode cX6_by 46 = .ok (.aload_n 0, 1) := by decide +kernel
theorem dX6_by_47 : decode cX6_by 47 = .ok (.getfield 19, 3) := by decide +kernel
theorem dX6_by_50 : decode cX6_by 50 = .ok (.invokevirtual 167, 3) := by decide +kernel
theorem dX6_by_53 : decode cX6_by 53 = .ok (.if_icmp .ge 40, 3) := by decide +kernel
theorem dX6_by_56 : decode cX6_by 56 = .ok (.aload_n 0, 1) := by decide +kernel
theorem dX6_by_57 : decode cX6_by 57 = .ok (.getfield 28, 3) := by decide +kernel
theorem dX6_by_60 : decode cX6_by 60 = .ok (.iload 7, 2) := by decide +kernel
theorem dX6_by_62 : decode cX6_by 62 = .ok (.iload_n 1, 1) := by decide +kernel
theorem dX6_by_63 : decode cX6_by 63 = .ok (.iload_n 3, 1) := by decide +kernel
theorem dX6_by_64 : decode cX6_by 64 = .ok (.iload 4, 2) := by decide +kernel
theorem dX6_by_66 : decode cX6_by 66 = .ok (.invokevirtual 123, 3) := by decide +kernel
theorem dX6_by_69 : decode cX6_by 69 = .ok (.iload_n 2, 1) := by decide +kernel
theorem dX6_by_70 : decode cX6_by 70 = .ok (.if_icmp .ne 17, 3) := by decide +kernel
theorem dX6_by_73 : decode cX6_by 73 = .ok (.lload 5, 2) := by decide +kernel
theorem dX6_by_75 : decode cX6_by 75 = .ok (.aload_n 0, 1) := by decide +kernel
theorem dX6_by_76 : decode cX6_by 76 = .ok (.getfield 44, 3) := by decide +kernel
theorem dX6_by_79 : decode cX6_by 79 = .ok (.iload 7, 2) := by decide +kernel
theorem dX6_by_81 : decode cX6_by 81 = .ok (.invokevirtual 168, 3) := by decide +kernel
theorem dX6_by_84 : decode cX6_by 84 = .ok (.ladd, 1) := by decide +kernel
theorem dX6_by_85 : decode cX6_by 85 = .ok (.lstore 5, 2) := by decide +kernel
theorem dX6_by_87 : decode cX6_by 87 = .ok (.iinc 7 1, 3) := by decide +kernel
theorem dX6_by_90 : decode cX6_by 90 = .ok (.goto (-46), 3) := by decide +kernel
theorem dX6_by_93 : decode cX6_by 93 = .ok (.lload 5, 2) := by decide +kernel
theorem dX6_by_95 : decode cX6_by 95 = .ok (.lreturn, 1) := by decide +kernel
theorem dX6_sum_0 : decode cX6_sum 0 = .ok (.iload_n 2, 1) := by decide +kernel
theorem dX6_sum_1 : decode cX6_sum 1 = .ok (.invokestatic 56, 3) := by decide +kernel
theorem dX6_sum_4 : decode cX6_sum 4 = .ok (.ifCond .eq 10, 3) := by decide +kernel
theorem dX6_sum_7 : decode cX6_sum 7 = .ok (.iload_n 3, 1) := by decide +kernel
theorem dX6_sum_8 : decode cX6_sum 8 = .ok (.invokestatic 56, 3) := by decide +kernel
theorem dX6_sum_11 : decode cX6_sum 11 = .ok (.ifCond .ne 5, 3) := by decide +kernel
theorem dX6_sum_14 : decode cX6_sum 14 = .ok (.lconst 0, 1) := by decide +kernel
theorem dX6_sum_15 : decode cX6_sum 15 = .ok (.lreturn, 1) := by decide +kernel
theorem dX6_sum_16 : decode cX6_sum 16 = .ok (.iload_n 1, 1) := by decide +kernel
theorem dX6_sum_17 : decode cX6_sum 17 = .ok (.tableswitch 55 0 2 #[27, 34, 41], 27) := by decide +kernel
theorem dX6_sum_44 : decode cX6_sum 44 = .ok (.aload_n 0, 1) := by decide +kernel
theorem dX6_sum_45 : decode cX6_sum 45 = .ok (.iload_n 3, 1) := by decide +kernel
theorem dX6_sum_46 : decode cX6_sum 46 = .ok (.iconst 0, 1) := by decide +kernel
theorem dX6_sum_47 : decode cX6_sum 47 = .ok (.invokevirtual 172, 3) := by decide +kernel
theorem dX6_sum_50 : decode cX6_sum 50 = .ok (.lreturn, 1) := by decide +kernel
theorem dX6_sum_51 : decode cX6_sum 51 = .ok (.aload_n 0, 1) := by decide +kernel
theorem dX6_sum_52 : decode cX6_sum 52 = .ok (.iload_n 3, 1) := by decide +kernel
theorem dX6_sum_53 : decode cX6_sum 53 = .ok (.iconst 1, 1) := by decide +kernel
theorem dX6_sum_54 : decode cX6_sum 54 = .ok (.invokevirtual 172, 3) := by decide +kernel
theorem dX6_sum_57 : decode cX6_sum 57 = .ok (.lreturn, 1) := by decide +kernel
theorem dX6_sum_58 : decode cX6_sum 58 = .ok (.aload_n 0, 1) := by decide +kernel
theorem dX6_sum_59 : decode cX6_sum 59 = .ok (.iload_n 2, 1) := by decide +kernel
theorem dX6_sum_60 : decode cX6_sum 60 = .ok (.iload_n 3, 1) := by decide +kernel
theorem dX6_sum_61 : decode cX6_sum 61 = .ok (.invokevirtual 164, 3) := by decide +kernel
theorem dX6_sum_64 : decode cX6_sum 64 = .ok (.aload_n 0, 1) := by decide +kernel
theorem dX6_sum_65 : decode cX6_sum 65 = .ok (.getfield 44, 3) := by decide +kernel
theorem dX6_sum_68 : decode cX6_sum 68 = .ok (.invokevirtual 176, 3) := by decide +kernel
theorem dX6_sum_71 : decode cX6_sum 71 = .ok (.lreturn, 1) := by decide +kernel
theorem dX6_sum_72 : decode cX6_sum 72 = .ok (.lconst 0, 1) := by decide +kernel
theorem dX6_sum_73 : decode cX6_sum 73 = .ok (.lreturn, 1) := by decide +kernel
theorem dX6_compare_0 : decode cX6_compare 0 = .ok (.iload_n 1, 1) := by decide +kernel
theorem dX6_compare_1 : decode cX6_compare 1 = .ok (.invokestatic 89, 3) := by decide +kernel
theorem dX6_compare_4 : decode cX6_compare 4 = .ok (.ifCond .eq 25, 3) := by decide +kernel
theorem dX6_compare_7 : decode cX6_compare 7 = .ok (.iload_n 2, 1) := by decide +kernel
theorem dX6_compare_8 : decode cX6_compare 8 = .ok (.invokestatic 56, 3) := by decide +kernel
theorem dX6_compare_11 : decode cX6_compare 11 = .ok (.ifCond .eq 18, 3) := by decide +kernel
theorem dX6_compare_14 : decode cX6_compare 14 = .ok (.iload_n 3, 1) := by decide +kernel
theorem dX6_compare_15 : decode cX6_compare 15 = .ok (.invokestatic 56, 3) := by decide +kernel
theorem dX6_compare_18 : decode cX6_compare 18 = .ok (.ifCond .eq 11, 3) := by decide +kernel
theorem dX6_compare_21 : decode cX6_compare 21 = .ok (.iload 4, 2) := by decide +kernel
theorem dX6_compare_23 : decode cX6_compare 23 = .ok (.invokestatic 56, 3) := by decide +kernel
theorem dX6_compare_26 : decode cX6_compare 26 = .ok (.ifCond .ne 5, 3) := by decide +kernel
theorem dX6_compare_29 : decode cX6_compare 29 = .ok (.iconst (-1), 1) := by decide +kernel
theorem dX6_compare_30 : decode cX6_compare 30 = .ok (.ireturn, 1) := by decide +kernel
theorem dX6_compare_31 : decode cX6_compare 31 = .ok (.iload 5, 2) := by decide +kernel
theorem dX6_compare_33 : decode cX6_compare 33 = .ok (.tableswitch 74 0 3 #[31, 42, 53, 64], 31) := by decide +kernel
theorem dX6_compare_64 : decode cX6_compare 64 = .ok (.aload_n 0, 1) := by decide +kernel
theorem dX6_compare_65 : decode cX6_compare 65 = .ok (.iload_n 2, 1) := by decide +kernel
theorem dX6_compare_66 : decode cX6_compare 66 = .ok (.iconst 1, 1) := by decide +kernel
theorem dX6_compare_67 : decode cX6_compare 67 = .ok (.iload_n 3, 1) := by decide +kernel
theorem dX6_compare_68 : decode cX6_compare 68 = .ok (.iconst 1, 1) := by decide +kernel
theorem dX6_compare_69 : decode cX6_compare 69 = .ok (.iload 4, 2) := by decide +kernel
theorem dX6_compare_71 : decode cX6_compare 71 = .ok (.invokevirtual 180, 3) := by decide +kernel
theorem dX6_compare_74 : decode cX6_compare 74 = .ok (.ireturn, 1) := by decide +kernel
theorem dX6_compare_75 : decode cX6_compare 75 = .ok (.aload_n 0, 1) := by decide +kernel
theorem dX6_compare_76 : decode cX6_compare 76 = .ok (.iload_n 2, 1) := by decide +kernel
theorem dX6_compare_77 : decode cX6_compare 77 = .ok (.iconst 0, 1) := by decide +kernel
theorem dX6_compare_78 : decode cX6_compare 78 = .ok (.iload_n 3, 1) := by decide +kernel
theorem dX6_compare_79 : decode cX6_compare 79 = .ok (.iconst 1, 1) := by decide +kernel
theorem dX6_compare_80 : decode cX6_compare 80 = .ok (.iload 4, 2) := by decide +kernel
theorem dX6_compare_82 : decode cX6_compare 82 = .ok (.invokevirtual 180, 3) := by decide +kernel
theorem dX6_compare_85 : decode cX6_compare 85 = .ok (.ireturn, 1) := by decide +kernel
theorem dX6_compare_86 : decode cX6_compare 86 = .ok (.aload_n 0, 1) := by decide +kernel
theorem dX6_compare_87 : decode cX6_compare 87 = .ok (.iload_n 2, 1) := by decide +kernel
theorem dX6_compare_88 : decode cX6_compare 88 = .ok (.iconst 1, 1) := by decide +kernel
theorem dX6_compare_89 : decode cX6_compare 89 = .ok (.iload_n 3, 1) := by decide +kernel
theorem dX6_compare_90 : decode cX6_compare 90 = .ok (.iconst 0, 1) := by decide +kernel
theorem dX6_compare_91 : decode cX6_compare 91 = .ok (.iload 4, 2) := by decide +kernel
theorem dX6_compare_93 : decode cX6_compare 93 = .ok (.invokevirtual 180, 3) := by decide +kernel
theorem dX6_compare_96 : decode cX6_compare 96 = .ok (.ireturn, 1) := by decide +kernel
theorem dX6_compare_97 : decode cX6_compare 97 = .ok (.aload_n 0, 1) := by decide +kernel
theorem dX6_compare_98 : decode cX6_compare 98 = .ok (.iload_n 1, 1) := by decide +kernel
theorem dX6_compare_99 : decode cX6_compare 99 = .ok (.iload_n 2, 1) := by decide +kernel
theorem dX6_compare_100 : decode cX6_compare 100 = .ok (.iload_n 3, 1) := by decide +kernel
theorem dX6_compare_101 : decode cX6_compare 101 = .ok (.iload 4, 2) := by decide +kernel
theorem dX6_compare_103 : decode cX6_compare 103 = .ok (.invokevirtual 184, 3) := by decide +kernel
theorem dX6_compare_106 : decode cX6_compare 106 = .ok (.ireturn, 1) := by decide +kernel
theorem dX6_compare_107 : decode cX6_compare 107 = .ok (.iconst (-1), 1) := by decide +kernel
theorem dX6_compare_108 : decode cX6_compare 108 = .ok (.ireturn, 1) := by decide +kernel
theorem dX6_count_0 : decode cX6_count 0 = .ok (.iload_n 1, 1) := by decide +kernel
theorem dX6_count_1 : decode cX6_count 1 = .ok (.tableswitch 84 0 5 #[39, 44, 52, 60, 68, 76], 39) := by decide +kernel
theorem dX6_count_40 : decode cX6_count 40 = .ok (.aload_n 0, 1) := by decide +kernel
theorem dX6_count_41 : decode cX6_count 41 = .ok (.getfield 48, 3) := by decide +kernel
theorem dX6_count_44 : decode cX6_count 44 = .ok (.ireturn, 1) := by decide +kernel
theorem dX6_count_45 : decode cX6_count 45 = .ok (.aload_n 0, 1) := by decide +kernel
theorem dX6_count_46 : decode cX6_count 46 = .ok (.getfield 19, 3) := by decide +kernel
theorem dX6_count_49 : decode cX6_count 49 = .ok (.invokevirtual 167, 3) := by decide +kernel
theorem dX6_count_52 : decode cX6_count 52 = .ok (.ireturn, 1) := by decide +kernel
theorem dX6_count_53 : decode cX6_count 53 = .ok (.aload_n 0, 1) := by decide +kernel
theorem dX6_count_54 : decode cX6_count 54 = .ok (.getfield 35, 3) := by decide +kernel
theorem dX6_count_57 : decode cX6_count 57 = .ok (.invokevirtual 155, 3) := by decide +kernel
theorem dX6_count_60 : decode cX6_count 60 = .ok (.ireturn, 1) := by decide +kernel
theorem dX6_count_61 : decode cX6_count 61 = .ok (.aload_n 0, 1) := by decide +kernel
theorem dX6_count_62 : decode cX6_count 62 = .ok (.getfield 28, 3) := by decide +kernel
theorem dX6_count_65 : decode cX6_count 65 = .ok (.invokevirtual 187, 3) := by decide +kernel
theorem dX6_count_68 : decode cX6_count 68 = .ok (.ireturn, 1) := by decide +kernel
theorem dX6_count_69 : decode cX6_count 69 = .ok (.aload_n 0, 1) := by decide +kernel
theorem dX6_count_70 : decode cX6_count 70 = .ok (.getfield 12, 3) := by decide +kernel
theorem dX6_count_73 : decode cX6_count 73 = .ok (.invokevirtual 188, 3) := by decide +kernel
theorem dX6_count_76 : decode cX6_count 76 = .ok (.ireturn, 1) := by decide +kernel
theorem dX6_count_77 : decode cX6_count 77 = .ok (.aload_n 0, 1) := by decide +kernel
theorem dX6_count_78 : decode cX6_count 78 = .ok (.getfield 12, 3) := by decide +kernel
theorem dX6_count_81 : decode cX6_count 81 = .ok (.invokevirtual 191, 3) := by decide +kernel
theorem dX6_count_84 : decode cX6_count 84 = .ok (.ireturn, 1) := by decide +kernel
theorem dX6_count_85 : decode cX6_count 85 = .ok (.iconst (-1), 1) := by decide +kernel
theorem dX6_count_86 : decode cX6_count 86 = .ok (.ireturn, 1) := by decide +kernel
theorem dX6_isDay_0 : decode cX6_isDay 0 = .ok (.iload_n 0, 1) := by decide +kernel
theorem dX6_isDay_1 : decode cX6_isDay 1 = .ok (.ifCond .lt 14, 3) := by decide +kernel
theorem dX6_isDay_4 : decode cX6_isDay 4 = .ok (.iload_n 0, 1) := by decide +kernel
theorem dX6_isDay_5 : decode cX6_isDay 5 = .ok (.sipush 2000, 3) := by decide +kernel
theorem dX6_isDay_8 : decode cX6_isDay 8 = .ok (.if_icmp .gt 7, 3) := by decide +kernel
theorem dX6_isDay_11 : decode cX6_isDay 11 = .ok (.iconst 1, 1) := by decide +kernel
theorem dX6_isDay_12 : decode cX6_isDay 12 = .ok (.goto 4, 3) := by decide +kernel
theorem dX6_isDay_15 : decode cX6_isDay 15 = .ok (.iconst 0, 1) := by decide +kernel
theorem dX6_isDay_16 : decode cX6_isDay 16 = .ok (.ireturn, 1) := by decide +kernel
theorem dX6_isCode_0 : decode cX6_isCode 0 = .ok (.iload_n 0, 1) := by decide +kernel
theorem dX6_isCode_1 : decode cX6_isCode 1 = .ok (.ifCond .lt 13, 3) := by decide +kernel
theorem dX6_isCode_4 : decode cX6_isCode 4 = .ok (.iload_n 0, 1) := by decide +kernel
theorem dX6_isCode_5 : decode cX6_isCode 5 = .ok (.bipush 99, 2) := by decide +kernel
theorem dX6_isCode_7 : decode cX6_isCode 7 = .ok (.if_icmp .gt 7, 3) := by decide +kernel
theorem dX6_isCode_10 : decode cX6_isCode 10 = .ok (.iconst 1, 1) := by decide +kernel
theorem dX6_isCode_11 : decode cX6_isCode 11 = .ok (.goto 4, 3) := by decide +kernel
theorem dX6_isCode_14 : decode cX6_isCode 14 = .ok (.iconst 0, 1) := by decide +kernel
theorem dX6_isCode_15 : decode cX6_isCode 15 = .ok (.ireturn, 1) := by decide +kernel
theorem dX6_isMark_0 : decode cX6_isMark 0 = .ok (.iload_n 0, 1) := by decide +kernel
theorem dX6_isMark_1 : decode cX6_isMark 1 = .ok (.ifCond .lt 12, 3) := by decide +kernel
theorem dX6_isMark_4 : decode cX6_isMark 4 = .ok (.iload_n 0, 1) := by decide +kernel
theorem dX6_isMark_5 : decode cX6_isMark 5 = .ok (.iconst 3, 1) := by decide +kernel
theorem dX6_isMark_6 : decode cX6_isMark 6 = .ok (.if_icmp .gt 7, 3) := by decide +kernel
theorem dX6_isMark_9 : decode cX6_isMark 9 = .ok (.iconst 1, 1) := by decide +kernel
theorem dX6_isMark_10 : decode cX6_isMark 10 = .ok (.goto 4, 3) := by decide +kernel
theorem dX6_isMark_13 : decode cX6_isMark 13 = .ok (.iconst 0, 1) := by decide +kernel
theorem dX6_isMark_14 : decode cX6_isMark 14 = .ok (.ireturn, 1) := by decide +kernel
theorem dX6_isAnswer_0 : decode cX6_isAnswer 0 = .ok (.iload_n 0, 1) := by decide +kernel
theorem dX6_isAnswer_1 : decode cX6_isAnswer 1 = .ok (.ifCond .lt 13, 3) := by decide +kernel
theorem dX6_isAnswer_4 : decode cX6_isAnswer 4 = .ok (.iload_n 0, 1) := by decide +kernel
theorem dX6_isAnswer_5 : decode cX6_isAnswer 5 = .ok (.bipush 100, 2) := by decide +kernel
theorem dX6_isAnswer_7 : decode cX6_isAnswer 7 = .ok (.if_icmp .gt 7, 3) := by decide +kernel
theorem dX6_isAnswer_10 : decode cX6_isAnswer 10 = .ok (.iconst 1, 1) := by decide +kernel
theorem dX6_isAnswer_11 : decode cX6_isAnswer 11 = .ok (.goto 4, 3) := by decide +kernel
theorem dX6_isAnswer_14 : decode cX6_isAnswer 14 = .ok (.iconst 0, 1) := by decide +kernel
theorem dX6_isAnswer_15 : decode cX6_isAnswer 15 = .ok (.ireturn, 1) := by decide +kernel
theorem dX6_isShare_0 : decode cX6_isShare 0 = .ok (.iload_n 1, 1) := by decide +kernel
theorem dX6_isShare_1 : decode cX6_isShare 1 = .ok (.iconst 1, 1) := by decide +kernel
theorem dX6_isShare_2 : decode cX6_isShare 2 = .ok (.if_icmp .lt 22, 3) := by decide +kernel
theorem dX6_isShare_5 : decode cX6_isShare 5 = .ok (.iload_n 1, 1) := by decide +kernel
theorem dX6_isShare_6 : decode cX6_isShare 6 = .ok (.bipush 100, 2) := by decide +kernel
theorem dX6_isShare_8 : decode cX6_isShare 8 = .ok (.if_icmp .gt 16, 3) := by decide +kernel
theorem dX6_isShare_11 : decode cX6_isShare 11 = .ok (.iload_n 0, 1) := by decide +kernel
theorem dX6_isShare_12 : decode cX6_isShare 12 = .ok (.ifCond .lt 12, 3) := by decide +kernel
theorem dX6_isShare_15 : decode cX6_isShare 15 = .ok (.iload_n 0, 1) := by decide +kernel
theorem dX6_isShare_16 : decode cX6_isShare 16 = .ok (.iload_n 1, 1) := by decide +kernel
theorem dX6_isShare_17 : decode cX6_isShare 17 = .ok (.if_icmp .gt 7, 3) := by decide +kernel
theorem dX6_isShare_20 : decode cX6_isShare 20 = .ok (.iconst 1, 1) := by decide +kernel
theorem dX6_isShare_21 : decode cX6_isShare 21 = .ok (.goto 4, 3) := by decide +kernel
theorem dX6_isShare_24 : decode cX6_isShare 24 = .ok (.iconst 0, 1) := by decide +kernel
theorem dX6_isShare_25 : decode cX6_isShare 25 = .ok (.ireturn, 1) := by decide +kernel
theorem dX6_canEnd_0 : decode cX6_canEnd 0 = .ok (.iload_n 2, 1) := by decide +kernel
theorem dX6_canEnd_1 : decode cX6_canEnd 1 = .ok (.invokestatic 56, 3) := by decide +kernel
theorem dX6_canEnd_4 : decode cX6_canEnd 4 = .ok (.ifCond .eq 41, 3) := by decide +kernel
theorem dX6_canEnd_7 : decode cX6_canEnd 7 = .ok (.aload_n 0, 1) := by decide +kernel
theorem dX6_canEnd_8 : decode cX6_canEnd 8 = .ok (.getfield 19, 3) := by decide +kernel
theorem dX6_canEnd_11 : decode cX6_canEnd 11 = .ok (.iload_n 1, 1) := by decide +kernel
theorem dX6_canEnd_12 : decode cX6_canEnd 12 = .ok (.invokevirtual 86, 3) := by decide +kernel
theorem dX6_canEnd_15 : decode cX6_canEnd 15 = .ok (.ifCond .eq 30, 3) := by decide +kernel
theorem dX6_canEnd_18 : decode cX6_canEnd 18 = .ok (.aload_n 0, 1) := by decide +kernel
theorem dX6_canEnd_19 : decode cX6_canEnd 19 = .ok (.getfield 19, 3) := by decide +kernel
theorem dX6_canEnd_22 : decode cX6_canEnd 22 = .ok (.iload_n 1, 1) := by decide +kernel
theorem dX6_canEnd_23 : decode cX6_canEnd 23 = .ok (.invokevirtual 194, 3) := by decide +kernel
theorem dX6_canEnd_26 : decode cX6_canEnd 26 = .ok (.ifCond .ne 19, 3) := by decide +kernel
theorem dX6_canEnd_29 : decode cX6_canEnd 29 = .ok (.iload_n 2, 1) := by decide +kernel
theorem dX6_canEnd_30 : decode cX6_canEnd 30 = .ok (.aload_n 0, 1) := by decide +kernel
theorem dX6_canEnd_31 : decode cX6_canEnd 31 = .ok (.getfield 19, 3) := by decide +kernel
theorem dX6_canEnd_34 : decode cX6_canEnd 34 = .ok (.iload_n 1, 1) := by decide +kernel
theorem dX6_canEnd_35 : decode cX6_canEnd 35 = .ok (.invokevirtual 129, 3) := by decide +kernel
theorem dX6_canEnd_38 : decode cX6_canEnd 38 = .ok (.if_icmp .le 7, 3) := by decide +kernel
theorem dX6_canEnd_41 : decode cX6_canEnd 41 = .ok (.iconst 1, 1) := by decide +kernel
theorem dX6_canEnd_42 : decode cX6_canEnd 42 = .ok (.goto 4, 3) := by decide +kernel
theorem dX6_canEnd_45 : decode cX6_canEnd 45 = .ok (.iconst 0, 1) := by decide +kernel
theorem dX6_canEnd_46 : decode cX6_canEnd 46 = .ok (.ireturn, 1) := by decide +kernel
theorem dX6_isFixed_0 : decode cX6_isFixed 0 = .ok (.aload_n 0, 1) := by decide +kernel
theorem dX6_isFixed_1 : decode cX6_isFixed 1 = .ok (.getfield 28, 3) := by decide +kernel
theorem dX6_isFixed_4 : decode cX6_isFixed 4 = .ok (.iload_n 1, 1) := by decide +kernel
theorem dX6_isFixed_5 : decode cX6_isFixed 5 = .ok (.iconst 0, 1) := by decide +kernel
theorem dX6_isFixed_6 : decode cX6_isFixed 6 = .ok (.aload_n 0, 1) := by decide +kernel
theorem dX6_isFixed_7 : decode cX6_isFixed 7 = .ok (.getfield 48, 3) := by decide +kernel
theorem dX6_isFixed_10 : decode cX6_isFixed 10 = .ok (.aload_n 0, 1) := by decide +kernel
theorem dX6_isFixed_11 : decode cX6_isFixed 11 = .ok (.getfield 48, 3) := by decide +kernel
theorem dX6_isFixed_14 : decode cX6_isFixed 14 = .ok (.invokevirtual 123, 3) := by decide +kernel
theorem dX6_isFixed_17 : decode cX6_isFixed 17 = .ok (.bipush 100, 2) := by decide +kernel
theorem dX6_isFixed_19 : decode cX6_isFixed 19 = .ok (.if_icmp .eq 7, 3) := by decide +kernel
theorem dX6_isFixed_22 : decode cX6_isFixed 22 = .ok (.iconst 1, 1) := by decide +kernel
theorem dX6_isFixed_23 : decode cX6_isFixed 23 = .ok (.goto 4, 3) := by decide +kernel
theorem dX6_isFixed_26 : decode cX6_isFixed 26 = .ok (.iconst 0, 1) := by decide +kernel
theorem dX6_isFixed_27 : decode cX6_isFixed 27 = .ok (.ireturn, 1) := by decide +kernel
theorem dX6_thingOfFact_0 : decode cX6_thingOfFact 0 = .ok (.aload_n 0, 1) := by decide +kernel
theorem dX6_thingOfFact_1 : decode cX6_thingOfFact 1 = .ok (.getfield 19, 3) := by decide +kernel
theorem dX6_thingOfFact_4 : decode cX6_thingOfFact 4 = .ok (.aload_n 0, 1) := by decide +kernel
theorem dX6_thingOfFact_5 : decode cX6_thingOfFact 5 = .ok (.getfield 35, 3) := by decide +kernel
theorem dX6_thingOfFact_8 : decode cX6_thingOfFact 8 = .ok (.iload_n 1, 1) := by decide +kernel
theorem dX6_thingOfFact_9 : decode cX6_thingOfFact 9 = .ok (.invokevirtual 197, 3) := by decide +kernel
theorem dX6_thingOfFact_12 : decode cX6_thingOfFact 12 = .ok (.aload_n 0, 1) := by decide +kernel
theorem dX6_thingOfFact_13 : decode cX6_thingOfFact 13 = .ok (.getfield 35, 3) := by decide +kernel
theorem dX6_thingOfFact_16 : decode cX6_thingOfFact 16 = .ok (.iload_n 1, 1) := by decide +kernel
theorem dX6_thingOfFact_17 : decode cX6_thingOfFact 17 = .ok (.invokevirtual 198, 3) := by decide +kernel
theorem dX6_thingOfFact_20 : decode cX6_thingOfFact 20 = .ok (.iload_n 2, 1) := by decide +kernel
theorem dX6_thingOfFact_21 : decode cX6_thingOfFact 21 = .ok (.invokevirtual 149, 3) := by decide +kernel
theorem dX6_thingOfFact_24 : decode cX6_thingOfFact 24 = .ok (.ireturn, 1) := by decide +kernel
theorem dX6_isMarkedThen_0 : decode cX6_isMarkedThen 0 = .ok (.aload_n 0, 1) := by decide +kernel
theorem dX6_isMarkedThen_1 : decode cX6_isMarkedThen 1 = .ok (.iload_n 1, 1) := by decide +kernel
theorem dX6_isMarkedThen_2 : decode cX6_isMarkedThen 2 = .ok (.iload 4, 2) := by decide +kernel
theorem dX6_isMarkedThen_4 : decode cX6_isMarkedThen 4 = .ok (.invokevirtual 146, 3) := by decide +kernel
theorem dX6_isMarkedThen_7 : decode cX6_isMarkedThen 7 = .ok (.istore 5, 2) := by decide +kernel
theorem dX6_isMarkedThen_9 : decode cX6_isMarkedThen 9 = .ok (.iload 5, 2) := by decide +kernel
theorem dX6_isMarkedThen_11 : decode cX6_isMarkedThen 11 = .ok (.iconst (-1), 1) := by decide +kernel
theorem dX6_isMarkedThen_12 : decode cX6_isMarkedThen 12 = .ok (.if_icmp .eq 31, 3) := by decide +kernel
theorem dX6_isMarkedThen_15 : decode cX6_isMarkedThen 15 = .ok (.aload_n 0, 1) := by decide +kernel
theorem dX6_isMarkedThen_16 : decode cX6_isMarkedThen 16 = .ok (.getfield 28, 3) := by decide +kernel
theorem dX6_isMarkedThen_19 : decode cX6_isMarkedThen 19 = .ok (.iload 5, 2) := by decide +kernel
theorem dX6_isMarkedThen_21 : decode cX6_isMarkedThen 21 = .ok (.iload_n 2, 1) := by decide +kernel
theorem dX6_isMarkedThen_22 : decode cX6_isMarkedThen 22 = .ok (.aload_n 0, 1) := by decide +kernel
theorem dX6_isMarkedThen_23 : decode cX6_isMarkedThen 23 = .ok (.getfield 35, 3) := by decide +kernel
theorem dX6_isMarkedThen_26 : decode cX6_isMarkedThen 26 = .ok (.iload_n 1, 1) := by decide +kernel
theorem dX6_isMarkedThen_27 : decode cX6_isMarkedThen 27 = .ok (.invokevirtual 198, 3) := by decide +kernel
theorem dX6_isMarkedThen_30 : decode cX6_isMarkedThen 30 = .ok (.iload 4, 2) := by decide +kernel
theorem dX6_isMarkedThen_32 : decode cX6_isMarkedThen 32 = .ok (.invokevirtual 123, 3) := by decide +kernel
theorem dX6_isMarkedThen_35 : decode cX6_isMarkedThen 35 = .ok (.iload_n 3, 1) := by decide +kernel
theorem dX6_isMarkedThen_36 : decode cX6_isMarkedThen 36 = .ok (.if_icmp .ne 7, 3) := by decide +kernel
theorem dX6_isMarkedThen_39 : decode cX6_isMarkedThen 39 = .ok (.iconst 1, 1) := by decide +kernel
theorem dX6_isMarkedThen_40 : decode cX6_isMarkedThen 40 = .ok (.goto 4, 3) := by decide +kernel
theorem dX6_isMarkedThen_43 : decode cX6_isMarkedThen 43 = .ok (.iconst 0, 1) := by decide +kernel
theorem dX6_isMarkedThen_44 : decode cX6_isMarkedThen 44 = .ok (.ireturn, 1) := by decide +kernel
theorem dX6_carryAll_0 : decode cX6_carryAll 0 = .ok (.aload_n 0, 1) := by decide +kernel
theorem dX6_carryAll_1 : decode cX6_carryAll 1 = .ok (.getfield 44, 3) := by decide +kernel
theorem dX6_carryAll_4 : decode cX6_carryAll 4 = .ok (.iload_n 1, 1) := by decide +kernel
theorem dX6_carryAll_5 : decode cX6_carryAll 5 = .ok (.iload_n 2, 1) := by decide +kernel
theorem dX6_carryAll_6 : decode cX6_carryAll 6 = .ok (.invokevirtual 201, 3) := by decide +kernel
theorem dX6_carryAll_9 : decode cX6_carryAll 9 = .ok (.iconst 0, 1) := by decide +kernel
theorem dX6_carryAll_10 : decode cX6_carryAll 10 = .ok (.istore_n 3, 1) := by decide +kernel
theorem dX6_carryAll_11 : decode cX6_carryAll 11 = .ok (.iload_n 3, 1) := by decide +kernel
theorem dX6_carryAll_12 : decode cX6_carryAll 12 = .ok (.aload_n 0, 1) := by decide +kernel
theorem dX6_carryAll_13 : decode cX6_carryAll 13 = .ok (.getfield 35, 3) := by decide +kernel
theorem dX6_carryAll_16 : decode cX6_carryAll 16 = .ok (.invokevirtual 155, 3) := by decide +kernel
theorem dX6_carryAll_19 : decode cX6_carryAll 19 = .ok (.if_icmp .ge 42, 3) := by decide +kernel
theorem dX6_carryAll_22 : decode cX6_carryAll 22 = .ok (.aload_n 0, 1) := by decide +kernel
theorem dX6_carryAll_23 : decode cX6_carryAll 23 = .ok (.getfield 35, 3) := by decide +kernel
theorem dX6_carryAll_26 : decode cX6_carryAll 26 = .ok (.iload_n 3, 1) := by decide +kernel
theorem dX6_carryAll_27 : decode cX6_carryAll 27 = .ok (.iload_n 2, 1) := by decide +kernel
theorem dX6_carryAll_28 : decode cX6_carryAll 28 = .ok (.invokevirtual 145, 3) := by decide +kernel
theorem dX6_carryAll_31 : decode cX6_carryAll 31 = .ok (.ifCond .eq 24, 3) := by decide +kernel
theorem dX6_carryAll_34 : decode cX6_carryAll 34 = .ok (.aload_n 0, 1) := by decide +kernel
theorem dX6_carryAll_35 : decode cX6_carryAll 35 = .ok (.getfield 44, 3) := by decide +kernel
theorem dX6_carryAll_38 : decode cX6_carryAll 38 = .ok (.aload_n 0, 1) := by decide +kernel
theorem dX6_carryAll_39 : decode cX6_carryAll 39 = .ok (.iload_n 3, 1) := by decide +kernel
theorem dX6_carryAll_40 : decode cX6_carryAll 40 = .ok (.iload_n 2, 1) := by decide +kernel
theorem dX6_carryAll_41 : decode cX6_carryAll 41 = .ok (.invokevirtual 146, 3) := by decide +kernel
theorem dX6_carryAll_44 : decode cX6_carryAll 44 = .ok (.aload_n 0, 1) := by decide +kernel
theorem dX6_carryAll_45 : decode cX6_carryAll 45 = .ok (.getfield 35, 3) := by decide +kernel
theorem dX6_carryAll_48 : decode cX6_carryAll 48 = .ok (.iload_n 3, 1) := by decide +kernel
theorem dX6_carryAll_49 : decode cX6_carryAll 49 = .ok (.invokevirtual 161, 3) := by decide +kernel
theorem dX6_carryAll_52 : decode cX6_carryAll 52 = .ok (.invokevirtual 204, 3) := by decide +kernel
theorem dX6_carryAll_55 : decode cX6_carryAll 55 = .ok (.iinc 3 1, 3) := by decide +kernel
theorem dX6_carryAll_58 : decode cX6_carryAll 58 = .ok (.goto (-47), 3) := by decide +kernel
theorem dX6_carryAll_61 : decode cX6_carryAll 61 = .ok (.return_, 1) := by decide +kernel
theorem dX6_sumOfFacts_0 : decode cX6_sumOfFacts 0 = .ok (.lconst 0, 1) := by decide +kernel
theorem dX6_sumOfFacts_1 : decode cX6_sumOfFacts 1 = .ok (.lstore_n 3, 1) := by decide +kernel
theorem dX6_sumOfFacts_2 : decode cX6_sumOfFacts 2 = .ok (.iconst 0, 1) := by decide +kernel
theorem dX6_sumOfFacts_3 : decode cX6_sumOfFacts 3 = .ok (.istore 5, 2) := by decide +kernel
theorem dX6_sumOfFacts_5 : decode cX6_sumOfFacts 5 = .ok (.iload 5, 2) := by decide +kernel
theorem dX6_sumOfFacts_7 : decode cX6_sumOfFacts 7 = .ok (.aload_n 0, 1) := by decide +kernel
theorem dX6_sumOfFacts_8 : decode cX6_sumOfFacts 8 = .ok (.getfield 35, 3) := by decide +kernel
theorem dX6_sumOfFacts_11 : decode cX6_sumOfFacts 11 = .ok (.invokevirtual 155, 3) := by decide +kernel
theorem dX6_sumOfFacts_14 : decode cX6_sumOfFacts 14 = .ok (.if_icmp .ge 50, 3) := by decide +kernel
theorem dX6_sumOfFacts_17 : decode cX6_sumOfFacts 17 = .ok (.aload_n 0, 1) := by decide +kernel
theorem dX6_sumOfFacts_18 : decode cX6_sumOfFacts 18 = .ok (.getfield 35, 3) := by decide +kernel
theorem dX6_sumOfFacts_21 : decode cX6_sumOfFacts 21 = .ok (.iload 5, 2) := by decide +kernel
theorem dX6_sumOfFacts_23 : decode cX6_sumOfFacts 23 = .ok (.iload_n 1, 1) := by decide +kernel
theorem dX6_sumOfFacts_24 : decode cX6_sumOfFacts 24 = .ok (.invokevirtual 145, 3) := by decide +kernel
theorem dX6_sumOfFacts_27 : decode cX6_sumOfFacts 27 = .ok (.ifCond .eq 31, 3) := by decide +kernel
theorem dX6_sumOfFacts_30 : decode cX6_sumOfFacts 30 = .ok (.iload_n 2, 1) := by decide +kernel
theorem dX6_sumOfFacts_31 : decode cX6_sumOfFacts 31 = .ok (.ifCond .eq 14, 3) := by decide +kernel
theorem dX6_sumOfFacts_34 : decode cX6_sumOfFacts 34 = .ok (.aload_n 0, 1) := by decide +kernel
theorem dX6_sumOfFacts_35 : decode cX6_sumOfFacts 35 = .ok (.iload 5, 2) := by decide +kernel
theorem dX6_sumOfFacts_37 : decode cX6_sumOfFacts 37 = .ok (.iload_n 1, 1) := by decide +kernel
theorem dX6_sumOfFacts_38 : decode cX6_sumOfFacts 38 = .ok (.invokevirtual 146, 3) := by decide +kernel
theorem dX6_sumOfFacts_41 : decode cX6_sumOfFacts 41 = .ok (.iconst (-1), 1) := by decide +kernel
theorem dX6_sumOfFacts_42 : decode cX6_sumOfFacts 42 = .ok (.if_icmp .ne 16, 3) := by decide +kernel
theorem dX6_sumOfFacts_45 : decode cX6_sumOfFacts 45 = .ok (.lload_n 3, 1) := by decide +kernel
theorem dX6_sumOfFacts_46 : decode cX6_sumOfFacts 46 = .ok (.aload_n 0, 1) := by decide +kernel
theorem dX6_sumOfFacts_47 : decode cX6_sumOfFacts 47 = .ok (.getfield 35, 3) := by decide +kernel
theorem dX6_sumOfFacts_50 : decode cX6_sumOfFacts 50 = .ok (.iload 5, 2) := by decide +kernel
theorem dX6_sumOfFacts_52 : decode cX6_sumOfFacts 52 = .ok (.invokevirtual 161, 3) := by decide +kernel
theorem dX6_sumOfFacts_55 : decode cX6_sumOfFacts 55 = .ok (.i2l, 1) := by decide +kernel
theorem dX6_sumOfFacts_56 : decode cX6_sumOfFacts 56 = .ok (.ladd, 1) := by decide +kernel
theorem dX6_sumOfFacts_57 : decode cX6_sumOfFacts 57 = .ok (.lstore_n 3, 1) := by decide +kernel
theorem dX6_sumOfFacts_58 : decode cX6_sumOfFacts 58 = .ok (.iinc 5 1, 3) := by decide +kernel
theorem dX6_sumOfFacts_61 : decode cX6_sumOfFacts 61 = .ok (.goto (-56), 3) := by decide +kernel
theorem dX6_sumOfFacts_64 : decode cX6_sumOfFacts 64 = .ok (.lload_n 3, 1) := by decide +kernel
theorem dX6_sumOfFacts_65 : decode cX6_sumOfFacts 65 = .ok (.lreturn, 1) := by decide +kernel
theorem dX6_countLiving_0 : decode cX6_countLiving 0 = .ok (.iconst 0, 1) := by decide +kernel
theorem dX6_countLiving_1 : decode cX6_countLiving 1 = .ok (.istore 6, 2) := by decide +kernel
theorem dX6_countLiving_3 : decode cX6_countLiving 3 = .ok (.iconst 0, 1) := by decide +kernel
theorem dX6_countLiving_4 : decode cX6_countLiving 4 = .ok (.istore 7, 2) := by decide +kernel
theorem dX6_countLiving_6 : decode cX6_countLiving 6 = .ok (.iload 7, 2) := by decide +kernel
theorem dX6_countLiving_8 : decode cX6_countLiving 8 = .ok (.aload_n 0, 1) := by decide +kernel
theorem dX6_countLiving_9 : decode cX6_countLiving 9 = .ok (.getfield 19, 3) := by decide +kernel
theorem dX6_countLiving_12 : decode cX6_countLiving 12 = .ok (.invokevirtual 167, 3) := by decide +kernel
theorem dX6_countLiving_15 : decode cX6_countLiving 15 = .ok (.if_icmp .ge 45, 3) := by decide +kernel
theorem dX6_countLiving_18 : decode cX6_countLiving 18 = .ok (.aload_n 0, 1) := by decide +kernel
theorem dX6_countLiving_19 : decode cX6_countLiving 19 = .ok (.getfield 19, 3) := by decide +kernel
theorem dX6_countLiving_22 : decode cX6_countLiving 22 = .ok (.iload 7, 2) := by decide +kernel
theorem dX6_countLiving_24 : decode cX6_countLiving 24 = .ok (.iload_n 1, 1) := by decide +kernel
theorem dX6_countLiving_25 : decode cX6_countLiving 25 = .ok (.iload 5, 2) := by decide +kernel
theorem dX6_countLiving_27 : decode cX6_countLiving 27 = .ok (.invokevirtual 206, 3) := by decide +kernel
theorem dX6_countLiving_30 : decode cX6_countLiving 30 = .ok (.iload_n 2, 1) := by decide +kernel
theorem dX6_countLiving_31 : decode cX6_countLiving 31 = .ok (.if_icmp .ne 23, 3) := by decide +kernel
theorem dX6_countLiving_34 : decode cX6_countLiving 34 = .ok (.aload_n 0, 1) := by decide +kernel
theorem dX6_countLiving_35 : decode cX6_countLiving 35 = .ok (.getfield 19, 3) := by decide +kernel
theorem dX6_countLiving_38 : decode cX6_countLiving 38 = .ok (.iload 7, 2) := by decide +kernel
theorem dX6_countLiving_40 : decode cX6_countLiving 40 = .ok (.iload_n 3, 1) := by decide +kernel
theorem dX6_countLiving_41 : decode cX6_countLiving 41 = .ok (.iload 5, 2) := by decide +kernel
theorem dX6_countLiving_43 : decode cX6_countLiving 43 = .ok (.invokevirtual 206, 3) := by decide +kernel
theorem dX6_countLiving_46 : decode cX6_countLiving 46 = .ok (.iload 4, 2) := by decide +kernel
theorem dX6_countLiving_48 : decode cX6_countLiving 48 = .ok (.if_icmp .ne 6, 3) := by decide +kernel
theorem dX6_countLiving_51 : decode cX6_countLiving 51 = .ok (.iinc 6 1, 3) := by decide +kernel
theorem dX6_countLiving_54 : decode cX6_countLiving 54 = .ok (.iinc 7 1, 3) := by decide +kernel
theorem dX6_countLiving_57 : decode cX6_countLiving 57 = .ok (.goto (-51), 3) := by decide +kernel
theorem dX6_countLiving_60 : decode cX6_countLiving 60 = .ok (.iload 6, 2) := by decide +kernel
theorem dX6_countLiving_62 : decode cX6_countLiving 62 = .ok (.ireturn, 1) := by decide +kernel
theorem dX6_countMoved_0 : decode cX6_countMoved 0 = .ok (.iconst 0, 1) := by decide +kernel
theorem dX6_countMoved_1 : decode cX6_countMoved 1 = .ok (.istore 5, 2) := by decide +kernel
theorem dX6_countMoved_3 : decode cX6_countMoved 3 = .ok (.iconst 0, 1) := by decide +kernel
theorem dX6_countMoved_4 : decode cX6_countMoved 4 = .ok (.istore 6, 2) := by decide +kernel
theorem dX6_countMoved_6 : decode cX6_countMoved 6 = .ok (.iload 6, 2) := by decide +kernel
theorem dX6_countMoved_8 : decode cX6_countMoved 8 = .ok (.aload_n 0, 1) := by decide +kernel
theorem dX6_countMoved_9 : decode cX6_countMoved 9 = .ok (.getfield 19, 3) := by decide +kernel
theorem dX6_countMoved_12 : decode cX6_countMoved 12 = .ok (.invokevirtual 167, 3) := by decide +kernel
theorem dX6_countMoved_15 : decode cX6_countMoved 15 = .ok (.if_icmp .ge 71, 3) := by decide +kernel
theorem dX6_countMoved_18 : decode cX6_countMoved 18 = .ok (.aload_n 0, 1) := by decide +kernel
theorem dX6_countMoved_19 : decode cX6_countMoved 19 = .ok (.getfield 19, 3) := by decide +kernel
theorem dX6_countMoved_22 : decode cX6_countMoved 22 = .ok (.iload 6, 2) := by decide +kernel
theorem dX6_countMoved_24 : decode cX6_countMoved 24 = .ok (.iload_n 2, 1) := by decide +kernel
theorem dX6_countMoved_25 : decode cX6_countMoved 25 = .ok (.iload 4, 2) := by decide +kernel
theorem dX6_countMoved_27 : decode cX6_countMoved 27 = .ok (.invokevirtual 206, 3) := by decide +kernel
theorem dX6_countMoved_30 : decode cX6_countMoved 30 = .ok (.ifCond .eq 50, 3) := by decide +kernel
theorem dX6_countMoved_33 : decode cX6_countMoved 33 = .ok (.aload_n 0, 1) := by decide +kernel
theorem dX6_countMoved_34 : decode cX6_countMoved 34 = .ok (.getfield 19, 3) := by decide +kernel
theorem dX6_countMoved_37 : decode cX6_countMoved 37 = .ok (.iload 6, 2) := by decide +kernel
theorem dX6_countMoved_39 : decode cX6_countMoved 39 = .ok (.iload_n 3, 1) := by decide +kernel
theorem dX6_countMoved_40 : decode cX6_countMoved 40 = .ok (.iload 4, 2) := by decide +kernel
theorem dX6_countMoved_42 : decode cX6_countMoved 42 = .ok (.invokevirtual 206, 3) := by decide +kernel
theorem dX6_countMoved_45 : decode cX6_countMoved 45 = .ok (.ifCond .eq 35, 3) := by decide +kernel
theorem dX6_countMoved_48 : decode cX6_countMoved 48 = .ok (.aload_n 0, 1) := by decide +kernel
theorem dX6_countMoved_49 : decode cX6_countMoved 49 = .ok (.getfield 28, 3) := by decide +kernel
theorem dX6_countMoved_52 : decode cX6_countMoved 52 = .ok (.iload 6, 2) := by decide +kernel
theorem dX6_countMoved_54 : decode cX6_countMoved 54 = .ok (.iload_n 1, 1) := by decide +kernel
theorem dX6_countMoved_55 : decode cX6_countMoved 55 = .ok (.iload_n 2, 1) := by decide +kernel
theorem dX6_countMoved_56 : decode cX6_countMoved 56 = .ok (.iload 4, 2) := by decide +kernel
theorem dX6_countMoved_58 : decode cX6_countMoved 58 = .ok (.invokevirtual 123, 3) := by decide +kernel
theorem dX6_countMoved_61 : decode cX6_countMoved 61 = .ok (.aload_n 0, 1) := by decide +kernel
theorem dX6_countMoved_62 : decode cX6_countMoved 62 = .ok (.getfield 28, 3) := by decide +kernel
theorem dX6_countMoved_65 : decode cX6_countMoved 65 = .ok (.iload 6, 2) := by decide +kernel
theorem dX6_countMoved_67 : decode cX6_countMoved 67 = .ok (.iload_n 1, 1) := by decide +kernel
theorem dX6_countMoved_68 : decode cX6_countMoved 68 = .ok (.iload_n 3, 1) := by decide +kernel
theorem dX6_countMoved_69 : decode cX6_countMoved 69 = .ok (.iload 4, 2) := by decide +kernel
theorem dX6_countMoved_71 : decode cX6_countMoved 71 = .ok (.invokevirtual 123, 3) := by decide +kernel
theorem dX6_countMoved_74 : decode cX6_countMoved 74 = .ok (.if_icmp .eq 6, 3) := by decide +kernel
theorem dX6_countMoved_77 : decode cX6_countMoved 77 = .ok (.iinc 5 1, 3) := by decide +kernel
theorem dX6_countMoved_80 : decode cX6_countMoved 80 = .ok (.iinc 6 1, 3) := by decide +kernel
theorem dX6_countMoved_83 : decode cX6_countMoved 83 = .ok (.goto (-77), 3) := by decide +kernel
theorem dX6_countMoved_86 : decode cX6_countMoved 86 = .ok (.iload 5, 2) := by decide +kernel
theorem dX6_countMoved_88 : decode cX6_countMoved 88 = .ok (.ireturn, 1) := by decide +kernel
theorem dX7_init_0 : decode cX7_init 0 = .ok (.aload_n 0, 1) := by decide +kernel
theorem dX7_init_1 : decode cX7_init 1 = .ok (.invokespecial 1, 3) := by decide +kernel
theorem dX7_init_4 : decode cX7_init 4 = .ok (.aload_n 0, 1) := by decide +kernel
theorem dX7_init_5 : decode cX7_init 5 = .ok (.bipush 40, 2) := by decide +kernel
theorem dX7_init_7 : decode cX7_init 7 = .ok (.newarray .int, 2) := by decide +kernel
theorem dX7_init_9 : decode cX7_init 9 = .ok (.putfield 7, 3) := by decide +kernel
theorem dX7_init_12 : decode cX7_init 12 = .ok (.aload_n 0, 1) := by decide +kernel
theorem dX7_init_13 : decode cX7_init 13 = .ok (.bipush 40, 2) := by decide +kernel
theorem dX7_init_15 : decode cX7_init 15 = .ok (.newarray .int, 2) := by decide +kernel
theorem dX7_init_17 : decode cX7_init 17 = .ok (.putfield 13, 3) := by decide +kernel
theorem dX7_init_20 : decode cX7_init 20 = .ok (.aload_n 0, 1) := by decide +kernel
theorem dX7_init_21 : decode cX7_init 21 = .ok (.bipush 40, 2) := by decide +kernel
theorem dX7_init_23 : decode cX7_init 23 = .ok (.newarray .int, 2) := by decide +kernel
theorem dX7_init_25 : decode cX7_init 25 = .ok (.putfield 16, 3) := by decide +kernel
theorem dX7_init_28 : decode cX7_init 28 = .ok (.aload_n 0, 1) := by decide +kernel
theorem dX7_init_29 : decode cX7_init 29 = .ok (.bipush 40, 2) := by decide +kernel
theorem dX7_init_31 : decode cX7_init 31 = .ok (.newarray .int, 2) := by decide +kernel
theorem dX7_init_33 : decode cX7_init 33 = .ok (.putfield 19, 3) := by decide +kernel
theorem dX7_init_36 : decode cX7_init 36 = .ok (.aload_n 0, 1) := by decide +kernel
theorem dX7_init_37 : decode cX7_init 37 = .ok (.bipush 40, 2) := by decide +kernel
theorem dX7_init_39 : decode cX7_init 39 = .ok (.newarray .int, 2) := by decide +kernel
theorem dX7_init_41 : decode cX7_init 41 = .ok (.putfield 22, 3) := by decide +kernel
theorem dX7_init_44 : decode cX7_init 44 = .ok (.aload_n 0, 1) := by decide +kernel
theorem dX7_init_45 : decode cX7_init 45 = .ok (.bipush 40, 2) := by decide +kernel
theorem dX7_init_47 : decode cX7_init 47 = .ok (.newarray .int, 2) := by decide +kernel
theorem dX7_init_49 : decode cX7_init 49 = .ok (.putfield 25, 3) := by decide +kernel
theorem dX7_init_52 : decode cX7_init 52 = .ok (.aload_n 0, 1) := by decide +kernel
theorem dX7_init_53 : decode cX7_init 53 = .ok (.bipush 40, 2) := by decide +kernel
theorem dX7_init_55 : decode cX7_init 55 = .ok (.newarray .int, 2) := by decide +kernel
theorem dX7_init_57 : decode cX7_init 57 = .ok (.putfield 28, 3) := by decide +kernel
theorem dX7_init_60 : decode cX7_init 60 = .ok (.aload_n 0, 1) := by decide +kernel
theorem dX7_init_61 : decode cX7_init 61 = .ok (.bipush 40, 2) := by decide +kernel
theorem dX7_init_63 : decode cX7_init 63 = .ok (.newarray .int, 2) := by decide +kernel
theorem dX7_init_65 : decode cX7_init 65 = .ok (.putfield 31, 3) := by decide +kernel
theorem dX7_init_68 : decode cX7_init 68 = .ok (.aload_n 0, 1) := by decide +kernel
theorem dX7_init_69 : decode cX7_init 69 = .ok (.bipush 40, 2) := by decide +kernel
theorem dX7_init_71 : decode cX7_init 71 = .ok (.newarray .int, 2) := by decide +kernel
theorem dX7_init_73 : decode cX7_init 73 = .ok (.putfield 34, 3) := by decide +kernel
theorem dX7_init_76 : decode cX7_init 76 = .ok (.aload_n 0, 1) := by decide +kernel
theorem dX7_init_77 : decode cX7_init 77 = .ok (.sipush 200, 3) := by decide +kernel
theorem dX7_init_80 : decode cX7_init 80 = .ok (.newarray .int, 2) := by decide +kernel
theorem dX7_init_82 : decode cX7_init 82 = .ok (.putfield 37, 3) := by decide +kernel
theorem dX7_init_85 : decode cX7_init 85 = .ok (.aload_n 0, 1) := by decide +kernel
theorem dX7_init_86 : decode cX7_init 86 = .ok (.sipush 200, 3) := by decide +kernel
theorem dX7_init_89 : decode cX7_init 89 = .ok (.newarray .int, 2) := by decide +kernel
theorem dX7_init_91 : decode cX7_init 91 = .ok (.putfield 40, 3) := by decide +kernel
theorem dX7_init_94 : decode cX7_init 94 = .ok (.aload_n 0, 1) := by decide +kernel
theorem dX7_init_95 : decode cX7_init 95 = .ok (.sipush 200, 3) := by decide +kernel
theorem dX7_init_98 : decode cX7_init 98 = .ok (.newarray .int, 2) := by decide +kernel
theorem dX7_init_100 : decode cX7_init 100 = .ok (.putfield 43, 3) := by decide +kernel
theorem dX7_init_103 : decode cX7_init 103 = .ok (.aload_n 0, 1) := by decide +kernel
theorem dX7_init_104 : decode cX7_init 104 = .ok (.sipush 200, 3) := by decide +kernel
theorem dX7_init_107 : decode cX7_init 107 = .ok (.newarray .int, 2) := by decide +kernel
theorem dX7_init_109 : decode cX7_init 109 = .ok (.putfield 46, 3) := by decide +kernel
theorem dX7_init_112 : decode cX7_init 112 = .ok (.aload_n 0, 1) := by decide +kernel
theorem dX7_init_113 : decode cX7_init 113 = .ok (.sipush 200, 3) := by decide +kernel
theorem dX7_init_116 : decode cX7_init 116 = .ok (.newarray .int, 2) := by decide +kernel
theorem dX7_init_118 : decode cX7_init 118 = .ok (.putfield 49, 3) := by decide +kernel
theorem dX7_init_121 : decode cX7_init 121 = .ok (.aload_n 0, 1) := by decide +kernel
theorem dX7_init_122 : decode cX7_init 122 = .ok (.sipush 300, 3) := by decide +kernel
theorem dX7_init_125 : decode cX7_init 125 = .ok (.newarray .int, 2) := by decide +kernel
theorem dX7_init_127 : decode cX7_init 127 = .ok (.putfield 52, 3) := by decide +kernel
theorem dX7_init_130 : decode cX7_init 130 = .ok (.aload_n 0, 1) := by decide +kernel
theorem dX7_init_131 : decode cX7_init 131 = .ok (.sipush 300, 3) := by decide +kernel
theorem dX7_init_134 : decode cX7_init 134 = .ok (.newarray .int, 2) := by decide +kernel
theorem dX7_init_136 : decode cX7_init 136 = .ok (.putfield 55, 3) := by decide +kernel
theorem dX7_init_139 : decode cX7_init 139 = .ok (.aload_n 0, 1) := by decide +kernel
theorem dX7_init_140 : decode cX7_init 140 = .ok (.sipush 300, 3) := by decide +kernel
theorem dX7_init_143 : decode cX7_init 143 = .ok (.newarray .int, 2) := by decide +kernel
theorem dX7_init_145 : decode cX7_init 145 = .ok (.putfield 58, 3) := by decide +kernel
theorem dX7_init_148 : decode cX7_init 148 = .ok (.aload_n 0, 1) := by decide +kernel
theorem dX7_init_149 : decode cX7_init 149 = .ok (.sipush 300, 3) := by decide +kernel
theorem dX7_init_152 : decode cX7_init 152 = .ok (.newarray .int, 2) := by decide +kernel
theorem dX7_init_154 : decode cX7_init 154 = .ok (.putfield 61, 3) := by decide +kernel
theorem dX7_init_157 : decode cX7_init 157 = .ok (.aload_n 0, 1) := by decide +kernel
theorem dX7_init_158 : decode cX7_init 158 = .ok (.sipush 300, 3) := by decide +kernel
theorem dX7_init_161 : decode cX7_init 161 = .ok (.newarray .int, 2) := by decide +kernel
theorem dX7_init_163 : decode cX7_init 163 = .ok (.putfield 64, 3) := by decide +kernel
theorem dX7_init_166 : decode cX7_init 166 = .ok (.aload_n 0, 1) := by decide +kernel
theorem dX7_init_167 : decode cX7_init 167 = .ok (.sipush 300, 3) := by decide +kernel
theorem dX7_init_170 : decode cX7_init 170 = .ok (.newarray .int, 2) := by decide +kernel
theorem dX7_init_172 : decode cX7_init 172 = .ok (.putfield 67, 3) := by decide +kernel
theorem dX7_init_175 : decode cX7_init 175 = .ok (.aload_n 0, 1) := by decide +kernel
theorem dX7_init_176 : decode cX7_init 176 = .ok (.bipush 40, 2) := by decide +kernel
theorem dX7_init_178 : decode cX7_init 178 = .ok (.newarray .int, 2) := by decide +kernel
theorem dX7_init_180 : decode cX7_init 180 = .ok (.putfield 70, 3) := by decide +kernel
theorem dX7_init_183 : decode cX7_init 183 = .ok (.iconst 0, 1) := by decide +kernel
theorem dX7_init_184 : decode cX7_init 184 = .ok (.istore_n 1, 1) := by decide +kernel
theorem dX7_init_185 : decode cX7_init 185 = .ok (.iload_n 1, 1) := by decide +kernel
theorem dX7_init_186 : decode cX7_init 186 = .ok (.bipush 40, 2) := by decide +kernel
theorem dX7_init_188 : decode cX7_init 188 = .ok (.if_icmp .ge 18, 3) := by decide +kernel
theorem dX7_init_191 : decode cX7_init 191 = .ok (.aload_n 0, 1) := by decide +kernel
theorem dX7_init_192 : decode cX7_init 192 = .ok (.getfield 70, 3) := by decide +kernel
theorem dX7_init_195 : decode cX7_init 195 = .ok (.iload_n 1, 1) := by decide +kernel
theorem dX7_init_196 : decode cX7_init 196 = .ok (.sipush 2001, 3) := by decide +kernel
theorem dX7_init_199 : decode cX7_init 199 = .ok (.iastore, 1) := by decide +kernel
theorem dX7_init_200 : decode cX7_init 200 = .ok (.iinc 1 1, 3) := by decide +kernel
theorem dX7_init_203 : decode cX7_init 203 = .ok (.goto (-18), 3) := by decide +kernel
theorem dX7_init_206 : decode cX7_init 206 = .ok (.return_, 1) := by decide +kernel
theorem dX7_isIn_0 : decode cX7_isIn 0 = .ok (.iload_n 0, 1) := by decide +kernel
theorem dX7_isIn_1 : decode cX7_isIn 1 = .ok (.iload_n 1, 1) := by decide +kernel
theorem dX7_isIn_2 : decode cX7_isIn 2 = .ok (.if_icmp .lt 12, 3) := by decide +kernel
theorem dX7_isIn_5 : decode cX7_isIn 5 = .ok (.iload_n 0, 1) := by decide +kernel
theorem dX7_isIn_6 : decode cX7_isIn 6 = .ok (.iload_n 2, 1) := by decide +kernel
theorem dX7_isIn_7 : decode cX7_isIn 7 = .ok (.if_icmp .gt 7, 3) := by decide +kernel
theorem dX7_isIn_10 : decode cX7_isIn 10 = .ok (.iconst 1, 1) := by decide +kernel
theorem dX7_isIn_11 : decode cX7_isIn 11 = .ok (.goto 4, 3) := by decide +kernel
theorem dX7_isIn_14 : decode cX7_isIn 14 = .ok (.iconst 0, 1) := by decide +kernel
theorem dX7_isIn_15 : decode cX7_isIn 15 = .ok (.ireturn, 1) := by decide +kernel
theorem dX7_isDay_0 : decode cX7_isDay 0 = .ok (.iload_n 0, 1) := by decide +kernel
theorem dX7_isDay_1 : decode cX7_isDay 1 = .ok (.iconst 0, 1) := by decide +kernel
theorem dX7_isDay_2 : decode cX7_isDay 2 = .ok (.sipush 2000, 3) := by decide +kernel
theorem dX7_isDay_5 : decode cX7_isDay 5 = .ok (.invokestatic 73, 3) := by decide +kernel
theorem dX7_isDay_8 : decode cX7_isDay 8 = .ok (.ireturn, 1) := by decide +kernel
theorem dX7_isCode_0 : decode cX7_isCode 0 = .ok (.iload_n 0, 1) := by decide +kernel
theorem dX7_isCode_1 : decode cX7_isCode 1 = .ok (.iconst 0, 1) := by decide +kernel
theorem dX7_isCode_2 : decode cX7_isCode 2 = .ok (.bipush 99, 2) := by decide +kernel
theorem dX7_isCode_4 : decode cX7_isCode 4 = .ok (.invokestatic 73, 3) := by decide +kernel
theorem dX7_isCode_7 : decode cX7_isCode 7 = .ok (.ireturn, 1) := by decide +kernel
theorem dX7_isMark_0 : decode cX7_isMark 0 = .ok (.iload_n 0, 1) := by decide +kernel
theorem dX7_isMark_1 : decode cX7_isMark 1 = .ok (.iconst 0, 1) := by decide +kernel
theorem dX7_isMark_2 : decode cX7_isMark 2 = .ok (.iconst 3, 1) := by decide +kernel
theorem dX7_isMark_3 : decode cX7_isMark 3 = .ok (.invokestatic 73, 3) := by decide +kernel
theorem dX7_isMark_6 : decode cX7_isMark 6 = .ok (.ireturn, 1) := by decide +kernel
theorem dX7_one_0 : decode cX7_one 0 = .ok (.iload_n 0, 1) := by decide +kernel
theorem dX7_one_1 : decode cX7_one 1 = .ok (.ifCond .eq 7, 3) := by decide +kernel
theorem dX7_one_4 : decode cX7_one 4 = .ok (.iconst 1, 1) := by decide +kernel
theorem dX7_one_5 : decode cX7_one 5 = .ok (.goto 4, 3) := by decide +kernel
theorem dX7_one_8 : decode cX7_one 8 = .ok (.iconst 0, 1) := by decide +kernel
theorem dX7_one_9 : decode cX7_one 9 = .ok (.ireturn, 1) := by decide +kernel
theorem dX7_isThing_0 : decode cX7_isThing 0 = .ok (.iload_n 1, 1) := by decide +kernel
theorem dX7_isThing_1 : decode cX7_isThing 1 = .ok (.iconst 0, 1) := by decide +kernel
theorem dX7_isThing_2 : decode cX7_isThing 2 = .ok (.aload_n 0, 1) := by decide +kernel
theorem dX7_isThing_3 : decode cX7_isThing 3 = .ok (.getfield 77, 3) := by decide +kernel
theorem dX7_isThing_6 : decode cX7_isThing 6 = .ok (.iconst 1, 1) := by decide +kernel
theorem dX7_isThing_7 : decode cX7_isThing 7 = .ok (.isub, 1) := by decide +kernel
theorem dX7_isThing_8 : decode cX7_isThing 8 = .ok (.invokestatic 73, 3) := by decide +kernel
theorem dX7_isThing_11 : decode cX7_isThing 11 = .ok (.ireturn, 1) := by decide +kernel
theorem dX7_day_0 : decode cX7_day 0 = .ok (.iload_n 1, 1) := by decide +kernel
theorem dX7_day_1 : decode cX7_day 1 = .ok (.aload_n 0, 1) := by decide +kernel
theorem dX7_day_2 : decode cX7_day 2 = .ok (.getfield 81, 3) := by decide +kernel
theorem dX7_day_5 : decode cX7_day 5 = .ok (.if_icmp .le 10, 3) := by decide +kernel
theorem dX7_day_8 : decode cX7_day 8 = .ok (.iload_n 1, 1) := by decide +kernel
theorem dX7_day_9 : decode cX7_day 9 = .ok (.sipush 2000, 3) := by decide +kernel
theorem dX7_day_12 : decode cX7_day 12 = .ok (.if_icmp .le 5, 3) := by decide +kernel
theorem dX7_day_15 : decode cX7_day 15 = .ok (.iconst 0, 1) := by decide +kernel
theorem dX7_day_16 : decode cX7_day 16 = .ok (.ireturn, 1) := by decide +kernel
theorem dX7_day_17 : decode cX7_day 17 = .ok (.aload_n 0, 1) := by decide +kernel
theorem dX7_day_18 : decode cX7_day 18 = .ok (.iload_n 1, 1) := by decide +kernel
theorem dX7_day_19 : decode cX7_day 19 = .ok (.putfield 81, 3) := by decide +kernel
theorem dX7_day_22 : decode cX7_day 22 = .ok (.iconst 1, 1) := by decide +kernel
theorem dX7_day_23 : decode cX7_day 23 = .ok (.ireturn, 1) := by decide +kernel
theorem dX7_endBy_0 : decode cX7_endBy 0 = .ok (.aload_n 0, 1) := by decide +kernel
theorem dX7_endBy_1 : decode cX7_endBy 1 = .ok (.getfield 22, 3) := by decide +kernel
theorem dX7_endBy_4 : decode cX7_endBy 4 = .ok (.iload_n 1, 1) := by decide +kernel
theorem dX7_endBy_5 : decode cX7_endBy 5 = .ok (.iaload, 1) := by decide +kernel
theorem dX7_endBy_6 : decode cX7_endBy 6 = .ok (.iload_n 2, 1) := by decide +kernel
theorem dX7_endBy_7 : decode cX7_endBy 7 = .ok (.if_icmp .gt 12, 3) := by decide +kernel
theorem dX7_endBy_10 : decode cX7_endBy 10 = .ok (.aload_n 0, 1) := by decide +kernel
theorem dX7_endBy_11 : decode cX7_endBy 11 = .ok (.getfield 19, 3) := by decide +kernel
theorem dX7_endBy_14 : decode cX7_endBy 14 = .ok (.iload_n 1, 1) := by decide +kernel
theorem dX7_endBy_15 : decode cX7_endBy 15 = .ok (.iaload, 1) := by decide +kernel
theorem dX7_endBy_16 : decode cX7_endBy 16 = .ok (.goto 6, 3) := by decide +kernel
theorem dX7_endBy_19 : decode cX7_endBy 19 = .ok (.sipush 2001, 3) := by decide +kernel
theorem dX7_endBy_22 : decode cX7_endBy 22 = .ok (.ireturn, 1) := by decide +kernel
theorem dX7_lives_0 : decode cX7_lives 0 = .ok (.aload_n 0, 1) := by decide +kernel
theorem dX7_lives_1 : decode cX7_lives 1 = .ok (.getfield 16, 3) := by decide +kernel
theorem dX7_lives_4 : decode cX7_lives 4 = .ok (.iload_n 1, 1) := by decide +kernel
theorem dX7_lives_5 : decode cX7_lives 5 = .ok (.iaload, 1) := by decide +kernel
theorem dX7_lives_6 : decode cX7_lives 6 = .ok (.iload_n 3, 1) := by decide +kernel
theorem dX7_lives_7 : decode cX7_lives 7 = .ok (.if_icmp .gt 27, 3) := by decide +kernel
theorem dX7_lives_10 : decode cX7_lives 10 = .ok (.aload_n 0, 1) := by decide +kernel
theorem dX7_lives_11 : decode cX7_lives 11 = .ok (.getfield 13, 3) := by decide +kernel
theorem dX7_lives_14 : decode cX7_lives 14 = .ok (.iload_n 1, 1) := by decide +kernel
theorem dX7_lives_15 : decode cX7_lives 15 = .ok (.iaload, 1) := by decide +kernel
theorem dX7_lives_16 : decode cX7_lives 16 = .ok (.iload_n 2, 1) := by decide +kernel
theorem dX7_lives_17 : decode cX7_lives 17 = .ok (.if_icmp .gt 17, 3) := by decide +kernel
theorem dX7_lives_20 : decode cX7_lives 20 = .ok (.iload_n 2, 1) := by decide +kernel
theorem dX7_lives_21 : decode cX7_lives 21 = .ok (.aload_n 0, 1) := by decide +kernel
theorem dX7_lives_22 : decode cX7_lives 22 = .ok (.iload_n 1, 1) := by decide +kernel
theorem dX7_lives_23 : decode cX7_lives 23 = .ok (.iload_n 3, 1) := by decide +kernel
theorem dX7_lives_24 : decode cX7_lives 24 = .ok (.invokevirtual 84, 3) := by decide +kernel
theorem dX7_lives_27 : decode cX7_lives 27 = .ok (.if_icmp .ge 7, 3) := by decide +kernel
theorem dX7_lives_30 : decode cX7_lives 30 = .ok (.iconst 1, 1) := by decide +kernel
theorem dX7_lives_31 : decode cX7_lives 31 = .ok (.goto 4, 3) := by decide +kernel
theorem dX7_lives_34 : decode cX7_lives 34 = .ok (.iconst 0, 1) := by decide +kernel
theorem dX7_lives_35 : decode cX7_lives 35 = .ok (.ireturn, 1) := by decide +kernel
theorem dX7_isTaken_0 : decode cX7_isTaken 0 = .ok (.iconst 0, 1) := by decide +kernel
theorem dX7_isTaken_1 : decode cX7_isTaken 1 = .ok (.istore 5, 2) := by decide +kernel
theorem dX7_isTaken_3 : decode cX7_isTaken 3 = .ok (.iconst 0, 1) := by decide +kernel
theorem dX7_isTaken_4 : decode cX7_isTaken 4 = .ok (.istore 6, 2) := by decide +kernel
theorem dX7_isTaken_6 : decode cX7_isTaken 6 = .ok (.iload 6, 2) := by decide +kernel
theorem dX7_isTaken_8 : decode cX7_isTaken 8 = .ok (.aload_n 0, 1) := by decide +kernel
theorem dX7_isTaken_9 : decode cX7_isTaken 9 = .ok (.getfield 77, 3) := by decide +kernel
theorem dX7_isTaken_12 : decode cX7_isTaken 12 = .ok (.if_icmp .ge 70, 3) := by decide +kernel
theorem dX7_isTaken_15 : decode cX7_isTaken 15 = .ok (.iload 5, 2) := by decide +kernel
theorem dX7_isTaken_17 : decode cX7_isTaken 17 = .ok (.ifCond .ne 52, 3) := by decide +kernel
theorem dX7_isTaken_20 : decode cX7_isTaken 20 = .ok (.aload_n 0, 1) := by decide +kernel
theorem dX7_isTaken_21 : decode cX7_isTaken 21 = .ok (.getfield 7, 3) := by decide +kernel
theorem dX7_isTaken_24 : decode cX7_isTaken 24 = .ok (.iload 6, 2) := by decide +kernel
theorem dX7_isTaken_26 : decode cX7_isTaken 26 = .ok (.iaload, 1) := by decide +kernel
theorem dX7_isTaken_27 : decode cX7_isTaken 27 = .ok (.iload_n 1, 1) := by decide +kernel
theorem dX7_isTaken_28 : decode cX7_isTaken 28 = .ok (.if_icmp .ne 45, 3) := by decide +kernel
theorem dX7_isTaken_31 : decode cX7_isTaken 31 = .ok (.aload_n 0, 1) := by decide +kernel
theorem dX7_isTaken_32 : decode cX7_isTaken 32 = .ok (.getfield 13, 3) := by decide +kernel
theorem dX7_isTaken_35 : decode cX7_isTaken 35 = .ok (.iload 6, 2) := by decide +kernel
theorem dX7_isTaken_37 : decode cX7_isTaken 37 = .ok (.iaload, 1) := by decide +kernel
theorem dX7_isTaken_38 : decode cX7_isTaken 38 = .ok (.iload_n 2, 1) := by decide +kernel
theorem dX7_isTaken_39 : decode cX7_isTaken 39 = .ok (.if_icmp .gt 30, 3) := by decide +kernel
theorem dX7_isTaken_42 : decode cX7_isTaken 42 = .ok (.iload 6, 2) := by decide +kernel
theorem dX7_isTaken_44 : decode cX7_isTaken 44 = .ok (.iload_n 3, 1) := by decide +kernel
theorem dX7_isTaken_45 : decode cX7_isTaken 45 = .ok (.if_icmp .eq 28, 3) := by decide +kernel
theorem dX7_isTaken_48 : decode cX7_isTaken 48 = .ok (.iload 6, 2) := by decide +kernel
theorem dX7_isTaken_50 : decode cX7_isTaken 50 = .ok (.iload 4, 2) := by decide +kernel
theorem dX7_isTaken_52 : decode cX7_isTaken 52 = .ok (.if_icmp .eq 21, 3) := by decide +kernel
theorem dX7_isTaken_55 : decode cX7_isTaken 55 = .ok (.aload_n 0, 1) := by decide +kernel
theorem dX7_isTaken_56 : decode cX7_isTaken 56 = .ok (.iload 6, 2) := by decide +kernel
theorem dX7_isTaken_58 : decode cX7_isTaken 58 = .ok (.iload_n 2, 1) := by decide +kernel
theorem dX7_isTaken_59 : decode cX7_isTaken 59 = .ok (.aload_n 0, 1) := by decide +kernel
theorem dX7_isTaken_60 : decode cX7_isTaken 60 = .ok (.getfield 81, 3) := by decide +kernel
theorem dX7_isTaken_63 : decode cX7_isTaken 63 = .ok (.invokevirtual 88, 3) := by decide +kernel
theorem dX7_isTaken_66 : decode cX7_isTaken 66 = .ok (.ifCond .eq 7, 3) := by decide +kernel
theorem dX7_isTaken_69 : decode cX7_isTaken 69 = .ok (.iconst 1, 1) := by decide +kernel
theorem dX7_isTaken_70 : decode cX7_isTaken 70 = .ok (.goto 4, 3) := by decide +kernel
theorem dX7_isTaken_73 : decode cX7_isTaken 73 = .ok (.iconst 0, 1) := by decide +kernel
end
section
theorem dX7_isTaken_74 : decode cX7_isTaken 74 = .ok (.istore 5, 2) := by decide +kernel
theorem dX7_isTaken_76 : decode cX7_isTaken 76 = .ok (.iinc 6 1, 3) := by decide +kernel
theorem dX7_isTaken_79 : decode cX7_isTaken 79 = .ok (.goto (-73), 3) := by decide +kernel
theorem dX7_isTaken_82 : decode cX7_isTaken 82 = .ok (.iload 5, 2) := by decide +kernel
theorem dX7_isTaken_84 : decode cX7_isTaken 84 = .ok (.ireturn, 1) := by decide +kernel
theorem dX7_comes_0 : decode cX7_comes 0 = .ok (.aload_n 0, 1) := by decide +kernel
theorem dX7_comes_1 : decode cX7_comes 1 = .ok (.getfield 77, 3) := by decide +kernel
theorem dX7_comes_4 : decode cX7_comes 4 = .ok (.istore_n 3, 1) := by decide +kernel
theorem dX7_comes_5 : decode cX7_comes 5 = .ok (.aload_n 0, 1) := by decide +kernel
theorem dX7_comes_6 : decode cX7_comes 6 = .ok (.dup, 1) := by decide +kernel
theorem dX7_comes_7 : decode cX7_comes 7 = .ok (.getfield 77, 3) := by decide +kernel
theorem dX7_comes_10 : decode cX7_comes 10 = .ok (.iconst 1, 1) := by decide +kernel
theorem dX7_comes_11 : decode cX7_comes 11 = .ok (.iadd, 1) := by decide +kernel
theorem dX7_comes_12 : decode cX7_comes 12 = .ok (.putfield 77, 3) := by decide +kernel
theorem dX7_comes_15 : decode cX7_comes 15 = .ok (.aload_n 0, 1) := by decide +kernel
theorem dX7_comes_16 : decode cX7_comes 16 = .ok (.getfield 7, 3) := by decide +kernel
theorem dX7_comes_19 : decode cX7_comes 19 = .ok (.iload_n 3, 1) := by decide +kernel
theorem dX7_comes_20 : decode cX7_comes 20 = .ok (.iload_n 1, 1) := by decide +kernel
theorem dX7_comes_21 : decode cX7_comes 21 = .ok (.iastore, 1) := by decide +kernel
theorem dX7_comes_22 : decode cX7_comes 22 = .ok (.aload_n 0, 1) := by decide +kernel
theorem dX7_comes_23 : decode cX7_comes 23 = .ok (.getfield 13, 3) := by decide +kernel
theorem dX7_comes_26 : decode cX7_comes 26 = .ok (.iload_n 3, 1) := by decide +kernel
theorem dX7_comes_27 : decode cX7_comes 27 = .ok (.iload_n 2, 1) := by decide +kernel
theorem dX7_comes_28 : decode cX7_comes 28 = .ok (.iastore, 1) := by decide +kernel
theorem dX7_comes_29 : decode cX7_comes 29 = .ok (.aload_n 0, 1) := by decide +kernel
theorem dX7_comes_30 : decode cX7_comes 30 = .ok (.getfield 16, 3) := by decide +kernel
theorem dX7_comes_33 : decode cX7_comes 33 = .ok (.iload_n 3, 1) := by decide +kernel
theorem dX7_comes_34 : decode cX7_comes 34 = .ok (.aload_n 0, 1) := by decide +kernel
theorem dX7_comes_35 : decode cX7_comes 35 = .ok (.getfield 81, 3) := by decide +kernel
theorem dX7_comes_38 : decode cX7_comes 38 = .ok (.iastore, 1) := by decide +kernel
theorem dX7_comes_39 : decode cX7_comes 39 = .ok (.aload_n 0, 1) := by decide +kernel
theorem dX7_comes_40 : decode cX7_comes 40 = .ok (.getfield 19, 3) := by decide +kernel
theorem dX7_comes_43 : decode cX7_comes 43 = .ok (.iload_n 3, 1) := by decide +kernel
theorem dX7_comes_44 : decode cX7_comes 44 = .ok (.sipush 2001, 3) := by decide +kernel
theorem dX7_comes_47 : decode cX7_comes 47 = .ok (.iastore, 1) := by decide +kernel
theorem dX7_comes_48 : decode cX7_comes 48 = .ok (.aload_n 0, 1) := by decide +kernel
theorem dX7_comes_49 : decode cX7_comes 49 = .ok (.getfield 22, 3) := by decide +kernel
theorem dX7_comes_52 : decode cX7_comes 52 = .ok (.iload_n 3, 1) := by decide +kernel
theorem dX7_comes_53 : decode cX7_comes 53 = .ok (.sipush 2001, 3) := by decide +kernel
theorem dX7_comes_56 : decode cX7_comes 56 = .ok (.iastore, 1) := by decide +kernel
theorem dX7_comes_57 : decode cX7_comes 57 = .ok (.aload_n 0, 1) := by decide +kernel
theorem dX7_comes_58 : decode cX7_comes 58 = .ok (.getfield 28, 3) := by decide +kernel
theorem dX7_comes_61 : decode cX7_comes 61 = .ok (.iload_n 3, 1) := by decide +kernel
theorem dX7_comes_62 : decode cX7_comes 62 = .ok (.iconst (-1), 1) := by decide +kernel
theorem dX7_comes_63 : decode cX7_comes 63 = .ok (.iastore, 1) := by decide +kernel
theorem dX7_comes_64 : decode cX7_comes 64 = .ok (.iload_n 3, 1) := by decide +kernel
theorem dX7_comes_65 : decode cX7_comes 65 = .ok (.ireturn, 1) := by decide +kernel
theorem dX7_goes_0 : decode cX7_goes 0 = .ok (.aload_n 0, 1) := by decide +kernel
theorem dX7_goes_1 : decode cX7_goes 1 = .ok (.getfield 19, 3) := by decide +kernel
theorem dX7_goes_4 : decode cX7_goes 4 = .ok (.iload_n 1, 1) := by decide +kernel
theorem dX7_goes_5 : decode cX7_goes 5 = .ok (.iload_n 2, 1) := by decide +kernel
theorem dX7_goes_6 : decode cX7_goes 6 = .ok (.iastore, 1) := by decide +kernel
theorem dX7_goes_7 : decode cX7_goes 7 = .ok (.aload_n 0, 1) := by decide +kernel
theorem dX7_goes_8 : decode cX7_goes 8 = .ok (.getfield 22, 3) := by decide +kernel
theorem dX7_goes_11 : decode cX7_goes 11 = .ok (.iload_n 1, 1) := by decide +kernel
theorem dX7_goes_12 : decode cX7_goes 12 = .ok (.aload_n 0, 1) := by decide +kernel
theorem dX7_goes_13 : decode cX7_goes 13 = .ok (.getfield 81, 3) := by decide +kernel
theorem dX7_goes_16 : decode cX7_goes 16 = .ok (.iastore, 1) := by decide +kernel
theorem dX7_goes_17 : decode cX7_goes 17 = .ok (.aload_n 0, 1) := by decide +kernel
theorem dX7_goes_18 : decode cX7_goes 18 = .ok (.getfield 25, 3) := by decide +kernel
theorem dX7_goes_21 : decode cX7_goes 21 = .ok (.iload_n 1, 1) := by decide +kernel
theorem dX7_goes_22 : decode cX7_goes 22 = .ok (.iload_n 3, 1) := by decide +kernel
theorem dX7_goes_23 : decode cX7_goes 23 = .ok (.iastore, 1) := by decide +kernel
theorem dX7_goes_24 : decode cX7_goes 24 = .ok (.aload_n 0, 1) := by decide +kernel
theorem dX7_goes_25 : decode cX7_goes 25 = .ok (.getfield 28, 3) := by decide +kernel
theorem dX7_goes_28 : decode cX7_goes 28 = .ok (.iload_n 1, 1) := by decide +kernel
theorem dX7_goes_29 : decode cX7_goes 29 = .ok (.iload 4, 2) := by decide +kernel
theorem dX7_goes_31 : decode cX7_goes 31 = .ok (.iastore, 1) := by decide +kernel
theorem dX7_goes_32 : decode cX7_goes 32 = .ok (.aload_n 0, 1) := by decide +kernel
theorem dX7_goes_33 : decode cX7_goes 33 = .ok (.getfield 31, 3) := by decide +kernel
theorem dX7_goes_36 : decode cX7_goes 36 = .ok (.iload_n 1, 1) := by decide +kernel
theorem dX7_goes_37 : decode cX7_goes 37 = .ok (.iload 5, 2) := by decide +kernel
theorem dX7_goes_39 : decode cX7_goes 39 = .ok (.iastore, 1) := by decide +kernel
theorem dX7_goes_40 : decode cX7_goes 40 = .ok (.aload_n 0, 1) := by decide +kernel
theorem dX7_goes_41 : decode cX7_goes 41 = .ok (.getfield 34, 3) := by decide +kernel
theorem dX7_goes_44 : decode cX7_goes 44 = .ok (.iload_n 1, 1) := by decide +kernel
theorem dX7_goes_45 : decode cX7_goes 45 = .ok (.iload 6, 2) := by decide +kernel
theorem dX7_goes_47 : decode cX7_goes 47 = .ok (.iastore, 1) := by decide +kernel
theorem dX7_goes_48 : decode cX7_goes 48 = .ok (.return_, 1) := by decide +kernel
theorem dX7_born_0 : decode cX7_born 0 = .ok (.iload_n 1, 1) := by decide +kernel
theorem dX7_born_1 : decode cX7_born 1 = .ok (.invokestatic 91, 3) := by decide +kernel
theorem dX7_born_4 : decode cX7_born 4 = .ok (.ifCond .eq 10, 3) := by decide +kernel
theorem dX7_born_7 : decode cX7_born 7 = .ok (.iload_n 2, 1) := by decide +kernel
theorem dX7_born_8 : decode cX7_born 8 = .ok (.invokestatic 95, 3) := by decide +kernel
theorem dX7_born_11 : decode cX7_born 11 = .ok (.ifCond .ne 6, 3) := by decide +kernel
theorem dX7_born_14 : decode cX7_born 14 = .ok (.bipush (-2), 2) := by decide +kernel
theorem dX7_born_16 : decode cX7_born 16 = .ok (.ireturn, 1) := by decide +kernel
theorem dX7_born_17 : decode cX7_born 17 = .ok (.aload_n 0, 1) := by decide +kernel
theorem dX7_born_18 : decode cX7_born 18 = .ok (.iload_n 1, 1) := by decide +kernel
theorem dX7_born_19 : decode cX7_born 19 = .ok (.iload_n 2, 1) := by decide +kernel
theorem dX7_born_20 : decode cX7_born 20 = .ok (.iconst (-1), 1) := by decide +kernel
theorem dX7_born_21 : decode cX7_born 21 = .ok (.iconst (-1), 1) := by decide +kernel
theorem dX7_born_22 : decode cX7_born 22 = .ok (.invokevirtual 98, 3) := by decide +kernel
theorem dX7_born_25 : decode cX7_born 25 = .ok (.ifCond .eq 6, 3) := by decide +kernel
theorem dX7_born_28 : decode cX7_born 28 = .ok (.bipush (-3), 2) := by decide +kernel
theorem dX7_born_30 : decode cX7_born 30 = .ok (.ireturn, 1) := by decide +kernel
theorem dX7_born_31 : decode cX7_born 31 = .ok (.aload_n 0, 1) := by decide +kernel
theorem dX7_born_32 : decode cX7_born 32 = .ok (.getfield 77, 3) := by decide +kernel
theorem dX7_born_35 : decode cX7_born 35 = .ok (.bipush 40, 2) := by decide +kernel
theorem dX7_born_37 : decode cX7_born 37 = .ok (.if_icmp .ne 8, 3) := by decide +kernel
theorem dX7_born_40 : decode cX7_born 40 = .ok (.bipush (-4), 2) := by decide +kernel
theorem dX7_born_42 : decode cX7_born 42 = .ok (.goto 9, 3) := by decide +kernel
theorem dX7_born_45 : decode cX7_born 45 = .ok (.aload_n 0, 1) := by decide +kernel
theorem dX7_born_46 : decode cX7_born 46 = .ok (.iload_n 1, 1) := by decide +kernel
theorem dX7_born_47 : decode cX7_born 47 = .ok (.iload_n 2, 1) := by decide +kernel
theorem dX7_born_48 : decode cX7_born 48 = .ok (.invokevirtual 102, 3) := by decide +kernel
theorem dX7_born_51 : decode cX7_born 51 = .ok (.ireturn, 1) := by decide +kernel
theorem dX7_mayEnd_0 : decode cX7_mayEnd 0 = .ok (.aload_n 0, 1) := by decide +kernel
theorem dX7_mayEnd_1 : decode cX7_mayEnd 1 = .ok (.iload_n 1, 1) := by decide +kernel
theorem dX7_mayEnd_2 : decode cX7_mayEnd 2 = .ok (.invokevirtual 105, 3) := by decide +kernel
theorem dX7_mayEnd_5 : decode cX7_mayEnd 5 = .ok (.ifCond .eq 36, 3) := by decide +kernel
theorem dX7_mayEnd_8 : decode cX7_mayEnd 8 = .ok (.aload_n 0, 1) := by decide +kernel
theorem dX7_mayEnd_9 : decode cX7_mayEnd 9 = .ok (.getfield 19, 3) := by decide +kernel
theorem dX7_mayEnd_12 : decode cX7_mayEnd 12 = .ok (.iload_n 1, 1) := by decide +kernel
theorem dX7_mayEnd_13 : decode cX7_mayEnd 13 = .ok (.iaload, 1) := by decide +kernel
theorem dX7_mayEnd_14 : decode cX7_mayEnd 14 = .ok (.sipush 2001, 3) := by decide +kernel
theorem dX7_mayEnd_17 : decode cX7_mayEnd 17 = .ok (.if_icmp .ne 24, 3) := by decide +kernel
theorem dX7_mayEnd_20 : decode cX7_mayEnd 20 = .ok (.iload_n 2, 1) := by decide +kernel
theorem dX7_mayEnd_21 : decode cX7_mayEnd 21 = .ok (.invokestatic 95, 3) := by decide +kernel
theorem dX7_mayEnd_24 : decode cX7_mayEnd 24 = .ok (.ifCond .eq 17, 3) := by decide +kernel
theorem dX7_mayEnd_27 : decode cX7_mayEnd 27 = .ok (.iload_n 2, 1) := by decide +kernel
theorem dX7_mayEnd_28 : decode cX7_mayEnd 28 = .ok (.aload_n 0, 1) := by decide +kernel
theorem dX7_mayEnd_29 : decode cX7_mayEnd 29 = .ok (.getfield 13, 3) := by decide +kernel
theorem dX7_mayEnd_32 : decode cX7_mayEnd 32 = .ok (.iload_n 1, 1) := by decide +kernel
theorem dX7_mayEnd_33 : decode cX7_mayEnd 33 = .ok (.iaload, 1) := by decide +kernel
theorem dX7_mayEnd_34 : decode cX7_mayEnd 34 = .ok (.if_icmp .le 7, 3) := by decide +kernel
theorem dX7_mayEnd_37 : decode cX7_mayEnd 37 = .ok (.iconst 1, 1) := by decide +kernel
theorem dX7_mayEnd_38 : decode cX7_mayEnd 38 = .ok (.goto 4, 3) := by decide +kernel
theorem dX7_mayEnd_41 : decode cX7_mayEnd 41 = .ok (.iconst 0, 1) := by decide +kernel
theorem dX7_mayEnd_42 : decode cX7_mayEnd 42 = .ok (.ireturn, 1) := by decide +kernel
theorem dX7_ends_0 : decode cX7_ends 0 = .ok (.aload_n 0, 1) := by decide +kernel
theorem dX7_ends_1 : decode cX7_ends 1 = .ok (.iload_n 1, 1) := by decide +kernel
theorem dX7_ends_2 : decode cX7_ends 2 = .ok (.iload_n 2, 1) := by decide +kernel
theorem dX7_ends_3 : decode cX7_ends 3 = .ok (.invokevirtual 108, 3) := by decide +kernel
theorem dX7_ends_6 : decode cX7_ends 6 = .ok (.ifCond .ne 5, 3) := by decide +kernel
theorem dX7_ends_9 : decode cX7_ends 9 = .ok (.iconst 0, 1) := by decide +kernel
theorem dX7_ends_10 : decode cX7_ends 10 = .ok (.ireturn, 1) := by decide +kernel
theorem dX7_ends_11 : decode cX7_ends 11 = .ok (.aload_n 0, 1) := by decide +kernel
theorem dX7_ends_12 : decode cX7_ends 12 = .ok (.iload_n 1, 1) := by decide +kernel
theorem dX7_ends_13 : decode cX7_ends 13 = .ok (.iload_n 2, 1) := by decide +kernel
theorem dX7_ends_14 : decode cX7_ends 14 = .ok (.iconst 1, 1) := by decide +kernel
theorem dX7_ends_15 : decode cX7_ends 15 = .ok (.iconst (-1), 1) := by decide +kernel
theorem dX7_ends_16 : decode cX7_ends 16 = .ok (.iconst 0, 1) := by decide +kernel
theorem dX7_ends_17 : decode cX7_ends 17 = .ok (.iconst 1, 1) := by decide +kernel
theorem dX7_ends_18 : decode cX7_ends 18 = .ok (.invokevirtual 112, 3) := by decide +kernel
theorem dX7_ends_21 : decode cX7_ends 21 = .ok (.iconst 1, 1) := by decide +kernel
theorem dX7_ends_22 : decode cX7_ends 22 = .ok (.ireturn, 1) := by decide +kernel
theorem dX7_split_0 : decode cX7_split 0 = .ok (.aload_n 0, 1) := by decide +kernel
theorem dX7_split_1 : decode cX7_split 1 = .ok (.iload_n 1, 1) := by decide +kernel
theorem dX7_split_2 : decode cX7_split 2 = .ok (.iload_n 2, 1) := by decide +kernel
theorem dX7_split_3 : decode cX7_split 3 = .ok (.invokevirtual 108, 3) := by decide +kernel
theorem dX7_split_6 : decode cX7_split 6 = .ok (.ifCond .eq 46, 3) := by decide +kernel
theorem dX7_split_9 : decode cX7_split 9 = .ok (.iload_n 3, 1) := by decide +kernel
theorem dX7_split_10 : decode cX7_split 10 = .ok (.invokestatic 91, 3) := by decide +kernel
theorem dX7_split_13 : decode cX7_split 13 = .ok (.ifCond .eq 39, 3) := by decide +kernel
theorem dX7_split_16 : decode cX7_split 16 = .ok (.iload 4, 2) := by decide +kernel
theorem dX7_split_18 : decode cX7_split 18 = .ok (.invokestatic 91, 3) := by decide +kernel
theorem dX7_split_21 : decode cX7_split 21 = .ok (.ifCond .eq 31, 3) := by decide +kernel
theorem dX7_split_24 : decode cX7_split 24 = .ok (.iload_n 3, 1) := by decide +kernel
theorem dX7_split_25 : decode cX7_split 25 = .ok (.iload 4, 2) := by decide +kernel
theorem dX7_split_27 : decode cX7_split 27 = .ok (.if_icmp .eq 25, 3) := by decide +kernel
theorem dX7_split_30 : decode cX7_split 30 = .ok (.iload 6, 2) := by decide +kernel
theorem dX7_split_32 : decode cX7_split 32 = .ok (.iconst 1, 1) := by decide +kernel
theorem dX7_split_33 : decode cX7_split 33 = .ok (.bipush 100, 2) := by decide +kernel
theorem dX7_split_35 : decode cX7_split 35 = .ok (.invokestatic 73, 3) := by decide +kernel
theorem dX7_split_38 : decode cX7_split 38 = .ok (.ifCond .eq 14, 3) := by decide +kernel
theorem dX7_split_41 : decode cX7_split 41 = .ok (.iload 5, 2) := by decide +kernel
theorem dX7_split_43 : decode cX7_split 43 = .ok (.iconst 0, 1) := by decide +kernel
theorem dX7_split_44 : decode cX7_split 44 = .ok (.iload 6, 2) := by decide +kernel
theorem dX7_split_46 : decode cX7_split 46 = .ok (.invokestatic 73, 3) := by decide +kernel
theorem dX7_split_49 : decode cX7_split 49 = .ok (.ifCond .ne 6, 3) := by decide +kernel
theorem dX7_split_52 : decode cX7_split 52 = .ok (.bipush (-2), 2) := by decide +kernel
theorem dX7_split_54 : decode cX7_split 54 = .ok (.ireturn, 1) := by decide +kernel
theorem dX7_split_55 : decode cX7_split 55 = .ok (.aload_n 0, 1) := by decide +kernel
theorem dX7_split_56 : decode cX7_split 56 = .ok (.iload_n 3, 1) := by decide +kernel
theorem dX7_split_57 : decode cX7_split 57 = .ok (.iload_n 2, 1) := by decide +kernel
theorem dX7_split_58 : decode cX7_split 58 = .ok (.iload_n 1, 1) := by decide +kernel
theorem dX7_split_59 : decode cX7_split 59 = .ok (.iconst (-1), 1) := by decide +kernel
theorem dX7_split_60 : decode cX7_split 60 = .ok (.invokevirtual 98, 3) := by decide +kernel
theorem dX7_split_63 : decode cX7_split 63 = .ok (.ifCond .ne 15, 3) := by decide +kernel
theorem dX7_split_66 : decode cX7_split 66 = .ok (.aload_n 0, 1) := by decide +kernel
theorem dX7_split_67 : decode cX7_split 67 = .ok (.iload 4, 2) := by decide +kernel
theorem dX7_split_69 : decode cX7_split 69 = .ok (.iload_n 2, 1) := by decide +kernel
theorem dX7_split_70 : decode cX7_split 70 = .ok (.iload_n 1, 1) := by decide +kernel
theorem dX7_split_71 : decode cX7_split 71 = .ok (.iconst (-1), 1) := by decide +kernel
theorem dX7_split_72 : decode cX7_split 72 = .ok (.invokevirtual 98, 3) := by decide +kernel
theorem dX7_split_75 : decode cX7_split 75 = .ok (.ifCond .eq 6, 3) := by decide +kernel
theorem dX7_split_78 : decode cX7_split 78 = .ok (.bipush (-3), 2) := by decide +kernel
theorem dX7_split_80 : decode cX7_split 80 = .ok (.ireturn, 1) := by decide +kernel
theorem dX7_split_81 : decode cX7_split 81 = .ok (.aload_n 0, 1) := by decide +kernel
theorem dX7_split_82 : decode cX7_split 82 = .ok (.getfield 77, 3) := by decide +kernel
theorem dX7_split_85 : decode cX7_split 85 = .ok (.bipush 38, 2) := by decide +kernel
theorem dX7_split_87 : decode cX7_split 87 = .ok (.if_icmp .le 6, 3) := by decide +kernel
theorem dX7_split_90 : decode cX7_split 90 = .ok (.bipush (-4), 2) := by decide +kernel
theorem dX7_split_92 : decode cX7_split 92 = .ok (.ireturn, 1) := by decide +kernel
theorem dX7_split_93 : decode cX7_split 93 = .ok (.aload_n 0, 1) := by decide +kernel
theorem dX7_split_94 : decode cX7_split 94 = .ok (.iload_n 3, 1) := by decide +kernel
theorem dX7_split_95 : decode cX7_split 95 = .ok (.iload_n 2, 1) := by decide +kernel
theorem dX7_split_96 : decode cX7_split 96 = .ok (.invokevirtual 102, 3) := by decide +kernel
theorem dX7_split_99 : decode cX7_split 99 = .ok (.istore 7, 2) := by decide +kernel
theorem dX7_split_101 : decode cX7_split 101 = .ok (.aload_n 0, 1) := by decide +kernel
theorem dX7_split_102 : decode cX7_split 102 = .ok (.iload 4, 2) := by decide +kernel
theorem dX7_split_104 : decode cX7_split 104 = .ok (.iload_n 2, 1) := by decide +kernel
theorem dX7_split_105 : decode cX7_split 105 = .ok (.invokevirtual 102, 3) := by decide +kernel
theorem dX7_split_108 : decode cX7_split 108 = .ok (.pop, 1) := by decide +kernel
theorem dX7_split_109 : decode cX7_split 109 = .ok (.aload_n 0, 1) := by decide +kernel
theorem dX7_split_110 : decode cX7_split 110 = .ok (.iload_n 1, 1) := by decide +kernel
theorem dX7_split_111 : decode cX7_split 111 = .ok (.iload_n 2, 1) := by decide +kernel
theorem dX7_split_112 : decode cX7_split 112 = .ok (.iconst 2, 1) := by decide +kernel
theorem dX7_split_113 : decode cX7_split 113 = .ok (.iload 7, 2) := by decide +kernel
theorem dX7_split_115 : decode cX7_split 115 = .ok (.iload 5, 2) := by decide +kernel
theorem dX7_split_117 : decode cX7_split 117 = .ok (.iload 6, 2) := by decide +kernel
theorem dX7_split_119 : decode cX7_split 119 = .ok (.invokevirtual 112, 3) := by decide +kernel
theorem dX7_split_122 : decode cX7_split 122 = .ok (.iload 7, 2) := by decide +kernel
theorem dX7_split_124 : decode cX7_split 124 = .ok (.ireturn, 1) := by decide +kernel
theorem dX7_join_0 : decode cX7_join 0 = .ok (.aload_n 0, 1) := by decide +kernel
theorem dX7_join_1 : decode cX7_join 1 = .ok (.iload_n 1, 1) := by decide +kernel
theorem dX7_join_2 : decode cX7_join 2 = .ok (.iload_n 3, 1) := by decide +kernel
theorem dX7_join_3 : decode cX7_join 3 = .ok (.invokevirtual 108, 3) := by decide +kernel
theorem dX7_join_6 : decode cX7_join 6 = .ok (.ifCond .eq 25, 3) := by decide +kernel
theorem dX7_join_9 : decode cX7_join 9 = .ok (.aload_n 0, 1) := by decide +kernel
theorem dX7_join_10 : decode cX7_join 10 = .ok (.iload_n 2, 1) := by decide +kernel
theorem dX7_join_11 : decode cX7_join 11 = .ok (.iload_n 3, 1) := by decide +kernel
theorem dX7_join_12 : decode cX7_join 12 = .ok (.invokevirtual 108, 3) := by decide +kernel
theorem dX7_join_15 : decode cX7_join 15 = .ok (.ifCond .eq 16, 3) := by decide +kernel
theorem dX7_join_18 : decode cX7_join 18 = .ok (.iload_n 1, 1) := by decide +kernel
theorem dX7_join_19 : decode cX7_join 19 = .ok (.iload_n 2, 1) := by decide +kernel
theorem dX7_join_20 : decode cX7_join 20 = .ok (.if_icmp .eq 11, 3) := by decide +kernel
theorem dX7_join_23 : decode cX7_join 23 = .ok (.iload 4, 2) := by decide +kernel
theorem dX7_join_25 : decode cX7_join 25 = .ok (.invokestatic 91, 3) := by decide +kernel
theorem dX7_join_28 : decode cX7_join 28 = .ok (.ifCond .ne 6, 3) := by decide +kernel
theorem dX7_join_31 : decode cX7_join 31 = .ok (.bipush (-2), 2) := by decide +kernel
theorem dX7_join_33 : decode cX7_join 33 = .ok (.ireturn, 1) := by decide +kernel
theorem dX7_join_34 : decode cX7_join 34 = .ok (.aload_n 0, 1) := by decide +kernel
theorem dX7_join_35 : decode cX7_join 35 = .ok (.iload 4, 2) := by decide +kernel
theorem dX7_join_37 : decode cX7_join 37 = .ok (.iload_n 3, 1) := by decide +kernel
theorem dX7_join_38 : decode cX7_join 38 = .ok (.iload_n 1, 1) := by decide +kernel
theorem dX7_join_39 : decode cX7_join 39 = .ok (.iload_n 2, 1) := by decide +kernel
theorem dX7_join_40 : decode cX7_join 40 = .ok (.invokevirtual 98, 3) := by decide +kernel
theorem dX7_join_43 : decode cX7_join 43 = .ok (.ifCond .eq 6, 3) := by decide +kernel
theorem dX7_join_46 : decode cX7_join 46 = .ok (.bipush (-3), 2) := by decide +kernel
theorem dX7_join_48 : decode cX7_join 48 = .ok (.ireturn, 1) := by decide +kernel
theorem dX7_join_49 : decode cX7_join 49 = .ok (.aload_n 0, 1) := by decide +kernel
theorem dX7_join_50 : decode cX7_join 50 = .ok (.getfield 77, 3) := by decide +kernel
theorem dX7_join_53 : decode cX7_join 53 = .ok (.bipush 40, 2) := by decide +kernel
theorem dX7_join_55 : decode cX7_join 55 = .ok (.if_icmp .ne 6, 3) := by decide +kernel
theorem dX7_join_58 : decode cX7_join 58 = .ok (.bipush (-4), 2) := by decide +kernel
theorem dX7_join_60 : decode cX7_join 60 = .ok (.ireturn, 1) := by decide +kernel
theorem dX7_join_61 : decode cX7_join 61 = .ok (.aload_n 0, 1) := by decide +kernel
theorem dX7_join_62 : decode cX7_join 62 = .ok (.iload 4, 2) := by decide +kernel
theorem dX7_join_64 : decode cX7_join 64 = .ok (.iload_n 3, 1) := by decide +kernel
theorem dX7_join_65 : decode cX7_join 65 = .ok (.invokevirtual 102, 3) := by decide +kernel
theorem dX7_join_68 : decode cX7_join 68 = .ok (.istore 5, 2) := by decide +kernel
theorem dX7_join_70 : decode cX7_join 70 = .ok (.aload_n 0, 1) := by decide +kernel
theorem dX7_join_71 : decode cX7_join 71 = .ok (.iload_n 1, 1) := by decide +kernel
theorem dX7_join_72 : decode cX7_join 72 = .ok (.iload_n 3, 1) := by decide +kernel
theorem dX7_join_73 : decode cX7_join 73 = .ok (.iconst 3, 1) := by decide +kernel
theorem dX7_join_74 : decode cX7_join 74 = .ok (.iload 5, 2) := by decide +kernel
theorem dX7_join_76 : decode cX7_join 76 = .ok (.iconst 1, 1) := by decide +kernel
theorem dX7_join_77 : decode cX7_join 77 = .ok (.iconst 1, 1) := by decide +kernel
theorem dX7_join_78 : decode cX7_join 78 = .ok (.invokevirtual 112, 3) := by decide +kernel
theorem dX7_join_81 : decode cX7_join 81 = .ok (.aload_n 0, 1) := by decide +kernel
theorem dX7_join_82 : decode cX7_join 82 = .ok (.iload_n 2, 1) := by decide +kernel
theorem dX7_join_83 : decode cX7_join 83 = .ok (.iload_n 3, 1) := by decide +kernel
theorem dX7_join_84 : decode cX7_join 84 = .ok (.iconst 3, 1) := by decide +kernel
theorem dX7_join_85 : decode cX7_join 85 = .ok (.iload 5, 2) := by decide +kernel
theorem dX7_join_87 : decode cX7_join 87 = .ok (.iconst 1, 1) := by decide +kernel
theorem dX7_join_88 : decode cX7_join 88 = .ok (.iconst 1, 1) := by decide +kernel
theorem dX7_join_89 : decode cX7_join 89 = .ok (.invokevirtual 112, 3) := by decide +kernel
theorem dX7_join_92 : decode cX7_join 92 = .ok (.iload 5, 2) := by decide +kernel
theorem dX7_join_94 : decode cX7_join 94 = .ok (.ireturn, 1) := by decide +kernel
theorem dX7_isKnown_0 : decode cX7_isKnown 0 = .ok (.iload_n 1, 1) := by decide +kernel
theorem dX7_isKnown_1 : decode cX7_isKnown 1 = .ok (.iload_n 3, 1) := by decide +kernel
theorem dX7_isKnown_2 : decode cX7_isKnown 2 = .ok (.if_icmp .gt 17, 3) := by decide +kernel
theorem dX7_isKnown_5 : decode cX7_isKnown 5 = .ok (.aload_n 0, 1) := by decide +kernel
theorem dX7_isKnown_6 : decode cX7_isKnown 6 = .ok (.getfield 70, 3) := by decide +kernel
theorem dX7_isKnown_9 : decode cX7_isKnown 9 = .ok (.iload_n 2, 1) := by decide +kernel
theorem dX7_isKnown_10 : decode cX7_isKnown 10 = .ok (.iaload, 1) := by decide +kernel
theorem dX7_isKnown_11 : decode cX7_isKnown 11 = .ok (.iload_n 3, 1) := by decide +kernel
theorem dX7_isKnown_12 : decode cX7_isKnown 12 = .ok (.if_icmp .le 7, 3) := by decide +kernel
theorem dX7_isKnown_15 : decode cX7_isKnown 15 = .ok (.iconst 1, 1) := by decide +kernel
theorem dX7_isKnown_16 : decode cX7_isKnown 16 = .ok (.goto 4, 3) := by decide +kernel
theorem dX7_isKnown_19 : decode cX7_isKnown 19 = .ok (.iconst 0, 1) := by decide +kernel
theorem dX7_isKnown_20 : decode cX7_isKnown 20 = .ok (.ireturn, 1) := by decide +kernel
theorem dX7_isTelling_0 : decode cX7_isTelling 0 = .ok (.aload_n 0, 1) := by decide +kernel
theorem dX7_isTelling_1 : decode cX7_isTelling 1 = .ok (.getfield 52, 3) := by decide +kernel
theorem dX7_isTelling_4 : decode cX7_isTelling 4 = .ok (.iload_n 1, 1) := by decide +kernel
theorem dX7_isTelling_5 : decode cX7_isTelling 5 = .ok (.iaload, 1) := by decide +kernel
theorem dX7_isTelling_6 : decode cX7_isTelling 6 = .ok (.iload_n 2, 1) := by decide +kernel
theorem dX7_isTelling_7 : decode cX7_isTelling 7 = .ok (.if_icmp .ne 38, 3) := by decide +kernel
theorem dX7_isTelling_10 : decode cX7_isTelling 10 = .ok (.aload_n 0, 1) := by decide +kernel
theorem dX7_isTelling_11 : decode cX7_isTelling 11 = .ok (.getfield 55, 3) := by decide +kernel
theorem dX7_isTelling_14 : decode cX7_isTelling 14 = .ok (.iload_n 1, 1) := by decide +kernel
theorem dX7_isTelling_15 : decode cX7_isTelling 15 = .ok (.iaload, 1) := by decide +kernel
theorem dX7_isTelling_16 : decode cX7_isTelling 16 = .ok (.iload_n 3, 1) := by decide +kernel
theorem dX7_isTelling_17 : decode cX7_isTelling 17 = .ok (.if_icmp .ne 28, 3) := by decide +kernel
theorem dX7_isTelling_20 : decode cX7_isTelling 20 = .ok (.aload_n 0, 1) := by decide +kernel
theorem dX7_isTelling_21 : decode cX7_isTelling 21 = .ok (.aload_n 0, 1) := by decide +kernel
theorem dX7_isTelling_22 : decode cX7_isTelling 22 = .ok (.getfield 64, 3) := by decide +kernel
theorem dX7_isTelling_25 : decode cX7_isTelling 25 = .ok (.iload_n 1, 1) := by decide +kernel
theorem dX7_isTelling_26 : decode cX7_isTelling 26 = .ok (.iaload, 1) := by decide +kernel
theorem dX7_isTelling_27 : decode cX7_isTelling 27 = .ok (.aload_n 0, 1) := by decide +kernel
theorem dX7_isTelling_28 : decode cX7_isTelling 28 = .ok (.getfield 67, 3) := by decide +kernel
theorem dX7_isTelling_31 : decode cX7_isTelling 31 = .ok (.iload_n 1, 1) := by decide +kernel
theorem dX7_isTelling_32 : decode cX7_isTelling 32 = .ok (.iaload, 1) := by decide +kernel
theorem dX7_isTelling_33 : decode cX7_isTelling 33 = .ok (.iload 4, 2) := by decide +kernel
theorem dX7_isTelling_35 : decode cX7_isTelling 35 = .ok (.invokevirtual 116, 3) := by decide +kernel
theorem dX7_isTelling_38 : decode cX7_isTelling 38 = .ok (.ifCond .eq 7, 3) := by decide +kernel
theorem dX7_isTelling_41 : decode cX7_isTelling 41 = .ok (.iconst 1, 1) := by decide +kernel
theorem dX7_isTelling_42 : decode cX7_isTelling 42 = .ok (.goto 4, 3) := by decide +kernel
theorem dX7_isTelling_45 : decode cX7_isTelling 45 = .ok (.iconst 0, 1) := by decide +kernel
theorem dX7_isTelling_46 : decode cX7_isTelling 46 = .ok (.ireturn, 1) := by decide +kernel
theorem dX7_mark_0 : decode cX7_mark 0 = .ok (.aload_n 0, 1) := by decide +kernel
theorem dX7_mark_1 : decode cX7_mark 1 = .ok (.iload_n 1, 1) := by decide +kernel
theorem dX7_mark_2 : decode cX7_mark 2 = .ok (.invokevirtual 105, 3) := by decide +kernel
theorem dX7_mark_5 : decode cX7_mark 5 = .ok (.ifCond .eq 38, 3) := by decide +kernel
theorem dX7_mark_8 : decode cX7_mark 8 = .ok (.iload_n 2, 1) := by decide +kernel
theorem dX7_mark_9 : decode cX7_mark 9 = .ok (.invokestatic 119, 3) := by decide +kernel
theorem dX7_mark_12 : decode cX7_mark 12 = .ok (.ifCond .eq 31, 3) := by decide +kernel
theorem dX7_mark_15 : decode cX7_mark 15 = .ok (.iload_n 3, 1) := by decide +kernel
theorem dX7_mark_16 : decode cX7_mark 16 = .ok (.invokestatic 95, 3) := by decide +kernel
theorem dX7_mark_19 : decode cX7_mark 19 = .ok (.ifCond .eq 24, 3) := by decide +kernel
theorem dX7_mark_22 : decode cX7_mark 22 = .ok (.iload 4, 2) := by decide +kernel
theorem dX7_mark_24 : decode cX7_mark 24 = .ok (.iconst 0, 1) := by decide +kernel
theorem dX7_mark_25 : decode cX7_mark 25 = .ok (.bipush 99, 2) := by decide +kernel
theorem dX7_mark_27 : decode cX7_mark 27 = .ok (.invokestatic 73, 3) := by decide +kernel
theorem dX7_mark_30 : decode cX7_mark 30 = .ok (.ifCond .eq 13, 3) := by decide +kernel
theorem dX7_mark_33 : decode cX7_mark 33 = .ok (.aload_n 0, 1) := by decide +kernel
theorem dX7_mark_34 : decode cX7_mark 34 = .ok (.getfield 122, 3) := by decide +kernel
theorem dX7_mark_37 : decode cX7_mark 37 = .ok (.sipush 300, 3) := by decide +kernel
theorem dX7_mark_40 : decode cX7_mark 40 = .ok (.if_icmp .ne 5, 3) := by decide +kernel
theorem dX7_mark_43 : decode cX7_mark 43 = .ok (.iconst 0, 1) := by decide +kernel
theorem dX7_mark_44 : decode cX7_mark 44 = .ok (.ireturn, 1) := by decide +kernel
theorem dX7_mark_45 : decode cX7_mark 45 = .ok (.iconst 0, 1) := by decide +kernel
theorem dX7_mark_46 : decode cX7_mark 46 = .ok (.istore 5, 2) := by decide +kernel
theorem dX7_mark_48 : decode cX7_mark 48 = .ok (.iload 5, 2) := by decide +kernel
theorem dX7_mark_50 : decode cX7_mark 50 = .ok (.aload_n 0, 1) := by decide +kernel
theorem dX7_mark_51 : decode cX7_mark 51 = .ok (.getfield 122, 3) := by decide +kernel
theorem dX7_mark_54 : decode cX7_mark 54 = .ok (.if_icmp .ge 30, 3) := by decide +kernel
theorem dX7_mark_57 : decode cX7_mark 57 = .ok (.iload_n 2, 1) := by decide +kernel
theorem dX7_mark_58 : decode cX7_mark 58 = .ok (.ifCond .ne 20, 3) := by decide +kernel
theorem dX7_mark_61 : decode cX7_mark 61 = .ok (.aload_n 0, 1) := by decide +kernel
theorem dX7_mark_62 : decode cX7_mark 62 = .ok (.iload 5, 2) := by decide +kernel
theorem dX7_mark_64 : decode cX7_mark 64 = .ok (.iload_n 1, 1) := by decide +kernel
theorem dX7_mark_65 : decode cX7_mark 65 = .ok (.iconst 0, 1) := by decide +kernel
theorem dX7_mark_66 : decode cX7_mark 66 = .ok (.aload_n 0, 1) := by decide +kernel
theorem dX7_mark_67 : decode cX7_mark 67 = .ok (.getfield 81, 3) := by decide +kernel
theorem dX7_mark_70 : decode cX7_mark 70 = .ok (.invokevirtual 125, 3) := by decide +kernel
theorem dX7_mark_73 : decode cX7_mark 73 = .ok (.ifCond .eq 5, 3) := by decide +kernel
theorem dX7_mark_76 : decode cX7_mark 76 = .ok (.iconst 0, 1) := by decide +kernel
theorem dX7_mark_77 : decode cX7_mark 77 = .ok (.ireturn, 1) := by decide +kernel
theorem dX7_mark_78 : decode cX7_mark 78 = .ok (.iinc 5 1, 3) := by decide +kernel
theorem dX7_mark_81 : decode cX7_mark 81 = .ok (.goto (-33), 3) := by decide +kernel
theorem dX7_mark_84 : decode cX7_mark 84 = .ok (.aload_n 0, 1) := by decide +kernel
theorem dX7_mark_85 : decode cX7_mark 85 = .ok (.getfield 52, 3) := by decide +kernel
theorem dX7_mark_88 : decode cX7_mark 88 = .ok (.aload_n 0, 1) := by decide +kernel
theorem dX7_mark_89 : decode cX7_mark 89 = .ok (.getfield 122, 3) := by decide +kernel
theorem dX7_mark_92 : decode cX7_mark 92 = .ok (.iload_n 1, 1) := by decide +kernel
theorem dX7_mark_93 : decode cX7_mark 93 = .ok (.iastore, 1) := by decide +kernel
theorem dX7_mark_94 : decode cX7_mark 94 = .ok (.aload_n 0, 1) := by decide +kernel
theorem dX7_mark_95 : decode cX7_mark 95 = .ok (.getfield 55, 3) := by decide +kernel
theorem dX7_mark_98 : decode cX7_mark 98 = .ok (.aload_n 0, 1) := by decide +kernel
theorem dX7_mark_99 : decode cX7_mark 99 = .ok (.getfield 122, 3) := by decide +kernel
theorem dX7_mark_102 : decode cX7_mark 102 = .ok (.iload_n 2, 1) := by decide +kernel
theorem dX7_mark_103 : decode cX7_mark 103 = .ok (.iastore, 1) := by decide +kernel
theorem dX7_mark_104 : decode cX7_mark 104 = .ok (.aload_n 0, 1) := by decide +kernel
theorem dX7_mark_105 : decode cX7_mark 105 = .ok (.getfield 58, 3) := by decide +kernel
theorem dX7_mark_108 : decode cX7_mark 108 = .ok (.aload_n 0, 1) := by decide +kernel
theorem dX7_mark_109 : decode cX7_mark 109 = .ok (.getfield 122, 3) := by decide +kernel
theorem dX7_mark_112 : decode cX7_mark 112 = .ok (.iload_n 3, 1) := by decide +kernel
theorem dX7_mark_113 : decode cX7_mark 113 = .ok (.iastore, 1) := by decide +kernel
theorem dX7_mark_114 : decode cX7_mark 114 = .ok (.aload_n 0, 1) := by decide +kernel
theorem dX7_mark_115 : decode cX7_mark 115 = .ok (.getfield 61, 3) := by decide +kernel
theorem dX7_mark_118 : decode cX7_mark 118 = .ok (.aload_n 0, 1) := by decide +kernel
theorem dX7_mark_119 : decode cX7_mark 119 = .ok (.getfield 122, 3) := by decide +kernel
theorem dX7_mark_122 : decode cX7_mark 122 = .ok (.iload 4, 2) := by decide +kernel
theorem dX7_mark_124 : decode cX7_mark 124 = .ok (.iastore, 1) := by decide +kernel
theorem dX7_mark_125 : decode cX7_mark 125 = .ok (.aload_n 0, 1) := by decide +kernel
theorem dX7_mark_126 : decode cX7_mark 126 = .ok (.getfield 64, 3) := by decide +kernel
theorem dX7_mark_129 : decode cX7_mark 129 = .ok (.aload_n 0, 1) := by decide +kernel
theorem dX7_mark_130 : decode cX7_mark 130 = .ok (.getfield 122, 3) := by decide +kernel
theorem dX7_mark_133 : decode cX7_mark 133 = .ok (.aload_n 0, 1) := by decide +kernel
theorem dX7_mark_134 : decode cX7_mark 134 = .ok (.getfield 81, 3) := by decide +kernel
theorem dX7_mark_137 : decode cX7_mark 137 = .ok (.iastore, 1) := by decide +kernel
theorem dX7_mark_138 : decode cX7_mark 138 = .ok (.aload_n 0, 1) := by decide +kernel
theorem dX7_mark_139 : decode cX7_mark 139 = .ok (.getfield 67, 3) := by decide +kernel
theorem dX7_mark_142 : decode cX7_mark 142 = .ok (.aload_n 0, 1) := by decide +kernel
theorem dX7_mark_143 : decode cX7_mark 143 = .ok (.getfield 122, 3) := by decide +kernel
theorem dX7_mark_146 : decode cX7_mark 146 = .ok (.aload_n 0, 1) := by decide +kernel
theorem dX7_mark_147 : decode cX7_mark 147 = .ok (.getfield 128, 3) := by decide +kernel
theorem dX7_mark_150 : decode cX7_mark 150 = .ok (.iastore, 1) := by decide +kernel
theorem dX7_mark_151 : decode cX7_mark 151 = .ok (.aload_n 0, 1) := by decide +kernel
theorem dX7_mark_152 : decode cX7_mark 152 = .ok (.dup, 1) := by decide +kernel
theorem dX7_mark_153 : decode cX7_mark 153 = .ok (.getfield 122, 3) := by decide +kernel
theorem dX7_mark_156 : decode cX7_mark 156 = .ok (.iconst 1, 1) := by decide +kernel
theorem dX7_mark_157 : decode cX7_mark 157 = .ok (.iadd, 1) := by decide +kernel
theorem dX7_mark_158 : decode cX7_mark 158 = .ok (.putfield 122, 3) := by decide +kernel
theorem dX7_mark_161 : decode cX7_mark 161 = .ok (.iconst 1, 1) := by decide +kernel
theorem dX7_mark_162 : decode cX7_mark 162 = .ok (.ireturn, 1) := by decide +kernel
theorem dX7_valueOf_0 : decode cX7_valueOf 0 = .ok (.iconst (-1), 1) := by decide +kernel
theorem dX7_valueOf_1 : decode cX7_valueOf 1 = .ok (.istore 5, 2) := by decide +kernel
theorem dX7_valueOf_3 : decode cX7_valueOf 3 = .ok (.iconst 0, 1) := by decide +kernel
theorem dX7_valueOf_4 : decode cX7_valueOf 4 = .ok (.istore 6, 2) := by decide +kernel
theorem dX7_valueOf_6 : decode cX7_valueOf 6 = .ok (.iload 6, 2) := by decide +kernel
theorem dX7_valueOf_8 : decode cX7_valueOf 8 = .ok (.aload_n 0, 1) := by decide +kernel
theorem dX7_valueOf_9 : decode cX7_valueOf 9 = .ok (.getfield 122, 3) := by decide +kernel
theorem dX7_valueOf_12 : decode cX7_valueOf 12 = .ok (.if_icmp .ge 73, 3) := by decide +kernel
theorem dX7_valueOf_15 : decode cX7_valueOf 15 = .ok (.aload_n 0, 1) := by decide +kernel
theorem dX7_valueOf_16 : decode cX7_valueOf 16 = .ok (.iload 6, 2) := by decide +kernel
theorem dX7_valueOf_18 : decode cX7_valueOf 18 = .ok (.iload_n 1, 1) := by decide +kernel
theorem dX7_valueOf_19 : decode cX7_valueOf 19 = .ok (.iload_n 2, 1) := by decide +kernel
theorem dX7_valueOf_20 : decode cX7_valueOf 20 = .ok (.iload 4, 2) := by decide +kernel
theorem dX7_valueOf_22 : decode cX7_valueOf 22 = .ok (.invokevirtual 125, 3) := by decide +kernel
theorem dX7_valueOf_25 : decode cX7_valueOf 25 = .ok (.ifCond .eq 54, 3) := by decide +kernel
theorem dX7_valueOf_28 : decode cX7_valueOf 28 = .ok (.iload_n 2, 1) := by decide +kernel
theorem dX7_valueOf_29 : decode cX7_valueOf 29 = .ok (.iconst 1, 1) := by decide +kernel
theorem dX7_valueOf_30 : decode cX7_valueOf 30 = .ok (.if_icmp .le 17, 3) := by decide +kernel
theorem dX7_valueOf_33 : decode cX7_valueOf 33 = .ok (.aload_n 0, 1) := by decide +kernel
theorem dX7_valueOf_34 : decode cX7_valueOf 34 = .ok (.getfield 58, 3) := by decide +kernel
theorem dX7_valueOf_37 : decode cX7_valueOf 37 = .ok (.iload 6, 2) := by decide +kernel
theorem dX7_valueOf_39 : decode cX7_valueOf 39 = .ok (.iaload, 1) := by decide +kernel
theorem dX7_valueOf_40 : decode cX7_valueOf 40 = .ok (.iload_n 3, 1) := by decide +kernel
theorem dX7_valueOf_41 : decode cX7_valueOf 41 = .ok (.if_icmp .le 6, 3) := by decide +kernel
theorem dX7_valueOf_44 : decode cX7_valueOf 44 = .ok (.goto 35, 3) := by decide +kernel
theorem dX7_valueOf_47 : decode cX7_valueOf 47 = .ok (.iload 5, 2) := by decide +kernel
theorem dX7_valueOf_49 : decode cX7_valueOf 49 = .ok (.iconst (-1), 1) := by decide +kernel
theorem dX7_valueOf_50 : decode cX7_valueOf 50 = .ok (.if_icmp .eq 25, 3) := by decide +kernel
theorem dX7_valueOf_53 : decode cX7_valueOf 53 = .ok (.iload_n 2, 1) := by decide +kernel
theorem dX7_valueOf_54 : decode cX7_valueOf 54 = .ok (.iconst 2, 1) := by decide +kernel
theorem dX7_valueOf_55 : decode cX7_valueOf 55 = .ok (.if_icmp .lt 20, 3) := by decide +kernel
theorem dX7_valueOf_58 : decode cX7_valueOf 58 = .ok (.aload_n 0, 1) := by decide +kernel
theorem dX7_valueOf_59 : decode cX7_valueOf 59 = .ok (.getfield 58, 3) := by decide +kernel
theorem dX7_valueOf_62 : decode cX7_valueOf 62 = .ok (.iload 6, 2) := by decide +kernel
theorem dX7_valueOf_64 : decode cX7_valueOf 64 = .ok (.iaload, 1) := by decide +kernel
theorem dX7_valueOf_65 : decode cX7_valueOf 65 = .ok (.aload_n 0, 1) := by decide +kernel
theorem dX7_valueOf_66 : decode cX7_valueOf 66 = .ok (.getfield 58, 3) := by decide +kernel
theorem dX7_valueOf_69 : decode cX7_valueOf 69 = .ok (.iload 5, 2) := by decide +kernel
theorem dX7_valueOf_71 : decode cX7_valueOf 71 = .ok (.iaload, 1) := by decide +kernel
theorem dX7_valueOf_72 : decode cX7_valueOf 72 = .ok (.if_icmp .lt 7, 3) := by decide +kernel
theorem dX7_valueOf_75 : decode cX7_valueOf 75 = .ok (.iload 6, 2) := by decide +kernel
theorem dX7_valueOf_77 : decode cX7_valueOf 77 = .ok (.istore 5, 2) := by decide +kernel
theorem dX7_valueOf_79 : decode cX7_valueOf 79 = .ok (.iinc 6 1, 3) := by decide +kernel
theorem dX7_valueOf_82 : decode cX7_valueOf 82 = .ok (.goto (-76), 3) := by decide +kernel
theorem dX7_valueOf_85 : decode cX7_valueOf 85 = .ok (.iload 5, 2) := by decide +kernel
theorem dX7_valueOf_87 : decode cX7_valueOf 87 = .ok (.iconst (-1), 1) := by decide +kernel
theorem dX7_valueOf_88 : decode cX7_valueOf 88 = .ok (.if_icmp .ne 8, 3) := by decide +kernel
theorem dX7_valueOf_91 : decode cX7_valueOf 91 = .ok (.bipush 100, 2) := by decide +kernel
theorem dX7_valueOf_93 : decode cX7_valueOf 93 = .ok (.goto 10, 3) := by decide +kernel
theorem dX7_valueOf_96 : decode cX7_valueOf 96 = .ok (.aload_n 0, 1) := by decide +kernel
theorem dX7_valueOf_97 : decode cX7_valueOf 97 = .ok (.getfield 61, 3) := by decide +kernel
theorem dX7_valueOf_100 : decode cX7_valueOf 100 = .ok (.iload 5, 2) := by decide +kernel
theorem dX7_valueOf_102 : decode cX7_valueOf 102 = .ok (.iaload, 1) := by decide +kernel
theorem dX7_valueOf_103 : decode cX7_valueOf 103 = .ok (.ireturn, 1) := by decide +kernel
theorem dX7_told_0 : decode cX7_told 0 = .ok (.aload_n 0, 1) := by decide +kernel
theorem dX7_told_1 : decode cX7_told 1 = .ok (.iload_n 1, 1) := by decide +kernel
theorem dX7_told_2 : decode cX7_told 2 = .ok (.invokevirtual 105, 3) := by decide +kernel
theorem dX7_told_5 : decode cX7_told 5 = .ok (.ifCond .eq 48, 3) := by decide +kernel
theorem dX7_told_8 : decode cX7_told 8 = .ok (.iload_n 2, 1) := by decide +kernel
theorem dX7_told_9 : decode cX7_told 9 = .ok (.invokestatic 119, 3) := by decide +kernel
theorem dX7_told_12 : decode cX7_told 12 = .ok (.ifCond .eq 41, 3) := by decide +kernel
theorem dX7_told_15 : decode cX7_told 15 = .ok (.iload_n 3, 1) := by decide +kernel
theorem dX7_told_16 : decode cX7_told 16 = .ok (.invokestatic 95, 3) := by decide +kernel
theorem dX7_told_19 : decode cX7_told 19 = .ok (.ifCond .eq 34, 3) := by decide +kernel
theorem dX7_told_22 : decode cX7_told 22 = .ok (.iload 4, 2) := by decide +kernel
theorem dX7_told_24 : decode cX7_told 24 = .ok (.invokestatic 95, 3) := by decide +kernel
theorem dX7_told_27 : decode cX7_told 27 = .ok (.ifCond .eq 26, 3) := by decide +kernel
theorem dX7_told_30 : decode cX7_told 30 = .ok (.aload_n 0, 1) := by decide +kernel
theorem dX7_told_31 : decode cX7_told 31 = .ok (.getfield 16, 3) := by decide +kernel
theorem dX7_told_34 : decode cX7_told 34 = .ok (.iload_n 1, 1) := by decide +kernel
theorem dX7_told_35 : decode cX7_told 35 = .ok (.iaload, 1) := by decide +kernel
theorem dX7_told_36 : decode cX7_told 36 = .ok (.iload 4, 2) := by decide +kernel
theorem dX7_told_38 : decode cX7_told 38 = .ok (.if_icmp .gt 15, 3) := by decide +kernel
theorem dX7_told_41 : decode cX7_told 41 = .ok (.aload_n 0, 1) := by decide +kernel
theorem dX7_told_42 : decode cX7_told 42 = .ok (.iload_n 1, 1) := by decide +kernel
theorem dX7_told_43 : decode cX7_told 43 = .ok (.iload_n 2, 1) := by decide +kernel
theorem dX7_told_44 : decode cX7_told 44 = .ok (.iload_n 3, 1) := by decide +kernel
theorem dX7_told_45 : decode cX7_told 45 = .ok (.iload 4, 2) := by decide +kernel
theorem dX7_told_47 : decode cX7_told 47 = .ok (.invokevirtual 131, 3) := by decide +kernel
theorem dX7_told_50 : decode cX7_told 50 = .ok (.goto 4, 3) := by decide +kernel
theorem dX7_told_53 : decode cX7_told 53 = .ok (.iconst (-1), 1) := by decide +kernel
theorem dX7_told_54 : decode cX7_told 54 = .ok (.ireturn, 1) := by decide +kernel
theorem dX7_turns_0 : decode cX7_turns 0 = .ok (.iconst 0, 1) := by decide +kernel
theorem dX7_turns_1 : decode cX7_turns 1 = .ok (.istore_n 3, 1) := by decide +kernel
theorem dX7_turns_2 : decode cX7_turns 2 = .ok (.iconst (-1), 1) := by decide +kernel
theorem dX7_turns_3 : decode cX7_turns 3 = .ok (.istore 4, 2) := by decide +kernel
theorem dX7_turns_5 : decode cX7_turns 5 = .ok (.iconst 0, 1) := by decide +kernel
theorem dX7_turns_6 : decode cX7_turns 6 = .ok (.istore 5, 2) := by decide +kernel
theorem dX7_turns_8 : decode cX7_turns 8 = .ok (.iload 5, 2) := by decide +kernel
theorem dX7_turns_10 : decode cX7_turns 10 = .ok (.aload_n 0, 1) := by decide +kernel
theorem dX7_turns_11 : decode cX7_turns 11 = .ok (.getfield 122, 3) := by decide +kernel
theorem dX7_turns_14 : decode cX7_turns 14 = .ok (.if_icmp .ge 62, 3) := by decide +kernel
theorem dX7_turns_17 : decode cX7_turns 17 = .ok (.aload_n 0, 1) := by decide +kernel
theorem dX7_turns_18 : decode cX7_turns 18 = .ok (.iload 5, 2) := by decide +kernel
theorem dX7_turns_20 : decode cX7_turns 20 = .ok (.iload_n 1, 1) := by decide +kernel
theorem dX7_turns_21 : decode cX7_turns 21 = .ok (.iconst 1, 1) := by decide +kernel
theorem dX7_turns_22 : decode cX7_turns 22 = .ok (.iload_n 2, 1) := by decide +kernel
theorem dX7_turns_23 : decode cX7_turns 23 = .ok (.invokevirtual 125, 3) := by decide +kernel
theorem dX7_turns_26 : decode cX7_turns 26 = .ok (.ifCond .ne 6, 3) := by decide +kernel
theorem dX7_turns_29 : decode cX7_turns 29 = .ok (.goto 41, 3) := by decide +kernel
theorem dX7_turns_32 : decode cX7_turns 32 = .ok (.iload_n 3, 1) := by decide +kernel
theorem dX7_turns_33 : decode cX7_turns 33 = .ok (.iload 4, 2) := by decide +kernel
theorem dX7_turns_35 : decode cX7_turns 35 = .ok (.iconst (-1), 1) := by decide +kernel
theorem dX7_turns_36 : decode cX7_turns 36 = .ok (.if_icmp .eq 19, 3) := by decide +kernel
theorem dX7_turns_39 : decode cX7_turns 39 = .ok (.aload_n 0, 1) := by decide +kernel
theorem dX7_turns_40 : decode cX7_turns 40 = .ok (.getfield 61, 3) := by decide +kernel
theorem dX7_turns_43 : decode cX7_turns 43 = .ok (.iload 5, 2) := by decide +kernel
theorem dX7_turns_45 : decode cX7_turns 45 = .ok (.iaload, 1) := by decide +kernel
theorem dX7_turns_46 : decode cX7_turns 46 = .ok (.iload 4, 2) := by decide +kernel
theorem dX7_turns_48 : decode cX7_turns 48 = .ok (.if_icmp .eq 7, 3) := by decide +kernel
theorem dX7_turns_51 : decode cX7_turns 51 = .ok (.iconst 1, 1) := by decide +kernel
theorem dX7_turns_52 : decode cX7_turns 52 = .ok (.goto 4, 3) := by decide +kernel
theorem dX7_turns_55 : decode cX7_turns 55 = .ok (.iconst 0, 1) := by decide +kernel
theorem dX7_turns_56 : decode cX7_turns 56 = .ok (.invokestatic 135, 3) := by decide +kernel
theorem dX7_turns_59 : decode cX7_turns 59 = .ok (.iadd, 1) := by decide +kernel
theorem dX7_turns_60 : decode cX7_turns 60 = .ok (.istore_n 3, 1) := by decide +kernel
theorem dX7_turns_61 : decode cX7_turns 61 = .ok (.aload_n 0, 1) := by decide +kernel
theorem dX7_turns_62 : decode cX7_turns 62 = .ok (.getfield 61, 3) := by decide +kernel
theorem dX7_turns_65 : decode cX7_turns 65 = .ok (.iload 5, 2) := by decide +kernel
theorem dX7_turns_67 : decode cX7_turns 67 = .ok (.iaload, 1) := by decide +kernel
theorem dX7_turns_68 : decode cX7_turns 68 = .ok (.istore 4, 2) := by decide +kernel
theorem dX7_turns_70 : decode cX7_turns 70 = .ok (.iinc 5 1, 3) := by decide +kernel
theorem dX7_turns_73 : decode cX7_turns 73 = .ok (.goto (-65), 3) := by decide +kernel
theorem dX7_turns_76 : decode cX7_turns 76 = .ok (.iload_n 3, 1) := by decide +kernel
theorem dX7_turns_77 : decode cX7_turns 77 = .ok (.ireturn, 1) := by decide +kernel
theorem dX7_thing_0 : decode cX7_thing 0 = .ok (.aload_n 0, 1) := by decide +kernel
theorem dX7_thing_1 : decode cX7_thing 1 = .ok (.iload_n 1, 1) := by decide +kernel
theorem dX7_thing_2 : decode cX7_thing 2 = .ok (.invokevirtual 105, 3) := by decide +kernel
theorem dX7_thing_5 : decode cX7_thing 5 = .ok (.ifCond .eq 20, 3) := by decide +kernel
theorem dX7_thing_8 : decode cX7_thing 8 = .ok (.iload_n 2, 1) := by decide +kernel
theorem dX7_thing_9 : decode cX7_thing 9 = .ok (.invokestatic 95, 3) := by decide +kernel
theorem dX7_thing_12 : decode cX7_thing 12 = .ok (.ifCond .eq 13, 3) := by decide +kernel
theorem dX7_thing_15 : decode cX7_thing 15 = .ok (.aload_n 0, 1) := by decide +kernel
theorem dX7_thing_16 : decode cX7_thing 16 = .ok (.getfield 16, 3) := by decide +kernel
theorem dX7_thing_19 : decode cX7_thing 19 = .ok (.iload_n 1, 1) := by decide +kernel
theorem dX7_thing_20 : decode cX7_thing 20 = .ok (.iaload, 1) := by decide +kernel
theorem dX7_thing_21 : decode cX7_thing 21 = .ok (.iload_n 2, 1) := by decide +kernel
theorem dX7_thing_22 : decode cX7_thing 22 = .ok (.if_icmp .le 5, 3) := by decide +kernel
theorem dX7_thing_25 : decode cX7_thing 25 = .ok (.iconst (-1), 1) := by decide +kernel
theorem dX7_thing_26 : decode cX7_thing 26 = .ok (.ireturn, 1) := by decide +kernel
theorem dX7_thing_27 : decode cX7_thing 27 = .ok (.aload_n 0, 1) := by decide +kernel
theorem dX7_thing_28 : decode cX7_thing 28 = .ok (.getfield 22, 3) := by decide +kernel
theorem dX7_thing_31 : decode cX7_thing 31 = .ok (.iload_n 1, 1) := by decide +kernel
theorem dX7_thing_32 : decode cX7_thing 32 = .ok (.iaload, 1) := by decide +kernel
theorem dX7_thing_33 : decode cX7_thing 33 = .ok (.iload_n 2, 1) := by decide +kernel
theorem dX7_thing_34 : decode cX7_thing 34 = .ok (.if_icmp .gt 7, 3) := by decide +kernel
theorem dX7_thing_37 : decode cX7_thing 37 = .ok (.iconst 1, 1) := by decide +kernel
theorem dX7_thing_38 : decode cX7_thing 38 = .ok (.goto 4, 3) := by decide +kernel
theorem dX7_thing_41 : decode cX7_thing 41 = .ok (.iconst 0, 1) := by decide +kernel
theorem dX7_thing_42 : decode cX7_thing 42 = .ok (.istore 4, 2) := by decide +kernel
theorem dX7_thing_44 : decode cX7_thing 44 = .ok (.iload_n 3, 1) := by decide +kernel
theorem dX7_thing_45 : decode cX7_thing 45 = .ok (.tableswitch 99 0 5 #[39, 46, 53, 60, 76, 92], 39) := by decide +kernel
theorem dX7_thing_84 : decode cX7_thing 84 = .ok (.aload_n 0, 1) := by decide +kernel
theorem dX7_thing_85 : decode cX7_thing 85 = .ok (.getfield 7, 3) := by decide +kernel
theorem dX7_thing_88 : decode cX7_thing 88 = .ok (.iload_n 1, 1) := by decide +kernel
theorem dX7_thing_89 : decode cX7_thing 89 = .ok (.iaload, 1) := by decide +kernel
theorem dX7_thing_90 : decode cX7_thing 90 = .ok (.ireturn, 1) := by decide +kernel
theorem dX7_thing_91 : decode cX7_thing 91 = .ok (.aload_n 0, 1) := by decide +kernel
theorem dX7_thing_92 : decode cX7_thing 92 = .ok (.getfield 13, 3) := by decide +kernel
theorem dX7_thing_95 : decode cX7_thing 95 = .ok (.iload_n 1, 1) := by decide +kernel
theorem dX7_thing_96 : decode cX7_thing 96 = .ok (.iaload, 1) := by decide +kernel
theorem dX7_thing_97 : decode cX7_thing 97 = .ok (.ireturn, 1) := by decide +kernel
theorem dX7_thing_98 : decode cX7_thing 98 = .ok (.aload_n 0, 1) := by decide +kernel
theorem dX7_thing_99 : decode cX7_thing 99 = .ok (.iload_n 1, 1) := by decide +kernel
theorem dX7_thing_100 : decode cX7_thing 100 = .ok (.iload_n 2, 1) := by decide +kernel
theorem dX7_thing_101 : decode cX7_thing 101 = .ok (.invokevirtual 84, 3) := by decide +kernel
theorem dX7_thing_104 : decode cX7_thing 104 = .ok (.ireturn, 1) := by decide +kernel
theorem dX7_thing_105 : decode cX7_thing 105 = .ok (.iload 4, 2) := by decide +kernel
theorem dX7_thing_107 : decode cX7_thing 107 = .ok (.ifCond .eq 12, 3) := by decide +kernel
theorem dX7_thing_110 : decode cX7_thing 110 = .ok (.aload_n 0, 1) := by decide +kernel
theorem dX7_thing_111 : decode cX7_thing 111 = .ok (.getfield 25, 3) := by decide +kernel
theorem dX7_thing_114 : decode cX7_thing 114 = .ok (.iload_n 1, 1) := by decide +kernel
theorem dX7_thing_115 : decode cX7_thing 115 = .ok (.iaload, 1) := by decide +kernel
theorem dX7_thing_116 : decode cX7_thing 116 = .ok (.goto 4, 3) := by decide +kernel
theorem dX7_thing_119 : decode cX7_thing 119 = .ok (.iconst 0, 1) := by decide +kernel
theorem dX7_thing_120 : decode cX7_thing 120 = .ok (.ireturn, 1) := by decide +kernel
theorem dX7_thing_121 : decode cX7_thing 121 = .ok (.iload 4, 2) := by decide +kernel
theorem dX7_thing_123 : decode cX7_thing 123 = .ok (.ifCond .eq 12, 3) := by decide +kernel
theorem dX7_thing_126 : decode cX7_thing 126 = .ok (.aload_n 0, 1) := by decide +kernel
theorem dX7_thing_127 : decode cX7_thing 127 = .ok (.getfield 28, 3) := by decide +kernel
theorem dX7_thing_130 : decode cX7_thing 130 = .ok (.iload_n 1, 1) := by decide +kernel
theorem dX7_thing_131 : decode cX7_thing 131 = .ok (.iaload, 1) := by decide +kernel
theorem dX7_thing_132 : decode cX7_thing 132 = .ok (.goto 4, 3) := by decide +kernel
theorem dX7_thing_135 : decode cX7_thing 135 = .ok (.iconst (-1), 1) := by decide +kernel
theorem dX7_thing_136 : decode cX7_thing 136 = .ok (.ireturn, 1) := by decide +kernel
theorem dX7_thing_137 : decode cX7_thing 137 = .ok (.aload_n 0, 1) := by decide +kernel
theorem dX7_thing_138 : decode cX7_thing 138 = .ok (.iload_n 1, 1) := by decide +kernel
theorem dX7_thing_139 : decode cX7_thing 139 = .ok (.iload_n 2, 1) := by decide +kernel
theorem dX7_thing_140 : decode cX7_thing 140 = .ok (.invokevirtual 139, 3) := by decide +kernel
theorem dX7_thing_143 : decode cX7_thing 143 = .ok (.ireturn, 1) := by decide +kernel
theorem dX7_thing_144 : decode cX7_thing 144 = .ok (.iconst (-1), 1) := by decide +kernel
theorem dX7_thing_145 : decode cX7_thing 145 = .ok (.ireturn, 1) := by decide +kernel
theorem dX7_fact_0 : decode cX7_fact 0 = .ok (.iload_n 1, 1) := by decide +kernel
theorem dX7_fact_1 : decode cX7_fact 1 = .ok (.invokestatic 91, 3) := by decide +kernel
theorem dX7_fact_4 : decode cX7_fact 4 = .ok (.ifCond .eq 33, 3) := by decide +kernel
theorem dX7_fact_7 : decode cX7_fact 7 = .ok (.iload_n 2, 1) := by decide +kernel
theorem dX7_fact_8 : decode cX7_fact 8 = .ok (.invokestatic 95, 3) := by decide +kernel
theorem dX7_fact_11 : decode cX7_fact 11 = .ok (.ifCond .eq 26, 3) := by decide +kernel
theorem dX7_fact_14 : decode cX7_fact 14 = .ok (.iload_n 3, 1) := by decide +kernel
theorem dX7_fact_15 : decode cX7_fact 15 = .ok (.sipush (-10000), 3) := by decide +kernel
theorem dX7_fact_18 : decode cX7_fact 18 = .ok (.sipush 10000, 3) := by decide +kernel
theorem dX7_fact_21 : decode cX7_fact 21 = .ok (.invokestatic 73, 3) := by decide +kernel
theorem dX7_fact_24 : decode cX7_fact 24 = .ok (.ifCond .eq 13, 3) := by decide +kernel
theorem dX7_fact_27 : decode cX7_fact 27 = .ok (.aload_n 0, 1) := by decide +kernel
theorem dX7_fact_28 : decode cX7_fact 28 = .ok (.getfield 142, 3) := by decide +kernel
theorem dX7_fact_31 : decode cX7_fact 31 = .ok (.sipush 200, 3) := by decide +kernel
theorem dX7_fact_34 : decode cX7_fact 34 = .ok (.if_icmp .ne 5, 3) := by decide +kernel
theorem dX7_fact_37 : decode cX7_fact 37 = .ok (.iconst (-1), 1) := by decide +kernel
theorem dX7_fact_38 : decode cX7_fact 38 = .ok (.ireturn, 1) := by decide +kernel
theorem dX7_fact_39 : decode cX7_fact 39 = .ok (.aload_n 0, 1) := by decide +kernel
theorem dX7_fact_40 : decode cX7_fact 40 = .ok (.getfield 37, 3) := by decide +kernel
theorem dX7_fact_43 : decode cX7_fact 43 = .ok (.aload_n 0, 1) := by decide +kernel
theorem dX7_fact_44 : decode cX7_fact 44 = .ok (.getfield 142, 3) := by decide +kernel
theorem dX7_fact_47 : decode cX7_fact 47 = .ok (.iload_n 1, 1) := by decide +kernel
theorem dX7_fact_48 : decode cX7_fact 48 = .ok (.iastore, 1) := by decide +kernel
theorem dX7_fact_49 : decode cX7_fact 49 = .ok (.aload_n 0, 1) := by decide +kernel
theorem dX7_fact_50 : decode cX7_fact 50 = .ok (.getfield 40, 3) := by decide +kernel
theorem dX7_fact_53 : decode cX7_fact 53 = .ok (.aload_n 0, 1) := by decide +kernel
theorem dX7_fact_54 : decode cX7_fact 54 = .ok (.getfield 142, 3) := by decide +kernel
theorem dX7_fact_57 : decode cX7_fact 57 = .ok (.iload_n 2, 1) := by decide +kernel
theorem dX7_fact_58 : decode cX7_fact 58 = .ok (.iastore, 1) := by decide +kernel
theorem dX7_fact_59 : decode cX7_fact 59 = .ok (.aload_n 0, 1) := by decide +kernel
theorem dX7_fact_60 : decode cX7_fact 60 = .ok (.getfield 43, 3) := by decide +kernel
theorem dX7_fact_63 : decode cX7_fact 63 = .ok (.aload_n 0, 1) := by decide +kernel
theorem dX7_fact_64 : decode cX7_fact 64 = .ok (.getfield 142, 3) := by decide +kernel
theorem dX7_fact_67 : decode cX7_fact 67 = .ok (.iload_n 3, 1) := by decide +kernel
theorem dX7_fact_68 : decode cX7_fact 68 = .ok (.iastore, 1) := by decide +kernel
theorem dX7_fact_69 : decode cX7_fact 69 = .ok (.aload_n 0, 1) := by decide +kernel
theorem dX7_fact_70 : decode cX7_fact 70 = .ok (.getfield 46, 3) := by decide +kernel
theorem dX7_fact_73 : decode cX7_fact 73 = .ok (.aload_n 0, 1) := by decide +kernel
theorem dX7_fact_74 : decode cX7_fact 74 = .ok (.getfield 142, 3) := by decide +kernel
theorem dX7_fact_77 : decode cX7_fact 77 = .ok (.aload_n 0, 1) := by decide +kernel
theorem dX7_fact_78 : decode cX7_fact 78 = .ok (.getfield 81, 3) := by decide +kernel
theorem dX7_fact_81 : decode cX7_fact 81 = .ok (.iastore, 1) := by decide +kernel
theorem dX7_fact_82 : decode cX7_fact 82 = .ok (.aload_n 0, 1) := by decide +kernel
theorem dX7_fact_83 : decode cX7_fact 83 = .ok (.getfield 49, 3) := by decide +kernel
theorem dX7_fact_86 : decode cX7_fact 86 = .ok (.aload_n 0, 1) := by decide +kernel
theorem dX7_fact_87 : decode cX7_fact 87 = .ok (.getfield 142, 3) := by decide +kernel
theorem dX7_fact_90 : decode cX7_fact 90 = .ok (.aload_n 0, 1) := by decide +kernel
theorem dX7_fact_91 : decode cX7_fact 91 = .ok (.getfield 128, 3) := by decide +kernel
theorem dX7_fact_94 : decode cX7_fact 94 = .ok (.iastore, 1) := by decide +kernel
theorem dX7_fact_95 : decode cX7_fact 95 = .ok (.aload_n 0, 1) := by decide +kernel
theorem dX7_fact_96 : decode cX7_fact 96 = .ok (.dup, 1) := by decide +kernel
theorem dX7_fact_97 : decode cX7_fact 97 = .ok (.getfield 142, 3) := by decide +kernel
theorem dX7_fact_100 : decode cX7_fact 100 = .ok (.iconst 1, 1) := by decide +kernel
theorem dX7_fact_101 : decode cX7_fact 101 = .ok (.iadd, 1) := by decide +kernel
theorem dX7_fact_102 : decode cX7_fact 102 = .ok (.putfield 142, 3) := by decide +kernel
theorem dX7_fact_105 : decode cX7_fact 105 = .ok (.aload_n 0, 1) := by decide +kernel
theorem dX7_fact_106 : decode cX7_fact 106 = .ok (.getfield 142, 3) := by decide +kernel
theorem dX7_fact_109 : decode cX7_fact 109 = .ok (.iconst 1, 1) := by decide +kernel
theorem dX7_fact_110 : decode cX7_fact 110 = .ok (.isub, 1) := by decide +kernel
theorem dX7_fact_111 : decode cX7_fact 111 = .ok (.ireturn, 1) := by decide +kernel
theorem dX7_load_0 : decode cX7_load 0 = .ok (.aload_n 0, 1) := by decide +kernel
theorem dX7_load_1 : decode cX7_load 1 = .ok (.getfield 128, 3) := by decide +kernel
theorem dX7_load_4 : decode cX7_load 4 = .ok (.bipush 39, 2) := by decide +kernel
theorem dX7_load_6 : decode cX7_load 6 = .ok (.if_icmp .ne 5, 3) := by decide +kernel
theorem dX7_load_9 : decode cX7_load 9 = .ok (.iconst (-1), 1) := by decide +kernel
theorem dX7_load_10 : decode cX7_load 10 = .ok (.ireturn, 1) := by decide +kernel
theorem dX7_load_11 : decode cX7_load 11 = .ok (.aload_n 0, 1) := by decide +kernel
theorem dX7_load_12 : decode cX7_load 12 = .ok (.dup, 1) := by decide +kernel
theorem dX7_load_13 : decode cX7_load 13 = .ok (.getfield 128, 3) := by decide +kernel
theorem dX7_load_16 : decode cX7_load 16 = .ok (.iconst 1, 1) := by decide +kernel
theorem dX7_load_17 : decode cX7_load 17 = .ok (.iadd, 1) := by decide +kernel
theorem dX7_load_18 : decode cX7_load 18 = .ok (.putfield 128, 3) := by decide +kernel
theorem dX7_load_21 : decode cX7_load 21 = .ok (.aload_n 0, 1) := by decide +kernel
theorem dX7_load_22 : decode cX7_load 22 = .ok (.getfield 128, 3) := by decide +kernel
theorem dX7_load_25 : decode cX7_load 25 = .ok (.ireturn, 1) := by decide +kernel
theorem dX7_undo_0 : decode cX7_undo 0 = .ok (.iload_n 1, 1) := by decide +kernel
theorem dX7_undo_1 : decode cX7_undo 1 = .ok (.iconst 0, 1) := by decide +kernel
theorem dX7_undo_2 : decode cX7_undo 2 = .ok (.aload_n 0, 1) := by decide +kernel
theorem dX7_undo_3 : decode cX7_undo 3 = .ok (.getfield 128, 3) := by decide +kernel
theorem dX7_undo_6 : decode cX7_undo 6 = .ok (.iconst 1, 1) := by decide +kernel
theorem dX7_undo_7 : decode cX7_undo 7 = .ok (.isub, 1) := by decide +kernel
theorem dX7_undo_8 : decode cX7_undo 8 = .ok (.invokestatic 73, 3) := by decide +kernel
theorem dX7_undo_11 : decode cX7_undo 11 = .ok (.ifCond .eq 15, 3) := by decide +kernel
theorem dX7_undo_14 : decode cX7_undo 14 = .ok (.aload_n 0, 1) := by decide +kernel
theorem dX7_undo_15 : decode cX7_undo 15 = .ok (.getfield 70, 3) := by decide +kernel
theorem dX7_undo_18 : decode cX7_undo 18 = .ok (.iload_n 1, 1) := by decide +kernel
theorem dX7_undo_19 : decode cX7_undo 19 = .ok (.iaload, 1) := by decide +kernel
theorem dX7_undo_20 : decode cX7_undo 20 = .ok (.sipush 2001, 3) := by decide +kernel
theorem dX7_undo_23 : decode cX7_undo 23 = .ok (.if_icmp .eq 5, 3) := by decide +kernel
theorem dX7_undo_26 : decode cX7_undo 26 = .ok (.iconst (-1), 1) := by decide +kernel
theorem dX7_undo_27 : decode cX7_undo 27 = .ok (.ireturn, 1) := by decide +kernel
theorem dX7_undo_28 : decode cX7_undo 28 = .ok (.aload_n 0, 1) := by decide +kernel
theorem dX7_undo_29 : decode cX7_undo 29 = .ok (.getfield 70, 3) := by decide +kernel
theorem dX7_undo_32 : decode cX7_undo 32 = .ok (.iload_n 1, 1) := by decide +kernel
theorem dX7_undo_33 : decode cX7_undo 33 = .ok (.aload_n 0, 1) := by decide +kernel
theorem dX7_undo_34 : decode cX7_undo 34 = .ok (.getfield 81, 3) := by decide +kernel
theorem dX7_undo_37 : decode cX7_undo 37 = .ok (.iastore, 1) := by decide +kernel
theorem dX7_undo_38 : decode cX7_undo 38 = .ok (.iconst 0, 1) := by decide +kernel
theorem dX7_undo_39 : decode cX7_undo 39 = .ok (.istore_n 2, 1) := by decide +kernel
theorem dX7_undo_40 : decode cX7_undo 40 = .ok (.iconst 0, 1) := by decide +kernel
theorem dX7_undo_41 : decode cX7_undo 41 = .ok (.istore_n 3, 1) := by decide +kernel
theorem dX7_undo_42 : decode cX7_undo 42 = .ok (.iload_n 3, 1) := by decide +kernel
theorem dX7_undo_43 : decode cX7_undo 43 = .ok (.aload_n 0, 1) := by decide +kernel
theorem dX7_undo_44 : decode cX7_undo 44 = .ok (.getfield 122, 3) := by decide +kernel
theorem dX7_undo_47 : decode cX7_undo 47 = .ok (.if_icmp .ge 30, 3) := by decide +kernel
theorem dX7_undo_50 : decode cX7_undo 50 = .ok (.iload_n 2, 1) := by decide +kernel
theorem dX7_undo_51 : decode cX7_undo 51 = .ok (.aload_n 0, 1) := by decide +kernel
theorem dX7_undo_52 : decode cX7_undo 52 = .ok (.getfield 67, 3) := by decide +kernel
theorem dX7_undo_55 : decode cX7_undo 55 = .ok (.iload_n 3, 1) := by decide +kernel
end
section
theorem dX7_undo_56 : decode cX7_undo 56 = .ok (.iaload, 1) := by decide +kernel
theorem dX7_undo_57 : decode cX7_undo 57 = .ok (.iload_n 1, 1) := by decide +kernel
theorem dX7_undo_58 : decode cX7_undo 58 = .ok (.if_icmp .ne 7, 3) := by decide +kernel
theorem dX7_undo_61 : decode cX7_undo 61 = .ok (.iconst 1, 1) := by decide +kernel
theorem dX7_undo_62 : decode cX7_undo 62 = .ok (.goto 4, 3) := by decide +kernel
theorem dX7_undo_65 : decode cX7_undo 65 = .ok (.iconst 0, 1) := by decide +kernel
theorem dX7_undo_66 : decode cX7_undo 66 = .ok (.invokestatic 135, 3) := by decide +kernel
theorem dX7_undo_69 : decode cX7_undo 69 = .ok (.iadd, 1) := by decide +kernel
theorem dX7_undo_70 : decode cX7_undo 70 = .ok (.istore_n 2, 1) := by decide +kernel
theorem dX7_undo_71 : decode cX7_undo 71 = .ok (.iinc 3 1, 3) := by decide +kernel
theorem dX7_undo_74 : decode cX7_undo 74 = .ok (.goto (-32), 3) := by decide +kernel
theorem dX7_undo_77 : decode cX7_undo 77 = .ok (.iconst 0, 1) := by decide +kernel
theorem dX7_undo_78 : decode cX7_undo 78 = .ok (.istore_n 3, 1) := by decide +kernel
theorem dX7_undo_79 : decode cX7_undo 79 = .ok (.iload_n 3, 1) := by decide +kernel
theorem dX7_undo_80 : decode cX7_undo 80 = .ok (.aload_n 0, 1) := by decide +kernel
theorem dX7_undo_81 : decode cX7_undo 81 = .ok (.getfield 142, 3) := by decide +kernel
theorem dX7_undo_84 : decode cX7_undo 84 = .ok (.if_icmp .ge 30, 3) := by decide +kernel
theorem dX7_undo_87 : decode cX7_undo 87 = .ok (.iload_n 2, 1) := by decide +kernel
theorem dX7_undo_88 : decode cX7_undo 88 = .ok (.aload_n 0, 1) := by decide +kernel
theorem dX7_undo_89 : decode cX7_undo 89 = .ok (.getfield 49, 3) := by decide +kernel
theorem dX7_undo_92 : decode cX7_undo 92 = .ok (.iload_n 3, 1) := by decide +kernel
theorem dX7_undo_93 : decode cX7_undo 93 = .ok (.iaload, 1) := by decide +kernel
theorem dX7_undo_94 : decode cX7_undo 94 = .ok (.iload_n 1, 1) := by decide +kernel
theorem dX7_undo_95 : decode cX7_undo 95 = .ok (.if_icmp .ne 7, 3) := by decide +kernel
theorem dX7_undo_98 : decode cX7_undo 98 = .ok (.iconst 1, 1) := by decide +kernel
theorem dX7_undo_99 : decode cX7_undo 99 = .ok (.goto 4, 3) := by decide +kernel
theorem dX7_undo_102 : decode cX7_undo 102 = .ok (.iconst 0, 1) := by decide +kernel
theorem dX7_undo_103 : decode cX7_undo 103 = .ok (.invokestatic 135, 3) := by decide +kernel
theorem dX7_undo_106 : decode cX7_undo 106 = .ok (.iadd, 1) := by decide +kernel
theorem dX7_undo_107 : decode cX7_undo 107 = .ok (.istore_n 2, 1) := by decide +kernel
theorem dX7_undo_108 : decode cX7_undo 108 = .ok (.iinc 3 1, 3) := by decide +kernel
theorem dX7_undo_111 : decode cX7_undo 111 = .ok (.goto (-32), 3) := by decide +kernel
theorem dX7_undo_114 : decode cX7_undo 114 = .ok (.iload_n 2, 1) := by decide +kernel
theorem dX7_undo_115 : decode cX7_undo 115 = .ok (.ireturn, 1) := by decide +kernel
theorem dX7_living_0 : decode cX7_living 0 = .ok (.iconst 0, 1) := by decide +kernel
theorem dX7_living_1 : decode cX7_living 1 = .ok (.istore 4, 2) := by decide +kernel
theorem dX7_living_3 : decode cX7_living 3 = .ok (.iload 4, 2) := by decide +kernel
theorem dX7_living_5 : decode cX7_living 5 = .ok (.aload_n 0, 1) := by decide +kernel
theorem dX7_living_6 : decode cX7_living 6 = .ok (.getfield 77, 3) := by decide +kernel
theorem dX7_living_9 : decode cX7_living 9 = .ok (.if_icmp .ge 34, 3) := by decide +kernel
theorem dX7_living_12 : decode cX7_living 12 = .ok (.aload_n 0, 1) := by decide +kernel
theorem dX7_living_13 : decode cX7_living 13 = .ok (.getfield 7, 3) := by decide +kernel
theorem dX7_living_16 : decode cX7_living 16 = .ok (.iload 4, 2) := by decide +kernel
theorem dX7_living_18 : decode cX7_living 18 = .ok (.iaload, 1) := by decide +kernel
theorem dX7_living_19 : decode cX7_living 19 = .ok (.iload_n 1, 1) := by decide +kernel
theorem dX7_living_20 : decode cX7_living 20 = .ok (.if_icmp .ne 17, 3) := by decide +kernel
theorem dX7_living_23 : decode cX7_living 23 = .ok (.aload_n 0, 1) := by decide +kernel
theorem dX7_living_24 : decode cX7_living 24 = .ok (.iload 4, 2) := by decide +kernel
theorem dX7_living_26 : decode cX7_living 26 = .ok (.iload_n 2, 1) := by decide +kernel
theorem dX7_living_27 : decode cX7_living 27 = .ok (.iload_n 3, 1) := by decide +kernel
theorem dX7_living_28 : decode cX7_living 28 = .ok (.invokevirtual 88, 3) := by decide +kernel
theorem dX7_living_31 : decode cX7_living 31 = .ok (.ifCond .eq 6, 3) := by decide +kernel
theorem dX7_living_34 : decode cX7_living 34 = .ok (.iload 4, 2) := by decide +kernel
theorem dX7_living_36 : decode cX7_living 36 = .ok (.ireturn, 1) := by decide +kernel
theorem dX7_living_37 : decode cX7_living 37 = .ok (.iinc 4 1, 3) := by decide +kernel
theorem dX7_living_40 : decode cX7_living 40 = .ok (.goto (-37), 3) := by decide +kernel
theorem dX7_living_43 : decode cX7_living 43 = .ok (.iconst (-1), 1) := by decide +kernel
theorem dX7_living_44 : decode cX7_living 44 = .ok (.ireturn, 1) := by decide +kernel
theorem dX7_isFact_0 : decode cX7_isFact 0 = .ok (.aload_n 0, 1) := by decide +kernel
theorem dX7_isFact_1 : decode cX7_isFact 1 = .ok (.aload_n 0, 1) := by decide +kernel
theorem dX7_isFact_2 : decode cX7_isFact 2 = .ok (.getfield 46, 3) := by decide +kernel
theorem dX7_isFact_5 : decode cX7_isFact 5 = .ok (.iload_n 1, 1) := by decide +kernel
theorem dX7_isFact_6 : decode cX7_isFact 6 = .ok (.iaload, 1) := by decide +kernel
theorem dX7_isFact_7 : decode cX7_isFact 7 = .ok (.aload_n 0, 1) := by decide +kernel
theorem dX7_isFact_8 : decode cX7_isFact 8 = .ok (.getfield 49, 3) := by decide +kernel
theorem dX7_isFact_11 : decode cX7_isFact 11 = .ok (.iload_n 1, 1) := by decide +kernel
theorem dX7_isFact_12 : decode cX7_isFact 12 = .ok (.iaload, 1) := by decide +kernel
theorem dX7_isFact_13 : decode cX7_isFact 13 = .ok (.iload_n 2, 1) := by decide +kernel
theorem dX7_isFact_14 : decode cX7_isFact 14 = .ok (.invokevirtual 116, 3) := by decide +kernel
theorem dX7_isFact_17 : decode cX7_isFact 17 = .ok (.ireturn, 1) := by decide +kernel
theorem dX7_thingOf_0 : decode cX7_thingOf 0 = .ok (.aload_n 0, 1) := by decide +kernel
theorem dX7_thingOf_1 : decode cX7_thingOf 1 = .ok (.aload_n 0, 1) := by decide +kernel
theorem dX7_thingOf_2 : decode cX7_thingOf 2 = .ok (.getfield 37, 3) := by decide +kernel
theorem dX7_thingOf_5 : decode cX7_thingOf 5 = .ok (.iload_n 1, 1) := by decide +kernel
theorem dX7_thingOf_6 : decode cX7_thingOf 6 = .ok (.iaload, 1) := by decide +kernel
theorem dX7_thingOf_7 : decode cX7_thingOf 7 = .ok (.aload_n 0, 1) := by decide +kernel
theorem dX7_thingOf_8 : decode cX7_thingOf 8 = .ok (.getfield 40, 3) := by decide +kernel
theorem dX7_thingOf_11 : decode cX7_thingOf 11 = .ok (.iload_n 1, 1) := by decide +kernel
theorem dX7_thingOf_12 : decode cX7_thingOf 12 = .ok (.iaload, 1) := by decide +kernel
theorem dX7_thingOf_13 : decode cX7_thingOf 13 = .ok (.iload_n 2, 1) := by decide +kernel
theorem dX7_thingOf_14 : decode cX7_thingOf 14 = .ok (.invokevirtual 145, 3) := by decide +kernel
theorem dX7_thingOf_17 : decode cX7_thingOf 17 = .ok (.ireturn, 1) := by decide +kernel
theorem dX7_hangs_0 : decode cX7_hangs 0 = .ok (.iload_n 1, 1) := by decide +kernel
theorem dX7_hangs_1 : decode cX7_hangs 1 = .ok (.iconst 0, 1) := by decide +kernel
theorem dX7_hangs_2 : decode cX7_hangs 2 = .ok (.aload_n 0, 1) := by decide +kernel
theorem dX7_hangs_3 : decode cX7_hangs 3 = .ok (.getfield 142, 3) := by decide +kernel
theorem dX7_hangs_6 : decode cX7_hangs 6 = .ok (.iconst 1, 1) := by decide +kernel
theorem dX7_hangs_7 : decode cX7_hangs 7 = .ok (.isub, 1) := by decide +kernel
theorem dX7_hangs_8 : decode cX7_hangs 8 = .ok (.invokestatic 73, 3) := by decide +kernel
theorem dX7_hangs_11 : decode cX7_hangs 11 = .ok (.ifCond .eq 28, 3) := by decide +kernel
theorem dX7_hangs_14 : decode cX7_hangs 14 = .ok (.iload_n 2, 1) := by decide +kernel
theorem dX7_hangs_15 : decode cX7_hangs 15 = .ok (.invokestatic 95, 3) := by decide +kernel
theorem dX7_hangs_18 : decode cX7_hangs 18 = .ok (.ifCond .eq 21, 3) := by decide +kernel
theorem dX7_hangs_21 : decode cX7_hangs 21 = .ok (.aload_n 0, 1) := by decide +kernel
theorem dX7_hangs_22 : decode cX7_hangs 22 = .ok (.iload_n 1, 1) := by decide +kernel
theorem dX7_hangs_23 : decode cX7_hangs 23 = .ok (.iload_n 2, 1) := by decide +kernel
theorem dX7_hangs_24 : decode cX7_hangs 24 = .ok (.invokevirtual 149, 3) := by decide +kernel
theorem dX7_hangs_27 : decode cX7_hangs 27 = .ok (.ifCond .eq 12, 3) := by decide +kernel
theorem dX7_hangs_30 : decode cX7_hangs 30 = .ok (.aload_n 0, 1) := by decide +kernel
theorem dX7_hangs_31 : decode cX7_hangs 31 = .ok (.iload_n 1, 1) := by decide +kernel
theorem dX7_hangs_32 : decode cX7_hangs 32 = .ok (.iload_n 2, 1) := by decide +kernel
theorem dX7_hangs_33 : decode cX7_hangs 33 = .ok (.invokevirtual 152, 3) := by decide +kernel
theorem dX7_hangs_36 : decode cX7_hangs 36 = .ok (.goto 5, 3) := by decide +kernel
theorem dX7_hangs_39 : decode cX7_hangs 39 = .ok (.bipush (-2), 2) := by decide +kernel
theorem dX7_hangs_41 : decode cX7_hangs 41 = .ok (.ireturn, 1) := by decide +kernel
theorem dX7_find_0 : decode cX7_find 0 = .ok (.iload_n 2, 1) := by decide +kernel
theorem dX7_find_1 : decode cX7_find 1 = .ok (.invokestatic 95, 3) := by decide +kernel
theorem dX7_find_4 : decode cX7_find 4 = .ok (.ifCond .eq 20, 3) := by decide +kernel
theorem dX7_find_7 : decode cX7_find 7 = .ok (.iload_n 3, 1) := by decide +kernel
theorem dX7_find_8 : decode cX7_find 8 = .ok (.invokestatic 95, 3) := by decide +kernel
theorem dX7_find_11 : decode cX7_find 11 = .ok (.ifCond .eq 13, 3) := by decide +kernel
theorem dX7_find_14 : decode cX7_find 14 = .ok (.aload_n 0, 1) := by decide +kernel
theorem dX7_find_15 : decode cX7_find 15 = .ok (.iload_n 1, 1) := by decide +kernel
theorem dX7_find_16 : decode cX7_find 16 = .ok (.iload_n 2, 1) := by decide +kernel
theorem dX7_find_17 : decode cX7_find 17 = .ok (.iload_n 3, 1) := by decide +kernel
theorem dX7_find_18 : decode cX7_find 18 = .ok (.invokevirtual 145, 3) := by decide +kernel
theorem dX7_find_21 : decode cX7_find 21 = .ok (.goto 4, 3) := by decide +kernel
theorem dX7_find_24 : decode cX7_find 24 = .ok (.iconst (-1), 1) := by decide +kernel
theorem dX7_find_25 : decode cX7_find 25 = .ok (.ireturn, 1) := by decide +kernel
theorem dX7_isAsked_0 : decode cX7_isAsked 0 = .ok (.iload_n 1, 1) := by decide +kernel
theorem dX7_isAsked_1 : decode cX7_isAsked 1 = .ok (.invokestatic 119, 3) := by decide +kernel
theorem dX7_isAsked_4 : decode cX7_isAsked 4 = .ok (.ifCond .eq 24, 3) := by decide +kernel
theorem dX7_isAsked_7 : decode cX7_isAsked 7 = .ok (.iload_n 2, 1) := by decide +kernel
theorem dX7_isAsked_8 : decode cX7_isAsked 8 = .ok (.iconst 0, 1) := by decide +kernel
theorem dX7_isAsked_9 : decode cX7_isAsked 9 = .ok (.bipush 100, 2) := by decide +kernel
theorem dX7_isAsked_11 : decode cX7_isAsked 11 = .ok (.invokestatic 73, 3) := by decide +kernel
theorem dX7_isAsked_14 : decode cX7_isAsked 14 = .ok (.ifCond .eq 14, 3) := by decide +kernel
theorem dX7_isAsked_17 : decode cX7_isAsked 17 = .ok (.iload_n 3, 1) := by decide +kernel
theorem dX7_isAsked_18 : decode cX7_isAsked 18 = .ok (.invokestatic 95, 3) := by decide +kernel
theorem dX7_isAsked_21 : decode cX7_isAsked 21 = .ok (.ifCond .eq 7, 3) := by decide +kernel
theorem dX7_isAsked_24 : decode cX7_isAsked 24 = .ok (.iconst 1, 1) := by decide +kernel
theorem dX7_isAsked_25 : decode cX7_isAsked 25 = .ok (.goto 4, 3) := by decide +kernel
theorem dX7_isAsked_28 : decode cX7_isAsked 28 = .ok (.iconst 0, 1) := by decide +kernel
theorem dX7_isAsked_29 : decode cX7_isAsked 29 = .ok (.ireturn, 1) := by decide +kernel
theorem dX7_then_0 : decode cX7_then 0 = .ok (.lconst 0, 1) := by decide +kernel
theorem dX7_then_1 : decode cX7_then 1 = .ok (.lstore 4, 2) := by decide +kernel
theorem dX7_then_3 : decode cX7_then 3 = .ok (.iconst 0, 1) := by decide +kernel
theorem dX7_then_4 : decode cX7_then 4 = .ok (.istore 6, 2) := by decide +kernel
theorem dX7_then_6 : decode cX7_then 6 = .ok (.iload 6, 2) := by decide +kernel
theorem dX7_then_8 : decode cX7_then 8 = .ok (.aload_n 0, 1) := by decide +kernel
theorem dX7_then_9 : decode cX7_then 9 = .ok (.getfield 142, 3) := by decide +kernel
theorem dX7_then_12 : decode cX7_then 12 = .ok (.if_icmp .ge 79, 3) := by decide +kernel
theorem dX7_then_15 : decode cX7_then 15 = .ok (.aload_n 0, 1) := by decide +kernel
theorem dX7_then_16 : decode cX7_then 16 = .ok (.iload_n 1, 1) := by decide +kernel
theorem dX7_then_17 : decode cX7_then 17 = .ok (.iload_n 2, 1) := by decide +kernel
theorem dX7_then_18 : decode cX7_then 18 = .ok (.iload_n 3, 1) := by decide +kernel
theorem dX7_then_19 : decode cX7_then 19 = .ok (.invokevirtual 155, 3) := by decide +kernel
theorem dX7_then_22 : decode cX7_then 22 = .ok (.ifCond .eq 69, 3) := by decide +kernel
theorem dX7_then_25 : decode cX7_then 25 = .ok (.aload_n 0, 1) := by decide +kernel
theorem dX7_then_26 : decode cX7_then 26 = .ok (.iload 6, 2) := by decide +kernel
theorem dX7_then_28 : decode cX7_then 28 = .ok (.iload_n 3, 1) := by decide +kernel
theorem dX7_then_29 : decode cX7_then 29 = .ok (.invokevirtual 149, 3) := by decide +kernel
theorem dX7_then_32 : decode cX7_then 32 = .ok (.ifCond .ne 6, 3) := by decide +kernel
theorem dX7_then_35 : decode cX7_then 35 = .ok (.goto 50, 3) := by decide +kernel
theorem dX7_then_38 : decode cX7_then 38 = .ok (.aload_n 0, 1) := by decide +kernel
theorem dX7_then_39 : decode cX7_then 39 = .ok (.iload 6, 2) := by decide +kernel
theorem dX7_then_41 : decode cX7_then 41 = .ok (.iload_n 3, 1) := by decide +kernel
theorem dX7_then_42 : decode cX7_then 42 = .ok (.invokevirtual 152, 3) := by decide +kernel
theorem dX7_then_45 : decode cX7_then 45 = .ok (.istore 7, 2) := by decide +kernel
theorem dX7_then_47 : decode cX7_then 47 = .ok (.iload 7, 2) := by decide +kernel
theorem dX7_then_49 : decode cX7_then 49 = .ok (.iconst (-1), 1) := by decide +kernel
theorem dX7_then_50 : decode cX7_then 50 = .ok (.if_icmp .eq 35, 3) := by decide +kernel
theorem dX7_then_53 : decode cX7_then 53 = .ok (.aload_n 0, 1) := by decide +kernel
theorem dX7_then_54 : decode cX7_then 54 = .ok (.iload 7, 2) := by decide +kernel
theorem dX7_then_56 : decode cX7_then 56 = .ok (.iload_n 1, 1) := by decide +kernel
theorem dX7_then_57 : decode cX7_then 57 = .ok (.aload_n 0, 1) := by decide +kernel
theorem dX7_then_58 : decode cX7_then 58 = .ok (.getfield 40, 3) := by decide +kernel
theorem dX7_then_61 : decode cX7_then 61 = .ok (.iload 6, 2) := by decide +kernel
theorem dX7_then_63 : decode cX7_then 63 = .ok (.iaload, 1) := by decide +kernel
theorem dX7_then_64 : decode cX7_then 64 = .ok (.iload_n 3, 1) := by decide +kernel
theorem dX7_then_65 : decode cX7_then 65 = .ok (.invokevirtual 131, 3) := by decide +kernel
theorem dX7_then_68 : decode cX7_then 68 = .ok (.iload_n 2, 1) := by decide +kernel
theorem dX7_then_69 : decode cX7_then 69 = .ok (.if_icmp .ne 16, 3) := by decide +kernel
theorem dX7_then_72 : decode cX7_then 72 = .ok (.lload 4, 2) := by decide +kernel
theorem dX7_then_74 : decode cX7_then 74 = .ok (.aload_n 0, 1) := by decide +kernel
theorem dX7_then_75 : decode cX7_then 75 = .ok (.getfield 43, 3) := by decide +kernel
theorem dX7_then_78 : decode cX7_then 78 = .ok (.iload 6, 2) := by decide +kernel
theorem dX7_then_80 : decode cX7_then 80 = .ok (.iaload, 1) := by decide +kernel
theorem dX7_then_81 : decode cX7_then 81 = .ok (.i2l, 1) := by decide +kernel
theorem dX7_then_82 : decode cX7_then 82 = .ok (.ladd, 1) := by decide +kernel
theorem dX7_then_83 : decode cX7_then 83 = .ok (.lstore 4, 2) := by decide +kernel
theorem dX7_then_85 : decode cX7_then 85 = .ok (.iinc 6 1, 3) := by decide +kernel
theorem dX7_then_88 : decode cX7_then 88 = .ok (.goto (-82), 3) := by decide +kernel
theorem dX7_then_91 : decode cX7_then 91 = .ok (.lload 4, 2) := by decide +kernel
theorem dX7_then_93 : decode cX7_then 93 = .ok (.lreturn, 1) := by decide +kernel
theorem dX7_carried_0 : decode cX7_carried 0 = .ok (.aload_n 0, 1) := by decide +kernel
theorem dX7_carried_1 : decode cX7_carried 1 = .ok (.iload_n 2, 1) := by decide +kernel
theorem dX7_carried_2 : decode cX7_carried 2 = .ok (.iload_n 3, 1) := by decide +kernel
theorem dX7_carried_3 : decode cX7_carried 3 = .ok (.iload 4, 2) := by decide +kernel
theorem dX7_carried_5 : decode cX7_carried 5 = .ok (.invokevirtual 88, 3) := by decide +kernel
theorem dX7_carried_8 : decode cX7_carried 8 = .ok (.ifCond .eq 31, 3) := by decide +kernel
theorem dX7_carried_11 : decode cX7_carried 11 = .ok (.iload 5, 2) := by decide +kernel
theorem dX7_carried_13 : decode cX7_carried 13 = .ok (.iconst (-1), 1) := by decide +kernel
theorem dX7_carried_14 : decode cX7_carried 14 = .ok (.if_icmp .eq 23, 3) := by decide +kernel
theorem dX7_carried_17 : decode cX7_carried 17 = .ok (.aload_n 0, 1) := by decide +kernel
theorem dX7_carried_18 : decode cX7_carried 18 = .ok (.iload_n 2, 1) := by decide +kernel
theorem dX7_carried_19 : decode cX7_carried 19 = .ok (.iload 5, 2) := by decide +kernel
theorem dX7_carried_21 : decode cX7_carried 21 = .ok (.iload_n 3, 1) := by decide +kernel
theorem dX7_carried_22 : decode cX7_carried 22 = .ok (.iload 4, 2) := by decide +kernel
theorem dX7_carried_24 : decode cX7_carried 24 = .ok (.invokevirtual 131, 3) := by decide +kernel
theorem dX7_carried_27 : decode cX7_carried 27 = .ok (.iload 6, 2) := by decide +kernel
theorem dX7_carried_29 : decode cX7_carried 29 = .ok (.if_icmp .ne 8, 3) := by decide +kernel
theorem dX7_carried_32 : decode cX7_carried 32 = .ok (.iload_n 1, 1) := by decide +kernel
theorem dX7_carried_33 : decode cX7_carried 33 = .ok (.i2l, 1) := by decide +kernel
theorem dX7_carried_34 : decode cX7_carried 34 = .ok (.goto 4, 3) := by decide +kernel
theorem dX7_carried_37 : decode cX7_carried 37 = .ok (.lconst 0, 1) := by decide +kernel
theorem dX7_carried_38 : decode cX7_carried 38 = .ok (.lreturn, 1) := by decide +kernel
theorem dX7_carried_39 : decode cX7_carried 39 = .ok (.iload_n 3, 1) := by decide +kernel
theorem dX7_carried_40 : decode cX7_carried 40 = .ok (.aload_n 0, 1) := by decide +kernel
theorem dX7_carried_41 : decode cX7_carried 41 = .ok (.getfield 13, 3) := by decide +kernel
theorem dX7_carried_44 : decode cX7_carried 44 = .ok (.iload_n 2, 1) := by decide +kernel
theorem dX7_carried_45 : decode cX7_carried 45 = .ok (.iaload, 1) := by decide +kernel
theorem dX7_carried_46 : decode cX7_carried 46 = .ok (.if_icmp .lt 18, 3) := by decide +kernel
theorem dX7_carried_49 : decode cX7_carried 49 = .ok (.aload_n 0, 1) := by decide +kernel
theorem dX7_carried_50 : decode cX7_carried 50 = .ok (.iload_n 2, 1) := by decide +kernel
theorem dX7_carried_51 : decode cX7_carried 51 = .ok (.iload 4, 2) := by decide +kernel
theorem dX7_carried_53 : decode cX7_carried 53 = .ok (.invokevirtual 84, 3) := by decide +kernel
theorem dX7_carried_56 : decode cX7_carried 56 = .ok (.iload_n 3, 1) := by decide +kernel
theorem dX7_carried_57 : decode cX7_carried 57 = .ok (.if_icmp .gt 7, 3) := by decide +kernel
theorem dX7_carried_60 : decode cX7_carried 60 = .ok (.iconst 1, 1) := by decide +kernel
theorem dX7_carried_61 : decode cX7_carried 61 = .ok (.goto 4, 3) := by decide +kernel
theorem dX7_carried_64 : decode cX7_carried 64 = .ok (.iconst 0, 1) := by decide +kernel
theorem dX7_carried_65 : decode cX7_carried 65 = .ok (.istore 7, 2) := by decide +kernel
theorem dX7_carried_67 : decode cX7_carried 67 = .ok (.iload 7, 2) := by decide +kernel
theorem dX7_carried_69 : decode cX7_carried 69 = .ok (.ifCond .eq 74, 3) := by decide +kernel
theorem dX7_carried_72 : decode cX7_carried 72 = .ok (.aload_n 0, 1) := by decide +kernel
theorem dX7_carried_73 : decode cX7_carried 73 = .ok (.getfield 25, 3) := by decide +kernel
theorem dX7_carried_76 : decode cX7_carried 76 = .ok (.iload_n 2, 1) := by decide +kernel
theorem dX7_carried_77 : decode cX7_carried 77 = .ok (.iaload, 1) := by decide +kernel
theorem dX7_carried_78 : decode cX7_carried 78 = .ok (.iconst 2, 1) := by decide +kernel
theorem dX7_carried_79 : decode cX7_carried 79 = .ok (.if_icmp .ne 64, 3) := by decide +kernel
theorem dX7_carried_82 : decode cX7_carried 82 = .ok (.iload_n 1, 1) := by decide +kernel
theorem dX7_carried_83 : decode cX7_carried 83 = .ok (.aload_n 0, 1) := by decide +kernel
theorem dX7_carried_84 : decode cX7_carried 84 = .ok (.getfield 31, 3) := by decide +kernel
theorem dX7_carried_87 : decode cX7_carried 87 = .ok (.iload_n 2, 1) := by decide +kernel
theorem dX7_carried_88 : decode cX7_carried 88 = .ok (.iaload, 1) := by decide +kernel
theorem dX7_carried_89 : decode cX7_carried 89 = .ok (.imul, 1) := by decide +kernel
theorem dX7_carried_90 : decode cX7_carried 90 = .ok (.aload_n 0, 1) := by decide +kernel
theorem dX7_carried_91 : decode cX7_carried 91 = .ok (.getfield 34, 3) := by decide +kernel
theorem dX7_carried_94 : decode cX7_carried 94 = .ok (.iload_n 2, 1) := by decide +kernel
theorem dX7_carried_95 : decode cX7_carried 95 = .ok (.iaload, 1) := by decide +kernel
theorem dX7_carried_96 : decode cX7_carried 96 = .ok (.idiv, 1) := by decide +kernel
theorem dX7_carried_97 : decode cX7_carried 97 = .ok (.istore 8, 2) := by decide +kernel
theorem dX7_carried_99 : decode cX7_carried 99 = .ok (.aload_n 0, 1) := by decide +kernel
theorem dX7_carried_100 : decode cX7_carried 100 = .ok (.iload 8, 2) := by decide +kernel
theorem dX7_carried_102 : decode cX7_carried 102 = .ok (.aload_n 0, 1) := by decide +kernel
theorem dX7_carried_103 : decode cX7_carried 103 = .ok (.getfield 28, 3) := by decide +kernel
theorem dX7_carried_106 : decode cX7_carried 106 = .ok (.iload_n 2, 1) := by decide +kernel
theorem dX7_carried_107 : decode cX7_carried 107 = .ok (.iaload, 1) := by decide +kernel
theorem dX7_carried_108 : decode cX7_carried 108 = .ok (.iload_n 3, 1) := by decide +kernel
theorem dX7_carried_109 : decode cX7_carried 109 = .ok (.iload 4, 2) := by decide +kernel
theorem dX7_carried_111 : decode cX7_carried 111 = .ok (.iload 5, 2) := by decide +kernel
theorem dX7_carried_113 : decode cX7_carried 113 = .ok (.iload 6, 2) := by decide +kernel
theorem dX7_carried_115 : decode cX7_carried 115 = .ok (.invokevirtual 158, 3) := by decide +kernel
theorem dX7_carried_118 : decode cX7_carried 118 = .ok (.aload_n 0, 1) := by decide +kernel
theorem dX7_carried_119 : decode cX7_carried 119 = .ok (.iload_n 1, 1) := by decide +kernel
theorem dX7_carried_120 : decode cX7_carried 120 = .ok (.iload 8, 2) := by decide +kernel
theorem dX7_carried_122 : decode cX7_carried 122 = .ok (.isub, 1) := by decide +kernel
theorem dX7_carried_123 : decode cX7_carried 123 = .ok (.aload_n 0, 1) := by decide +kernel
theorem dX7_carried_124 : decode cX7_carried 124 = .ok (.getfield 28, 3) := by decide +kernel
theorem dX7_carried_127 : decode cX7_carried 127 = .ok (.iload_n 2, 1) := by decide +kernel
theorem dX7_carried_128 : decode cX7_carried 128 = .ok (.iaload, 1) := by decide +kernel
theorem dX7_carried_129 : decode cX7_carried 129 = .ok (.iconst 1, 1) := by decide +kernel
theorem dX7_carried_130 : decode cX7_carried 130 = .ok (.iadd, 1) := by decide +kernel
theorem dX7_carried_131 : decode cX7_carried 131 = .ok (.iload_n 3, 1) := by decide +kernel
theorem dX7_carried_132 : decode cX7_carried 132 = .ok (.iload 4, 2) := by decide +kernel
theorem dX7_carried_134 : decode cX7_carried 134 = .ok (.iload 5, 2) := by decide +kernel
theorem dX7_carried_136 : decode cX7_carried 136 = .ok (.iload 6, 2) := by decide +kernel
theorem dX7_carried_138 : decode cX7_carried 138 = .ok (.invokevirtual 158, 3) := by decide +kernel
theorem dX7_carried_141 : decode cX7_carried 141 = .ok (.ladd, 1) := by decide +kernel
theorem dX7_carried_142 : decode cX7_carried 142 = .ok (.lreturn, 1) := by decide +kernel
theorem dX7_carried_143 : decode cX7_carried 143 = .ok (.iload 7, 2) := by decide +kernel
theorem dX7_carried_145 : decode cX7_carried 145 = .ok (.ifCond .eq 32, 3) := by decide +kernel
theorem dX7_carried_148 : decode cX7_carried 148 = .ok (.aload_n 0, 1) := by decide +kernel
theorem dX7_carried_149 : decode cX7_carried 149 = .ok (.getfield 25, 3) := by decide +kernel
theorem dX7_carried_152 : decode cX7_carried 152 = .ok (.iload_n 2, 1) := by decide +kernel
theorem dX7_carried_153 : decode cX7_carried 153 = .ok (.iaload, 1) := by decide +kernel
theorem dX7_carried_154 : decode cX7_carried 154 = .ok (.iconst 3, 1) := by decide +kernel
theorem dX7_carried_155 : decode cX7_carried 155 = .ok (.if_icmp .ne 22, 3) := by decide +kernel
theorem dX7_carried_158 : decode cX7_carried 158 = .ok (.aload_n 0, 1) := by decide +kernel
theorem dX7_carried_159 : decode cX7_carried 159 = .ok (.iload_n 1, 1) := by decide +kernel
theorem dX7_carried_160 : decode cX7_carried 160 = .ok (.aload_n 0, 1) := by decide +kernel
theorem dX7_carried_161 : decode cX7_carried 161 = .ok (.getfield 28, 3) := by decide +kernel
theorem dX7_carried_164 : decode cX7_carried 164 = .ok (.iload_n 2, 1) := by decide +kernel
theorem dX7_carried_165 : decode cX7_carried 165 = .ok (.iaload, 1) := by decide +kernel
theorem dX7_carried_166 : decode cX7_carried 166 = .ok (.iload_n 3, 1) := by decide +kernel
theorem dX7_carried_167 : decode cX7_carried 167 = .ok (.iload 4, 2) := by decide +kernel
theorem dX7_carried_169 : decode cX7_carried 169 = .ok (.iload 5, 2) := by decide +kernel
theorem dX7_carried_171 : decode cX7_carried 171 = .ok (.iload 6, 2) := by decide +kernel
theorem dX7_carried_173 : decode cX7_carried 173 = .ok (.invokevirtual 158, 3) := by decide +kernel
theorem dX7_carried_176 : decode cX7_carried 176 = .ok (.lreturn, 1) := by decide +kernel
theorem dX7_carried_177 : decode cX7_carried 177 = .ok (.iload 5, 2) := by decide +kernel
theorem dX7_carried_179 : decode cX7_carried 179 = .ok (.iconst (-1), 1) := by decide +kernel
theorem dX7_carried_180 : decode cX7_carried 180 = .ok (.if_icmp .ne 8, 3) := by decide +kernel
theorem dX7_carried_183 : decode cX7_carried 183 = .ok (.iload_n 1, 1) := by decide +kernel
theorem dX7_carried_184 : decode cX7_carried 184 = .ok (.i2l, 1) := by decide +kernel
theorem dX7_carried_185 : decode cX7_carried 185 = .ok (.goto 4, 3) := by decide +kernel
theorem dX7_carried_188 : decode cX7_carried 188 = .ok (.lconst 0, 1) := by decide +kernel
theorem dX7_carried_189 : decode cX7_carried 189 = .ok (.lreturn, 1) := by decide +kernel
theorem dX7_allCarried_0 : decode cX7_allCarried 0 = .ok (.lconst 0, 1) := by decide +kernel
theorem dX7_allCarried_1 : decode cX7_allCarried 1 = .ok (.lstore 5, 2) := by decide +kernel
theorem dX7_allCarried_3 : decode cX7_allCarried 3 = .ok (.iconst 0, 1) := by decide +kernel
theorem dX7_allCarried_4 : decode cX7_allCarried 4 = .ok (.istore 7, 2) := by decide +kernel
theorem dX7_allCarried_6 : decode cX7_allCarried 6 = .ok (.iload 7, 2) := by decide +kernel
theorem dX7_allCarried_8 : decode cX7_allCarried 8 = .ok (.aload_n 0, 1) := by decide +kernel
theorem dX7_allCarried_9 : decode cX7_allCarried 9 = .ok (.getfield 142, 3) := by decide +kernel
theorem dX7_allCarried_12 : decode cX7_allCarried 12 = .ok (.if_icmp .ge 60, 3) := by decide +kernel
theorem dX7_allCarried_15 : decode cX7_allCarried 15 = .ok (.aload_n 0, 1) := by decide +kernel
theorem dX7_allCarried_16 : decode cX7_allCarried 16 = .ok (.iload 7, 2) := by decide +kernel
theorem dX7_allCarried_18 : decode cX7_allCarried 18 = .ok (.iload_n 2, 1) := by decide +kernel
theorem dX7_allCarried_19 : decode cX7_allCarried 19 = .ok (.invokevirtual 149, 3) := by decide +kernel
theorem dX7_allCarried_22 : decode cX7_allCarried 22 = .ok (.ifCond .ne 6, 3) := by decide +kernel
theorem dX7_allCarried_25 : decode cX7_allCarried 25 = .ok (.goto 41, 3) := by decide +kernel
theorem dX7_allCarried_28 : decode cX7_allCarried 28 = .ok (.aload_n 0, 1) := by decide +kernel
theorem dX7_allCarried_29 : decode cX7_allCarried 29 = .ok (.iload 7, 2) := by decide +kernel
theorem dX7_allCarried_31 : decode cX7_allCarried 31 = .ok (.iload_n 2, 1) := by decide +kernel
theorem dX7_allCarried_32 : decode cX7_allCarried 32 = .ok (.invokevirtual 152, 3) := by decide +kernel
theorem dX7_allCarried_35 : decode cX7_allCarried 35 = .ok (.istore 8, 2) := by decide +kernel
theorem dX7_allCarried_37 : decode cX7_allCarried 37 = .ok (.iload 8, 2) := by decide +kernel
theorem dX7_allCarried_39 : decode cX7_allCarried 39 = .ok (.iconst (-1), 1) := by decide +kernel
theorem dX7_allCarried_40 : decode cX7_allCarried 40 = .ok (.if_icmp .eq 26, 3) := by decide +kernel
theorem dX7_allCarried_43 : decode cX7_allCarried 43 = .ok (.lload 5, 2) := by decide +kernel
theorem dX7_allCarried_45 : decode cX7_allCarried 45 = .ok (.aload_n 0, 1) := by decide +kernel
theorem dX7_allCarried_46 : decode cX7_allCarried 46 = .ok (.aload_n 0, 1) := by decide +kernel
theorem dX7_allCarried_47 : decode cX7_allCarried 47 = .ok (.getfield 43, 3) := by decide +kernel
theorem dX7_allCarried_50 : decode cX7_allCarried 50 = .ok (.iload 7, 2) := by decide +kernel
theorem dX7_allCarried_52 : decode cX7_allCarried 52 = .ok (.iaload, 1) := by decide +kernel
theorem dX7_allCarried_53 : decode cX7_allCarried 53 = .ok (.iload 8, 2) := by decide +kernel
theorem dX7_allCarried_55 : decode cX7_allCarried 55 = .ok (.iload_n 1, 1) := by decide +kernel
theorem dX7_allCarried_56 : decode cX7_allCarried 56 = .ok (.iload_n 2, 1) := by decide +kernel
theorem dX7_allCarried_57 : decode cX7_allCarried 57 = .ok (.iload_n 3, 1) := by decide +kernel
theorem dX7_allCarried_58 : decode cX7_allCarried 58 = .ok (.iload 4, 2) := by decide +kernel
theorem dX7_allCarried_60 : decode cX7_allCarried 60 = .ok (.invokevirtual 158, 3) := by decide +kernel
theorem dX7_allCarried_63 : decode cX7_allCarried 63 = .ok (.ladd, 1) := by decide +kernel
theorem dX7_allCarried_64 : decode cX7_allCarried 64 = .ok (.lstore 5, 2) := by decide +kernel
theorem dX7_allCarried_66 : decode cX7_allCarried 66 = .ok (.iinc 7 1, 3) := by decide +kernel
theorem dX7_allCarried_69 : decode cX7_allCarried 69 = .ok (.goto (-63), 3) := by decide +kernel
theorem dX7_allCarried_72 : decode cX7_allCarried 72 = .ok (.lload 5, 2) := by decide +kernel
theorem dX7_allCarried_74 : decode cX7_allCarried 74 = .ok (.lreturn, 1) := by decide +kernel
theorem dX7_by_0 : decode cX7_by 0 = .ok (.aload_n 0, 1) := by decide +kernel
theorem dX7_by_1 : decode cX7_by 1 = .ok (.iload_n 1, 1) := by decide +kernel
theorem dX7_by_2 : decode cX7_by 2 = .ok (.iload_n 2, 1) := by decide +kernel
theorem dX7_by_3 : decode cX7_by 3 = .ok (.iload 4, 2) := by decide +kernel
theorem dX7_by_5 : decode cX7_by 5 = .ok (.invokevirtual 155, 3) := by decide +kernel
theorem dX7_by_8 : decode cX7_by 8 = .ok (.ifCond .eq 22, 3) := by decide +kernel
theorem dX7_by_11 : decode cX7_by 11 = .ok (.iload_n 3, 1) := by decide +kernel
theorem dX7_by_12 : decode cX7_by 12 = .ok (.invokestatic 95, 3) := by decide +kernel
theorem dX7_by_15 : decode cX7_by 15 = .ok (.ifCond .eq 15, 3) := by decide +kernel
theorem dX7_by_18 : decode cX7_by 18 = .ok (.aload_n 0, 1) := by decide +kernel
theorem dX7_by_19 : decode cX7_by 19 = .ok (.iload_n 3, 1) := by decide +kernel
theorem dX7_by_20 : decode cX7_by 20 = .ok (.iload 4, 2) := by decide +kernel
theorem dX7_by_22 : decode cX7_by 22 = .ok (.iload_n 1, 1) := by decide +kernel
theorem dX7_by_23 : decode cX7_by 23 = .ok (.iload_n 2, 1) := by decide +kernel
theorem dX7_by_24 : decode cX7_by 24 = .ok (.invokevirtual 162, 3) := by decide +kernel
theorem dX7_by_27 : decode cX7_by 27 = .ok (.goto 4, 3) := by decide +kernel
theorem dX7_by_30 : decode cX7_by 30 = .ok (.lconst 0, 1) := by decide +kernel
theorem dX7_by_31 : decode cX7_by 31 = .ok (.lreturn, 1) := by decide +kernel
theorem dX7_sum_0 : decode cX7_sum 0 = .ok (.iload_n 1, 1) := by decide +kernel
theorem dX7_sum_1 : decode cX7_sum 1 = .ok (.iconst 0, 1) := by decide +kernel
theorem dX7_sum_2 : decode cX7_sum 2 = .ok (.iconst 2, 1) := by decide +kernel
theorem dX7_sum_3 : decode cX7_sum 3 = .ok (.invokestatic 73, 3) := by decide +kernel
theorem dX7_sum_6 : decode cX7_sum 6 = .ok (.ifCond .eq 17, 3) := by decide +kernel
theorem dX7_sum_9 : decode cX7_sum 9 = .ok (.iload_n 2, 1) := by decide +kernel
theorem dX7_sum_10 : decode cX7_sum 10 = .ok (.invokestatic 95, 3) := by decide +kernel
theorem dX7_sum_13 : decode cX7_sum 13 = .ok (.ifCond .eq 10, 3) := by decide +kernel
theorem dX7_sum_16 : decode cX7_sum 16 = .ok (.iload_n 3, 1) := by decide +kernel
theorem dX7_sum_17 : decode cX7_sum 17 = .ok (.invokestatic 95, 3) := by decide +kernel
theorem dX7_sum_20 : decode cX7_sum 20 = .ok (.ifCond .ne 5, 3) := by decide +kernel
theorem dX7_sum_23 : decode cX7_sum 23 = .ok (.lconst 0, 1) := by decide +kernel
theorem dX7_sum_24 : decode cX7_sum 24 = .ok (.lreturn, 1) := by decide +kernel
theorem dX7_sum_25 : decode cX7_sum 25 = .ok (.iload_n 1, 1) := by decide +kernel
theorem dX7_sum_26 : decode cX7_sum 26 = .ok (.iconst 2, 1) := by decide +kernel
theorem dX7_sum_27 : decode cX7_sum 27 = .ok (.if_icmp .ne 12, 3) := by decide +kernel
theorem dX7_sum_30 : decode cX7_sum 30 = .ok (.aload_n 0, 1) := by decide +kernel
theorem dX7_sum_31 : decode cX7_sum 31 = .ok (.iload_n 2, 1) := by decide +kernel
theorem dX7_sum_32 : decode cX7_sum 32 = .ok (.iload_n 3, 1) := by decide +kernel
theorem dX7_sum_33 : decode cX7_sum 33 = .ok (.iconst (-1), 1) := by decide +kernel
theorem dX7_sum_34 : decode cX7_sum 34 = .ok (.iconst 0, 1) := by decide +kernel
theorem dX7_sum_35 : decode cX7_sum 35 = .ok (.invokevirtual 162, 3) := by decide +kernel
theorem dX7_sum_38 : decode cX7_sum 38 = .ok (.lreturn, 1) := by decide +kernel
theorem dX7_sum_39 : decode cX7_sum 39 = .ok (.lconst 0, 1) := by decide +kernel
theorem dX7_sum_40 : decode cX7_sum 40 = .ok (.lstore 4, 2) := by decide +kernel
theorem dX7_sum_42 : decode cX7_sum 42 = .ok (.iconst 0, 1) := by decide +kernel
theorem dX7_sum_43 : decode cX7_sum 43 = .ok (.istore 6, 2) := by decide +kernel
theorem dX7_sum_45 : decode cX7_sum 45 = .ok (.iload 6, 2) := by decide +kernel
theorem dX7_sum_47 : decode cX7_sum 47 = .ok (.aload_n 0, 1) := by decide +kernel
theorem dX7_sum_48 : decode cX7_sum 48 = .ok (.getfield 142, 3) := by decide +kernel
theorem dX7_sum_51 : decode cX7_sum 51 = .ok (.if_icmp .ge 51, 3) := by decide +kernel
theorem dX7_sum_54 : decode cX7_sum 54 = .ok (.lload 4, 2) := by decide +kernel
theorem dX7_sum_56 : decode cX7_sum 56 = .ok (.aload_n 0, 1) := by decide +kernel
theorem dX7_sum_57 : decode cX7_sum 57 = .ok (.iload 6, 2) := by decide +kernel
theorem dX7_sum_59 : decode cX7_sum 59 = .ok (.iload_n 3, 1) := by decide +kernel
theorem dX7_sum_60 : decode cX7_sum 60 = .ok (.invokevirtual 149, 3) := by decide +kernel
theorem dX7_sum_63 : decode cX7_sum 63 = .ok (.ifCond .eq 29, 3) := by decide +kernel
theorem dX7_sum_66 : decode cX7_sum 66 = .ok (.iload_n 1, 1) := by decide +kernel
theorem dX7_sum_67 : decode cX7_sum 67 = .ok (.ifCond .eq 14, 3) := by decide +kernel
theorem dX7_sum_70 : decode cX7_sum 70 = .ok (.aload_n 0, 1) := by decide +kernel
theorem dX7_sum_71 : decode cX7_sum 71 = .ok (.iload 6, 2) := by decide +kernel
theorem dX7_sum_73 : decode cX7_sum 73 = .ok (.iload_n 3, 1) := by decide +kernel
theorem dX7_sum_74 : decode cX7_sum 74 = .ok (.invokevirtual 152, 3) := by decide +kernel
theorem dX7_sum_77 : decode cX7_sum 77 = .ok (.iconst (-1), 1) := by decide +kernel
theorem dX7_sum_78 : decode cX7_sum 78 = .ok (.if_icmp .ne 14, 3) := by decide +kernel
theorem dX7_sum_81 : decode cX7_sum 81 = .ok (.aload_n 0, 1) := by decide +kernel
theorem dX7_sum_82 : decode cX7_sum 82 = .ok (.getfield 43, 3) := by decide +kernel
theorem dX7_sum_85 : decode cX7_sum 85 = .ok (.iload 6, 2) := by decide +kernel
theorem dX7_sum_87 : decode cX7_sum 87 = .ok (.iaload, 1) := by decide +kernel
theorem dX7_sum_88 : decode cX7_sum 88 = .ok (.i2l, 1) := by decide +kernel
theorem dX7_sum_89 : decode cX7_sum 89 = .ok (.goto 4, 3) := by decide +kernel
theorem dX7_sum_92 : decode cX7_sum 92 = .ok (.lconst 0, 1) := by decide +kernel
theorem dX7_sum_93 : decode cX7_sum 93 = .ok (.ladd, 1) := by decide +kernel
theorem dX7_sum_94 : decode cX7_sum 94 = .ok (.lstore 4, 2) := by decide +kernel
theorem dX7_sum_96 : decode cX7_sum 96 = .ok (.iinc 6 1, 3) := by decide +kernel
theorem dX7_sum_99 : decode cX7_sum 99 = .ok (.goto (-54), 3) := by decide +kernel
theorem dX7_sum_102 : decode cX7_sum 102 = .ok (.lload 4, 2) := by decide +kernel
theorem dX7_sum_104 : decode cX7_sum 104 = .ok (.lreturn, 1) := by decide +kernel
theorem dX7_compare_0 : decode cX7_compare 0 = .ok (.iload_n 1, 1) := by decide +kernel
theorem dX7_compare_1 : decode cX7_compare 1 = .ok (.invokestatic 119, 3) := by decide +kernel
theorem dX7_compare_4 : decode cX7_compare 4 = .ok (.ifCond .eq 35, 3) := by decide +kernel
theorem dX7_compare_7 : decode cX7_compare 7 = .ok (.iload_n 2, 1) := by decide +kernel
theorem dX7_compare_8 : decode cX7_compare 8 = .ok (.invokestatic 95, 3) := by decide +kernel
theorem dX7_compare_11 : decode cX7_compare 11 = .ok (.ifCond .eq 28, 3) := by decide +kernel
theorem dX7_compare_14 : decode cX7_compare 14 = .ok (.iload_n 3, 1) := by decide +kernel
theorem dX7_compare_15 : decode cX7_compare 15 = .ok (.invokestatic 95, 3) := by decide +kernel
theorem dX7_compare_18 : decode cX7_compare 18 = .ok (.ifCond .eq 21, 3) := by decide +kernel
theorem dX7_compare_21 : decode cX7_compare 21 = .ok (.iload 4, 2) := by decide +kernel
theorem dX7_compare_23 : decode cX7_compare 23 = .ok (.invokestatic 95, 3) := by decide +kernel
theorem dX7_compare_26 : decode cX7_compare 26 = .ok (.ifCond .eq 13, 3) := by decide +kernel
theorem dX7_compare_29 : decode cX7_compare 29 = .ok (.iload 5, 2) := by decide +kernel
theorem dX7_compare_31 : decode cX7_compare 31 = .ok (.iconst 0, 1) := by decide +kernel
theorem dX7_compare_32 : decode cX7_compare 32 = .ok (.iconst 3, 1) := by decide +kernel
theorem dX7_compare_33 : decode cX7_compare 33 = .ok (.invokestatic 73, 3) := by decide +kernel
theorem dX7_compare_36 : decode cX7_compare 36 = .ok (.ifCond .ne 5, 3) := by decide +kernel
theorem dX7_compare_39 : decode cX7_compare 39 = .ok (.iconst (-1), 1) := by decide +kernel
theorem dX7_compare_40 : decode cX7_compare 40 = .ok (.ireturn, 1) := by decide +kernel
theorem dX7_compare_41 : decode cX7_compare 41 = .ok (.iconst 0, 1) := by decide +kernel
theorem dX7_compare_42 : decode cX7_compare 42 = .ok (.istore 6, 2) := by decide +kernel
theorem dX7_compare_44 : decode cX7_compare 44 = .ok (.iconst 0, 1) := by decide +kernel
theorem dX7_compare_45 : decode cX7_compare 45 = .ok (.istore 7, 2) := by decide +kernel
theorem dX7_compare_47 : decode cX7_compare 47 = .ok (.iload 7, 2) := by decide +kernel
theorem dX7_compare_49 : decode cX7_compare 49 = .ok (.aload_n 0, 1) := by decide +kernel
theorem dX7_compare_50 : decode cX7_compare 50 = .ok (.getfield 77, 3) := by decide +kernel
theorem dX7_compare_53 : decode cX7_compare 53 = .ok (.if_icmp .ge 158, 3) := by decide +kernel
theorem dX7_compare_56 : decode cX7_compare 56 = .ok (.aload_n 0, 1) := by decide +kernel
theorem dX7_compare_57 : decode cX7_compare 57 = .ok (.iload 7, 2) := by decide +kernel
theorem dX7_compare_59 : decode cX7_compare 59 = .ok (.iload_n 2, 1) := by decide +kernel
theorem dX7_compare_60 : decode cX7_compare 60 = .ok (.iload 4, 2) := by decide +kernel
theorem dX7_compare_62 : decode cX7_compare 62 = .ok (.invokevirtual 88, 3) := by decide +kernel
theorem dX7_compare_65 : decode cX7_compare 65 = .ok (.istore 8, 2) := by decide +kernel
theorem dX7_compare_67 : decode cX7_compare 67 = .ok (.aload_n 0, 1) := by decide +kernel
theorem dX7_compare_68 : decode cX7_compare 68 = .ok (.iload 7, 2) := by decide +kernel
theorem dX7_compare_70 : decode cX7_compare 70 = .ok (.iload_n 3, 1) := by decide +kernel
theorem dX7_compare_71 : decode cX7_compare 71 = .ok (.iload 4, 2) := by decide +kernel
theorem dX7_compare_73 : decode cX7_compare 73 = .ok (.invokevirtual 88, 3) := by decide +kernel
theorem dX7_compare_76 : decode cX7_compare 76 = .ok (.istore 9, 2) := by decide +kernel
theorem dX7_compare_78 : decode cX7_compare 78 = .ok (.iload 8, 2) := by decide +kernel
theorem dX7_compare_80 : decode cX7_compare 80 = .ok (.ifCond .eq 41, 3) := by decide +kernel
theorem dX7_compare_83 : decode cX7_compare 83 = .ok (.iload 9, 2) := by decide +kernel
theorem dX7_compare_85 : decode cX7_compare 85 = .ok (.ifCond .eq 36, 3) := by decide +kernel
theorem dX7_compare_88 : decode cX7_compare 88 = .ok (.iload 5, 2) := by decide +kernel
theorem dX7_compare_90 : decode cX7_compare 90 = .ok (.iconst 3, 1) := by decide +kernel
theorem dX7_compare_91 : decode cX7_compare 91 = .ok (.if_icmp .ne 30, 3) := by decide +kernel
theorem dX7_compare_94 : decode cX7_compare 94 = .ok (.aload_n 0, 1) := by decide +kernel
theorem dX7_compare_95 : decode cX7_compare 95 = .ok (.iload 7, 2) := by decide +kernel
theorem dX7_compare_97 : decode cX7_compare 97 = .ok (.iload_n 1, 1) := by decide +kernel
theorem dX7_compare_98 : decode cX7_compare 98 = .ok (.iload_n 2, 1) := by decide +kernel
theorem dX7_compare_99 : decode cX7_compare 99 = .ok (.iload 4, 2) := by decide +kernel
theorem dX7_compare_101 : decode cX7_compare 101 = .ok (.invokevirtual 131, 3) := by decide +kernel
theorem dX7_compare_104 : decode cX7_compare 104 = .ok (.aload_n 0, 1) := by decide +kernel
theorem dX7_compare_105 : decode cX7_compare 105 = .ok (.iload 7, 2) := by decide +kernel
theorem dX7_compare_107 : decode cX7_compare 107 = .ok (.iload_n 1, 1) := by decide +kernel
theorem dX7_compare_108 : decode cX7_compare 108 = .ok (.iload_n 3, 1) := by decide +kernel
theorem dX7_compare_109 : decode cX7_compare 109 = .ok (.iload 4, 2) := by decide +kernel
theorem dX7_compare_111 : decode cX7_compare 111 = .ok (.invokevirtual 131, 3) := by decide +kernel
theorem dX7_compare_114 : decode cX7_compare 114 = .ok (.if_icmp .eq 7, 3) := by decide +kernel
theorem dX7_compare_117 : decode cX7_compare 117 = .ok (.iconst 1, 1) := by decide +kernel
theorem dX7_compare_118 : decode cX7_compare 118 = .ok (.goto 4, 3) := by decide +kernel
theorem dX7_compare_121 : decode cX7_compare 121 = .ok (.iconst 0, 1) := by decide +kernel
theorem dX7_compare_122 : decode cX7_compare 122 = .ok (.istore 10, 2) := by decide +kernel
theorem dX7_compare_124 : decode cX7_compare 124 = .ok (.iload 6, 2) := by decide +kernel
theorem dX7_compare_126 : decode cX7_compare 126 = .ok (.iload 5, 2) := by decide +kernel
theorem dX7_compare_128 : decode cX7_compare 128 = .ok (.ifCond .ne 21, 3) := by decide +kernel
theorem dX7_compare_131 : decode cX7_compare 131 = .ok (.iload 8, 2) := by decide +kernel
theorem dX7_compare_133 : decode cX7_compare 133 = .ok (.ifCond .eq 12, 3) := by decide +kernel
theorem dX7_compare_136 : decode cX7_compare 136 = .ok (.iload 9, 2) := by decide +kernel
theorem dX7_compare_138 : decode cX7_compare 138 = .ok (.ifCond .eq 7, 3) := by decide +kernel
theorem dX7_compare_141 : decode cX7_compare 141 = .ok (.iconst 1, 1) := by decide +kernel
theorem dX7_compare_142 : decode cX7_compare 142 = .ok (.goto 57, 3) := by decide +kernel
theorem dX7_compare_145 : decode cX7_compare 145 = .ok (.iconst 0, 1) := by decide +kernel
theorem dX7_compare_146 : decode cX7_compare 146 = .ok (.goto 53, 3) := by decide +kernel
theorem dX7_compare_149 : decode cX7_compare 149 = .ok (.iload 5, 2) := by decide +kernel
theorem dX7_compare_151 : decode cX7_compare 151 = .ok (.iconst 1, 1) := by decide +kernel
theorem dX7_compare_152 : decode cX7_compare 152 = .ok (.if_icmp .ne 21, 3) := by decide +kernel
theorem dX7_compare_155 : decode cX7_compare 155 = .ok (.iload 9, 2) := by decide +kernel
theorem dX7_compare_157 : decode cX7_compare 157 = .ok (.ifCond .eq 12, 3) := by decide +kernel
theorem dX7_compare_160 : decode cX7_compare 160 = .ok (.iload 8, 2) := by decide +kernel
theorem dX7_compare_162 : decode cX7_compare 162 = .ok (.ifCond .ne 7, 3) := by decide +kernel
theorem dX7_compare_165 : decode cX7_compare 165 = .ok (.iconst 1, 1) := by decide +kernel
theorem dX7_compare_166 : decode cX7_compare 166 = .ok (.goto 33, 3) := by decide +kernel
theorem dX7_compare_169 : decode cX7_compare 169 = .ok (.iconst 0, 1) := by decide +kernel
theorem dX7_compare_170 : decode cX7_compare 170 = .ok (.goto 29, 3) := by decide +kernel
theorem dX7_compare_173 : decode cX7_compare 173 = .ok (.iload 5, 2) := by decide +kernel
theorem dX7_compare_175 : decode cX7_compare 175 = .ok (.iconst 2, 1) := by decide +kernel
theorem dX7_compare_176 : decode cX7_compare 176 = .ok (.if_icmp .ne 21, 3) := by decide +kernel
theorem dX7_compare_179 : decode cX7_compare 179 = .ok (.iload 8, 2) := by decide +kernel
theorem dX7_compare_181 : decode cX7_compare 181 = .ok (.ifCond .eq 12, 3) := by decide +kernel
theorem dX7_compare_184 : decode cX7_compare 184 = .ok (.iload 9, 2) := by decide +kernel
theorem dX7_compare_186 : decode cX7_compare 186 = .ok (.ifCond .ne 7, 3) := by decide +kernel
theorem dX7_compare_189 : decode cX7_compare 189 = .ok (.iconst 1, 1) := by decide +kernel
theorem dX7_compare_190 : decode cX7_compare 190 = .ok (.goto 9, 3) := by decide +kernel
theorem dX7_compare_193 : decode cX7_compare 193 = .ok (.iconst 0, 1) := by decide +kernel
theorem dX7_compare_194 : decode cX7_compare 194 = .ok (.goto 5, 3) := by decide +kernel
theorem dX7_compare_197 : decode cX7_compare 197 = .ok (.iload 10, 2) := by decide +kernel
theorem dX7_compare_199 : decode cX7_compare 199 = .ok (.invokestatic 135, 3) := by decide +kernel
theorem dX7_compare_202 : decode cX7_compare 202 = .ok (.iadd, 1) := by decide +kernel
theorem dX7_compare_203 : decode cX7_compare 203 = .ok (.istore 6, 2) := by decide +kernel
theorem dX7_compare_205 : decode cX7_compare 205 = .ok (.iinc 7 1, 3) := by decide +kernel
theorem dX7_compare_208 : decode cX7_compare 208 = .ok (.goto (-161), 3) := by decide +kernel
theorem dX7_compare_211 : decode cX7_compare 211 = .ok (.iload 6, 2) := by decide +kernel
theorem dX7_compare_213 : decode cX7_compare 213 = .ok (.ireturn, 1) := by decide +kernel
theorem dX7_count_0 : decode cX7_count 0 = .ok (.iload_n 1, 1) := by decide +kernel
theorem dX7_count_1 : decode cX7_count 1 = .ok (.tableswitch 105 0 5 #[39, 44, 49, 54, 59, 64], 39) := by decide +kernel
theorem dX7_count_40 : decode cX7_count 40 = .ok (.aload_n 0, 1) := by decide +kernel
theorem dX7_count_41 : decode cX7_count 41 = .ok (.getfield 81, 3) := by decide +kernel
theorem dX7_count_44 : decode cX7_count 44 = .ok (.ireturn, 1) := by decide +kernel
theorem dX7_count_45 : decode cX7_count 45 = .ok (.aload_n 0, 1) := by decide +kernel
theorem dX7_count_46 : decode cX7_count 46 = .ok (.getfield 77, 3) := by decide +kernel
theorem dX7_count_49 : decode cX7_count 49 = .ok (.ireturn, 1) := by decide +kernel
theorem dX7_count_50 : decode cX7_count 50 = .ok (.aload_n 0, 1) := by decide +kernel
theorem dX7_count_51 : decode cX7_count 51 = .ok (.getfield 142, 3) := by decide +kernel
theorem dX7_count_54 : decode cX7_count 54 = .ok (.ireturn, 1) := by decide +kernel
theorem dX7_count_55 : decode cX7_count 55 = .ok (.aload_n 0, 1) := by decide +kernel
theorem dX7_count_56 : decode cX7_count 56 = .ok (.getfield 122, 3) := by decide +kernel
theorem dX7_count_59 : decode cX7_count 59 = .ok (.ireturn, 1) := by decide +kernel
theorem dX7_count_60 : decode cX7_count 60 = .ok (.aload_n 0, 1) := by decide +kernel
theorem dX7_count_61 : decode cX7_count 61 = .ok (.getfield 128, 3) := by decide +kernel
theorem dX7_count_64 : decode cX7_count 64 = .ok (.ireturn, 1) := by decide +kernel
theorem dX7_count_65 : decode cX7_count 65 = .ok (.iconst 0, 1) := by decide +kernel
theorem dX7_count_66 : decode cX7_count 66 = .ok (.istore_n 2, 1) := by decide +kernel
theorem dX7_count_67 : decode cX7_count 67 = .ok (.iconst 0, 1) := by decide +kernel
theorem dX7_count_68 : decode cX7_count 68 = .ok (.istore_n 3, 1) := by decide +kernel
theorem dX7_count_69 : decode cX7_count 69 = .ok (.iload_n 3, 1) := by decide +kernel
theorem dX7_count_70 : decode cX7_count 70 = .ok (.bipush 40, 2) := by decide +kernel
theorem dX7_count_72 : decode cX7_count 72 = .ok (.if_icmp .ge 32, 3) := by decide +kernel
theorem dX7_count_75 : decode cX7_count 75 = .ok (.iload_n 2, 1) := by decide +kernel
theorem dX7_count_76 : decode cX7_count 76 = .ok (.aload_n 0, 1) := by decide +kernel
theorem dX7_count_77 : decode cX7_count 77 = .ok (.getfield 70, 3) := by decide +kernel
theorem dX7_count_80 : decode cX7_count 80 = .ok (.iload_n 3, 1) := by decide +kernel
theorem dX7_count_81 : decode cX7_count 81 = .ok (.iaload, 1) := by decide +kernel
theorem dX7_count_82 : decode cX7_count 82 = .ok (.sipush 2001, 3) := by decide +kernel
theorem dX7_count_85 : decode cX7_count 85 = .ok (.if_icmp .eq 7, 3) := by decide +kernel
theorem dX7_count_88 : decode cX7_count 88 = .ok (.iconst 1, 1) := by decide +kernel
theorem dX7_count_89 : decode cX7_count 89 = .ok (.goto 4, 3) := by decide +kernel
theorem dX7_count_92 : decode cX7_count 92 = .ok (.iconst 0, 1) := by decide +kernel
theorem dX7_count_93 : decode cX7_count 93 = .ok (.invokestatic 135, 3) := by decide +kernel
theorem dX7_count_96 : decode cX7_count 96 = .ok (.iadd, 1) := by decide +kernel
theorem dX7_count_97 : decode cX7_count 97 = .ok (.istore_n 2, 1) := by decide +kernel
theorem dX7_count_98 : decode cX7_count 98 = .ok (.iinc 3 1, 3) := by decide +kernel
theorem dX7_count_101 : decode cX7_count 101 = .ok (.goto (-32), 3) := by decide +kernel
theorem dX7_count_104 : decode cX7_count 104 = .ok (.iload_n 2, 1) := by decide +kernel
theorem dX7_count_105 : decode cX7_count 105 = .ok (.ireturn, 1) := by decide +kernel
theorem dX7_count_106 : decode cX7_count 106 = .ok (.iconst (-1), 1) := by decide +kernel
theorem dX7_count_107 : decode cX7_count 107 = .ok (.ireturn, 1) := by decide +kernel
theorem dL_law_0 : decode cL_law 0 = .ok (.new 7, 3) := by decide +kernel
theorem dL_law_3 : decode cL_law 3 = .ok (.dup, 1) := by decide +kernel
theorem dL_law_4 : decode cL_law 4 = .ok (.invokespecial 9, 3) := by decide +kernel
theorem dL_law_7 : decode cL_law 7 = .ok (.astore_n 1, 1) := by decide +kernel
theorem dL_law_8 : decode cL_law 8 = .ok (.new 10, 3) := by decide +kernel
theorem dL_law_11 : decode cL_law 11 = .ok (.dup, 1) := by decide +kernel
theorem dL_law_12 : decode cL_law 12 = .ok (.invokespecial 12, 3) := by decide +kernel
theorem dL_law_15 : decode cL_law 15 = .ok (.astore_n 2, 1) := by decide +kernel
theorem dL_law_16 : decode cL_law 16 = .ok (.iconst 0, 1) := by decide +kernel
theorem dL_law_17 : decode cL_law 17 = .ok (.istore_n 3, 1) := by decide +kernel
theorem dL_law_18 : decode cL_law 18 = .ok (.iload_n 3, 1) := by decide +kernel
theorem dL_law_19 : decode cL_law 19 = .ok (.aload_n 0, 1) := by decide +kernel
theorem dL_law_20 : decode cL_law 20 = .ok (.arraylength, 1) := by decide +kernel
theorem dL_law_21 : decode cL_law 21 = .ok (.bipush 7, 2) := by decide +kernel
theorem dL_law_23 : decode cL_law 23 = .ok (.isub, 1) := by decide +kernel
theorem dL_law_24 : decode cL_law 24 = .ok (.if_icmp .gt 851, 3) := by decide +kernel
theorem dL_law_27 : decode cL_law 27 = .ok (.aload_n 0, 1) := by decide +kernel
theorem dL_law_28 : decode cL_law 28 = .ok (.iload_n 3, 1) := by decide +kernel
theorem dL_law_29 : decode cL_law 29 = .ok (.iaload, 1) := by decide +kernel
theorem dL_law_30 : decode cL_law 30 = .ok (.bipush 31, 2) := by decide +kernel
theorem dL_law_32 : decode cL_law 32 = .ok (.iand, 1) := by decide +kernel
theorem dL_law_33 : decode cL_law 33 = .ok (.tableswitch 836 0 17 #[87, 110, 143, 176, 251, 304, 357, 400, 413, 436, 489, 532, 565, 608, 652, 706, 750, 813], 87) := by decide +kernel
theorem dL_law_120 : decode cL_law 120 = .ok (.aload_n 1, 1) := by decide +kernel
theorem dL_law_121 : decode cL_law 121 = .ok (.aload_n 0, 1) := by decide +kernel
theorem dL_law_122 : decode cL_law 122 = .ok (.iload_n 3, 1) := by decide +kernel
theorem dL_law_123 : decode cL_law 123 = .ok (.iconst 1, 1) := by decide +kernel
theorem dL_law_124 : decode cL_law 124 = .ok (.iadd, 1) := by decide +kernel
theorem dL_law_125 : decode cL_law 125 = .ok (.iaload, 1) := by decide +kernel
theorem dL_law_126 : decode cL_law 126 = .ok (.invokevirtual 13, 3) := by decide +kernel
theorem dL_law_129 : decode cL_law 129 = .ok (.aload_n 2, 1) := by decide +kernel
theorem dL_law_130 : decode cL_law 130 = .ok (.aload_n 0, 1) := by decide +kernel
theorem dL_law_131 : decode cL_law 131 = .ok (.iload_n 3, 1) := by decide +kernel
theorem dL_law_132 : decode cL_law 132 = .ok (.iconst 1, 1) := by decide +kernel
theorem dL_law_133 : decode cL_law 133 = .ok (.iadd, 1) := by decide +kernel
theorem dL_law_134 : decode cL_law 134 = .ok (.iaload, 1) := by decide +kernel
theorem dL_law_135 : decode cL_law 135 = .ok (.invokevirtual 17, 3) := by decide +kernel
theorem dL_law_138 : decode cL_law 138 = .ok (.if_icmp .eq 731, 3) := by decide +kernel
theorem dL_law_141 : decode cL_law 141 = .ok (.iconst 0, 1) := by decide +kernel
theorem dL_law_142 : decode cL_law 142 = .ok (.ireturn, 1) := by decide +kernel
theorem dL_law_143 : decode cL_law 143 = .ok (.aload_n 1, 1) := by decide +kernel
theorem dL_law_144 : decode cL_law 144 = .ok (.aload_n 0, 1) := by decide +kernel
theorem dL_law_145 : decode cL_law 145 = .ok (.iload_n 3, 1) := by decide +kernel
theorem dL_law_146 : decode cL_law 146 = .ok (.iconst 1, 1) := by decide +kernel
theorem dL_law_147 : decode cL_law 147 = .ok (.iadd, 1) := by decide +kernel
theorem dL_law_148 : decode cL_law 148 = .ok (.iaload, 1) := by decide +kernel
theorem dL_law_149 : decode cL_law 149 = .ok (.aload_n 0, 1) := by decide +kernel
theorem dL_law_150 : decode cL_law 150 = .ok (.iload_n 3, 1) := by decide +kernel
theorem dL_law_151 : decode cL_law 151 = .ok (.iconst 2, 1) := by decide +kernel
theorem dL_law_152 : decode cL_law 152 = .ok (.iadd, 1) := by decide +kernel
theorem dL_law_153 : decode cL_law 153 = .ok (.iaload, 1) := by decide +kernel
theorem dL_law_154 : decode cL_law 154 = .ok (.invokevirtual 18, 3) := by decide +kernel
theorem dL_law_157 : decode cL_law 157 = .ok (.aload_n 2, 1) := by decide +kernel
theorem dL_law_158 : decode cL_law 158 = .ok (.aload_n 0, 1) := by decide +kernel
theorem dL_law_159 : decode cL_law 159 = .ok (.iload_n 3, 1) := by decide +kernel
theorem dL_law_160 : decode cL_law 160 = .ok (.iconst 1, 1) := by decide +kernel
theorem dL_law_161 : decode cL_law 161 = .ok (.iadd, 1) := by decide +kernel
theorem dL_law_162 : decode cL_law 162 = .ok (.iaload, 1) := by decide +kernel
theorem dL_law_163 : decode cL_law 163 = .ok (.aload_n 0, 1) := by decide +kernel
theorem dL_law_164 : decode cL_law 164 = .ok (.iload_n 3, 1) := by decide +kernel
theorem dL_law_165 : decode cL_law 165 = .ok (.iconst 2, 1) := by decide +kernel
theorem dL_law_166 : decode cL_law 166 = .ok (.iadd, 1) := by decide +kernel
theorem dL_law_167 : decode cL_law 167 = .ok (.iaload, 1) := by decide +kernel
theorem dL_law_168 : decode cL_law 168 = .ok (.invokevirtual 22, 3) := by decide +kernel
theorem dL_law_171 : decode cL_law 171 = .ok (.if_icmp .eq 698, 3) := by decide +kernel
theorem dL_law_174 : decode cL_law 174 = .ok (.iconst 0, 1) := by decide +kernel
theorem dL_law_175 : decode cL_law 175 = .ok (.ireturn, 1) := by decide +kernel
theorem dL_law_176 : decode cL_law 176 = .ok (.aload_n 1, 1) := by decide +kernel
theorem dL_law_177 : decode cL_law 177 = .ok (.aload_n 0, 1) := by decide +kernel
theorem dL_law_178 : decode cL_law 178 = .ok (.iload_n 3, 1) := by decide +kernel
theorem dL_law_179 : decode cL_law 179 = .ok (.iconst 1, 1) := by decide +kernel
theorem dL_law_180 : decode cL_law 180 = .ok (.iadd, 1) := by decide +kernel
theorem dL_law_181 : decode cL_law 181 = .ok (.iaload, 1) := by decide +kernel
theorem dL_law_182 : decode cL_law 182 = .ok (.aload_n 0, 1) := by decide +kernel
theorem dL_law_183 : decode cL_law 183 = .ok (.iload_n 3, 1) := by decide +kernel
theorem dL_law_184 : decode cL_law 184 = .ok (.iconst 2, 1) := by decide +kernel
theorem dL_law_185 : decode cL_law 185 = .ok (.iadd, 1) := by decide +kernel
theorem dL_law_186 : decode cL_law 186 = .ok (.iaload, 1) := by decide +kernel
theorem dL_law_187 : decode cL_law 187 = .ok (.invokevirtual 23, 3) := by decide +kernel
theorem dL_law_190 : decode cL_law 190 = .ok (.aload_n 2, 1) := by decide +kernel
theorem dL_law_191 : decode cL_law 191 = .ok (.aload_n 0, 1) := by decide +kernel
theorem dL_law_192 : decode cL_law 192 = .ok (.iload_n 3, 1) := by decide +kernel
theorem dL_law_193 : decode cL_law 193 = .ok (.iconst 1, 1) := by decide +kernel
theorem dL_law_194 : decode cL_law 194 = .ok (.iadd, 1) := by decide +kernel
theorem dL_law_195 : decode cL_law 195 = .ok (.iaload, 1) := by decide +kernel
theorem dL_law_196 : decode cL_law 196 = .ok (.aload_n 0, 1) := by decide +kernel
theorem dL_law_197 : decode cL_law 197 = .ok (.iload_n 3, 1) := by decide +kernel
theorem dL_law_198 : decode cL_law 198 = .ok (.iconst 2, 1) := by decide +kernel
theorem dL_law_199 : decode cL_law 199 = .ok (.iadd, 1) := by decide +kernel
theorem dL_law_200 : decode cL_law 200 = .ok (.iaload, 1) := by decide +kernel
theorem dL_law_201 : decode cL_law 201 = .ok (.invokevirtual 27, 3) := by decide +kernel
theorem dL_law_204 : decode cL_law 204 = .ok (.if_icmp .eq 665, 3) := by decide +kernel
theorem dL_law_207 : decode cL_law 207 = .ok (.iconst 0, 1) := by decide +kernel
theorem dL_law_208 : decode cL_law 208 = .ok (.ireturn, 1) := by decide +kernel
theorem dL_law_209 : decode cL_law 209 = .ok (.aload_n 1, 1) := by decide +kernel
theorem dL_law_210 : decode cL_law 210 = .ok (.aload_n 0, 1) := by decide +kernel
theorem dL_law_211 : decode cL_law 211 = .ok (.iload_n 3, 1) := by decide +kernel
theorem dL_law_212 : decode cL_law 212 = .ok (.iconst 1, 1) := by decide +kernel
theorem dL_law_213 : decode cL_law 213 = .ok (.iadd, 1) := by decide +kernel
theorem dL_law_214 : decode cL_law 214 = .ok (.iaload, 1) := by decide +kernel
theorem dL_law_215 : decode cL_law 215 = .ok (.aload_n 0, 1) := by decide +kernel
theorem dL_law_216 : decode cL_law 216 = .ok (.iload_n 3, 1) := by decide +kernel
theorem dL_law_217 : decode cL_law 217 = .ok (.iconst 2, 1) := by decide +kernel
theorem dL_law_218 : decode cL_law 218 = .ok (.iadd, 1) := by decide +kernel
theorem dL_law_219 : decode cL_law 219 = .ok (.iaload, 1) := by decide +kernel
theorem dL_law_220 : decode cL_law 220 = .ok (.aload_n 0, 1) := by decide +kernel
theorem dL_law_221 : decode cL_law 221 = .ok (.iload_n 3, 1) := by decide +kernel
theorem dL_law_222 : decode cL_law 222 = .ok (.iconst 3, 1) := by decide +kernel
theorem dL_law_223 : decode cL_law 223 = .ok (.iadd, 1) := by decide +kernel
theorem dL_law_224 : decode cL_law 224 = .ok (.iaload, 1) := by decide +kernel
theorem dL_law_225 : decode cL_law 225 = .ok (.aload_n 0, 1) := by decide +kernel
theorem dL_law_226 : decode cL_law 226 = .ok (.iload_n 3, 1) := by decide +kernel
theorem dL_law_227 : decode cL_law 227 = .ok (.iconst 4, 1) := by decide +kernel
theorem dL_law_228 : decode cL_law 228 = .ok (.iadd, 1) := by decide +kernel
theorem dL_law_229 : decode cL_law 229 = .ok (.iaload, 1) := by decide +kernel
theorem dL_law_230 : decode cL_law 230 = .ok (.aload_n 0, 1) := by decide +kernel
theorem dL_law_231 : decode cL_law 231 = .ok (.iload_n 3, 1) := by decide +kernel
theorem dL_law_232 : decode cL_law 232 = .ok (.iconst 5, 1) := by decide +kernel
theorem dL_law_233 : decode cL_law 233 = .ok (.iadd, 1) := by decide +kernel
theorem dL_law_234 : decode cL_law 234 = .ok (.iaload, 1) := by decide +kernel
theorem dL_law_235 : decode cL_law 235 = .ok (.aload_n 0, 1) := by decide +kernel
theorem dL_law_236 : decode cL_law 236 = .ok (.iload_n 3, 1) := by decide +kernel
theorem dL_law_237 : decode cL_law 237 = .ok (.bipush 6, 2) := by decide +kernel
theorem dL_law_239 : decode cL_law 239 = .ok (.iadd, 1) := by decide +kernel
theorem dL_law_240 : decode cL_law 240 = .ok (.iaload, 1) := by decide +kernel
theorem dL_law_241 : decode cL_law 241 = .ok (.invokevirtual 28, 3) := by decide +kernel
theorem dL_law_244 : decode cL_law 244 = .ok (.aload_n 2, 1) := by decide +kernel
theorem dL_law_245 : decode cL_law 245 = .ok (.aload_n 0, 1) := by decide +kernel
theorem dL_law_246 : decode cL_law 246 = .ok (.iload_n 3, 1) := by decide +kernel
theorem dL_law_247 : decode cL_law 247 = .ok (.iconst 1, 1) := by decide +kernel
theorem dL_law_248 : decode cL_law 248 = .ok (.iadd, 1) := by decide +kernel
theorem dL_law_249 : decode cL_law 249 = .ok (.iaload, 1) := by decide +kernel
theorem dL_law_250 : decode cL_law 250 = .ok (.aload_n 0, 1) := by decide +kernel
theorem dL_law_251 : decode cL_law 251 = .ok (.iload_n 3, 1) := by decide +kernel
theorem dL_law_252 : decode cL_law 252 = .ok (.iconst 2, 1) := by decide +kernel
theorem dL_law_253 : decode cL_law 253 = .ok (.iadd, 1) := by decide +kernel
theorem dL_law_254 : decode cL_law 254 = .ok (.iaload, 1) := by decide +kernel
theorem dL_law_255 : decode cL_law 255 = .ok (.aload_n 0, 1) := by decide +kernel
theorem dL_law_256 : decode cL_law 256 = .ok (.iload_n 3, 1) := by decide +kernel
end
section
theorem dL_law_257 : decode cL_law 257 = .ok (.iconst 3, 1) := by decide +kernel
theorem dL_law_258 : decode cL_law 258 = .ok (.iadd, 1) := by decide +kernel
theorem dL_law_259 : decode cL_law 259 = .ok (.iaload, 1) := by decide +kernel
theorem dL_law_260 : decode cL_law 260 = .ok (.aload_n 0, 1) := by decide +kernel
theorem dL_law_261 : decode cL_law 261 = .ok (.iload_n 3, 1) := by decide +kernel
theorem dL_law_262 : decode cL_law 262 = .ok (.iconst 4, 1) := by decide +kernel
theorem dL_law_263 : decode cL_law 263 = .ok (.iadd, 1) := by decide +kernel
theorem dL_law_264 : decode cL_law 264 = .ok (.iaload, 1) := by decide +kernel
theorem dL_law_265 : decode cL_law 265 = .ok (.aload_n 0, 1) := by decide +kernel
theorem dL_law_266 : decode cL_law 266 = .ok (.iload_n 3, 1) := by decide +kernel
theorem dL_law_267 : decode cL_law 267 = .ok (.iconst 5, 1) := by decide +kernel
theorem dL_law_268 : decode cL_law 268 = .ok (.iadd, 1) := by decide +kernel
theorem dL_law_269 : decode cL_law 269 = .ok (.iaload, 1) := by decide +kernel
theorem dL_law_270 : decode cL_law 270 = .ok (.aload_n 0, 1) := by decide +kernel
theorem dL_law_271 : decode cL_law 271 = .ok (.iload_n 3, 1) := by decide +kernel
theorem dL_law_272 : decode cL_law 272 = .ok (.bipush 6, 2) := by decide +kernel
theorem dL_law_274 : decode cL_law 274 = .ok (.iadd, 1) := by decide +kernel
theorem dL_law_275 : decode cL_law 275 = .ok (.iaload, 1) := by decide +kernel
theorem dL_law_276 : decode cL_law 276 = .ok (.invokevirtual 32, 3) := by decide +kernel
theorem dL_law_279 : decode cL_law 279 = .ok (.if_icmp .eq 590, 3) := by decide +kernel
theorem dL_law_282 : decode cL_law 282 = .ok (.iconst 0, 1) := by decide +kernel
theorem dL_law_283 : decode cL_law 283 = .ok (.ireturn, 1) := by decide +kernel
theorem dL_law_284 : decode cL_law 284 = .ok (.aload_n 1, 1) := by decide +kernel
theorem dL_law_285 : decode cL_law 285 = .ok (.aload_n 0, 1) := by decide +kernel
theorem dL_law_286 : decode cL_law 286 = .ok (.iload_n 3, 1) := by decide +kernel
theorem dL_law_287 : decode cL_law 287 = .ok (.iconst 1, 1) := by decide +kernel
theorem dL_law_288 : decode cL_law 288 = .ok (.iadd, 1) := by decide +kernel
theorem dL_law_289 : decode cL_law 289 = .ok (.iaload, 1) := by decide +kernel
theorem dL_law_290 : decode cL_law 290 = .ok (.aload_n 0, 1) := by decide +kernel
theorem dL_law_291 : decode cL_law 291 = .ok (.iload_n 3, 1) := by decide +kernel
theorem dL_law_292 : decode cL_law 292 = .ok (.iconst 2, 1) := by decide +kernel
theorem dL_law_293 : decode cL_law 293 = .ok (.iadd, 1) := by decide +kernel
theorem dL_law_294 : decode cL_law 294 = .ok (.iaload, 1) := by decide +kernel
theorem dL_law_295 : decode cL_law 295 = .ok (.aload_n 0, 1) := by decide +kernel
theorem dL_law_296 : decode cL_law 296 = .ok (.iload_n 3, 1) := by decide +kernel
theorem dL_law_297 : decode cL_law 297 = .ok (.iconst 3, 1) := by decide +kernel
theorem dL_law_298 : decode cL_law 298 = .ok (.iadd, 1) := by decide +kernel
theorem dL_law_299 : decode cL_law 299 = .ok (.iaload, 1) := by decide +kernel
theorem dL_law_300 : decode cL_law 300 = .ok (.aload_n 0, 1) := by decide +kernel
theorem dL_law_301 : decode cL_law 301 = .ok (.iload_n 3, 1) := by decide +kernel
theorem dL_law_302 : decode cL_law 302 = .ok (.iconst 4, 1) := by decide +kernel
theorem dL_law_303 : decode cL_law 303 = .ok (.iadd, 1) := by decide +kernel
theorem dL_law_304 : decode cL_law 304 = .ok (.iaload, 1) := by decide +kernel
theorem dL_law_305 : decode cL_law 305 = .ok (.invokevirtual 33, 3) := by decide +kernel
theorem dL_law_308 : decode cL_law 308 = .ok (.aload_n 2, 1) := by decide +kernel
theorem dL_law_309 : decode cL_law 309 = .ok (.aload_n 0, 1) := by decide +kernel
theorem dL_law_310 : decode cL_law 310 = .ok (.iload_n 3, 1) := by decide +kernel
theorem dL_law_311 : decode cL_law 311 = .ok (.iconst 1, 1) := by decide +kernel
theorem dL_law_312 : decode cL_law 312 = .ok (.iadd, 1) := by decide +kernel
theorem dL_law_313 : decode cL_law 313 = .ok (.iaload, 1) := by decide +kernel
theorem dL_law_314 : decode cL_law 314 = .ok (.aload_n 0, 1) := by decide +kernel
theorem dL_law_315 : decode cL_law 315 = .ok (.iload_n 3, 1) := by decide +kernel
theorem dL_law_316 : decode cL_law 316 = .ok (.iconst 2, 1) := by decide +kernel
theorem dL_law_317 : decode cL_law 317 = .ok (.iadd, 1) := by decide +kernel
theorem dL_law_318 : decode cL_law 318 = .ok (.iaload, 1) := by decide +kernel
theorem dL_law_319 : decode cL_law 319 = .ok (.aload_n 0, 1) := by decide +kernel
theorem dL_law_320 : decode cL_law 320 = .ok (.iload_n 3, 1) := by decide +kernel
theorem dL_law_321 : decode cL_law 321 = .ok (.iconst 3, 1) := by decide +kernel
theorem dL_law_322 : decode cL_law 322 = .ok (.iadd, 1) := by decide +kernel
theorem dL_law_323 : decode cL_law 323 = .ok (.iaload, 1) := by decide +kernel
theorem dL_law_324 : decode cL_law 324 = .ok (.aload_n 0, 1) := by decide +kernel
theorem dL_law_325 : decode cL_law 325 = .ok (.iload_n 3, 1) := by decide +kernel
theorem dL_law_326 : decode cL_law 326 = .ok (.iconst 4, 1) := by decide +kernel
theorem dL_law_327 : decode cL_law 327 = .ok (.iadd, 1) := by decide +kernel
theorem dL_law_328 : decode cL_law 328 = .ok (.iaload, 1) := by decide +kernel
theorem dL_law_329 : decode cL_law 329 = .ok (.invokevirtual 37, 3) := by decide +kernel
theorem dL_law_332 : decode cL_law 332 = .ok (.if_icmp .eq 537, 3) := by decide +kernel
theorem dL_law_335 : decode cL_law 335 = .ok (.iconst 0, 1) := by decide +kernel
theorem dL_law_336 : decode cL_law 336 = .ok (.ireturn, 1) := by decide +kernel
theorem dL_law_337 : decode cL_law 337 = .ok (.aload_n 1, 1) := by decide +kernel
theorem dL_law_338 : decode cL_law 338 = .ok (.aload_n 0, 1) := by decide +kernel
theorem dL_law_339 : decode cL_law 339 = .ok (.iload_n 3, 1) := by decide +kernel
theorem dL_law_340 : decode cL_law 340 = .ok (.iconst 1, 1) := by decide +kernel
theorem dL_law_341 : decode cL_law 341 = .ok (.iadd, 1) := by decide +kernel
theorem dL_law_342 : decode cL_law 342 = .ok (.iaload, 1) := by decide +kernel
theorem dL_law_343 : decode cL_law 343 = .ok (.aload_n 0, 1) := by decide +kernel
theorem dL_law_344 : decode cL_law 344 = .ok (.iload_n 3, 1) := by decide +kernel
theorem dL_law_345 : decode cL_law 345 = .ok (.iconst 2, 1) := by decide +kernel
theorem dL_law_346 : decode cL_law 346 = .ok (.iadd, 1) := by decide +kernel
theorem dL_law_347 : decode cL_law 347 = .ok (.iaload, 1) := by decide +kernel
theorem dL_law_348 : decode cL_law 348 = .ok (.aload_n 0, 1) := by decide +kernel
theorem dL_law_349 : decode cL_law 349 = .ok (.iload_n 3, 1) := by decide +kernel
theorem dL_law_350 : decode cL_law 350 = .ok (.iconst 3, 1) := by decide +kernel
theorem dL_law_351 : decode cL_law 351 = .ok (.iadd, 1) := by decide +kernel
theorem dL_law_352 : decode cL_law 352 = .ok (.iaload, 1) := by decide +kernel
theorem dL_law_353 : decode cL_law 353 = .ok (.aload_n 0, 1) := by decide +kernel
theorem dL_law_354 : decode cL_law 354 = .ok (.iload_n 3, 1) := by decide +kernel
theorem dL_law_355 : decode cL_law 355 = .ok (.iconst 4, 1) := by decide +kernel
theorem dL_law_356 : decode cL_law 356 = .ok (.iadd, 1) := by decide +kernel
theorem dL_law_357 : decode cL_law 357 = .ok (.iaload, 1) := by decide +kernel
theorem dL_law_358 : decode cL_law 358 = .ok (.invokevirtual 38, 3) := by decide +kernel
theorem dL_law_361 : decode cL_law 361 = .ok (.aload_n 2, 1) := by decide +kernel
theorem dL_law_362 : decode cL_law 362 = .ok (.aload_n 0, 1) := by decide +kernel
theorem dL_law_363 : decode cL_law 363 = .ok (.iload_n 3, 1) := by decide +kernel
theorem dL_law_364 : decode cL_law 364 = .ok (.iconst 1, 1) := by decide +kernel
theorem dL_law_365 : decode cL_law 365 = .ok (.iadd, 1) := by decide +kernel
theorem dL_law_366 : decode cL_law 366 = .ok (.iaload, 1) := by decide +kernel
theorem dL_law_367 : decode cL_law 367 = .ok (.aload_n 0, 1) := by decide +kernel
theorem dL_law_368 : decode cL_law 368 = .ok (.iload_n 3, 1) := by decide +kernel
theorem dL_law_369 : decode cL_law 369 = .ok (.iconst 2, 1) := by decide +kernel
theorem dL_law_370 : decode cL_law 370 = .ok (.iadd, 1) := by decide +kernel
theorem dL_law_371 : decode cL_law 371 = .ok (.iaload, 1) := by decide +kernel
theorem dL_law_372 : decode cL_law 372 = .ok (.aload_n 0, 1) := by decide +kernel
theorem dL_law_373 : decode cL_law 373 = .ok (.iload_n 3, 1) := by decide +kernel
theorem dL_law_374 : decode cL_law 374 = .ok (.iconst 3, 1) := by decide +kernel
theorem dL_law_375 : decode cL_law 375 = .ok (.iadd, 1) := by decide +kernel
theorem dL_law_376 : decode cL_law 376 = .ok (.iaload, 1) := by decide +kernel
theorem dL_law_377 : decode cL_law 377 = .ok (.aload_n 0, 1) := by decide +kernel
theorem dL_law_378 : decode cL_law 378 = .ok (.iload_n 3, 1) := by decide +kernel
theorem dL_law_379 : decode cL_law 379 = .ok (.iconst 4, 1) := by decide +kernel
theorem dL_law_380 : decode cL_law 380 = .ok (.iadd, 1) := by decide +kernel
theorem dL_law_381 : decode cL_law 381 = .ok (.iaload, 1) := by decide +kernel
theorem dL_law_382 : decode cL_law 382 = .ok (.invokevirtual 42, 3) := by decide +kernel
theorem dL_law_385 : decode cL_law 385 = .ok (.if_icmp .eq 484, 3) := by decide +kernel
theorem dL_law_388 : decode cL_law 388 = .ok (.iconst 0, 1) := by decide +kernel
theorem dL_law_389 : decode cL_law 389 = .ok (.ireturn, 1) := by decide +kernel
theorem dL_law_390 : decode cL_law 390 = .ok (.aload_n 1, 1) := by decide +kernel
theorem dL_law_391 : decode cL_law 391 = .ok (.aload_n 0, 1) := by decide +kernel
theorem dL_law_392 : decode cL_law 392 = .ok (.iload_n 3, 1) := by decide +kernel
theorem dL_law_393 : decode cL_law 393 = .ok (.iconst 1, 1) := by decide +kernel
theorem dL_law_394 : decode cL_law 394 = .ok (.iadd, 1) := by decide +kernel
theorem dL_law_395 : decode cL_law 395 = .ok (.iaload, 1) := by decide +kernel
theorem dL_law_396 : decode cL_law 396 = .ok (.aload_n 0, 1) := by decide +kernel
theorem dL_law_397 : decode cL_law 397 = .ok (.iload_n 3, 1) := by decide +kernel
theorem dL_law_398 : decode cL_law 398 = .ok (.iconst 2, 1) := by decide +kernel
theorem dL_law_399 : decode cL_law 399 = .ok (.iadd, 1) := by decide +kernel
theorem dL_law_400 : decode cL_law 400 = .ok (.iaload, 1) := by decide +kernel
theorem dL_law_401 : decode cL_law 401 = .ok (.aload_n 0, 1) := by decide +kernel
theorem dL_law_402 : decode cL_law 402 = .ok (.iload_n 3, 1) := by decide +kernel
theorem dL_law_403 : decode cL_law 403 = .ok (.iconst 3, 1) := by decide +kernel
theorem dL_law_404 : decode cL_law 404 = .ok (.iadd, 1) := by decide +kernel
theorem dL_law_405 : decode cL_law 405 = .ok (.iaload, 1) := by decide +kernel
theorem dL_law_406 : decode cL_law 406 = .ok (.invokevirtual 43, 3) := by decide +kernel
theorem dL_law_409 : decode cL_law 409 = .ok (.aload_n 2, 1) := by decide +kernel
theorem dL_law_410 : decode cL_law 410 = .ok (.aload_n 0, 1) := by decide +kernel
theorem dL_law_411 : decode cL_law 411 = .ok (.iload_n 3, 1) := by decide +kernel
theorem dL_law_412 : decode cL_law 412 = .ok (.iconst 1, 1) := by decide +kernel
theorem dL_law_413 : decode cL_law 413 = .ok (.iadd, 1) := by decide +kernel
theorem dL_law_414 : decode cL_law 414 = .ok (.iaload, 1) := by decide +kernel
theorem dL_law_415 : decode cL_law 415 = .ok (.aload_n 0, 1) := by decide +kernel
theorem dL_law_416 : decode cL_law 416 = .ok (.iload_n 3, 1) := by decide +kernel
theorem dL_law_417 : decode cL_law 417 = .ok (.iconst 2, 1) := by decide +kernel
theorem dL_law_418 : decode cL_law 418 = .ok (.iadd, 1) := by decide +kernel
theorem dL_law_419 : decode cL_law 419 = .ok (.iaload, 1) := by decide +kernel
theorem dL_law_420 : decode cL_law 420 = .ok (.aload_n 0, 1) := by decide +kernel
theorem dL_law_421 : decode cL_law 421 = .ok (.iload_n 3, 1) := by decide +kernel
theorem dL_law_422 : decode cL_law 422 = .ok (.iconst 3, 1) := by decide +kernel
theorem dL_law_423 : decode cL_law 423 = .ok (.iadd, 1) := by decide +kernel
theorem dL_law_424 : decode cL_law 424 = .ok (.iaload, 1) := by decide +kernel
theorem dL_law_425 : decode cL_law 425 = .ok (.invokevirtual 47, 3) := by decide +kernel
theorem dL_law_428 : decode cL_law 428 = .ok (.if_icmp .eq 441, 3) := by decide +kernel
theorem dL_law_431 : decode cL_law 431 = .ok (.iconst 0, 1) := by decide +kernel
theorem dL_law_432 : decode cL_law 432 = .ok (.ireturn, 1) := by decide +kernel
theorem dL_law_433 : decode cL_law 433 = .ok (.aload_n 1, 1) := by decide +kernel
theorem dL_law_434 : decode cL_law 434 = .ok (.invokevirtual 48, 3) := by decide +kernel
theorem dL_law_437 : decode cL_law 437 = .ok (.aload_n 2, 1) := by decide +kernel
theorem dL_law_438 : decode cL_law 438 = .ok (.invokevirtual 52, 3) := by decide +kernel
theorem dL_law_441 : decode cL_law 441 = .ok (.if_icmp .eq 428, 3) := by decide +kernel
theorem dL_law_444 : decode cL_law 444 = .ok (.iconst 0, 1) := by decide +kernel
theorem dL_law_445 : decode cL_law 445 = .ok (.ireturn, 1) := by decide +kernel
theorem dL_law_446 : decode cL_law 446 = .ok (.aload_n 1, 1) := by decide +kernel
theorem dL_law_447 : decode cL_law 447 = .ok (.aload_n 0, 1) := by decide +kernel
theorem dL_law_448 : decode cL_law 448 = .ok (.iload_n 3, 1) := by decide +kernel
theorem dL_law_449 : decode cL_law 449 = .ok (.iconst 1, 1) := by decide +kernel
theorem dL_law_450 : decode cL_law 450 = .ok (.iadd, 1) := by decide +kernel
theorem dL_law_451 : decode cL_law 451 = .ok (.iaload, 1) := by decide +kernel
theorem dL_law_452 : decode cL_law 452 = .ok (.invokevirtual 53, 3) := by decide +kernel
theorem dL_law_455 : decode cL_law 455 = .ok (.aload_n 2, 1) := by decide +kernel
theorem dL_law_456 : decode cL_law 456 = .ok (.aload_n 0, 1) := by decide +kernel
theorem dL_law_457 : decode cL_law 457 = .ok (.iload_n 3, 1) := by decide +kernel
theorem dL_law_458 : decode cL_law 458 = .ok (.iconst 1, 1) := by decide +kernel
theorem dL_law_459 : decode cL_law 459 = .ok (.iadd, 1) := by decide +kernel
theorem dL_law_460 : decode cL_law 460 = .ok (.iaload, 1) := by decide +kernel
theorem dL_law_461 : decode cL_law 461 = .ok (.invokevirtual 57, 3) := by decide +kernel
theorem dL_law_464 : decode cL_law 464 = .ok (.if_icmp .eq 405, 3) := by decide +kernel
theorem dL_law_467 : decode cL_law 467 = .ok (.iconst 0, 1) := by decide +kernel
theorem dL_law_468 : decode cL_law 468 = .ok (.ireturn, 1) := by decide +kernel
theorem dL_law_469 : decode cL_law 469 = .ok (.aload_n 1, 1) := by decide +kernel
theorem dL_law_470 : decode cL_law 470 = .ok (.aload_n 0, 1) := by decide +kernel
theorem dL_law_471 : decode cL_law 471 = .ok (.iload_n 3, 1) := by decide +kernel
theorem dL_law_472 : decode cL_law 472 = .ok (.iconst 1, 1) := by decide +kernel
theorem dL_law_473 : decode cL_law 473 = .ok (.iadd, 1) := by decide +kernel
theorem dL_law_474 : decode cL_law 474 = .ok (.iaload, 1) := by decide +kernel
theorem dL_law_475 : decode cL_law 475 = .ok (.aload_n 0, 1) := by decide +kernel
theorem dL_law_476 : decode cL_law 476 = .ok (.iload_n 3, 1) := by decide +kernel
theorem dL_law_477 : decode cL_law 477 = .ok (.iconst 2, 1) := by decide +kernel
theorem dL_law_478 : decode cL_law 478 = .ok (.iadd, 1) := by decide +kernel
theorem dL_law_479 : decode cL_law 479 = .ok (.iaload, 1) := by decide +kernel
theorem dL_law_480 : decode cL_law 480 = .ok (.aload_n 0, 1) := by decide +kernel
theorem dL_law_481 : decode cL_law 481 = .ok (.iload_n 3, 1) := by decide +kernel
theorem dL_law_482 : decode cL_law 482 = .ok (.iconst 3, 1) := by decide +kernel
theorem dL_law_483 : decode cL_law 483 = .ok (.iadd, 1) := by decide +kernel
theorem dL_law_484 : decode cL_law 484 = .ok (.iaload, 1) := by decide +kernel
theorem dL_law_485 : decode cL_law 485 = .ok (.aload_n 0, 1) := by decide +kernel
theorem dL_law_486 : decode cL_law 486 = .ok (.iload_n 3, 1) := by decide +kernel
theorem dL_law_487 : decode cL_law 487 = .ok (.iconst 4, 1) := by decide +kernel
theorem dL_law_488 : decode cL_law 488 = .ok (.iadd, 1) := by decide +kernel
theorem dL_law_489 : decode cL_law 489 = .ok (.iaload, 1) := by decide +kernel
theorem dL_law_490 : decode cL_law 490 = .ok (.invokevirtual 58, 3) := by decide +kernel
theorem dL_law_493 : decode cL_law 493 = .ok (.aload_n 2, 1) := by decide +kernel
theorem dL_law_494 : decode cL_law 494 = .ok (.aload_n 0, 1) := by decide +kernel
theorem dL_law_495 : decode cL_law 495 = .ok (.iload_n 3, 1) := by decide +kernel
theorem dL_law_496 : decode cL_law 496 = .ok (.iconst 1, 1) := by decide +kernel
theorem dL_law_497 : decode cL_law 497 = .ok (.iadd, 1) := by decide +kernel
theorem dL_law_498 : decode cL_law 498 = .ok (.iaload, 1) := by decide +kernel
theorem dL_law_499 : decode cL_law 499 = .ok (.aload_n 0, 1) := by decide +kernel
theorem dL_law_500 : decode cL_law 500 = .ok (.iload_n 3, 1) := by decide +kernel
theorem dL_law_501 : decode cL_law 501 = .ok (.iconst 2, 1) := by decide +kernel
theorem dL_law_502 : decode cL_law 502 = .ok (.iadd, 1) := by decide +kernel
theorem dL_law_503 : decode cL_law 503 = .ok (.iaload, 1) := by decide +kernel
theorem dL_law_504 : decode cL_law 504 = .ok (.aload_n 0, 1) := by decide +kernel
theorem dL_law_505 : decode cL_law 505 = .ok (.iload_n 3, 1) := by decide +kernel
theorem dL_law_506 : decode cL_law 506 = .ok (.iconst 3, 1) := by decide +kernel
theorem dL_law_507 : decode cL_law 507 = .ok (.iadd, 1) := by decide +kernel
theorem dL_law_508 : decode cL_law 508 = .ok (.iaload, 1) := by decide +kernel
theorem dL_law_509 : decode cL_law 509 = .ok (.aload_n 0, 1) := by decide +kernel
theorem dL_law_510 : decode cL_law 510 = .ok (.iload_n 3, 1) := by decide +kernel
theorem dL_law_511 : decode cL_law 511 = .ok (.iconst 4, 1) := by decide +kernel
theorem dL_law_512 : decode cL_law 512 = .ok (.iadd, 1) := by decide +kernel
theorem dL_law_513 : decode cL_law 513 = .ok (.iaload, 1) := by decide +kernel
theorem dL_law_514 : decode cL_law 514 = .ok (.invokevirtual 61, 3) := by decide +kernel
theorem dL_law_517 : decode cL_law 517 = .ok (.if_icmp .eq 352, 3) := by decide +kernel
theorem dL_law_520 : decode cL_law 520 = .ok (.iconst 0, 1) := by decide +kernel
theorem dL_law_521 : decode cL_law 521 = .ok (.ireturn, 1) := by decide +kernel
theorem dL_law_522 : decode cL_law 522 = .ok (.aload_n 1, 1) := by decide +kernel
theorem dL_law_523 : decode cL_law 523 = .ok (.aload_n 0, 1) := by decide +kernel
theorem dL_law_524 : decode cL_law 524 = .ok (.iload_n 3, 1) := by decide +kernel
theorem dL_law_525 : decode cL_law 525 = .ok (.iconst 1, 1) := by decide +kernel
theorem dL_law_526 : decode cL_law 526 = .ok (.iadd, 1) := by decide +kernel
theorem dL_law_527 : decode cL_law 527 = .ok (.iaload, 1) := by decide +kernel
theorem dL_law_528 : decode cL_law 528 = .ok (.aload_n 0, 1) := by decide +kernel
theorem dL_law_529 : decode cL_law 529 = .ok (.iload_n 3, 1) := by decide +kernel
theorem dL_law_530 : decode cL_law 530 = .ok (.iconst 2, 1) := by decide +kernel
theorem dL_law_531 : decode cL_law 531 = .ok (.iadd, 1) := by decide +kernel
theorem dL_law_532 : decode cL_law 532 = .ok (.iaload, 1) := by decide +kernel
theorem dL_law_533 : decode cL_law 533 = .ok (.aload_n 0, 1) := by decide +kernel
theorem dL_law_534 : decode cL_law 534 = .ok (.iload_n 3, 1) := by decide +kernel
theorem dL_law_535 : decode cL_law 535 = .ok (.iconst 3, 1) := by decide +kernel
theorem dL_law_536 : decode cL_law 536 = .ok (.iadd, 1) := by decide +kernel
theorem dL_law_537 : decode cL_law 537 = .ok (.iaload, 1) := by decide +kernel
theorem dL_law_538 : decode cL_law 538 = .ok (.invokevirtual 62, 3) := by decide +kernel
theorem dL_law_541 : decode cL_law 541 = .ok (.aload_n 2, 1) := by decide +kernel
theorem dL_law_542 : decode cL_law 542 = .ok (.aload_n 0, 1) := by decide +kernel
theorem dL_law_543 : decode cL_law 543 = .ok (.iload_n 3, 1) := by decide +kernel
theorem dL_law_544 : decode cL_law 544 = .ok (.iconst 1, 1) := by decide +kernel
theorem dL_law_545 : decode cL_law 545 = .ok (.iadd, 1) := by decide +kernel
theorem dL_law_546 : decode cL_law 546 = .ok (.iaload, 1) := by decide +kernel
theorem dL_law_547 : decode cL_law 547 = .ok (.aload_n 0, 1) := by decide +kernel
theorem dL_law_548 : decode cL_law 548 = .ok (.iload_n 3, 1) := by decide +kernel
theorem dL_law_549 : decode cL_law 549 = .ok (.iconst 2, 1) := by decide +kernel
theorem dL_law_550 : decode cL_law 550 = .ok (.iadd, 1) := by decide +kernel
theorem dL_law_551 : decode cL_law 551 = .ok (.iaload, 1) := by decide +kernel
theorem dL_law_552 : decode cL_law 552 = .ok (.aload_n 0, 1) := by decide +kernel
theorem dL_law_553 : decode cL_law 553 = .ok (.iload_n 3, 1) := by decide +kernel
theorem dL_law_554 : decode cL_law 554 = .ok (.iconst 3, 1) := by decide +kernel
theorem dL_law_555 : decode cL_law 555 = .ok (.iadd, 1) := by decide +kernel
theorem dL_law_556 : decode cL_law 556 = .ok (.iaload, 1) := by decide +kernel
theorem dL_law_557 : decode cL_law 557 = .ok (.invokevirtual 65, 3) := by decide +kernel
theorem dL_law_560 : decode cL_law 560 = .ok (.if_icmp .eq 309, 3) := by decide +kernel
theorem dL_law_563 : decode cL_law 563 = .ok (.iconst 0, 1) := by decide +kernel
theorem dL_law_564 : decode cL_law 564 = .ok (.ireturn, 1) := by decide +kernel
theorem dL_law_565 : decode cL_law 565 = .ok (.aload_n 1, 1) := by decide +kernel
theorem dL_law_566 : decode cL_law 566 = .ok (.aload_n 0, 1) := by decide +kernel
theorem dL_law_567 : decode cL_law 567 = .ok (.iload_n 3, 1) := by decide +kernel
theorem dL_law_568 : decode cL_law 568 = .ok (.iconst 1, 1) := by decide +kernel
theorem dL_law_569 : decode cL_law 569 = .ok (.iadd, 1) := by decide +kernel
theorem dL_law_570 : decode cL_law 570 = .ok (.iaload, 1) := by decide +kernel
theorem dL_law_571 : decode cL_law 571 = .ok (.aload_n 0, 1) := by decide +kernel
theorem dL_law_572 : decode cL_law 572 = .ok (.iload_n 3, 1) := by decide +kernel
theorem dL_law_573 : decode cL_law 573 = .ok (.iconst 2, 1) := by decide +kernel
theorem dL_law_574 : decode cL_law 574 = .ok (.iadd, 1) := by decide +kernel
theorem dL_law_575 : decode cL_law 575 = .ok (.iaload, 1) := by decide +kernel
theorem dL_law_576 : decode cL_law 576 = .ok (.invokevirtual 66, 3) := by decide +kernel
theorem dL_law_579 : decode cL_law 579 = .ok (.aload_n 2, 1) := by decide +kernel
theorem dL_law_580 : decode cL_law 580 = .ok (.aload_n 0, 1) := by decide +kernel
theorem dL_law_581 : decode cL_law 581 = .ok (.iload_n 3, 1) := by decide +kernel
theorem dL_law_582 : decode cL_law 582 = .ok (.iconst 1, 1) := by decide +kernel
theorem dL_law_583 : decode cL_law 583 = .ok (.iadd, 1) := by decide +kernel
theorem dL_law_584 : decode cL_law 584 = .ok (.iaload, 1) := by decide +kernel
theorem dL_law_585 : decode cL_law 585 = .ok (.aload_n 0, 1) := by decide +kernel
theorem dL_law_586 : decode cL_law 586 = .ok (.iload_n 3, 1) := by decide +kernel
theorem dL_law_587 : decode cL_law 587 = .ok (.iconst 2, 1) := by decide +kernel
theorem dL_law_588 : decode cL_law 588 = .ok (.iadd, 1) := by decide +kernel
theorem dL_law_589 : decode cL_law 589 = .ok (.iaload, 1) := by decide +kernel
theorem dL_law_590 : decode cL_law 590 = .ok (.invokevirtual 69, 3) := by decide +kernel
theorem dL_law_593 : decode cL_law 593 = .ok (.if_icmp .eq 276, 3) := by decide +kernel
theorem dL_law_596 : decode cL_law 596 = .ok (.iconst 0, 1) := by decide +kernel
theorem dL_law_597 : decode cL_law 597 = .ok (.ireturn, 1) := by decide +kernel
theorem dL_law_598 : decode cL_law 598 = .ok (.aload_n 1, 1) := by decide +kernel
theorem dL_law_599 : decode cL_law 599 = .ok (.aload_n 0, 1) := by decide +kernel
theorem dL_law_600 : decode cL_law 600 = .ok (.iload_n 3, 1) := by decide +kernel
theorem dL_law_601 : decode cL_law 601 = .ok (.iconst 1, 1) := by decide +kernel
theorem dL_law_602 : decode cL_law 602 = .ok (.iadd, 1) := by decide +kernel
theorem dL_law_603 : decode cL_law 603 = .ok (.iaload, 1) := by decide +kernel
theorem dL_law_604 : decode cL_law 604 = .ok (.aload_n 0, 1) := by decide +kernel
theorem dL_law_605 : decode cL_law 605 = .ok (.iload_n 3, 1) := by decide +kernel
theorem dL_law_606 : decode cL_law 606 = .ok (.iconst 2, 1) := by decide +kernel
theorem dL_law_607 : decode cL_law 607 = .ok (.iadd, 1) := by decide +kernel
theorem dL_law_608 : decode cL_law 608 = .ok (.iaload, 1) := by decide +kernel
theorem dL_law_609 : decode cL_law 609 = .ok (.aload_n 0, 1) := by decide +kernel
theorem dL_law_610 : decode cL_law 610 = .ok (.iload_n 3, 1) := by decide +kernel
theorem dL_law_611 : decode cL_law 611 = .ok (.iconst 3, 1) := by decide +kernel
theorem dL_law_612 : decode cL_law 612 = .ok (.iadd, 1) := by decide +kernel
theorem dL_law_613 : decode cL_law 613 = .ok (.iaload, 1) := by decide +kernel
theorem dL_law_614 : decode cL_law 614 = .ok (.invokevirtual 70, 3) := by decide +kernel
theorem dL_law_617 : decode cL_law 617 = .ok (.aload_n 2, 1) := by decide +kernel
theorem dL_law_618 : decode cL_law 618 = .ok (.aload_n 0, 1) := by decide +kernel
theorem dL_law_619 : decode cL_law 619 = .ok (.iload_n 3, 1) := by decide +kernel
theorem dL_law_620 : decode cL_law 620 = .ok (.iconst 1, 1) := by decide +kernel
theorem dL_law_621 : decode cL_law 621 = .ok (.iadd, 1) := by decide +kernel
theorem dL_law_622 : decode cL_law 622 = .ok (.iaload, 1) := by decide +kernel
theorem dL_law_623 : decode cL_law 623 = .ok (.aload_n 0, 1) := by decide +kernel
theorem dL_law_624 : decode cL_law 624 = .ok (.iload_n 3, 1) := by decide +kernel
theorem dL_law_625 : decode cL_law 625 = .ok (.iconst 2, 1) := by decide +kernel
theorem dL_law_626 : decode cL_law 626 = .ok (.iadd, 1) := by decide +kernel
theorem dL_law_627 : decode cL_law 627 = .ok (.iaload, 1) := by decide +kernel
theorem dL_law_628 : decode cL_law 628 = .ok (.aload_n 0, 1) := by decide +kernel
theorem dL_law_629 : decode cL_law 629 = .ok (.iload_n 3, 1) := by decide +kernel
theorem dL_law_630 : decode cL_law 630 = .ok (.iconst 3, 1) := by decide +kernel
theorem dL_law_631 : decode cL_law 631 = .ok (.iadd, 1) := by decide +kernel
theorem dL_law_632 : decode cL_law 632 = .ok (.iaload, 1) := by decide +kernel
theorem dL_law_633 : decode cL_law 633 = .ok (.invokevirtual 73, 3) := by decide +kernel
theorem dL_law_636 : decode cL_law 636 = .ok (.if_icmp .eq 233, 3) := by decide +kernel
theorem dL_law_639 : decode cL_law 639 = .ok (.iconst 0, 1) := by decide +kernel
theorem dL_law_640 : decode cL_law 640 = .ok (.ireturn, 1) := by decide +kernel
theorem dL_law_641 : decode cL_law 641 = .ok (.aload_n 1, 1) := by decide +kernel
theorem dL_law_642 : decode cL_law 642 = .ok (.aload_n 0, 1) := by decide +kernel
theorem dL_law_643 : decode cL_law 643 = .ok (.iload_n 3, 1) := by decide +kernel
theorem dL_law_644 : decode cL_law 644 = .ok (.iconst 1, 1) := by decide +kernel
theorem dL_law_645 : decode cL_law 645 = .ok (.iadd, 1) := by decide +kernel
theorem dL_law_646 : decode cL_law 646 = .ok (.iaload, 1) := by decide +kernel
theorem dL_law_647 : decode cL_law 647 = .ok (.aload_n 0, 1) := by decide +kernel
theorem dL_law_648 : decode cL_law 648 = .ok (.iload_n 3, 1) := by decide +kernel
theorem dL_law_649 : decode cL_law 649 = .ok (.iconst 2, 1) := by decide +kernel
theorem dL_law_650 : decode cL_law 650 = .ok (.iadd, 1) := by decide +kernel
theorem dL_law_651 : decode cL_law 651 = .ok (.iaload, 1) := by decide +kernel
theorem dL_law_652 : decode cL_law 652 = .ok (.aload_n 0, 1) := by decide +kernel
theorem dL_law_653 : decode cL_law 653 = .ok (.iload_n 3, 1) := by decide +kernel
theorem dL_law_654 : decode cL_law 654 = .ok (.iconst 3, 1) := by decide +kernel
theorem dL_law_655 : decode cL_law 655 = .ok (.iadd, 1) := by decide +kernel
theorem dL_law_656 : decode cL_law 656 = .ok (.iaload, 1) := by decide +kernel
theorem dL_law_657 : decode cL_law 657 = .ok (.invokevirtual 74, 3) := by decide +kernel
theorem dL_law_660 : decode cL_law 660 = .ok (.aload_n 2, 1) := by decide +kernel
theorem dL_law_661 : decode cL_law 661 = .ok (.aload_n 0, 1) := by decide +kernel
theorem dL_law_662 : decode cL_law 662 = .ok (.iload_n 3, 1) := by decide +kernel
theorem dL_law_663 : decode cL_law 663 = .ok (.iconst 1, 1) := by decide +kernel
theorem dL_law_664 : decode cL_law 664 = .ok (.iadd, 1) := by decide +kernel
theorem dL_law_665 : decode cL_law 665 = .ok (.iaload, 1) := by decide +kernel
theorem dL_law_666 : decode cL_law 666 = .ok (.aload_n 0, 1) := by decide +kernel
theorem dL_law_667 : decode cL_law 667 = .ok (.iload_n 3, 1) := by decide +kernel
theorem dL_law_668 : decode cL_law 668 = .ok (.iconst 2, 1) := by decide +kernel
theorem dL_law_669 : decode cL_law 669 = .ok (.iadd, 1) := by decide +kernel
theorem dL_law_670 : decode cL_law 670 = .ok (.iaload, 1) := by decide +kernel
theorem dL_law_671 : decode cL_law 671 = .ok (.aload_n 0, 1) := by decide +kernel
theorem dL_law_672 : decode cL_law 672 = .ok (.iload_n 3, 1) := by decide +kernel
theorem dL_law_673 : decode cL_law 673 = .ok (.iconst 3, 1) := by decide +kernel
theorem dL_law_674 : decode cL_law 674 = .ok (.iadd, 1) := by decide +kernel
theorem dL_law_675 : decode cL_law 675 = .ok (.iaload, 1) := by decide +kernel
theorem dL_law_676 : decode cL_law 676 = .ok (.invokevirtual 78, 3) := by decide +kernel
theorem dL_law_679 : decode cL_law 679 = .ok (.lcmp, 1) := by decide +kernel
theorem dL_law_680 : decode cL_law 680 = .ok (.ifCond .eq 189, 3) := by decide +kernel
theorem dL_law_683 : decode cL_law 683 = .ok (.iconst 0, 1) := by decide +kernel
theorem dL_law_684 : decode cL_law 684 = .ok (.ireturn, 1) := by decide +kernel
theorem dL_law_685 : decode cL_law 685 = .ok (.aload_n 1, 1) := by decide +kernel
theorem dL_law_686 : decode cL_law 686 = .ok (.aload_n 0, 1) := by decide +kernel
theorem dL_law_687 : decode cL_law 687 = .ok (.iload_n 3, 1) := by decide +kernel
theorem dL_law_688 : decode cL_law 688 = .ok (.iconst 1, 1) := by decide +kernel
theorem dL_law_689 : decode cL_law 689 = .ok (.iadd, 1) := by decide +kernel
theorem dL_law_690 : decode cL_law 690 = .ok (.iaload, 1) := by decide +kernel
theorem dL_law_691 : decode cL_law 691 = .ok (.aload_n 0, 1) := by decide +kernel
theorem dL_law_692 : decode cL_law 692 = .ok (.iload_n 3, 1) := by decide +kernel
theorem dL_law_693 : decode cL_law 693 = .ok (.iconst 2, 1) := by decide +kernel
theorem dL_law_694 : decode cL_law 694 = .ok (.iadd, 1) := by decide +kernel
theorem dL_law_695 : decode cL_law 695 = .ok (.iaload, 1) := by decide +kernel
theorem dL_law_696 : decode cL_law 696 = .ok (.aload_n 0, 1) := by decide +kernel
theorem dL_law_697 : decode cL_law 697 = .ok (.iload_n 3, 1) := by decide +kernel
theorem dL_law_698 : decode cL_law 698 = .ok (.iconst 3, 1) := by decide +kernel
theorem dL_law_699 : decode cL_law 699 = .ok (.iadd, 1) := by decide +kernel
theorem dL_law_700 : decode cL_law 700 = .ok (.iaload, 1) := by decide +kernel
theorem dL_law_701 : decode cL_law 701 = .ok (.aload_n 0, 1) := by decide +kernel
theorem dL_law_702 : decode cL_law 702 = .ok (.iload_n 3, 1) := by decide +kernel
theorem dL_law_703 : decode cL_law 703 = .ok (.iconst 4, 1) := by decide +kernel
theorem dL_law_704 : decode cL_law 704 = .ok (.iadd, 1) := by decide +kernel
theorem dL_law_705 : decode cL_law 705 = .ok (.iaload, 1) := by decide +kernel
theorem dL_law_706 : decode cL_law 706 = .ok (.invokevirtual 79, 3) := by decide +kernel
theorem dL_law_709 : decode cL_law 709 = .ok (.aload_n 2, 1) := by decide +kernel
theorem dL_law_710 : decode cL_law 710 = .ok (.aload_n 0, 1) := by decide +kernel
theorem dL_law_711 : decode cL_law 711 = .ok (.iload_n 3, 1) := by decide +kernel
theorem dL_law_712 : decode cL_law 712 = .ok (.iconst 1, 1) := by decide +kernel
theorem dL_law_713 : decode cL_law 713 = .ok (.iadd, 1) := by decide +kernel
theorem dL_law_714 : decode cL_law 714 = .ok (.iaload, 1) := by decide +kernel
theorem dL_law_715 : decode cL_law 715 = .ok (.aload_n 0, 1) := by decide +kernel
theorem dL_law_716 : decode cL_law 716 = .ok (.iload_n 3, 1) := by decide +kernel
theorem dL_law_717 : decode cL_law 717 = .ok (.iconst 2, 1) := by decide +kernel
theorem dL_law_718 : decode cL_law 718 = .ok (.iadd, 1) := by decide +kernel
theorem dL_law_719 : decode cL_law 719 = .ok (.iaload, 1) := by decide +kernel
theorem dL_law_720 : decode cL_law 720 = .ok (.aload_n 0, 1) := by decide +kernel
theorem dL_law_721 : decode cL_law 721 = .ok (.iload_n 3, 1) := by decide +kernel
theorem dL_law_722 : decode cL_law 722 = .ok (.iconst 3, 1) := by decide +kernel
theorem dL_law_723 : decode cL_law 723 = .ok (.iadd, 1) := by decide +kernel
theorem dL_law_724 : decode cL_law 724 = .ok (.iaload, 1) := by decide +kernel
theorem dL_law_725 : decode cL_law 725 = .ok (.aload_n 0, 1) := by decide +kernel
theorem dL_law_726 : decode cL_law 726 = .ok (.iload_n 3, 1) := by decide +kernel
theorem dL_law_727 : decode cL_law 727 = .ok (.iconst 4, 1) := by decide +kernel
theorem dL_law_728 : decode cL_law 728 = .ok (.iadd, 1) := by decide +kernel
theorem dL_law_729 : decode cL_law 729 = .ok (.iaload, 1) := by decide +kernel
theorem dL_law_730 : decode cL_law 730 = .ok (.invokevirtual 83, 3) := by decide +kernel
theorem dL_law_733 : decode cL_law 733 = .ok (.lcmp, 1) := by decide +kernel
theorem dL_law_734 : decode cL_law 734 = .ok (.ifCond .eq 135, 3) := by decide +kernel
theorem dL_law_737 : decode cL_law 737 = .ok (.iconst 0, 1) := by decide +kernel
theorem dL_law_738 : decode cL_law 738 = .ok (.ireturn, 1) := by decide +kernel
theorem dL_law_739 : decode cL_law 739 = .ok (.aload_n 1, 1) := by decide +kernel
theorem dL_law_740 : decode cL_law 740 = .ok (.aload_n 0, 1) := by decide +kernel
theorem dL_law_741 : decode cL_law 741 = .ok (.iload_n 3, 1) := by decide +kernel
theorem dL_law_742 : decode cL_law 742 = .ok (.iconst 1, 1) := by decide +kernel
theorem dL_law_743 : decode cL_law 743 = .ok (.iadd, 1) := by decide +kernel
theorem dL_law_744 : decode cL_law 744 = .ok (.iaload, 1) := by decide +kernel
theorem dL_law_745 : decode cL_law 745 = .ok (.aload_n 0, 1) := by decide +kernel
theorem dL_law_746 : decode cL_law 746 = .ok (.iload_n 3, 1) := by decide +kernel
theorem dL_law_747 : decode cL_law 747 = .ok (.iconst 2, 1) := by decide +kernel
theorem dL_law_748 : decode cL_law 748 = .ok (.iadd, 1) := by decide +kernel
theorem dL_law_749 : decode cL_law 749 = .ok (.iaload, 1) := by decide +kernel
theorem dL_law_750 : decode cL_law 750 = .ok (.aload_n 0, 1) := by decide +kernel
theorem dL_law_751 : decode cL_law 751 = .ok (.iload_n 3, 1) := by decide +kernel
theorem dL_law_752 : decode cL_law 752 = .ok (.iconst 3, 1) := by decide +kernel
theorem dL_law_753 : decode cL_law 753 = .ok (.iadd, 1) := by decide +kernel
theorem dL_law_754 : decode cL_law 754 = .ok (.iaload, 1) := by decide +kernel
theorem dL_law_755 : decode cL_law 755 = .ok (.invokevirtual 84, 3) := by decide +kernel
theorem dL_law_758 : decode cL_law 758 = .ok (.aload_n 2, 1) := by decide +kernel
theorem dL_law_759 : decode cL_law 759 = .ok (.aload_n 0, 1) := by decide +kernel
theorem dL_law_760 : decode cL_law 760 = .ok (.iload_n 3, 1) := by decide +kernel
theorem dL_law_761 : decode cL_law 761 = .ok (.iconst 1, 1) := by decide +kernel
theorem dL_law_762 : decode cL_law 762 = .ok (.iadd, 1) := by decide +kernel
theorem dL_law_763 : decode cL_law 763 = .ok (.iaload, 1) := by decide +kernel
theorem dL_law_764 : decode cL_law 764 = .ok (.aload_n 0, 1) := by decide +kernel
theorem dL_law_765 : decode cL_law 765 = .ok (.iload_n 3, 1) := by decide +kernel
theorem dL_law_766 : decode cL_law 766 = .ok (.iconst 2, 1) := by decide +kernel
theorem dL_law_767 : decode cL_law 767 = .ok (.iadd, 1) := by decide +kernel
theorem dL_law_768 : decode cL_law 768 = .ok (.iaload, 1) := by decide +kernel
theorem dL_law_769 : decode cL_law 769 = .ok (.aload_n 0, 1) := by decide +kernel
theorem dL_law_770 : decode cL_law 770 = .ok (.iload_n 3, 1) := by decide +kernel
theorem dL_law_771 : decode cL_law 771 = .ok (.iconst 3, 1) := by decide +kernel
theorem dL_law_772 : decode cL_law 772 = .ok (.iadd, 1) := by decide +kernel
theorem dL_law_773 : decode cL_law 773 = .ok (.iaload, 1) := by decide +kernel
theorem dL_law_774 : decode cL_law 774 = .ok (.invokevirtual 87, 3) := by decide +kernel
theorem dL_law_777 : decode cL_law 777 = .ok (.lcmp, 1) := by decide +kernel
theorem dL_law_778 : decode cL_law 778 = .ok (.ifCond .eq 91, 3) := by decide +kernel
theorem dL_law_781 : decode cL_law 781 = .ok (.iconst 0, 1) := by decide +kernel
theorem dL_law_782 : decode cL_law 782 = .ok (.ireturn, 1) := by decide +kernel
theorem dL_law_783 : decode cL_law 783 = .ok (.aload_n 1, 1) := by decide +kernel
theorem dL_law_784 : decode cL_law 784 = .ok (.aload_n 0, 1) := by decide +kernel
theorem dL_law_785 : decode cL_law 785 = .ok (.iload_n 3, 1) := by decide +kernel
theorem dL_law_786 : decode cL_law 786 = .ok (.iconst 1, 1) := by decide +kernel
theorem dL_law_787 : decode cL_law 787 = .ok (.iadd, 1) := by decide +kernel
theorem dL_law_788 : decode cL_law 788 = .ok (.iaload, 1) := by decide +kernel
theorem dL_law_789 : decode cL_law 789 = .ok (.aload_n 0, 1) := by decide +kernel
theorem dL_law_790 : decode cL_law 790 = .ok (.iload_n 3, 1) := by decide +kernel
theorem dL_law_791 : decode cL_law 791 = .ok (.iconst 2, 1) := by decide +kernel
theorem dL_law_792 : decode cL_law 792 = .ok (.iadd, 1) := by decide +kernel
theorem dL_law_793 : decode cL_law 793 = .ok (.iaload, 1) := by decide +kernel
theorem dL_law_794 : decode cL_law 794 = .ok (.aload_n 0, 1) := by decide +kernel
theorem dL_law_795 : decode cL_law 795 = .ok (.iload_n 3, 1) := by decide +kernel
theorem dL_law_796 : decode cL_law 796 = .ok (.iconst 3, 1) := by decide +kernel
theorem dL_law_797 : decode cL_law 797 = .ok (.iadd, 1) := by decide +kernel
theorem dL_law_798 : decode cL_law 798 = .ok (.iaload, 1) := by decide +kernel
theorem dL_law_799 : decode cL_law 799 = .ok (.aload_n 0, 1) := by decide +kernel
theorem dL_law_800 : decode cL_law 800 = .ok (.iload_n 3, 1) := by decide +kernel
theorem dL_law_801 : decode cL_law 801 = .ok (.iconst 4, 1) := by decide +kernel
theorem dL_law_802 : decode cL_law 802 = .ok (.iadd, 1) := by decide +kernel
theorem dL_law_803 : decode cL_law 803 = .ok (.iaload, 1) := by decide +kernel
theorem dL_law_804 : decode cL_law 804 = .ok (.aload_n 0, 1) := by decide +kernel
theorem dL_law_805 : decode cL_law 805 = .ok (.iload_n 3, 1) := by decide +kernel
theorem dL_law_806 : decode cL_law 806 = .ok (.iconst 5, 1) := by decide +kernel
theorem dL_law_807 : decode cL_law 807 = .ok (.iadd, 1) := by decide +kernel
theorem dL_law_808 : decode cL_law 808 = .ok (.iaload, 1) := by decide +kernel
theorem dL_law_809 : decode cL_law 809 = .ok (.invokevirtual 88, 3) := by decide +kernel
theorem dL_law_812 : decode cL_law 812 = .ok (.aload_n 2, 1) := by decide +kernel
theorem dL_law_813 : decode cL_law 813 = .ok (.aload_n 0, 1) := by decide +kernel
theorem dL_law_814 : decode cL_law 814 = .ok (.iload_n 3, 1) := by decide +kernel
theorem dL_law_815 : decode cL_law 815 = .ok (.iconst 1, 1) := by decide +kernel
theorem dL_law_816 : decode cL_law 816 = .ok (.iadd, 1) := by decide +kernel
theorem dL_law_817 : decode cL_law 817 = .ok (.iaload, 1) := by decide +kernel
theorem dL_law_818 : decode cL_law 818 = .ok (.aload_n 0, 1) := by decide +kernel
theorem dL_law_819 : decode cL_law 819 = .ok (.iload_n 3, 1) := by decide +kernel
theorem dL_law_820 : decode cL_law 820 = .ok (.iconst 2, 1) := by decide +kernel
theorem dL_law_821 : decode cL_law 821 = .ok (.iadd, 1) := by decide +kernel
theorem dL_law_822 : decode cL_law 822 = .ok (.iaload, 1) := by decide +kernel
theorem dL_law_823 : decode cL_law 823 = .ok (.aload_n 0, 1) := by decide +kernel
theorem dL_law_824 : decode cL_law 824 = .ok (.iload_n 3, 1) := by decide +kernel
theorem dL_law_825 : decode cL_law 825 = .ok (.iconst 3, 1) := by decide +kernel
theorem dL_law_826 : decode cL_law 826 = .ok (.iadd, 1) := by decide +kernel
theorem dL_law_827 : decode cL_law 827 = .ok (.iaload, 1) := by decide +kernel
theorem dL_law_828 : decode cL_law 828 = .ok (.aload_n 0, 1) := by decide +kernel
theorem dL_law_829 : decode cL_law 829 = .ok (.iload_n 3, 1) := by decide +kernel
theorem dL_law_830 : decode cL_law 830 = .ok (.iconst 4, 1) := by decide +kernel
theorem dL_law_831 : decode cL_law 831 = .ok (.iadd, 1) := by decide +kernel
theorem dL_law_832 : decode cL_law 832 = .ok (.iaload, 1) := by decide +kernel
theorem dL_law_833 : decode cL_law 833 = .ok (.aload_n 0, 1) := by decide +kernel
theorem dL_law_834 : decode cL_law 834 = .ok (.iload_n 3, 1) := by decide +kernel
theorem dL_law_835 : decode cL_law 835 = .ok (.iconst 5, 1) := by decide +kernel
theorem dL_law_836 : decode cL_law 836 = .ok (.iadd, 1) := by decide +kernel
theorem dL_law_837 : decode cL_law 837 = .ok (.iaload, 1) := by decide +kernel
theorem dL_law_838 : decode cL_law 838 = .ok (.invokevirtual 92, 3) := by decide +kernel
theorem dL_law_841 : decode cL_law 841 = .ok (.if_icmp .eq 28, 3) := by decide +kernel
theorem dL_law_844 : decode cL_law 844 = .ok (.iconst 0, 1) := by decide +kernel
theorem dL_law_845 : decode cL_law 845 = .ok (.ireturn, 1) := by decide +kernel
theorem dL_law_846 : decode cL_law 846 = .ok (.aload_n 1, 1) := by decide +kernel
theorem dL_law_847 : decode cL_law 847 = .ok (.aload_n 0, 1) := by decide +kernel
theorem dL_law_848 : decode cL_law 848 = .ok (.iload_n 3, 1) := by decide +kernel
theorem dL_law_849 : decode cL_law 849 = .ok (.iconst 1, 1) := by decide +kernel
theorem dL_law_850 : decode cL_law 850 = .ok (.iadd, 1) := by decide +kernel
theorem dL_law_851 : decode cL_law 851 = .ok (.iaload, 1) := by decide +kernel
theorem dL_law_852 : decode cL_law 852 = .ok (.invokevirtual 93, 3) := by decide +kernel
theorem dL_law_855 : decode cL_law 855 = .ok (.aload_n 2, 1) := by decide +kernel
theorem dL_law_856 : decode cL_law 856 = .ok (.aload_n 0, 1) := by decide +kernel
theorem dL_law_857 : decode cL_law 857 = .ok (.iload_n 3, 1) := by decide +kernel
theorem dL_law_858 : decode cL_law 858 = .ok (.iconst 1, 1) := by decide +kernel
theorem dL_law_859 : decode cL_law 859 = .ok (.iadd, 1) := by decide +kernel
theorem dL_law_860 : decode cL_law 860 = .ok (.iaload, 1) := by decide +kernel
theorem dL_law_861 : decode cL_law 861 = .ok (.invokevirtual 96, 3) := by decide +kernel
theorem dL_law_864 : decode cL_law 864 = .ok (.if_icmp .eq 5, 3) := by decide +kernel
theorem dL_law_867 : decode cL_law 867 = .ok (.iconst 0, 1) := by decide +kernel
theorem dL_law_868 : decode cL_law 868 = .ok (.ireturn, 1) := by decide +kernel
theorem dL_law_869 : decode cL_law 869 = .ok (.iinc 3 7, 3) := by decide +kernel
theorem dL_law_872 : decode cL_law 872 = .ok (.goto (-854), 3) := by decide +kernel
theorem dL_law_875 : decode cL_law 875 = .ok (.iconst 1, 1) := by decide +kernel
theorem dL_law_876 : decode cL_law 876 = .ok (.ireturn, 1) := by decide +kernel
end
section
/-! ONE WORLD FOR THE CLASS (wT, 30 cells) AND ONE FOR THE REFERENCE (wM, 22 cells), over one kind of pure state St: arrays of ints by number, ints by number, the row of longs, one long. -/
abbrev St : Type := (Nat → Nat → Int32) × (Nat → Int32) × (Nat → Int64) × Int64
def sI (σ : St) (k j : Nat) (v : Int32) : St := (va_up σ.1 k (upd (σ.1 k) j v), σ.2)
def sV (σ : St) (k : Nat) (v : Int32) : St := (σ.1, va_up σ.2.1 k v, σ.2.2)
def sL (σ : St) (j : Nat) (v : Int64) : St := (σ.1, σ.2.1, vp_updL σ.2.2.1 j v, σ.2.2.2)
def sZ (σ : St) (v : Int64) : St := (σ.1, σ.2.1, σ.2.2.1, v)
abbrev tyC (cI cJ : ClassId) : List (ClassId × FieldType) := [(cI, .int), (cJ, .long)]
abbrev wT (cI cJ : ClassId) (q : Nat → Nat) (σ : St) : va_W := [
  (q 0, .inr (6, [.ref (q 1), .ref (q 3), .ref (q 13), .ref (q 21), .ref (q 28), .int (σ.2.1 0)])),
  (q 1, .inr (2, [.ref (q 2), .int (σ.2.1 4), .int (σ.2.1 5)])),
  (q 2, .inl (cI, 40, .inl (σ.1 20))),
  (q 3, .inr (5, [.ref (q 4), .ref (q 5), .ref (q 6), .ref (q 7), .ref (q 8), .ref (q 9), .ref (q 10), .ref (q 11), .ref (q 12), .int (σ.2.1 1)])),
  (q 4, .inl (cI, 40, .inl (σ.1 0))),
  (q 5, .inl (cI, 40, .inl (σ.1 1))),
  (q 6, .inl (cI, 40, .inl (σ.1 2))),
  (q 7, .inl (cI, 40, .inl (σ.1 3))),
  (q 8, .inl (cI, 40, .inl (σ.1 4))),
  (q 9, .inl (cI, 40, .inl (σ.1 5))),
  (q 10, .inl (cI, 40, .inl (σ.1 6))),
  (q 11, .inl (cI, 40, .inl (σ.1 7))),
  (q 12, .inl (cI, 40, .inl (σ.1 8))),
  (q 13, .inr (4, [.ref (q 14), .ref (q 15), .ref (q 16), .ref (q 17), .ref (q 18)])),
  (q 14, .inr (3, [.ref (q 1), .ref (q 19), .ref (q 20), .int 300, .int (σ.2.1 3)])),
  (q 15, .inl (cI, 300, .inl (σ.1 9))),
  (q 16, .inl (cI, 300, .inl (σ.1 10))),
  (q 17, .inl (cI, 300, .inl (σ.1 11))),
  (q 18, .inl (cI, 300, .inl (σ.1 12))),
  (q 19, .inl (cI, 300, .inl (σ.1 13))),
  (q 20, .inl (cI, 300, .inl (σ.1 14))),
  (q 21, .inr (1, [.ref (q 22), .ref (q 23), .ref (q 24), .ref (q 25)])),
  (q 22, .inr (3, [.ref (q 1), .ref (q 26), .ref (q 27), .int 200, .int (σ.2.1 2)])),
  (q 23, .inl (cI, 200, .inl (σ.1 15))),
  (q 24, .inl (cI, 200, .inl (σ.1 16))),
  (q 25, .inl (cI, 200, .inl (σ.1 17))),
  (q 26, .inl (cI, 200, .inl (σ.1 18))),
  (q 27, .inl (cI, 200, .inl (σ.1 19))),
  (q 28, .inr (0, [.ref (q 3), .ref (q 29), .long σ.2.2.2, .int (σ.2.1 6), .int (σ.2.1 7)])),
  (q 29, .inl (cJ, 40, .inr (.inl σ.2.2.1)))]
abbrev wM (cI _cJ : ClassId) (q : Nat → Nat) (σ : St) : va_W := [
  (q 0, .inr (7, [.int (σ.2.1 0), .int (σ.2.1 1), .int (σ.2.1 2), .int (σ.2.1 3), .int (σ.2.1 4), .ref (q 1), .ref (q 2), .ref (q 3), .ref (q 4), .ref (q 5), .ref (q 6), .ref (q 7), .ref (q 8), .ref (q 9), .ref (q 10), .ref (q 11), .ref (q 12), .ref (q 13), .ref (q 14), .ref (q 15), .ref (q 16), .ref (q 17), .ref (q 18), .ref (q 19), .ref (q 20), .ref (q 21)])),
  (q 1, .inl (cI, 40, .inl (σ.1 0))),
  (q 2, .inl (cI, 40, .inl (σ.1 1))),
  (q 3, .inl (cI, 40, .inl (σ.1 2))),
  (q 4, .inl (cI, 40, .inl (σ.1 3))),
  (q 5, .inl (cI, 40, .inl (σ.1 4))),
  (q 6, .inl (cI, 40, .inl (σ.1 5))),
  (q 7, .inl (cI, 40, .inl (σ.1 6))),
  (q 8, .inl (cI, 40, .inl (σ.1 7))),
  (q 9, .inl (cI, 40, .inl (σ.1 8))),
  (q 10, .inl (cI, 200, .inl (σ.1 15))),
  (q 11, .inl (cI, 200, .inl (σ.1 16))),
  (q 12, .inl (cI, 200, .inl (σ.1 17))),
  (q 13, .inl (cI, 200, .inl (σ.1 18))),
  (q 14, .inl (cI, 200, .inl (σ.1 19))),
  (q 15, .inl (cI, 300, .inl (σ.1 9))),
  (q 16, .inl (cI, 300, .inl (σ.1 10))),
  (q 17, .inl (cI, 300, .inl (σ.1 11))),
  (q 18, .inl (cI, 300, .inl (σ.1 12))),
  (q 19, .inl (cI, 300, .inl (σ.1 13))),
  (q 20, .inl (cI, 300, .inl (σ.1 14))),
  (q 21, .inl (cI, 40, .inl (σ.1 20)))]
def aT (N : Nat) (q : Nat → Nat) : Nat → Prop := fun a => ∃ k, k < N ∧ q k = a
def dT (N : Nat) (q : Nat → Nat) : Prop := ∀ i j, i < N → j < N → q i = q j → i = j
theorem xD {N : Nat} {q : Nat → Nat} {ws : va_W} (h : dT N q) (hm : ws.map Prod.fst = (List.range N).map q) : va_D (aT N q) ws := by
  have key : ∀ (k : Nat) (e : Nat × va_E), ws[k]? = some e → k < N ∧ q k = e.1 := by
    intro k e hk
    have h1 : (ws.map Prod.fst)[k]? = some e.1 := by rw [List.getElem?_map, hk]; rfl
    rw [hm, List.getElem?_map] at h1
    by_cases hl : k < N
    · rw [List.getElem?_range hl] at h1
      exact ⟨hl, Option.some.inj h1⟩
    · rw [List.getElem?_eq_none (by rw [List.length_range]; omega)] at h1
      cases h1
  exact ⟨fun i j x y hi hj hxy => h i j (key i x hi).1 (key j y hj).1 (by rw [(key i x hi).2, (key j y hj).2]; exact hxy), fun k e hk => ⟨k, (key k e hk).1, (key k e hk).2⟩⟩
theorem wT_D {cI cJ : ClassId} {q : Nat → Nat} {σ : St} (h : dT 30 q) : va_D (aT 30 q) (wT cI cJ q σ) := xD h rfl
theorem wM_D {cI cJ : ClassId} {q : Nat → Nat} {σ : St} (h : dT 22 q) : va_D (aT 22 q) (wM cI cJ q σ) := xD h rfl
abbrev Pu (D : va_G) (tys : List (ClassId × FieldType)) (w : va_W) (av : List Value) : Array Value → State → Prop := va_Pc av (fun U => va_P D vwCl w U.heap ∧ va_K D vwCl tys U)
theorem pu_blind {D : va_G} {tys : List (ClassId × FieldType)} {w : va_W} {av : List Value} : FrameBlind (Pu D tys w av) := fun a U g mk q => ⟨q.1, q.2.1, va_K.moved (u := U) (U := U.calling g mk a) (Vm.Alike.refl U.vm) q.2.2⟩
theorem preV {D : va_G} {tys : List (ClassId × FieldType)} {w : va_W} {s : State} {H : Heap} {b pos ci : Nat} {fs : List Value} {r : vw_C} {As : List Value} (hK : va_K D vwCl tys s) (hP : va_P D vwCl w H) (he : w[pos]? = some (b, .inr (ci, fs))) (hc : vwCl[ci]? = some r) : PreV s H r.1 b (Pu D tys w (.ref b :: As)) As := ⟨pu_blind, va_recv hK hP hc he, fun U hU hW => ⟨rfl, by rw [hU]; exact hP, va_K.moved hW.alike hK⟩⟩
theorem preS {D : va_G} {tys : List (ClassId × FieldType)} {w : va_W} {s : State} {H : Heap} {As : List Value} (hK : va_K D vwCl tys s) (hP : va_P D vwCl w H) : PreS s H (Pu D tys w As) As := ⟨pu_blind, fun U hU hW => ⟨rfl, by rw [hU]; exact hP, va_K.moved hW.alike hK⟩⟩
/-- a method that writes: its answer, its world behind it, nothing else changed -/
def xw_Q (rv : Option Value) (D : va_G) (w1 : va_W) (A : Nat → Prop) : Array Value → State → Outcome → State → Prop := fun _ st oc t => oc = .returned rv ∧ va_P D vwCl w1 t.heap ∧ va_F A st t
theorem gV {own C : String} {idx n : Nat} {y : MethodName} {b : ByteArray} {r : Option FieldType} (h1 : Cond.methodLink own idx y ∈ tb) (h2 : Cond.instanceMethod y ∈ tb) (h3 : Cond.selects C y y ∈ tb) (h4 : Cond.initialized C ∈ tb) (h5 : Cond.code y b n r ∈ tb) : GoodIn tb (wsV own idx C y (.code y b n r :: tb)) := by
  refine tbl_in (fun w hw => ?_)
  rcases List.mem_append.mp hw with h | h
  · simp only [List.mem_cons, List.not_mem_nil, or_false] at h
    rcases h with rfl | rfl | rfl | rfl <;> assumption
  · rcases List.mem_cons.mp h with rfl | h
    · exact h5
    · exact h
theorem gS {own : String} {idx n : Nat} {y : MethodName} {b : ByteArray} {r : Option FieldType} (h1 : Cond.methodLink own idx y ∈ tb) (h2 : Cond.static y ∈ tb) (h4 : Cond.initialized y.cls ∈ tb) (h5 : Cond.code y b n r ∈ tb) : GoodIn tb (va_wsS own idx y (.code y b n r :: tb)) := by
  refine tbl_in (fun w hw => ?_)
  rcases List.mem_append.mp hw with h | h
  · simp only [List.mem_cons, List.not_mem_nil, or_false] at h
    rcases h with rfl | rfl | rfl <;> assumption
  · rcases List.mem_cons.mp h with rfl | h
    · exact h5
    · exact h
theorem gI {n : Nat} {y : MethodName} {b : ByteArray} {r : Option FieldType} (h5 : Cond.code y b n r ∈ tb) : GoodIn tb (.code y b n r :: tb) := by
  refine tbl_in (fun w hw => ?_)
  rcases List.mem_cons.mp hw with rfl | h
  · exact h5
  · exact h
section XR
variable {p : Program} {l : Launch} {e : Env} {R : Room} {s : State} {m : MethodId} {args : Array Value} {below : List Frame} {meth : Method} {c : Code} {H : Heap} {locs : List Loc} {cells slots : Nat} {Q : State → Prop}
variable {cc : ByteArray} {pc : Nat} {ls : Array Slot} {rest st0 : List Value} {a : Array Value} {A0 A1 : Nat → Prop} {H0 : Heap} {free : Addr → Prop} {D : va_G} {ws : va_W} {tys : List (ClassId × FieldType)}
theorem xc_i {v : Int32} (hr : va_Run p l e R s m args below meth c H locs cells slots 0 0 (F0 m pc ls st0) rest (vp_Si (fun r => r = v) a) (fun _ => False)) (kk : W p l e R s m args below meth c H locs cells slots Q (F0 m (pc + 3) ls (.int v :: rest))) : W p l e R s m args below meth c H locs cells slots Q (F0 m pc ls st0) := by
  intro T hT X
  obtain ⟨w, st₀, t, T', L, h0, X', hL, e1, e2, ⟨r, hv, hp, hh⟩, st⟩ := hr T hT X
  cases hv
  subst hp
  have hL0 : L = [] := by
    cases L with
    | nil => rfl
    | cons q L => exact (hL q List.mem_cons_self).elim
  subst hL0
  rw [List.append_nil] at X'
  obtain ⟨t2, a1, b1⟩ := kk T' (by rw [e1, hh, h0]) X'
  exact ⟨t2, st t2 a1, b1⟩
theorem xc_l {v : Int64} (hr : va_Run p l e R s m args below meth c H locs cells slots 0 0 (F0 m pc ls st0) rest (vp_Sl (fun r => r = v) a) (fun _ => False)) (kk : W p l e R s m args below meth c H locs cells slots Q (F0 m (pc + 3) ls (.long v :: rest))) : W p l e R s m args below meth c H locs cells slots Q (F0 m pc ls st0) := by
  intro T hT X
  obtain ⟨w, st₀, t, T', L, h0, X', hL, e1, e2, ⟨r, hv, hp, hh⟩, st⟩ := hr T hT X
  cases hv
  subst hp
  have hL0 : L = [] := by
    cases L with
    | nil => rfl
    | cons q L => exact (hL q List.mem_cons_self).elim
  subst hL0
  rw [List.append_nil] at X'
  obtain ⟨t2, a1, b1⟩ := kk T' (by rw [e1, hh, h0]) X'
  exact ⟨t2, st t2 a1, b1⟩
theorem xw_c {rv : Option Value} {w1 : va_W} (hr : va_Run p l e R s m args below meth c H locs cells slots 0 0 (F0 m pc ls st0) rest (xw_Q rv D w1 A1 a) A1) (hS : va_S A0 H0 H locs) (hA : ∀ q, A1 q → A0 q)
    (kk : ∀ (H1 : Heap) (locs1 : List Loc), va_P D vwCl w1 H1 → H.size ≤ H1.size → (∀ q : Nat, q < H.size → ¬ A1 q → H1[q]? = H[q]?) → va_S A0 H0 H1 locs1 → W p l e R s m args below meth c H1 locs1 cells slots Q (F0 m (pc + 3) ls (rv.toList ++ rest))) : W p l e R s m args below meth c H locs cells slots Q (F0 m pc ls st0) := by
  intro T hT X
  obtain ⟨v, st₀, t, T', L, h0, X', hL, e1, e2, ⟨hv, hp, hz, hk⟩, st⟩ := hr T hT X
  cases hv
  rw [h0] at hz hk
  obtain ⟨t2, a1, b1⟩ := kk T'.heap (locs ++ L) (by rw [e1]; exact hp) (by rw [e1]; exact hz) (fun q h1 h2 => by rw [e1]; exact hk q h1 h2)
    ⟨Nat.le_trans hS.1 (by rw [e1]; exact hz), fun q h1 h2 => by rw [e1, hk q (Nat.lt_of_lt_of_le h1 hS.1) (fun z => h2 (hA q z))]; exact hS.2.1 q h1 h2, fun q hq => by
      rcases List.mem_append.mp hq with h | h
      · exact hS.2.2 q h
      · exact hA _ (hL q h)⟩ T' rfl X'
  exact ⟨t2, st t2 a1, b1⟩
theorem xa_ild (hexec : p.tables.exec = Jvm.exec) (hb : c.code = cc) (hK : va_K D vwCl tys s) (hP : va_P D vwCl ws H) {b : Nat} (q0 t0 : Nat) {cA : ClassId} {n : Nat} {f : Nat → Int32} (ha : ws[q0]? = some (b, .inl (cA, n, .inl f))) (ht : tys[t0]? = some (cA, .int)) {i : Nat} (hi : i < n) (hn : n < 2 ^ 31) (hdg : decode cc pc = .ok (.iaload, 1))
    (kk : W p l e R s m args below meth c H locs cells slots Q (F0 m (pc + 1) ls (.int (f i) :: rest))) : W p l e R s m args below meth c H locs cells slots Q (F0 m pc ls (.int (nI i) :: .ref b :: rest)) := by
  refine va_iald hexec hb hK hP q0 t0 ha ht (vp_in_nI hi hn) hdg ?_
  rw [nI_clamp (by omega)]
  exact kk
theorem xa_lld (hexec : p.tables.exec = Jvm.exec) (hb : c.code = cc) (hK : va_K D vwCl tys s) (hP : va_P D vwCl ws H) {b : Nat} (q0 t0 : Nat) {cA : ClassId} {n : Nat} {f : Nat → Int64} (ha : ws[q0]? = some (b, .inl (cA, n, .inr (.inl f)))) (ht : tys[t0]? = some (cA, .long)) {i : Nat} (hi : i < n) (hn : n < 2 ^ 31) (hdg : decode cc pc = .ok (.laload, 1))
    (kk : W p l e R s m args below meth c H locs cells slots Q (F0 m (pc + 1) ls (.long (f i) :: rest))) : W p l e R s m args below meth c H locs cells slots Q (F0 m pc ls (.int (nI i) :: .ref b :: rest)) := by
  refine va_lald hexec hb hK hP q0 t0 ha ht (vp_in_nI hi hn) hdg ?_
  rw [nI_clamp (by omega)]
  exact kk
/-- a switch over 0 .. n-1 -/
theorem xs_in (hexec : p.tables.exec = Jvm.exec) (hb : c.code = cc) {dflt lo hi : Int} {offs : Array Int} {len : Nat} {x : Int32} {off : Int} {tgt : Nat} (v : Int32) (hxv : x = v) (hdg : decode cc pc = .ok (.tableswitch dflt lo hi offs, len)) (h1 : decide (v.toInt < lo) = false) (h2 : decide (hi < v.toInt) = false) (ho : offs[(v.toInt - lo).toNat]? = some off) (ht : (pc : Int) + off = (tgt : Int))
    (k : W p l e R s m args below meth c H locs cells slots Q (F0 m tgt ls rest)) : W p l e R s m args below meth c H locs cells slots Q (F0 m pc ls (.int x :: rest)) := by
  subst hxv
  exact lv_tableIn hexec hb hdg (of_decide_eq_false h1) (of_decide_eq_false h2) ho ht k
end XR
theorem xs_out {x : Int32} {n : Nat} (hn : n < 2 ^ 31) (h : ∀ k, k < n → ¬ x = nI k) : x.toInt < 0 ∨ ((n : Int) - 1) < x.toInt := by
  rcases pk_ix x hn with h1 | h1 | ⟨j, hj, rfl⟩
  · left
    have := Int32.lt_iff_toInt_lt.mp h1
    simpa using this
  · right
    have := Int32.le_iff_toInt_le.mp h1
    rw [nI_toInt hn] at this
    omega
  · exact absurd rfl (h j hj)
def szI (x : Int32) (N : Nat) : Prop := x = nI x.toNatClampNeg ∧ x.toNatClampNeg ≤ N
/-- the bounds that keep every index in its row -/
def IB (σ : St) : Prop := szI (σ.2.1 1) 40 ∧ szI (σ.2.1 2) 200 ∧ szI (σ.2.1 3) 300 ∧ szI (σ.2.1 4) 40 ∧ (∀ j, j < (σ.2.1 3).toNatClampNeg → vp_in (σ.1 14 j) 40) ∧ (∀ j, j < (σ.2.1 2).toNatClampNeg → vp_in (σ.1 19 j) 40)
theorem vp_in_lt {x : Int32} {n : Nat} (h : vp_in x n) : x.toNatClampNeg < n := Nat.not_le.mp fun q => h (Or.inr q)
theorem vp_in_mono {x : Int32} {n k : Nat} (h : vp_in x n) (hk : n ≤ k) : vp_in x k := fun q => h (q.elim Or.inl (fun z => Or.inr (Nat.le_trans hk z)))
theorem vp_in_nIc {x : Int32} {n : Nat} (h : vp_in x n) (hn : n < 2 ^ 31) : x = nI x.toNatClampNeg := by
  obtain ⟨j, hj, rfl⟩ := vp_in_of h hn
  rw [nI_clamp (by omega)]
/-- an index tested against 0 and a size -/
theorem in_size {x z : Int32} {N : Nat} (hz : szI z N) (hN : N < 2 ^ 31) (h1 : ¬ x < 0) (h2 : ¬ z ≤ x) : vp_in x z.toNatClampNeg := by
  obtain ⟨j, hj, rfl⟩ := nI_of h1
  rw [hz.1] at h2
  refine vp_in_nI ?_ (by have := hz.2; omega)
  rcases Nat.lt_or_ge j z.toNatClampNeg with q | q
  · exact q
  · exact absurd (nI_le q hj) h2
end
section
theorem nb_of {x : Int32} (h : x = 0 ∨ x = 1) : narrow .boolean (.int x) = .int x := by
  rcases h with rfl | rfl <;> rfl
theorem sz_lt {x : Int32} {N : Nat} (h : szI x N) (hN : N < 2 ^ 31) (c : ¬ nI N ≤ x) : vp_in x N := by
  obtain ⟨h1, h2⟩ := h
  rw [h1] at c ⊢
  refine vp_in_nI ?_ hN
  rcases Nat.lt_or_ge x.toNatClampNeg N with q | q
  · exact q
  · exact absurd (nI_le q (by omega)) c
theorem can_in {x z : Int32} (h : szI z 40) (h1 : ¬ x < 0) (h2 : ¬ z - 1 ≤ x) : vp_in x 40 := by
  obtain ⟨g1, g2⟩ := h
  obtain ⟨j, hj, rfl⟩ := nI_of h1
  rw [g1] at h2
  cases hz : z.toNatClampNeg with
  | zero =>
    rw [hz] at h2
    exact absurd (Int32.le_trans (show nI 0 - 1 ≤ 0 by decide) (nI_pos' hj)) h2
  | succ n =>
    rw [hz, nI_pred] at h2
    refine vp_in_nI ?_ (by decide)
    rcases Nat.lt_or_ge j n with q | q
    · omega
    · exact absurd (nI_le q hj) h2
theorem sz_lt2 {x : Int32} {N : Nat} (h : szI x N) (hN : N < 2 ^ 31) (c : x < nI N) : vp_in x N := sz_lt h hN (fun q => Int32.lt_irrefl (Int32.lt_of_lt_of_le c q))

set_option maxHeartbeats 4000000 in
set_option maxRecDepth 100000 in
theorem c_X2_open (l : Launch) (dC : Nat → ClassId) (dI : Nat → Nat → Nat) (cI cJ : ClassId) (q : Nat → Nat) (σ : St) : Met l yX2_open (.code yX2_open cX2_open 1 (some .int) :: tb) { frames := 0, cells := 0, slots := 0, locals := 0 } (Pu (dC, dI) (tyC cI cJ) (wT cI cJ q σ) [.ref (q 1)]) (vp_Si (fun r => r = (σ.2.1 4) - 1)) 0 0 (fun _ => False) := by
  refine Met.ofW (cc := cX2_open) (maxL := 1) (ret := (some .int)) (by decide) rfl ?_
  intro p e s m args below meth c s₁ B hml hv
  obtain ⟨rfl, hP, hK⟩ := hv
  have hx := B.exec
  have hb := B.bytes
  have hr := B.returns
  have hts0 := atoms_spec (ws := .code yX2_open cX2_open 1 (some .int) :: tb) B.pre
  have hts : ∀ w ∈ tb, w.before _ s = true := fun w hw => hts0 w (List.mem_cons_of_mem _ hw)
  have hown : s.vm.findClass RX2 = some m.cls := findClass_of_methodNamed B.named
  have hlocks := B.notSynchronized
  have hl := lv_entry ([.ref (q 1)]) (n := 1) (Nat.le_of_ble_eq_true rfl)
  rw [lg_entry_eq]
  generalize (lg_sl ([.ref (q 1)]) ++ List.replicate (1 - (lg_sl ([.ref (q 1)])).length) Slot.unset).toArray = ls at hl ⊢
  have hl : lv_has ls 1 [(0, .ref (q 1))] := hl
  refine lv_aload_n hx hb dX2_open_0 rfl (lv_at hl 0 rfl) ?_
  refine va_get (D := (dC, dI)) (ci := 2) (v := .int (σ.2.1 4)) (C := RX2) (T := TX2) (N := 3) hx hb hts inX2 hown hK hP 1 rfl rfl 1 (by decide) (hts _ fl_X2_15) (fun _ h9 => h9) rfl dX2_open_1 ?_
  refine lv_iconst (v := 1) hx hb dX2_open_4 (by decide) ?_
  refine lv_isub hx hb dX2_open_5 ?_
  exact W.iret (v := (σ.2.1 4) - 1) hx hb hr (fun t ht hW => ⟨_, rfl, rfl, ht⟩) (fun _ h => absurd h List.not_mem_nil) dX2_open_6

def fX2_openNext (σ : St) : Int32 × St :=
  (if (σ.2.1 4) < 40 then (((σ.2.1 4) + 1) - 1, (sV (sI σ 20 ((σ.2.1 4).toNatClampNeg) 2001) 4 ((σ.2.1 4) + 1))) else ((-1), σ))
set_option maxHeartbeats 4000000 in
set_option maxRecDepth 100000 in
theorem c_X2_openNext (l : Launch) (dC : Nat → ClassId) (dI : Nat → Nat → Nat) (cI cJ : ClassId) (q : Nat → Nat) (σ : St) (hd : dT 30 q) (hI : IB σ) : Met l yX2_openNext (.code yX2_openNext cX2_openNext 1 (some .int) :: tb) { frames := 1, cells := 0, slots := 0, locals := 20 } (Pu (dC, dI) (tyC cI cJ) (wT cI cJ q σ) [.ref (q 1)]) (xw_Q (some (.int (fX2_openNext σ).1)) (dC, dI) (wT cI cJ q (fX2_openNext σ).2) (aT 30 q)) 0 0 (aT 30 q) := by
  refine Met.ofW (cc := cX2_openNext) (maxL := 1) (ret := (some .int)) (by decide) rfl ?_
  intro p e s m args below meth c s₁ B hml hv
  obtain ⟨rfl, hP, hK⟩ := hv
  have hx := B.exec
  have hb := B.bytes
  have hr := B.returns
  have hts0 := atoms_spec (ws := .code yX2_openNext cX2_openNext 1 (some .int) :: tb) B.pre
  have hts : ∀ w ∈ tb, w.before _ s = true := fun w hw => hts0 w (List.mem_cons_of_mem _ hw)
  have hown : s.vm.findClass RX2 = some m.cls := findClass_of_methodNamed B.named
  have hlocks := B.notSynchronized
  have hl := lv_entry ([.ref (q 1)]) (n := 1) (Nat.le_of_ble_eq_true rfl)
  rw [lg_entry_eq]
  generalize (lg_sl ([.ref (q 1)]) ++ List.replicate (1 - (lg_sl ([.ref (q 1)])).length) Slot.unset).toArray = ls at hl ⊢
  have hl : lv_has ls 1 [(0, .ref (q 1))] := hl
  obtain ⟨H, hHe⟩ : ∃ H, s.heap = H := ⟨_, rfl⟩
  rw [hHe] at hP ⊢
  obtain ⟨locs, hLe⟩ : ∃ x : List Loc, ([] : List Loc) = x := ⟨_, rfl⟩
  rw [hLe]
  have hS : va_S (aT 30 q) s.heap H locs := by rw [← hHe, ← hLe]; exact va_S.rf
  refine lv_aload_n hx hb dX2_openNext_0 rfl (lv_at hl 0 rfl) ?_
  refine va_get (D := (dC, dI)) (ci := 2) (v := .int (σ.2.1 4)) (C := RX2) (T := TX2) (N := 3) hx hb hts inX2 hown hK hP 1 rfl rfl 1 (by decide) (hts _ fl_X2_15) (fun _ h9 => h9) rfl dX2_openNext_1 ?_
  refine lv_bipush (v := 40) hx hb dX2_openNext_4 (by decide) ?_
  refine lv_icmp_lt (tgt := 11) hx hb dX2_openNext_6 (by decide) (fun c_6 => ?_) (fun c_6 => ?_)
  · refine lv_aload_n hx hb dX2_openNext_11 rfl (lv_at hl 0 rfl) ?_
    refine va_get (D := (dC, dI)) (ci := 2) (v := .ref (q 2)) (C := RX2) (T := TX2) (N := 3) hx hb hts inX2 hown hK hP 1 rfl rfl 0 (by decide) (hts _ fl_X2_9) (fun _ h9 => h9) rfl dX2_openNext_12 ?_
    refine lv_aload_n hx hb dX2_openNext_15 rfl (lv_at hl 0 rfl) ?_
    refine va_get (D := (dC, dI)) (ci := 2) (v := .int (σ.2.1 4)) (C := RX2) (T := TX2) (N := 3) hx hb hts inX2 hown hK hP 1 rfl rfl 1 (by decide) (hts _ fl_X2_15) (fun _ h9 => h9) rfl dX2_openNext_16 ?_
    refine lv_sipush (v := 2001) hx hb dX2_openNext_19 (by decide) ?_
    refine va_iast hx hb hK hP (wT_D hd) hS 2 0 rfl rfl (sz_lt2 hI.2.2.2.1 (by decide) c_6) dX2_openNext_22 (fun H locs hP _ hS => ?_)
    have hP : va_P (dC, dI) vwCl (wT cI cJ q (sI σ 20 ((σ.2.1 4).toNatClampNeg) 2001)) H := hP
    refine lv_aload_n hx hb dX2_openNext_23 rfl (lv_at hl 0 rfl) ?_
    refine lv_dup hx hb dX2_openNext_24 rfl ?_
    refine va_get (D := (dC, dI)) (ci := 2) (v := .int (σ.2.1 4)) (C := RX2) (T := TX2) (N := 3) hx hb hts inX2 hown hK hP 1 rfl rfl 1 (by decide) (hts _ fl_X2_15) (fun _ h9 => h9) rfl dX2_openNext_25 ?_
    refine lv_iconst (v := 1) hx hb dX2_openNext_28 (by decide) ?_
    refine lv_iadd hx hb dX2_openNext_29 ?_
    refine va_put (D := (dC, dI)) (ci := 2) (v := .int ((σ.2.1 4) + 1)) (ty := .int) (C := RX2) (T := TX2) (N := 3) hx hb hts inX2 tyX2 tyX2_ok nmX2 hown hK hP (wT_D hd) hS 1 rfl rfl 1 (by decide) (hts _ fl_X2_15) (fun _ h9 => h9) rfl (by decide +kernel) rfl rfl (Nat.le_of_ble_eq_true rfl) dX2_openNext_30 (fun H locs hP _ hS => ?_)
    have hP : va_P (dC, dI) vwCl (wT cI cJ q (sV (sI σ 20 ((σ.2.1 4).toNatClampNeg) 2001) 4 ((σ.2.1 4) + 1))) H := hP
    refine lv_aload_n hx hb dX2_openNext_33 rfl (lv_at hl 0 rfl) ?_
    refine xc_i (va_runV (As := []) (rest := []) ⟨hx, hb, hml, hown, hts⟩ (c_X2_open l dC dI cI cJ q (sV (sI σ 20 ((σ.2.1 4).toNatClampNeg) 2001) 4 ((σ.2.1 4) + 1)) ) (cwV 0 hts (gV ml_X2_22 im_X2_open se_X2_open in_X2 co_X2_open) rfl rfl rfl (by decide +kernel) ⟨Nat.le_of_ble_eq_true rfl, Nat.le_of_ble_eq_true rfl⟩) (preV hK hP (pos := 1) (ci := 2) rfl rfl) rfl rfl hl.1 rfl (lv_room (Nat.le_of_ble_eq_true rfl)) dX2_openNext_34 ⟨Nat.zero_le _, Nat.zero_le _⟩) ?_
    have hF : fX2_openNext σ = (((σ.2.1 4) + 1) - 1, (sV (sI σ 20 ((σ.2.1 4).toNatClampNeg) 2001) 4 ((σ.2.1 4) + 1))) := by rw [fX2_openNext, if_pos c_6]
    have hP9 : va_P (dC, dI) vwCl (wT cI cJ q (fX2_openNext σ).2) H := by rw [hF]; exact hP
    exact W.iret (v := ((σ.2.1 4) + 1) - 1) hx hb hr (fun t ht hW => ⟨(by rw [hF]), by rw [ht]; exact hP9, hS.F ht⟩) hS.2.2 dX2_openNext_37
  · refine lv_iconst (v := (-1)) hx hb dX2_openNext_9 (by decide) ?_
    have hF : fX2_openNext σ = ((-1), σ) := by rw [fX2_openNext, if_neg c_6]
    have hP9 : va_P (dC, dI) vwCl (wT cI cJ q (fX2_openNext σ).2) H := by rw [hF]; exact hP
    exact W.iret (v := (-1)) hx hb hr (fun t ht hW => ⟨(by rw [hF]), by rw [ht]; exact hP9, hS.F ht⟩) hS.2.2 dX2_openNext_10

def fX2_canBeUndone (σ : St) (p1 : Int32) : Int32 :=
  (if p1 < 0 then 0 else (if ((σ.2.1 4) - 1) ≤ p1 then 0 else (if (σ.1 20 p1.toNatClampNeg) = 2001 then 1 else 0)))
set_option maxHeartbeats 4000000 in
set_option maxRecDepth 100000 in
theorem c_X2_canBeUndone (l : Launch) (dC : Nat → ClassId) (dI : Nat → Nat → Nat) (cI cJ : ClassId) (q : Nat → Nat) (σ : St) (p1 : Int32) (hI : IB σ) : Met l yX2_canBeUndone (.code yX2_canBeUndone cX2_canBeUndone 2 (some .boolean) :: tb) { frames := 1, cells := 0, slots := 0, locals := 20 } (Pu (dC, dI) (tyC cI cJ) (wT cI cJ q σ) [.ref (q 1), .int p1]) (vp_Si (fun r => r = fX2_canBeUndone σ p1)) 0 0 (fun _ => False) := by
  refine Met.ofW (cc := cX2_canBeUndone) (maxL := 2) (ret := (some .boolean)) (by decide) rfl ?_
  intro p e s m args below meth c s₁ B hml hv
  obtain ⟨rfl, hP, hK⟩ := hv
  have hx := B.exec
  have hb := B.bytes
  have hr := B.returns
  have hts0 := atoms_spec (ws := .code yX2_canBeUndone cX2_canBeUndone 2 (some .boolean) :: tb) B.pre
  have hts : ∀ w ∈ tb, w.before _ s = true := fun w hw => hts0 w (List.mem_cons_of_mem _ hw)
  have hown : s.vm.findClass RX2 = some m.cls := findClass_of_methodNamed B.named
  have hlocks := B.notSynchronized
  have hl := lv_entry ([.ref (q 1), .int p1]) (n := 2) (Nat.le_of_ble_eq_true rfl)
  rw [lg_entry_eq]
  generalize (lg_sl ([.ref (q 1), .int p1]) ++ List.replicate (2 - (lg_sl ([.ref (q 1), .int p1])).length) Slot.unset).toArray = ls at hl ⊢
  have hl : lv_has ls 2 [(0, .ref (q 1)), (1, .int p1)] := hl
  refine lv_iload_n hx hb dX2_canBeUndone_0 rfl (lv_at hl 1 rfl) ?_
  refine lv_if_lt (tgt := 28) hx hb dX2_canBeUndone_1 (by decide) (fun c_1 => ?_) (fun c_1 => ?_)
  · refine lv_iconst (v := 0) hx hb dX2_canBeUndone_28 (by decide) ?_
    exact W.zret (v := 0) hx hb hr narrow_b0 (fun t ht hW => ⟨_, rfl, (by rw [fX2_canBeUndone, if_pos c_1]), ht⟩) (fun _ h => absurd h List.not_mem_nil) dX2_canBeUndone_29
  · refine lv_iload_n hx hb dX2_canBeUndone_4 rfl (lv_at hl 1 rfl) ?_
    refine lv_aload_n hx hb dX2_canBeUndone_5 rfl (lv_at hl 0 rfl) ?_
    refine xc_i (va_runV (As := []) (rest := [.int p1]) ⟨hx, hb, hml, hown, hts⟩ (c_X2_open l dC dI cI cJ q σ ) (cwV 0 hts (gV ml_X2_22 im_X2_open se_X2_open in_X2 co_X2_open) rfl rfl rfl (by decide +kernel) ⟨Nat.le_of_ble_eq_true rfl, Nat.le_of_ble_eq_true rfl⟩) (preV hK hP (pos := 1) (ci := 2) rfl rfl) rfl rfl hl.1 rfl (lv_room (Nat.le_of_ble_eq_true rfl)) dX2_canBeUndone_6 ⟨Nat.zero_le _, Nat.zero_le _⟩) ?_
    refine lv_icmp_ge (tgt := 28) hx hb dX2_canBeUndone_9 (by decide) (fun c_9 => ?_) (fun c_9 => ?_)
    · refine lv_iconst (v := 0) hx hb dX2_canBeUndone_28 (by decide) ?_
      exact W.zret (v := 0) hx hb hr narrow_b0 (fun t ht hW => ⟨_, rfl, (by rw [fX2_canBeUndone, if_neg c_1, if_pos c_9]), ht⟩) (fun _ h => absurd h List.not_mem_nil) dX2_canBeUndone_29
    · refine lv_aload_n hx hb dX2_canBeUndone_12 rfl (lv_at hl 0 rfl) ?_
      refine va_get (D := (dC, dI)) (ci := 2) (v := .ref (q 2)) (C := RX2) (T := TX2) (N := 3) hx hb hts inX2 hown hK hP 1 rfl rfl 0 (by decide) (hts _ fl_X2_9) (fun _ h9 => h9) rfl dX2_canBeUndone_13 ?_
      refine lv_iload_n hx hb dX2_canBeUndone_16 rfl (lv_at hl 1 rfl) ?_
      refine va_iald hx hb hK hP 2 0 rfl rfl (can_in hI.2.2.2.1 c_1 c_9) dX2_canBeUndone_17 ?_
      refine lv_sipush (v := 2001) hx hb dX2_canBeUndone_18 (by decide) ?_
      refine lv_icmp_ne (tgt := 28) hx hb dX2_canBeUndone_21 (by decide) (fun c_21 => ?_) (fun c_21 => ?_)
      · refine lv_iconst (v := 0) hx hb dX2_canBeUndone_28 (by decide) ?_
        exact W.zret (v := 0) hx hb hr narrow_b0 (fun t ht hW => ⟨_, rfl, (by rw [fX2_canBeUndone, if_neg c_1, if_neg c_9, if_neg c_21]), ht⟩) (fun _ h => absurd h List.not_mem_nil) dX2_canBeUndone_29
      · refine lv_iconst (v := 1) hx hb dX2_canBeUndone_24 (by decide) ?_
        refine lv_goto (tgt := 29) hx hb dX2_canBeUndone_25 (by decide) ?_
        exact W.zret (v := 1) hx hb hr narrow_b1 (fun t ht hW => ⟨_, rfl, (by rw [fX2_canBeUndone, if_neg c_1, if_neg c_9, if_pos c_21]), ht⟩) (fun _ h => absurd h List.not_mem_nil) dX2_canBeUndone_29

def fX2_setUndone (σ : St) (p1 : Int32) (p2 : Int32) : St :=
  (sV (sI σ 20 p1.toNatClampNeg p2) 5 ((σ.2.1 5) + 1))
set_option maxHeartbeats 4000000 in
set_option maxRecDepth 100000 in
theorem c_X2_setUndone (l : Launch) (dC : Nat → ClassId) (dI : Nat → Nat → Nat) (cI cJ : ClassId) (q : Nat → Nat) (σ : St) (p1 : Int32) (p2 : Int32) (hd : dT 30 q) (hL : vp_in p1 40) : Met l yX2_setUndone (.code yX2_setUndone cX2_setUndone 3 none :: tb) { frames := 0, cells := 0, slots := 0, locals := 0 } (Pu (dC, dI) (tyC cI cJ) (wT cI cJ q σ) [.ref (q 1), .int p1, .int p2]) (xw_Q none (dC, dI) (wT cI cJ q (fX2_setUndone σ p1 p2)) (aT 30 q)) 0 0 (aT 30 q) := by
  refine Met.ofW (cc := cX2_setUndone) (maxL := 3) (ret := none) (by decide) rfl ?_
  intro p e s m args below meth c s₁ B hml hv
  obtain ⟨rfl, hP, hK⟩ := hv
  have hx := B.exec
  have hb := B.bytes
  have hr := B.returns
  have hts0 := atoms_spec (ws := .code yX2_setUndone cX2_setUndone 3 none :: tb) B.pre
  have hts : ∀ w ∈ tb, w.before _ s = true := fun w hw => hts0 w (List.mem_cons_of_mem _ hw)
  have hown : s.vm.findClass RX2 = some m.cls := findClass_of_methodNamed B.named
  have hlocks := B.notSynchronized
  have hl := lv_entry ([.ref (q 1), .int p1, .int p2]) (n := 3) (Nat.le_of_ble_eq_true rfl)
  rw [lg_entry_eq]
  generalize (lg_sl ([.ref (q 1), .int p1, .int p2]) ++ List.replicate (3 - (lg_sl ([.ref (q 1), .int p1, .int p2])).length) Slot.unset).toArray = ls at hl ⊢
  have hl : lv_has ls 3 [(0, .ref (q 1)), (1, .int p1), (2, .int p2)] := hl
  obtain ⟨H, hHe⟩ : ∃ H, s.heap = H := ⟨_, rfl⟩
  rw [hHe] at hP ⊢
  obtain ⟨locs, hLe⟩ : ∃ x : List Loc, ([] : List Loc) = x := ⟨_, rfl⟩
  rw [hLe]
  have hS : va_S (aT 30 q) s.heap H locs := by rw [← hHe, ← hLe]; exact va_S.rf
  refine lv_aload_n hx hb dX2_setUndone_0 rfl (lv_at hl 0 rfl) ?_
  refine va_get (D := (dC, dI)) (ci := 2) (v := .ref (q 2)) (C := RX2) (T := TX2) (N := 3) hx hb hts inX2 hown hK hP 1 rfl rfl 0 (by decide) (hts _ fl_X2_9) (fun _ h9 => h9) rfl dX2_setUndone_1 ?_
  refine lv_iload_n hx hb dX2_setUndone_4 rfl (lv_at hl 1 rfl) ?_
  refine lv_iload_n hx hb dX2_setUndone_5 rfl (lv_at hl 2 rfl) ?_
  refine va_iast hx hb hK hP (wT_D hd) hS 2 0 rfl rfl (by assumption) dX2_setUndone_6 (fun H locs hP _ hS => ?_)
  have hP : va_P (dC, dI) vwCl (wT cI cJ q (sI σ 20 p1.toNatClampNeg p2)) H := hP
  refine lv_aload_n hx hb dX2_setUndone_7 rfl (lv_at hl 0 rfl) ?_
  refine lv_dup hx hb dX2_setUndone_8 rfl ?_
  refine va_get (D := (dC, dI)) (ci := 2) (v := .int (σ.2.1 5)) (C := RX2) (T := TX2) (N := 3) hx hb hts inX2 hown hK hP 1 rfl rfl 2 (by decide) (hts _ fl_X2_19) (fun _ h9 => h9) rfl dX2_setUndone_9 ?_
  refine lv_iconst (v := 1) hx hb dX2_setUndone_12 (by decide) ?_
  refine lv_iadd hx hb dX2_setUndone_13 ?_
  refine va_put (D := (dC, dI)) (ci := 2) (v := .int ((σ.2.1 5) + 1)) (ty := .int) (C := RX2) (T := TX2) (N := 3) hx hb hts inX2 tyX2 tyX2_ok nmX2 hown hK hP (wT_D hd) hS 1 rfl rfl 2 (by decide) (hts _ fl_X2_19) (fun _ h9 => h9) rfl (by decide +kernel) rfl rfl (Nat.le_of_ble_eq_true rfl) dX2_setUndone_14 (fun H locs hP _ hS => ?_)
  have hP : va_P (dC, dI) vwCl (wT cI cJ q (sV (sI σ 20 p1.toNatClampNeg p2) 5 ((σ.2.1 5) + 1))) H := hP
  have hF : fX2_setUndone σ p1 p2 = (sV (sI σ 20 p1.toNatClampNeg p2) 5 ((σ.2.1 5) + 1)) := by rw [fX2_setUndone]
  have hP9 : va_P (dC, dI) vwCl (wT cI cJ q (fX2_setUndone σ p1 p2)) H := by rw [hF]; exact hP
  exact W.vret hx hb hr (fun t ht hW => ⟨rfl, by rw [ht]; exact hP9, hS.F ht⟩) hS.2.2 dX2_setUndone_17

def fX2_isUndone (σ : St) (p1 : Int32) (p2 : Int32) : Int32 :=
  (if p2 < (σ.1 20 p1.toNatClampNeg) then 0 else 1)
set_option maxHeartbeats 4000000 in
set_option maxRecDepth 100000 in
theorem c_X2_isUndone (l : Launch) (dC : Nat → ClassId) (dI : Nat → Nat → Nat) (cI cJ : ClassId) (q : Nat → Nat) (σ : St) (p1 : Int32) (p2 : Int32) (hL : vp_in p1 40) : Met l yX2_isUndone (.code yX2_isUndone cX2_isUndone 3 (some .boolean) :: tb) { frames := 0, cells := 0, slots := 0, locals := 0 } (Pu (dC, dI) (tyC cI cJ) (wT cI cJ q σ) [.ref (q 1), .int p1, .int p2]) (vp_Si (fun r => r = fX2_isUndone σ p1 p2)) 0 0 (fun _ => False) := by
  refine Met.ofW (cc := cX2_isUndone) (maxL := 3) (ret := (some .boolean)) (by decide) rfl ?_
  intro p e s m args below meth c s₁ B hml hv
  obtain ⟨rfl, hP, hK⟩ := hv
  have hx := B.exec
  have hb := B.bytes
  have hr := B.returns
  have hts0 := atoms_spec (ws := .code yX2_isUndone cX2_isUndone 3 (some .boolean) :: tb) B.pre
  have hts : ∀ w ∈ tb, w.before _ s = true := fun w hw => hts0 w (List.mem_cons_of_mem _ hw)
  have hown : s.vm.findClass RX2 = some m.cls := findClass_of_methodNamed B.named
  have hlocks := B.notSynchronized
  have hl := lv_entry ([.ref (q 1), .int p1, .int p2]) (n := 3) (Nat.le_of_ble_eq_true rfl)
  rw [lg_entry_eq]
  generalize (lg_sl ([.ref (q 1), .int p1, .int p2]) ++ List.replicate (3 - (lg_sl ([.ref (q 1), .int p1, .int p2])).length) Slot.unset).toArray = ls at hl ⊢
  have hl : lv_has ls 3 [(0, .ref (q 1)), (1, .int p1), (2, .int p2)] := hl
  refine lv_aload_n hx hb dX2_isUndone_0 rfl (lv_at hl 0 rfl) ?_
  refine va_get (D := (dC, dI)) (ci := 2) (v := .ref (q 2)) (C := RX2) (T := TX2) (N := 3) hx hb hts inX2 hown hK hP 1 rfl rfl 0 (by decide) (hts _ fl_X2_9) (fun _ h9 => h9) rfl dX2_isUndone_1 ?_
  refine lv_iload_n hx hb dX2_isUndone_4 rfl (lv_at hl 1 rfl) ?_
  refine va_iald hx hb hK hP 2 0 rfl rfl (by assumption) dX2_isUndone_5 ?_
  refine lv_iload_n hx hb dX2_isUndone_6 rfl (lv_at hl 2 rfl) ?_
  refine lv_icmp_gt (tgt := 14) hx hb dX2_isUndone_7 (by decide) (fun c_7 => ?_) (fun c_7 => ?_)
  · refine lv_iconst (v := 0) hx hb dX2_isUndone_14 (by decide) ?_
    exact W.zret (v := 0) hx hb hr narrow_b0 (fun t ht hW => ⟨_, rfl, (by rw [fX2_isUndone, if_pos c_7]), ht⟩) (fun _ h => absurd h List.not_mem_nil) dX2_isUndone_15
  · refine lv_iconst (v := 1) hx hb dX2_isUndone_10 (by decide) ?_
    refine lv_goto (tgt := 15) hx hb dX2_isUndone_11 (by decide) ?_
    exact W.zret (v := 1) hx hb hr narrow_b1 (fun t ht hW => ⟨_, rfl, (by rw [fX2_isUndone, if_neg c_7]), ht⟩) (fun _ h => absurd h List.not_mem_nil) dX2_isUndone_15

set_option maxHeartbeats 4000000 in
set_option maxRecDepth 100000 in
theorem c_X2_undoneCount (l : Launch) (dC : Nat → ClassId) (dI : Nat → Nat → Nat) (cI cJ : ClassId) (q : Nat → Nat) (σ : St) : Met l yX2_undoneCount (.code yX2_undoneCount cX2_undoneCount 1 (some .int) :: tb) { frames := 0, cells := 0, slots := 0, locals := 0 } (Pu (dC, dI) (tyC cI cJ) (wT cI cJ q σ) [.ref (q 1)]) (vp_Si (fun r => r = σ.2.1 5)) 0 0 (fun _ => False) := by
  refine Met.ofW (cc := cX2_undoneCount) (maxL := 1) (ret := (some .int)) (by decide) rfl ?_
  intro p e s m args below meth c s₁ B hml hv
  obtain ⟨rfl, hP, hK⟩ := hv
  have hx := B.exec
  have hb := B.bytes
  have hr := B.returns
  have hts0 := atoms_spec (ws := .code yX2_undoneCount cX2_undoneCount 1 (some .int) :: tb) B.pre
  have hts : ∀ w ∈ tb, w.before _ s = true := fun w hw => hts0 w (List.mem_cons_of_mem _ hw)
  have hown : s.vm.findClass RX2 = some m.cls := findClass_of_methodNamed B.named
  have hlocks := B.notSynchronized
  have hl := lv_entry ([.ref (q 1)]) (n := 1) (Nat.le_of_ble_eq_true rfl)
  rw [lg_entry_eq]
  generalize (lg_sl ([.ref (q 1)]) ++ List.replicate (1 - (lg_sl ([.ref (q 1)])).length) Slot.unset).toArray = ls at hl ⊢
  have hl : lv_has ls 1 [(0, .ref (q 1))] := hl
  refine lv_aload_n hx hb dX2_undoneCount_0 rfl (lv_at hl 0 rfl) ?_
  refine va_get (D := (dC, dI)) (ci := 2) (v := .int (σ.2.1 5)) (C := RX2) (T := TX2) (N := 3) hx hb hts inX2 hown hK hP 1 rfl rfl 2 (by decide) (hts _ fl_X2_19) (fun _ h9 => h9) rfl dX2_undoneCount_1 ?_
  exact W.iret (v := σ.2.1 5) hx hb hr (fun t ht hW => ⟨_, rfl, rfl, ht⟩) (fun _ h => absurd h List.not_mem_nil) dX2_undoneCount_4
end
section
set_option maxHeartbeats 4000000 in
set_option maxRecDepth 100000 in
theorem c_X3_size_F (l : Launch) (dC : Nat → ClassId) (dI : Nat → Nat → Nat) (cI cJ : ClassId) (q : Nat → Nat) (σ : St) : Met l yX3_size (.code yX3_size cX3_size 1 (some .int) :: tb) { frames := 0, cells := 0, slots := 0, locals := 0 } (Pu (dC, dI) (tyC cI cJ) (wT cI cJ q σ) [.ref (q 22)]) (vp_Si (fun r => r = σ.2.1 2)) 0 0 (fun _ => False) := by
  refine Met.ofW (cc := cX3_size) (maxL := 1) (ret := (some .int)) (by decide) rfl ?_
  intro p e s m args below meth c s₁ B hml hv
  obtain ⟨rfl, hP, hK⟩ := hv
  have hx := B.exec
  have hb := B.bytes
  have hr := B.returns
  have hts0 := atoms_spec (ws := .code yX3_size cX3_size 1 (some .int) :: tb) B.pre
  have hts : ∀ w ∈ tb, w.before _ s = true := fun w hw => hts0 w (List.mem_cons_of_mem _ hw)
  have hown : s.vm.findClass RX3 = some m.cls := findClass_of_methodNamed B.named
  have hlocks := B.notSynchronized
  have hl := lv_entry ([.ref (q 22)]) (n := 1) (Nat.le_of_ble_eq_true rfl)
  rw [lg_entry_eq]
  generalize (lg_sl ([.ref (q 22)]) ++ List.replicate (1 - (lg_sl ([.ref (q 22)])).length) Slot.unset).toArray = ls at hl ⊢
  have hl : lv_has ls 1 [(0, .ref (q 22))] := hl
  refine lv_aload_n hx hb dX3_size_0 rfl (lv_at hl 0 rfl) ?_
  refine va_get (D := (dC, dI)) (ci := 3) (v := .int (σ.2.1 2)) (C := RX3) (T := TX3) (N := 5) hx hb hts inX3 hown hK hP 22 rfl rfl 4 (by decide) (hts _ fl_X3_32) (fun _ h9 => h9) rfl dX3_size_1 ?_
  exact W.iret (v := σ.2.1 2) hx hb hr (fun t ht hW => ⟨_, rfl, rfl, ht⟩) (fun _ h => absurd h List.not_mem_nil) dX3_size_4

def fX3_isFull_F (σ : St) : Int32 :=
  (if (σ.2.1 2) < 200 then 0 else 1)
set_option maxHeartbeats 4000000 in
set_option maxRecDepth 100000 in
theorem c_X3_isFull_F (l : Launch) (dC : Nat → ClassId) (dI : Nat → Nat → Nat) (cI cJ : ClassId) (q : Nat → Nat) (σ : St) : Met l yX3_isFull (.code yX3_isFull cX3_isFull 1 (some .boolean) :: tb) { frames := 0, cells := 0, slots := 0, locals := 0 } (Pu (dC, dI) (tyC cI cJ) (wT cI cJ q σ) [.ref (q 22)]) (vp_Si (fun r => r = fX3_isFull_F σ)) 0 0 (fun _ => False) := by
  refine Met.ofW (cc := cX3_isFull) (maxL := 1) (ret := (some .boolean)) (by decide) rfl ?_
  intro p e s m args below meth c s₁ B hml hv
  obtain ⟨rfl, hP, hK⟩ := hv
  have hx := B.exec
  have hb := B.bytes
  have hr := B.returns
  have hts0 := atoms_spec (ws := .code yX3_isFull cX3_isFull 1 (some .boolean) :: tb) B.pre
  have hts : ∀ w ∈ tb, w.before _ s = true := fun w hw => hts0 w (List.mem_cons_of_mem _ hw)
  have hown : s.vm.findClass RX3 = some m.cls := findClass_of_methodNamed B.named
  have hlocks := B.notSynchronized
  have hl := lv_entry ([.ref (q 22)]) (n := 1) (Nat.le_of_ble_eq_true rfl)
  rw [lg_entry_eq]
  generalize (lg_sl ([.ref (q 22)]) ++ List.replicate (1 - (lg_sl ([.ref (q 22)])).length) Slot.unset).toArray = ls at hl ⊢
  have hl : lv_has ls 1 [(0, .ref (q 22))] := hl
  refine lv_aload_n hx hb dX3_isFull_0 rfl (lv_at hl 0 rfl) ?_
  refine va_get (D := (dC, dI)) (ci := 3) (v := .int (σ.2.1 2)) (C := RX3) (T := TX3) (N := 5) hx hb hts inX3 hown hK hP 22 rfl rfl 4 (by decide) (hts _ fl_X3_32) (fun _ h9 => h9) rfl dX3_isFull_1 ?_
  refine lv_aload_n hx hb dX3_isFull_4 rfl (lv_at hl 0 rfl) ?_
  refine va_get (D := (dC, dI)) (ci := 3) (v := .int 200) (C := RX3) (T := TX3) (N := 5) hx hb hts inX3 hown hK hP 22 rfl rfl 3 (by decide) (hts _ fl_X3_21) (fun _ h9 => h9) rfl dX3_isFull_5 ?_
  refine lv_icmp_lt (tgt := 15) hx hb dX3_isFull_8 (by decide) (fun c_8 => ?_) (fun c_8 => ?_)
  · refine lv_iconst (v := 0) hx hb dX3_isFull_15 (by decide) ?_
    exact W.zret (v := 0) hx hb hr narrow_b0 (fun t ht hW => ⟨_, rfl, (by rw [fX3_isFull_F, if_pos c_8]), ht⟩) (fun _ h => absurd h List.not_mem_nil) dX3_isFull_16
  · refine lv_iconst (v := 1) hx hb dX3_isFull_11 (by decide) ?_
    refine lv_goto (tgt := 16) hx hb dX3_isFull_12 (by decide) ?_
    exact W.zret (v := 1) hx hb hr narrow_b1 (fun t ht hW => ⟨_, rfl, (by rw [fX3_isFull_F, if_neg c_8]), ht⟩) (fun _ h => absurd h List.not_mem_nil) dX3_isFull_16

theorem b_X3_isFull_F (σ : St) : fX3_isFull_F σ = 0 ∨ fX3_isFull_F σ = 1 := by
  unfold fX3_isFull_F
  repeat' split
  all_goals first | exact Or.inl rfl | exact Or.inr rfl

theorem full_in_F {σ : St} (hI : IB σ) (c : fX3_isFull_F σ = 0) : vp_in (σ.2.1 2) 200 := by
  unfold fX3_isFull_F at c
  split at c
  · exact sz_lt2 hI.2.1 (by decide) (by assumption)
  · exact absurd c (by decide)

def fX3_add_F (σ : St) (p1 : Int32) : Int32 × St :=
  (if (fX3_isFull_F σ) = 0 then (((σ.2.1 2) + 1) - 1, (sV (sI (sI σ 18 ((σ.2.1 2).toNatClampNeg) p1) 19 ((σ.2.1 2).toNatClampNeg) ((σ.2.1 4) - 1)) 2 ((σ.2.1 2) + 1))) else ((-1), σ))
set_option maxHeartbeats 4000000 in
set_option maxRecDepth 100000 in
theorem c_X3_add_F (l : Launch) (dC : Nat → ClassId) (dI : Nat → Nat → Nat) (cI cJ : ClassId) (q : Nat → Nat) (σ : St) (p1 : Int32) (hd : dT 30 q) (hI : IB σ) : Met l yX3_add (.code yX3_add cX3_add 2 (some .int) :: tb) { frames := 1, cells := 0, slots := 0, locals := 20 } (Pu (dC, dI) (tyC cI cJ) (wT cI cJ q σ) [.ref (q 22), .int p1]) (xw_Q (some (.int (fX3_add_F σ p1).1)) (dC, dI) (wT cI cJ q (fX3_add_F σ p1).2) (aT 30 q)) 0 0 (aT 30 q) := by
  refine Met.ofW (cc := cX3_add) (maxL := 2) (ret := (some .int)) (by decide) rfl ?_
  intro p e s m args below meth c s₁ B hml hv
  obtain ⟨rfl, hP, hK⟩ := hv
  have hx := B.exec
  have hb := B.bytes
  have hr := B.returns
  have hts0 := atoms_spec (ws := .code yX3_add cX3_add 2 (some .int) :: tb) B.pre
  have hts : ∀ w ∈ tb, w.before _ s = true := fun w hw => hts0 w (List.mem_cons_of_mem _ hw)
  have hown : s.vm.findClass RX3 = some m.cls := findClass_of_methodNamed B.named
  have hlocks := B.notSynchronized
  have hl := lv_entry ([.ref (q 22), .int p1]) (n := 2) (Nat.le_of_ble_eq_true rfl)
  rw [lg_entry_eq]
  generalize (lg_sl ([.ref (q 22), .int p1]) ++ List.replicate (2 - (lg_sl ([.ref (q 22), .int p1])).length) Slot.unset).toArray = ls at hl ⊢
  have hl : lv_has ls 2 [(0, .ref (q 22)), (1, .int p1)] := hl
  obtain ⟨H, hHe⟩ : ∃ H, s.heap = H := ⟨_, rfl⟩
  rw [hHe] at hP ⊢
  obtain ⟨locs, hLe⟩ : ∃ x : List Loc, ([] : List Loc) = x := ⟨_, rfl⟩
  rw [hLe]
  have hS : va_S (aT 30 q) s.heap H locs := by rw [← hHe, ← hLe]; exact va_S.rf
  refine lv_aload_n hx hb dX3_add_0 rfl (lv_at hl 0 rfl) ?_
  refine xc_i (va_runV (As := []) (rest := []) ⟨hx, hb, hml, hown, hts⟩ (c_X3_isFull_F l dC dI cI cJ q σ ) (cwV 0 hts (gV ml_X3_35 im_X3_isFull se_X3_isFull in_X3 co_X3_isFull) rfl rfl rfl (by decide +kernel) ⟨Nat.le_of_ble_eq_true rfl, Nat.le_of_ble_eq_true rfl⟩) (preV hK hP (pos := 22) (ci := 3) rfl rfl) rfl rfl hl.1 rfl (lv_room (Nat.le_of_ble_eq_true rfl)) dX3_add_1 ⟨Nat.zero_le _, Nat.zero_le _⟩) ?_
  refine lv_if_eq (tgt := 9) hx hb dX3_add_4 (by decide) (fun c_4 => ?_) (fun c_4 => ?_)
  · refine lv_aload_n hx hb dX3_add_9 rfl (lv_at hl 0 rfl) ?_
    refine va_get (D := (dC, dI)) (ci := 3) (v := .ref (q 26)) (C := RX3) (T := TX3) (N := 5) hx hb hts inX3 hown hK hP 22 rfl rfl 1 (by decide) (hts _ fl_X3_25) (fun _ h9 => h9) rfl dX3_add_10 ?_
    refine lv_aload_n hx hb dX3_add_13 rfl (lv_at hl 0 rfl) ?_
    refine va_get (D := (dC, dI)) (ci := 3) (v := .int (σ.2.1 2)) (C := RX3) (T := TX3) (N := 5) hx hb hts inX3 hown hK hP 22 rfl rfl 4 (by decide) (hts _ fl_X3_32) (fun _ h9 => h9) rfl dX3_add_14 ?_
    refine lv_iload_n hx hb dX3_add_17 rfl (lv_at hl 1 rfl) ?_
    refine va_iast hx hb hK hP (wT_D hd) hS 26 0 rfl rfl (full_in_F hI c_4) dX3_add_18 (fun H locs hP _ hS => ?_)
    have hP : va_P (dC, dI) vwCl (wT cI cJ q (sI σ 18 ((σ.2.1 2).toNatClampNeg) p1)) H := hP
    refine lv_aload_n hx hb dX3_add_19 rfl (lv_at hl 0 rfl) ?_
    refine va_get (D := (dC, dI)) (ci := 3) (v := .ref (q 27)) (C := RX3) (T := TX3) (N := 5) hx hb hts inX3 hown hK hP 22 rfl rfl 2 (by decide) (hts _ fl_X3_29) (fun _ h9 => h9) rfl dX3_add_20 ?_
    refine lv_aload_n hx hb dX3_add_23 rfl (lv_at hl 0 rfl) ?_
    refine va_get (D := (dC, dI)) (ci := 3) (v := .int (σ.2.1 2)) (C := RX3) (T := TX3) (N := 5) hx hb hts inX3 hown hK hP 22 rfl rfl 4 (by decide) (hts _ fl_X3_32) (fun _ h9 => h9) rfl dX3_add_24 ?_
    refine lv_aload_n hx hb dX3_add_27 rfl (lv_at hl 0 rfl) ?_
    refine va_get (D := (dC, dI)) (ci := 3) (v := .ref (q 1)) (C := RX3) (T := TX3) (N := 5) hx hb hts inX3 hown hK hP 22 rfl rfl 0 (by decide) (hts _ fl_X3_9) (fun _ h9 => h9) rfl dX3_add_28 ?_
    refine xc_i (va_runV (As := []) (rest := [.int (σ.2.1 2), .ref (q 27)]) ⟨hx, hb, hml, hown, hts⟩ (c_X2_open l dC dI cI cJ q (sI σ 18 ((σ.2.1 2).toNatClampNeg) p1) ) (cwV 0 hts (gV ml_X3_39 im_X2_open se_X2_open in_X2 co_X2_open) rfl rfl rfl (by decide +kernel) ⟨Nat.le_of_ble_eq_true rfl, Nat.le_of_ble_eq_true rfl⟩) (preV hK hP (pos := 1) (ci := 2) rfl rfl) rfl rfl hl.1 rfl (lv_room (Nat.le_of_ble_eq_true rfl)) dX3_add_31 ⟨Nat.zero_le _, Nat.zero_le _⟩) ?_
    refine va_iast hx hb hK hP (wT_D hd) hS 27 0 rfl rfl (full_in_F hI c_4) dX3_add_34 (fun H locs hP _ hS => ?_)
    have hP : va_P (dC, dI) vwCl (wT cI cJ q (sI (sI σ 18 ((σ.2.1 2).toNatClampNeg) p1) 19 ((σ.2.1 2).toNatClampNeg) ((σ.2.1 4) - 1))) H := hP
    refine lv_aload_n hx hb dX3_add_35 rfl (lv_at hl 0 rfl) ?_
    refine lv_dup hx hb dX3_add_36 rfl ?_
    refine va_get (D := (dC, dI)) (ci := 3) (v := .int (σ.2.1 2)) (C := RX3) (T := TX3) (N := 5) hx hb hts inX3 hown hK hP 22 rfl rfl 4 (by decide) (hts _ fl_X3_32) (fun _ h9 => h9) rfl dX3_add_37 ?_
    refine lv_iconst (v := 1) hx hb dX3_add_40 (by decide) ?_
    refine lv_iadd hx hb dX3_add_41 ?_
    refine va_put (D := (dC, dI)) (ci := 3) (v := .int ((σ.2.1 2) + 1)) (ty := .int) (C := RX3) (T := TX3) (N := 5) hx hb hts inX3 tyX3 tyX3_ok nmX3 hown hK hP (wT_D hd) hS 22 rfl rfl 4 (by decide) (hts _ fl_X3_32) (fun _ h9 => h9) rfl (by decide +kernel) rfl rfl (Nat.le_of_ble_eq_true rfl) dX3_add_42 (fun H locs hP _ hS => ?_)
    have hP : va_P (dC, dI) vwCl (wT cI cJ q (sV (sI (sI σ 18 ((σ.2.1 2).toNatClampNeg) p1) 19 ((σ.2.1 2).toNatClampNeg) ((σ.2.1 4) - 1)) 2 ((σ.2.1 2) + 1))) H := hP
    refine lv_aload_n hx hb dX3_add_45 rfl (lv_at hl 0 rfl) ?_
    refine va_get (D := (dC, dI)) (ci := 3) (v := .int ((σ.2.1 2) + 1)) (C := RX3) (T := TX3) (N := 5) hx hb hts inX3 hown hK hP 22 rfl rfl 4 (by decide) (hts _ fl_X3_32) (fun _ h9 => h9) rfl dX3_add_46 ?_
    refine lv_iconst (v := 1) hx hb dX3_add_49 (by decide) ?_
    refine lv_isub hx hb dX3_add_50 ?_
    have hF : fX3_add_F σ p1 = (((σ.2.1 2) + 1) - 1, (sV (sI (sI σ 18 ((σ.2.1 2).toNatClampNeg) p1) 19 ((σ.2.1 2).toNatClampNeg) ((σ.2.1 4) - 1)) 2 ((σ.2.1 2) + 1))) := by rw [fX3_add_F, if_pos c_4]
    have hP9 : va_P (dC, dI) vwCl (wT cI cJ q (fX3_add_F σ p1).2) H := by rw [hF]; exact hP
    exact W.iret (v := ((σ.2.1 2) + 1) - 1) hx hb hr (fun t ht hW => ⟨(by rw [hF]), by rw [ht]; exact hP9, hS.F ht⟩) hS.2.2 dX3_add_51
  · refine lv_iconst (v := (-1)) hx hb dX3_add_7 (by decide) ?_
    have hF : fX3_add_F σ p1 = ((-1), σ) := by rw [fX3_add_F, if_neg c_4]
    have hP9 : va_P (dC, dI) vwCl (wT cI cJ q (fX3_add_F σ p1).2) H := by rw [hF]; exact hP
    exact W.iret (v := (-1)) hx hb hr (fun t ht hW => ⟨(by rw [hF]), by rw [ht]; exact hP9, hS.F ht⟩) hS.2.2 dX3_add_8

theorem add_in_F {σ : St} {t : Int32} (hI : IB σ) (c : ¬ (fX3_add_F σ t).1 = (-1)) : vp_in (fX3_add_F σ t).1 200 := by
  unfold fX3_add_F at c ⊢
  split at c
  · rename_i h
    rw [if_pos h]
    have := full_in_F hI h
    have e : (σ.2.1 2) + 1 - 1 = σ.2.1 2 := Int32.add_sub_cancel _ _
    rw [e]
    exact this
  · exact absurd rfl c

def fX3_isKnown_F (σ : St) (p1 : Int32) (p2 : Int32) : Int32 :=
  (if p1 < 0 then 0 else (if (σ.2.1 2) ≤ p1 then 0 else (if p2 < (σ.1 18 p1.toNatClampNeg) then 0 else (if (fX2_isUndone σ (σ.1 19 p1.toNatClampNeg) p2) = 0 then 1 else 0))))
set_option maxHeartbeats 4000000 in
set_option maxRecDepth 100000 in
theorem c_X3_isKnown_F (l : Launch) (dC : Nat → ClassId) (dI : Nat → Nat → Nat) (cI cJ : ClassId) (q : Nat → Nat) (σ : St) (p1 : Int32) (p2 : Int32) (hI : IB σ) : Met l yX3_isKnown (.code yX3_isKnown cX3_isKnown 3 (some .boolean) :: tb) { frames := 1, cells := 0, slots := 0, locals := 22 } (Pu (dC, dI) (tyC cI cJ) (wT cI cJ q σ) [.ref (q 22), .int p1, .int p2]) (vp_Si (fun r => r = fX3_isKnown_F σ p1 p2)) 0 0 (fun _ => False) := by
  refine Met.ofW (cc := cX3_isKnown) (maxL := 3) (ret := (some .boolean)) (by decide) rfl ?_
  intro p e s m args below meth c s₁ B hml hv
  obtain ⟨rfl, hP, hK⟩ := hv
  have hx := B.exec
  have hb := B.bytes
  have hr := B.returns
  have hts0 := atoms_spec (ws := .code yX3_isKnown cX3_isKnown 3 (some .boolean) :: tb) B.pre
  have hts : ∀ w ∈ tb, w.before _ s = true := fun w hw => hts0 w (List.mem_cons_of_mem _ hw)
  have hown : s.vm.findClass RX3 = some m.cls := findClass_of_methodNamed B.named
  have hlocks := B.notSynchronized
  have hl := lv_entry ([.ref (q 22), .int p1, .int p2]) (n := 3) (Nat.le_of_ble_eq_true rfl)
  rw [lg_entry_eq]
  generalize (lg_sl ([.ref (q 22), .int p1, .int p2]) ++ List.replicate (3 - (lg_sl ([.ref (q 22), .int p1, .int p2])).length) Slot.unset).toArray = ls at hl ⊢
  have hl : lv_has ls 3 [(0, .ref (q 22)), (1, .int p1), (2, .int p2)] := hl
  refine lv_iload_n hx hb dX3_isKnown_0 rfl (lv_at hl 1 rfl) ?_
  refine lv_if_lt (tgt := 43) hx hb dX3_isKnown_1 (by decide) (fun c_1 => ?_) (fun c_1 => ?_)
  · refine lv_iconst (v := 0) hx hb dX3_isKnown_43 (by decide) ?_
    exact W.zret (v := 0) hx hb hr narrow_b0 (fun t ht hW => ⟨_, rfl, (by rw [fX3_isKnown_F, if_pos c_1]), ht⟩) (fun _ h => absurd h List.not_mem_nil) dX3_isKnown_44
  · refine lv_iload_n hx hb dX3_isKnown_4 rfl (lv_at hl 1 rfl) ?_
    refine lv_aload_n hx hb dX3_isKnown_5 rfl (lv_at hl 0 rfl) ?_
    refine va_get (D := (dC, dI)) (ci := 3) (v := .int (σ.2.1 2)) (C := RX3) (T := TX3) (N := 5) hx hb hts inX3 hown hK hP 22 rfl rfl 4 (by decide) (hts _ fl_X3_32) (fun _ h9 => h9) rfl dX3_isKnown_6 ?_
    refine lv_icmp_ge (tgt := 43) hx hb dX3_isKnown_9 (by decide) (fun c_9 => ?_) (fun c_9 => ?_)
    · refine lv_iconst (v := 0) hx hb dX3_isKnown_43 (by decide) ?_
      exact W.zret (v := 0) hx hb hr narrow_b0 (fun t ht hW => ⟨_, rfl, (by rw [fX3_isKnown_F, if_neg c_1, if_pos c_9]), ht⟩) (fun _ h => absurd h List.not_mem_nil) dX3_isKnown_44
    · refine lv_aload_n hx hb dX3_isKnown_12 rfl (lv_at hl 0 rfl) ?_
      refine va_get (D := (dC, dI)) (ci := 3) (v := .ref (q 26)) (C := RX3) (T := TX3) (N := 5) hx hb hts inX3 hown hK hP 22 rfl rfl 1 (by decide) (hts _ fl_X3_25) (fun _ h9 => h9) rfl dX3_isKnown_13 ?_
      refine lv_iload_n hx hb dX3_isKnown_16 rfl (lv_at hl 1 rfl) ?_
      refine va_iald hx hb hK hP 26 0 rfl rfl (vp_in_mono (in_size hI.2.1 (by decide) c_1 c_9) hI.2.1.2) dX3_isKnown_17 ?_
      refine lv_iload_n hx hb dX3_isKnown_18 rfl (lv_at hl 2 rfl) ?_
      refine lv_icmp_gt (tgt := 43) hx hb dX3_isKnown_19 (by decide) (fun c_19 => ?_) (fun c_19 => ?_)
      · refine lv_iconst (v := 0) hx hb dX3_isKnown_43 (by decide) ?_
        exact W.zret (v := 0) hx hb hr narrow_b0 (fun t ht hW => ⟨_, rfl, (by rw [fX3_isKnown_F, if_neg c_1, if_neg c_9, if_pos c_19]), ht⟩) (fun _ h => absurd h List.not_mem_nil) dX3_isKnown_44
      · refine lv_aload_n hx hb dX3_isKnown_22 rfl (lv_at hl 0 rfl) ?_
        refine va_get (D := (dC, dI)) (ci := 3) (v := .ref (q 1)) (C := RX3) (T := TX3) (N := 5) hx hb hts inX3 hown hK hP 22 rfl rfl 0 (by decide) (hts _ fl_X3_9) (fun _ h9 => h9) rfl dX3_isKnown_23 ?_
        refine lv_aload_n hx hb dX3_isKnown_26 rfl (lv_at hl 0 rfl) ?_
        refine va_get (D := (dC, dI)) (ci := 3) (v := .ref (q 27)) (C := RX3) (T := TX3) (N := 5) hx hb hts inX3 hown hK hP 22 rfl rfl 2 (by decide) (hts _ fl_X3_29) (fun _ h9 => h9) rfl dX3_isKnown_27 ?_
        refine lv_iload_n hx hb dX3_isKnown_30 rfl (lv_at hl 1 rfl) ?_
        refine va_iald hx hb hK hP 27 0 rfl rfl (vp_in_mono (in_size hI.2.1 (by decide) c_1 c_9) hI.2.1.2) dX3_isKnown_31 ?_
        refine lv_iload_n hx hb dX3_isKnown_32 rfl (lv_at hl 2 rfl) ?_
        refine xc_i (va_runV (As := [.int (σ.1 19 p1.toNatClampNeg), .int p2]) (rest := []) ⟨hx, hb, hml, hown, hts⟩ (c_X2_isUndone l dC dI cI cJ q σ (σ.1 19 p1.toNatClampNeg) p2 (hI.2.2.2.2.2 _ (vp_in_lt (in_size hI.2.1 (by decide) c_1 c_9)))) (cwV 2 hts (gV ml_X3_45 im_X2_isUndone se_X2_isUndone in_X2 co_X2_isUndone) rfl rfl rfl (by decide +kernel) ⟨Nat.le_of_ble_eq_true rfl, Nat.le_of_ble_eq_true rfl⟩) (preV hK hP (pos := 1) (ci := 2) rfl rfl) rfl rfl hl.1 rfl (lv_room (Nat.le_of_ble_eq_true rfl)) dX3_isKnown_33 ⟨Nat.zero_le _, Nat.zero_le _⟩) ?_
        refine lv_if_ne (tgt := 43) hx hb dX3_isKnown_36 (by decide) (fun c_36 => ?_) (fun c_36 => ?_)
        · refine lv_iconst (v := 0) hx hb dX3_isKnown_43 (by decide) ?_
          exact W.zret (v := 0) hx hb hr narrow_b0 (fun t ht hW => ⟨_, rfl, (by rw [fX3_isKnown_F, if_neg c_1, if_neg c_9, if_neg c_19, if_neg c_36]), ht⟩) (fun _ h => absurd h List.not_mem_nil) dX3_isKnown_44
        · refine lv_iconst (v := 1) hx hb dX3_isKnown_39 (by decide) ?_
          refine lv_goto (tgt := 44) hx hb dX3_isKnown_40 (by decide) ?_
          exact W.zret (v := 1) hx hb hr narrow_b1 (fun t ht hW => ⟨_, rfl, (by rw [fX3_isKnown_F, if_neg c_1, if_neg c_9, if_neg c_19, if_pos c_36]), ht⟩) (fun _ h => absurd h List.not_mem_nil) dX3_isKnown_44

theorem b_X3_isKnown_F (σ : St) (p1 : Int32) (p2 : Int32) : fX3_isKnown_F σ p1 p2 = 0 ∨ fX3_isKnown_F σ p1 p2 = 1 := by
  unfold fX3_isKnown_F
  repeat' split
  all_goals first | exact Or.inl rfl | exact Or.inr rfl

theorem known_in_F {σ : St} {x k : Int32} (hI : IB σ) (c : ¬ fX3_isKnown_F σ x k = 0) : vp_in x (σ.2.1 2).toNatClampNeg := by
  unfold fX3_isKnown_F at c
  split at c
  · exact absurd rfl c
  · split at c
    · exact absurd rfl c
    · exact in_size hI.2.1 (by decide) (by assumption) (by assumption)

def flX3_sizeOfLoad_F_4 (σ : St) (p1 : Int32) : Nat → Nat → Int32 → Int32
  | 0, i, n => n
  | k + 1, i, n => (if (σ.1 19 i) = p1 then flX3_sizeOfLoad_F_4 σ p1 k (i + 1) (n + 1) else flX3_sizeOfLoad_F_4 σ p1 k (i + 1) n)
def fX3_sizeOfLoad_F (σ : St) (p1 : Int32) : Int32 :=
  flX3_sizeOfLoad_F_4 σ p1 ((σ.2.1 2).toNatClampNeg) 0 0
set_option maxHeartbeats 4000000 in
set_option maxRecDepth 100000 in
theorem c_X3_sizeOfLoad_F (l : Launch) (dC : Nat → ClassId) (dI : Nat → Nat → Nat) (cI cJ : ClassId) (q : Nat → Nat) (σ : St) (p1 : Int32) (hI : IB σ) : Met l yX3_sizeOfLoad (.code yX3_sizeOfLoad cX3_sizeOfLoad 4 (some .int) :: tb) { frames := 0, cells := 0, slots := 0, locals := 0 } (Pu (dC, dI) (tyC cI cJ) (wT cI cJ q σ) [.ref (q 22), .int p1]) (vp_Si (fun r => r = fX3_sizeOfLoad_F σ p1)) 0 0 (fun _ => False) := by
  refine Met.ofW (cc := cX3_sizeOfLoad) (maxL := 4) (ret := (some .int)) (by decide) rfl ?_
  intro p e s m args below meth c s₁ B hml hv
  obtain ⟨rfl, hP, hK⟩ := hv
  have hx := B.exec
  have hb := B.bytes
  have hr := B.returns
  have hts0 := atoms_spec (ws := .code yX3_sizeOfLoad cX3_sizeOfLoad 4 (some .int) :: tb) B.pre
  have hts : ∀ w ∈ tb, w.before _ s = true := fun w hw => hts0 w (List.mem_cons_of_mem _ hw)
  have hown : s.vm.findClass RX3 = some m.cls := findClass_of_methodNamed B.named
  have hlocks := B.notSynchronized
  have hl := lv_entry ([.ref (q 22), .int p1]) (n := 4) (Nat.le_of_ble_eq_true rfl)
  rw [lg_entry_eq]
  generalize (lg_sl ([.ref (q 22), .int p1]) ++ List.replicate (4 - (lg_sl ([.ref (q 22), .int p1])).length) Slot.unset).toArray = ls at hl ⊢
  have hl : lv_has ls 4 [(0, .ref (q 22)), (1, .int p1)] := hl
  refine lv_iconst (v := 0) hx hb dX3_sizeOfLoad_0 (by decide) ?_
  refine lv_istore_n (lv' := [(2, .int 0), (0, .ref (q 22)), (1, .int p1)]) hx hb dX3_sizeOfLoad_1 rfl hl (by decide) rfl (fun ls hl => ?_)
  refine lv_iconst (v := 0) hx hb dX3_sizeOfLoad_2 (by decide) ?_
  refine lv_istore_n (lv' := [(3, .int 0), (2, .int 0), (0, .ref (q 22)), (1, .int p1)]) hx hb dX3_sizeOfLoad_3 rfl hl (by decide) rfl (fun ls hl => ?_)
  have hz : szI (σ.2.1 2) 200 := hI.2.1
  have hz2 := hz.2
  have loop_4 : ∀ (k i : Nat) (n : Int32), i + k = (σ.2.1 2).toNatClampNeg → fX3_sizeOfLoad_F σ p1 = flX3_sizeOfLoad_F_4 σ p1 k i n → ∀ (ls : Array Slot), lv_has ls 4 [(0, .ref (q 22)), (1, .int p1), (3, .int (nI i)), (2, .int n)] → W p l e (headSpec (.code yX3_sizeOfLoad cX3_sizeOfLoad 4 (some .int) :: tb) { frames := 0, cells := 0, slots := 0, locals := 0 }).room s m (List.toArray [.ref (q 22), .int p1]) below meth c s.heap [] 0 0 (MQ below (vp_Si (fun r => r = fX3_sizeOfLoad_F σ p1)) (List.toArray [.ref (q 22), .int p1]) s 0 0 (fun _ => False)) (F0 m 4 ls []) := by
    intro k
    induction k with
    | zero =>
      intro i n hik hE ls hl
      refine lv_iload_n hx hb dX3_sizeOfLoad_4 rfl (lv_at hl 2 rfl) ?_
      refine lv_aload_n hx hb dX3_sizeOfLoad_5 rfl (lv_at hl 0 rfl) ?_
      refine va_get (D := (dC, dI)) (ci := 3) (v := .int (σ.2.1 2)) (C := RX3) (T := TX3) (N := 5) hx hb hts inX3 hown hK hP 22 rfl rfl 4 (by decide) (hts _ fl_X3_32) (fun _ h9 => h9) rfl dX3_sizeOfLoad_6 ?_
      refine lv_icmp_ge (tgt := 31) hx hb dX3_sizeOfLoad_9 (by decide) (fun c_9 => ?_) (fun c_9 => ?_)
      · refine lv_iload_n hx hb dX3_sizeOfLoad_31 rfl (lv_at hl 3 rfl) ?_
        exact W.iret (v := n) hx hb hr (fun t ht hW => ⟨_, rfl, (by rw [hE, flX3_sizeOfLoad_F_4]), ht⟩) (fun _ h => absurd h List.not_mem_nil) dX3_sizeOfLoad_32
      · exact absurd (by rw [hz.1]; exact nI_le (by omega) (by omega)) c_9
    | succ k ih =>
      intro i n hik hE ls hl
      refine lv_iload_n hx hb dX3_sizeOfLoad_4 rfl (lv_at hl 2 rfl) ?_
      refine lv_aload_n hx hb dX3_sizeOfLoad_5 rfl (lv_at hl 0 rfl) ?_
      refine va_get (D := (dC, dI)) (ci := 3) (v := .int (σ.2.1 2)) (C := RX3) (T := TX3) (N := 5) hx hb hts inX3 hown hK hP 22 rfl rfl 4 (by decide) (hts _ fl_X3_32) (fun _ h9 => h9) rfl dX3_sizeOfLoad_6 ?_
      refine lv_icmp_ge (tgt := 31) hx hb dX3_sizeOfLoad_9 (by decide) (fun c_9 => ?_) (fun c_9 => ?_)
      · exact absurd c_9 (by rw [hz.1]; exact nI_ge (by omega) (by omega))
      · refine lv_aload_n hx hb dX3_sizeOfLoad_12 rfl (lv_at hl 0 rfl) ?_
        refine va_get (D := (dC, dI)) (ci := 3) (v := .ref (q 27)) (C := RX3) (T := TX3) (N := 5) hx hb hts inX3 hown hK hP 22 rfl rfl 2 (by decide) (hts _ fl_X3_29) (fun _ h9 => h9) rfl dX3_sizeOfLoad_13 ?_
        refine lv_iload_n hx hb dX3_sizeOfLoad_16 rfl (lv_at hl 2 rfl) ?_
        refine xa_ild hx hb hK hP 27 0 rfl rfl (by omega) (by decide) dX3_sizeOfLoad_17 ?_
        refine lv_iload_n hx hb dX3_sizeOfLoad_18 rfl (lv_at hl 1 rfl) ?_
        refine lv_icmp_ne (tgt := 25) hx hb dX3_sizeOfLoad_19 (by decide) (fun c_19 => ?_) (fun c_19 => ?_)
        · refine lv_iinc (v := nI (i + 1)) (lv' := [(3, .int (nI (i + 1))), (0, .ref (q 22)), (1, .int p1), (2, .int n)]) hx hb dX3_sizeOfLoad_25 hl (k := 2) rfl (nI_1 i) (by decide) rfl (fun ls hl => ?_)
          refine lv_goto (tgt := 4) hx hb dX3_sizeOfLoad_28 (by decide) ?_
          exact ih (i + 1) n (by omega) (by rw [hE, flX3_sizeOfLoad_F_4, if_neg c_19]) ls (lv_sub hl [1, 2, 0, 3] rfl)
        · refine lv_iinc (v := n + 1) (lv' := [(2, .int (n + 1)), (0, .ref (q 22)), (1, .int p1), (3, .int (nI i))]) hx hb dX3_sizeOfLoad_22 hl (k := 3) rfl rfl (by decide) rfl (fun ls hl => ?_)
          refine lv_iinc (v := nI (i + 1)) (lv' := [(3, .int (nI (i + 1))), (2, .int (n + 1)), (0, .ref (q 22)), (1, .int p1)]) hx hb dX3_sizeOfLoad_25 hl (k := 3) rfl (nI_1 i) (by decide) rfl (fun ls hl => ?_)
          refine lv_goto (tgt := 4) hx hb dX3_sizeOfLoad_28 (by decide) ?_
          exact ih (i + 1) (n + 1) (by omega) (by rw [hE, flX3_sizeOfLoad_F_4, if_pos c_19]) ls (lv_sub hl [2, 3, 0, 1] rfl)
  exact loop_4 ((σ.2.1 2).toNatClampNeg) 0 0 (by rw [Nat.zero_add]) (by rw [fX3_sizeOfLoad_F]) ls (lv_sub hl [2, 3, 0, 1] rfl)
end
section
theorem room_in {z : Int32} (h : szI z 40) (c : 1 ≤ 40 - z) : vp_in z 40 := by
  obtain ⟨h1, h2⟩ := h
  rw [h1] at c ⊢
  refine vp_in_nI ?_ (by decide)
  rcases Nat.lt_or_ge z.toNatClampNeg 40 with q | q
  · exact q
  · have : z.toNatClampNeg = 40 := by omega
    rw [this] at c
    exact absurd c (by decide)
theorem ge1_ne {x : Int32} (c : 1 ≤ x) : ¬ x = 0 := by
  intro h
  rw [h] at c
  exact absurd c (by decide)
theorem IB_congr {σ σ' : St} (h1 : σ'.1 = σ.1) (h2 : σ'.2.1 = σ.2.1) (h : IB σ) : IB σ' := by
  unfold IB at h ⊢
  rw [h1, h2]
  exact h

set_option maxHeartbeats 4000000 in
set_option maxRecDepth 100000 in
theorem c_X3_size_T (l : Launch) (dC : Nat → ClassId) (dI : Nat → Nat → Nat) (cI cJ : ClassId) (q : Nat → Nat) (σ : St) : Met l yX3_size (.code yX3_size cX3_size 1 (some .int) :: tb) { frames := 0, cells := 0, slots := 0, locals := 0 } (Pu (dC, dI) (tyC cI cJ) (wT cI cJ q σ) [.ref (q 14)]) (vp_Si (fun r => r = σ.2.1 3)) 0 0 (fun _ => False) := by
  refine Met.ofW (cc := cX3_size) (maxL := 1) (ret := (some .int)) (by decide) rfl ?_
  intro p e s m args below meth c s₁ B hml hv
  obtain ⟨rfl, hP, hK⟩ := hv
  have hx := B.exec
  have hb := B.bytes
  have hr := B.returns
  have hts0 := atoms_spec (ws := .code yX3_size cX3_size 1 (some .int) :: tb) B.pre
  have hts : ∀ w ∈ tb, w.before _ s = true := fun w hw => hts0 w (List.mem_cons_of_mem _ hw)
  have hown : s.vm.findClass RX3 = some m.cls := findClass_of_methodNamed B.named
  have hlocks := B.notSynchronized
  have hl := lv_entry ([.ref (q 14)]) (n := 1) (Nat.le_of_ble_eq_true rfl)
  rw [lg_entry_eq]
  generalize (lg_sl ([.ref (q 14)]) ++ List.replicate (1 - (lg_sl ([.ref (q 14)])).length) Slot.unset).toArray = ls at hl ⊢
  have hl : lv_has ls 1 [(0, .ref (q 14))] := hl
  refine lv_aload_n hx hb dX3_size_0 rfl (lv_at hl 0 rfl) ?_
  refine va_get (D := (dC, dI)) (ci := 3) (v := .int (σ.2.1 3)) (C := RX3) (T := TX3) (N := 5) hx hb hts inX3 hown hK hP 14 rfl rfl 4 (by decide) (hts _ fl_X3_32) (fun _ h9 => h9) rfl dX3_size_1 ?_
  exact W.iret (v := σ.2.1 3) hx hb hr (fun t ht hW => ⟨_, rfl, rfl, ht⟩) (fun _ h => absurd h List.not_mem_nil) dX3_size_4

def fX3_isFull_T (σ : St) : Int32 :=
  (if (σ.2.1 3) < 300 then 0 else 1)
set_option maxHeartbeats 4000000 in
set_option maxRecDepth 100000 in
theorem c_X3_isFull_T (l : Launch) (dC : Nat → ClassId) (dI : Nat → Nat → Nat) (cI cJ : ClassId) (q : Nat → Nat) (σ : St) : Met l yX3_isFull (.code yX3_isFull cX3_isFull 1 (some .boolean) :: tb) { frames := 0, cells := 0, slots := 0, locals := 0 } (Pu (dC, dI) (tyC cI cJ) (wT cI cJ q σ) [.ref (q 14)]) (vp_Si (fun r => r = fX3_isFull_T σ)) 0 0 (fun _ => False) := by
  refine Met.ofW (cc := cX3_isFull) (maxL := 1) (ret := (some .boolean)) (by decide) rfl ?_
  intro p e s m args below meth c s₁ B hml hv
  obtain ⟨rfl, hP, hK⟩ := hv
  have hx := B.exec
  have hb := B.bytes
  have hr := B.returns
  have hts0 := atoms_spec (ws := .code yX3_isFull cX3_isFull 1 (some .boolean) :: tb) B.pre
  have hts : ∀ w ∈ tb, w.before _ s = true := fun w hw => hts0 w (List.mem_cons_of_mem _ hw)
  have hown : s.vm.findClass RX3 = some m.cls := findClass_of_methodNamed B.named
  have hlocks := B.notSynchronized
  have hl := lv_entry ([.ref (q 14)]) (n := 1) (Nat.le_of_ble_eq_true rfl)
  rw [lg_entry_eq]
  generalize (lg_sl ([.ref (q 14)]) ++ List.replicate (1 - (lg_sl ([.ref (q 14)])).length) Slot.unset).toArray = ls at hl ⊢
  have hl : lv_has ls 1 [(0, .ref (q 14))] := hl
  refine lv_aload_n hx hb dX3_isFull_0 rfl (lv_at hl 0 rfl) ?_
  refine va_get (D := (dC, dI)) (ci := 3) (v := .int (σ.2.1 3)) (C := RX3) (T := TX3) (N := 5) hx hb hts inX3 hown hK hP 14 rfl rfl 4 (by decide) (hts _ fl_X3_32) (fun _ h9 => h9) rfl dX3_isFull_1 ?_
  refine lv_aload_n hx hb dX3_isFull_4 rfl (lv_at hl 0 rfl) ?_
  refine va_get (D := (dC, dI)) (ci := 3) (v := .int 300) (C := RX3) (T := TX3) (N := 5) hx hb hts inX3 hown hK hP 14 rfl rfl 3 (by decide) (hts _ fl_X3_21) (fun _ h9 => h9) rfl dX3_isFull_5 ?_
  refine lv_icmp_lt (tgt := 15) hx hb dX3_isFull_8 (by decide) (fun c_8 => ?_) (fun c_8 => ?_)
  · refine lv_iconst (v := 0) hx hb dX3_isFull_15 (by decide) ?_
    exact W.zret (v := 0) hx hb hr narrow_b0 (fun t ht hW => ⟨_, rfl, (by rw [fX3_isFull_T, if_pos c_8]), ht⟩) (fun _ h => absurd h List.not_mem_nil) dX3_isFull_16
  · refine lv_iconst (v := 1) hx hb dX3_isFull_11 (by decide) ?_
    refine lv_goto (tgt := 16) hx hb dX3_isFull_12 (by decide) ?_
    exact W.zret (v := 1) hx hb hr narrow_b1 (fun t ht hW => ⟨_, rfl, (by rw [fX3_isFull_T, if_neg c_8]), ht⟩) (fun _ h => absurd h List.not_mem_nil) dX3_isFull_16

theorem b_X3_isFull_T (σ : St) : fX3_isFull_T σ = 0 ∨ fX3_isFull_T σ = 1 := by
  unfold fX3_isFull_T
  repeat' split
  all_goals first | exact Or.inl rfl | exact Or.inr rfl

theorem full_in_T {σ : St} (hI : IB σ) (c : fX3_isFull_T σ = 0) : vp_in (σ.2.1 3) 300 := by
  unfold fX3_isFull_T at c
  split at c
  · exact sz_lt2 hI.2.2.1 (by decide) (by assumption)
  · exact absurd c (by decide)

def fX3_add_T (σ : St) (p1 : Int32) : Int32 × St :=
  (if (fX3_isFull_T σ) = 0 then (((σ.2.1 3) + 1) - 1, (sV (sI (sI σ 13 ((σ.2.1 3).toNatClampNeg) p1) 14 ((σ.2.1 3).toNatClampNeg) ((σ.2.1 4) - 1)) 3 ((σ.2.1 3) + 1))) else ((-1), σ))
set_option maxHeartbeats 4000000 in
set_option maxRecDepth 100000 in
theorem c_X3_add_T (l : Launch) (dC : Nat → ClassId) (dI : Nat → Nat → Nat) (cI cJ : ClassId) (q : Nat → Nat) (σ : St) (p1 : Int32) (hd : dT 30 q) (hI : IB σ) : Met l yX3_add (.code yX3_add cX3_add 2 (some .int) :: tb) { frames := 1, cells := 0, slots := 0, locals := 20 } (Pu (dC, dI) (tyC cI cJ) (wT cI cJ q σ) [.ref (q 14), .int p1]) (xw_Q (some (.int (fX3_add_T σ p1).1)) (dC, dI) (wT cI cJ q (fX3_add_T σ p1).2) (aT 30 q)) 0 0 (aT 30 q) := by
  refine Met.ofW (cc := cX3_add) (maxL := 2) (ret := (some .int)) (by decide) rfl ?_
  intro p e s m args below meth c s₁ B hml hv
  obtain ⟨rfl, hP, hK⟩ := hv
  have hx := B.exec
  have hb := B.bytes
  have hr := B.returns
  have hts0 := atoms_spec (ws := .code yX3_add cX3_add 2 (some .int) :: tb) B.pre
  have hts : ∀ w ∈ tb, w.before _ s = true := fun w hw => hts0 w (List.mem_cons_of_mem _ hw)
  have hown : s.vm.findClass RX3 = some m.cls := findClass_of_methodNamed B.named
  have hlocks := B.notSynchronized
  have hl := lv_entry ([.ref (q 14), .int p1]) (n := 2) (Nat.le_of_ble_eq_true rfl)
  rw [lg_entry_eq]
  generalize (lg_sl ([.ref (q 14), .int p1]) ++ List.replicate (2 - (lg_sl ([.ref (q 14), .int p1])).length) Slot.unset).toArray = ls at hl ⊢
  have hl : lv_has ls 2 [(0, .ref (q 14)), (1, .int p1)] := hl
  obtain ⟨H, hHe⟩ : ∃ H, s.heap = H := ⟨_, rfl⟩
  rw [hHe] at hP ⊢
  obtain ⟨locs, hLe⟩ : ∃ x : List Loc, ([] : List Loc) = x := ⟨_, rfl⟩
  rw [hLe]
  have hS : va_S (aT 30 q) s.heap H locs := by rw [← hHe, ← hLe]; exact va_S.rf
  refine lv_aload_n hx hb dX3_add_0 rfl (lv_at hl 0 rfl) ?_
  refine xc_i (va_runV (As := []) (rest := []) ⟨hx, hb, hml, hown, hts⟩ (c_X3_isFull_T l dC dI cI cJ q σ ) (cwV 0 hts (gV ml_X3_35 im_X3_isFull se_X3_isFull in_X3 co_X3_isFull) rfl rfl rfl (by decide +kernel) ⟨Nat.le_of_ble_eq_true rfl, Nat.le_of_ble_eq_true rfl⟩) (preV hK hP (pos := 14) (ci := 3) rfl rfl) rfl rfl hl.1 rfl (lv_room (Nat.le_of_ble_eq_true rfl)) dX3_add_1 ⟨Nat.zero_le _, Nat.zero_le _⟩) ?_
  refine lv_if_eq (tgt := 9) hx hb dX3_add_4 (by decide) (fun c_4 => ?_) (fun c_4 => ?_)
  · refine lv_aload_n hx hb dX3_add_9 rfl (lv_at hl 0 rfl) ?_
    refine va_get (D := (dC, dI)) (ci := 3) (v := .ref (q 19)) (C := RX3) (T := TX3) (N := 5) hx hb hts inX3 hown hK hP 14 rfl rfl 1 (by decide) (hts _ fl_X3_25) (fun _ h9 => h9) rfl dX3_add_10 ?_
    refine lv_aload_n hx hb dX3_add_13 rfl (lv_at hl 0 rfl) ?_
    refine va_get (D := (dC, dI)) (ci := 3) (v := .int (σ.2.1 3)) (C := RX3) (T := TX3) (N := 5) hx hb hts inX3 hown hK hP 14 rfl rfl 4 (by decide) (hts _ fl_X3_32) (fun _ h9 => h9) rfl dX3_add_14 ?_
    refine lv_iload_n hx hb dX3_add_17 rfl (lv_at hl 1 rfl) ?_
    refine va_iast hx hb hK hP (wT_D hd) hS 19 0 rfl rfl (full_in_T hI c_4) dX3_add_18 (fun H locs hP _ hS => ?_)
    have hP : va_P (dC, dI) vwCl (wT cI cJ q (sI σ 13 ((σ.2.1 3).toNatClampNeg) p1)) H := hP
    refine lv_aload_n hx hb dX3_add_19 rfl (lv_at hl 0 rfl) ?_
    refine va_get (D := (dC, dI)) (ci := 3) (v := .ref (q 20)) (C := RX3) (T := TX3) (N := 5) hx hb hts inX3 hown hK hP 14 rfl rfl 2 (by decide) (hts _ fl_X3_29) (fun _ h9 => h9) rfl dX3_add_20 ?_
    refine lv_aload_n hx hb dX3_add_23 rfl (lv_at hl 0 rfl) ?_
    refine va_get (D := (dC, dI)) (ci := 3) (v := .int (σ.2.1 3)) (C := RX3) (T := TX3) (N := 5) hx hb hts inX3 hown hK hP 14 rfl rfl 4 (by decide) (hts _ fl_X3_32) (fun _ h9 => h9) rfl dX3_add_24 ?_
    refine lv_aload_n hx hb dX3_add_27 rfl (lv_at hl 0 rfl) ?_
    refine va_get (D := (dC, dI)) (ci := 3) (v := .ref (q 1)) (C := RX3) (T := TX3) (N := 5) hx hb hts inX3 hown hK hP 14 rfl rfl 0 (by decide) (hts _ fl_X3_9) (fun _ h9 => h9) rfl dX3_add_28 ?_
    refine xc_i (va_runV (As := []) (rest := [.int (σ.2.1 3), .ref (q 20)]) ⟨hx, hb, hml, hown, hts⟩ (c_X2_open l dC dI cI cJ q (sI σ 13 ((σ.2.1 3).toNatClampNeg) p1) ) (cwV 0 hts (gV ml_X3_39 im_X2_open se_X2_open in_X2 co_X2_open) rfl rfl rfl (by decide +kernel) ⟨Nat.le_of_ble_eq_true rfl, Nat.le_of_ble_eq_true rfl⟩) (preV hK hP (pos := 1) (ci := 2) rfl rfl) rfl rfl hl.1 rfl (lv_room (Nat.le_of_ble_eq_true rfl)) dX3_add_31 ⟨Nat.zero_le _, Nat.zero_le _⟩) ?_
    refine va_iast hx hb hK hP (wT_D hd) hS 20 0 rfl rfl (full_in_T hI c_4) dX3_add_34 (fun H locs hP _ hS => ?_)
    have hP : va_P (dC, dI) vwCl (wT cI cJ q (sI (sI σ 13 ((σ.2.1 3).toNatClampNeg) p1) 14 ((σ.2.1 3).toNatClampNeg) ((σ.2.1 4) - 1))) H := hP
    refine lv_aload_n hx hb dX3_add_35 rfl (lv_at hl 0 rfl) ?_
    refine lv_dup hx hb dX3_add_36 rfl ?_
    refine va_get (D := (dC, dI)) (ci := 3) (v := .int (σ.2.1 3)) (C := RX3) (T := TX3) (N := 5) hx hb hts inX3 hown hK hP 14 rfl rfl 4 (by decide) (hts _ fl_X3_32) (fun _ h9 => h9) rfl dX3_add_37 ?_
    refine lv_iconst (v := 1) hx hb dX3_add_40 (by decide) ?_
    refine lv_iadd hx hb dX3_add_41 ?_
    refine va_put (D := (dC, dI)) (ci := 3) (v := .int ((σ.2.1 3) + 1)) (ty := .int) (C := RX3) (T := TX3) (N := 5) hx hb hts inX3 tyX3 tyX3_ok nmX3 hown hK hP (wT_D hd) hS 14 rfl rfl 4 (by decide) (hts _ fl_X3_32) (fun _ h9 => h9) rfl (by decide +kernel) rfl rfl (Nat.le_of_ble_eq_true rfl) dX3_add_42 (fun H locs hP _ hS => ?_)
    have hP : va_P (dC, dI) vwCl (wT cI cJ q (sV (sI (sI σ 13 ((σ.2.1 3).toNatClampNeg) p1) 14 ((σ.2.1 3).toNatClampNeg) ((σ.2.1 4) - 1)) 3 ((σ.2.1 3) + 1))) H := hP
    refine lv_aload_n hx hb dX3_add_45 rfl (lv_at hl 0 rfl) ?_
    refine va_get (D := (dC, dI)) (ci := 3) (v := .int ((σ.2.1 3) + 1)) (C := RX3) (T := TX3) (N := 5) hx hb hts inX3 hown hK hP 14 rfl rfl 4 (by decide) (hts _ fl_X3_32) (fun _ h9 => h9) rfl dX3_add_46 ?_
    refine lv_iconst (v := 1) hx hb dX3_add_49 (by decide) ?_
    refine lv_isub hx hb dX3_add_50 ?_
    have hF : fX3_add_T σ p1 = (((σ.2.1 3) + 1) - 1, (sV (sI (sI σ 13 ((σ.2.1 3).toNatClampNeg) p1) 14 ((σ.2.1 3).toNatClampNeg) ((σ.2.1 4) - 1)) 3 ((σ.2.1 3) + 1))) := by rw [fX3_add_T, if_pos c_4]
    have hP9 : va_P (dC, dI) vwCl (wT cI cJ q (fX3_add_T σ p1).2) H := by rw [hF]; exact hP
    exact W.iret (v := ((σ.2.1 3) + 1) - 1) hx hb hr (fun t ht hW => ⟨(by rw [hF]), by rw [ht]; exact hP9, hS.F ht⟩) hS.2.2 dX3_add_51
  · refine lv_iconst (v := (-1)) hx hb dX3_add_7 (by decide) ?_
    have hF : fX3_add_T σ p1 = ((-1), σ) := by rw [fX3_add_T, if_neg c_4]
    have hP9 : va_P (dC, dI) vwCl (wT cI cJ q (fX3_add_T σ p1).2) H := by rw [hF]; exact hP
    exact W.iret (v := (-1)) hx hb hr (fun t ht hW => ⟨(by rw [hF]), by rw [ht]; exact hP9, hS.F ht⟩) hS.2.2 dX3_add_8

theorem add_in_T {σ : St} {t : Int32} (hI : IB σ) (c : ¬ (fX3_add_T σ t).1 = (-1)) : vp_in (fX3_add_T σ t).1 300 := by
  unfold fX3_add_T at c ⊢
  split at c
  · rename_i h
    rw [if_pos h]
    have := full_in_T hI h
    have e : (σ.2.1 3) + 1 - 1 = σ.2.1 3 := Int32.add_sub_cancel _ _
    rw [e]
    exact this
  · exact absurd rfl c

def fX3_isKnown_T (σ : St) (p1 : Int32) (p2 : Int32) : Int32 :=
  (if p1 < 0 then 0 else (if (σ.2.1 3) ≤ p1 then 0 else (if p2 < (σ.1 13 p1.toNatClampNeg) then 0 else (if (fX2_isUndone σ (σ.1 14 p1.toNatClampNeg) p2) = 0 then 1 else 0))))
set_option maxHeartbeats 4000000 in
set_option maxRecDepth 100000 in
theorem c_X3_isKnown_T (l : Launch) (dC : Nat → ClassId) (dI : Nat → Nat → Nat) (cI cJ : ClassId) (q : Nat → Nat) (σ : St) (p1 : Int32) (p2 : Int32) (hI : IB σ) : Met l yX3_isKnown (.code yX3_isKnown cX3_isKnown 3 (some .boolean) :: tb) { frames := 1, cells := 0, slots := 0, locals := 22 } (Pu (dC, dI) (tyC cI cJ) (wT cI cJ q σ) [.ref (q 14), .int p1, .int p2]) (vp_Si (fun r => r = fX3_isKnown_T σ p1 p2)) 0 0 (fun _ => False) := by
  refine Met.ofW (cc := cX3_isKnown) (maxL := 3) (ret := (some .boolean)) (by decide) rfl ?_
  intro p e s m args below meth c s₁ B hml hv
  obtain ⟨rfl, hP, hK⟩ := hv
  have hx := B.exec
  have hb := B.bytes
  have hr := B.returns
  have hts0 := atoms_spec (ws := .code yX3_isKnown cX3_isKnown 3 (some .boolean) :: tb) B.pre
  have hts : ∀ w ∈ tb, w.before _ s = true := fun w hw => hts0 w (List.mem_cons_of_mem _ hw)
  have hown : s.vm.findClass RX3 = some m.cls := findClass_of_methodNamed B.named
  have hlocks := B.notSynchronized
  have hl := lv_entry ([.ref (q 14), .int p1, .int p2]) (n := 3) (Nat.le_of_ble_eq_true rfl)
  rw [lg_entry_eq]
  generalize (lg_sl ([.ref (q 14), .int p1, .int p2]) ++ List.replicate (3 - (lg_sl ([.ref (q 14), .int p1, .int p2])).length) Slot.unset).toArray = ls at hl ⊢
  have hl : lv_has ls 3 [(0, .ref (q 14)), (1, .int p1), (2, .int p2)] := hl
  refine lv_iload_n hx hb dX3_isKnown_0 rfl (lv_at hl 1 rfl) ?_
  refine lv_if_lt (tgt := 43) hx hb dX3_isKnown_1 (by decide) (fun c_1 => ?_) (fun c_1 => ?_)
  · refine lv_iconst (v := 0) hx hb dX3_isKnown_43 (by decide) ?_
    exact W.zret (v := 0) hx hb hr narrow_b0 (fun t ht hW => ⟨_, rfl, (by rw [fX3_isKnown_T, if_pos c_1]), ht⟩) (fun _ h => absurd h List.not_mem_nil) dX3_isKnown_44
  · refine lv_iload_n hx hb dX3_isKnown_4 rfl (lv_at hl 1 rfl) ?_
    refine lv_aload_n hx hb dX3_isKnown_5 rfl (lv_at hl 0 rfl) ?_
    refine va_get (D := (dC, dI)) (ci := 3) (v := .int (σ.2.1 3)) (C := RX3) (T := TX3) (N := 5) hx hb hts inX3 hown hK hP 14 rfl rfl 4 (by decide) (hts _ fl_X3_32) (fun _ h9 => h9) rfl dX3_isKnown_6 ?_
    refine lv_icmp_ge (tgt := 43) hx hb dX3_isKnown_9 (by decide) (fun c_9 => ?_) (fun c_9 => ?_)
    · refine lv_iconst (v := 0) hx hb dX3_isKnown_43 (by decide) ?_
      exact W.zret (v := 0) hx hb hr narrow_b0 (fun t ht hW => ⟨_, rfl, (by rw [fX3_isKnown_T, if_neg c_1, if_pos c_9]), ht⟩) (fun _ h => absurd h List.not_mem_nil) dX3_isKnown_44
    · refine lv_aload_n hx hb dX3_isKnown_12 rfl (lv_at hl 0 rfl) ?_
      refine va_get (D := (dC, dI)) (ci := 3) (v := .ref (q 19)) (C := RX3) (T := TX3) (N := 5) hx hb hts inX3 hown hK hP 14 rfl rfl 1 (by decide) (hts _ fl_X3_25) (fun _ h9 => h9) rfl dX3_isKnown_13 ?_
      refine lv_iload_n hx hb dX3_isKnown_16 rfl (lv_at hl 1 rfl) ?_
      refine va_iald hx hb hK hP 19 0 rfl rfl (vp_in_mono (in_size hI.2.2.1 (by decide) c_1 c_9) hI.2.2.1.2) dX3_isKnown_17 ?_
      refine lv_iload_n hx hb dX3_isKnown_18 rfl (lv_at hl 2 rfl) ?_
      refine lv_icmp_gt (tgt := 43) hx hb dX3_isKnown_19 (by decide) (fun c_19 => ?_) (fun c_19 => ?_)
      · refine lv_iconst (v := 0) hx hb dX3_isKnown_43 (by decide) ?_
        exact W.zret (v := 0) hx hb hr narrow_b0 (fun t ht hW => ⟨_, rfl, (by rw [fX3_isKnown_T, if_neg c_1, if_neg c_9, if_pos c_19]), ht⟩) (fun _ h => absurd h List.not_mem_nil) dX3_isKnown_44
      · refine lv_aload_n hx hb dX3_isKnown_22 rfl (lv_at hl 0 rfl) ?_
        refine va_get (D := (dC, dI)) (ci := 3) (v := .ref (q 1)) (C := RX3) (T := TX3) (N := 5) hx hb hts inX3 hown hK hP 14 rfl rfl 0 (by decide) (hts _ fl_X3_9) (fun _ h9 => h9) rfl dX3_isKnown_23 ?_
        refine lv_aload_n hx hb dX3_isKnown_26 rfl (lv_at hl 0 rfl) ?_
        refine va_get (D := (dC, dI)) (ci := 3) (v := .ref (q 20)) (C := RX3) (T := TX3) (N := 5) hx hb hts inX3 hown hK hP 14 rfl rfl 2 (by decide) (hts _ fl_X3_29) (fun _ h9 => h9) rfl dX3_isKnown_27 ?_
        refine lv_iload_n hx hb dX3_isKnown_30 rfl (lv_at hl 1 rfl) ?_
        refine va_iald hx hb hK hP 20 0 rfl rfl (vp_in_mono (in_size hI.2.2.1 (by decide) c_1 c_9) hI.2.2.1.2) dX3_isKnown_31 ?_
        refine lv_iload_n hx hb dX3_isKnown_32 rfl (lv_at hl 2 rfl) ?_
        refine xc_i (va_runV (As := [.int (σ.1 14 p1.toNatClampNeg), .int p2]) (rest := []) ⟨hx, hb, hml, hown, hts⟩ (c_X2_isUndone l dC dI cI cJ q σ (σ.1 14 p1.toNatClampNeg) p2 (hI.2.2.2.2.1 _ (vp_in_lt (in_size hI.2.2.1 (by decide) c_1 c_9)))) (cwV 2 hts (gV ml_X3_45 im_X2_isUndone se_X2_isUndone in_X2 co_X2_isUndone) rfl rfl rfl (by decide +kernel) ⟨Nat.le_of_ble_eq_true rfl, Nat.le_of_ble_eq_true rfl⟩) (preV hK hP (pos := 1) (ci := 2) rfl rfl) rfl rfl hl.1 rfl (lv_room (Nat.le_of_ble_eq_true rfl)) dX3_isKnown_33 ⟨Nat.zero_le _, Nat.zero_le _⟩) ?_
        refine lv_if_ne (tgt := 43) hx hb dX3_isKnown_36 (by decide) (fun c_36 => ?_) (fun c_36 => ?_)
        · refine lv_iconst (v := 0) hx hb dX3_isKnown_43 (by decide) ?_
          exact W.zret (v := 0) hx hb hr narrow_b0 (fun t ht hW => ⟨_, rfl, (by rw [fX3_isKnown_T, if_neg c_1, if_neg c_9, if_neg c_19, if_neg c_36]), ht⟩) (fun _ h => absurd h List.not_mem_nil) dX3_isKnown_44
        · refine lv_iconst (v := 1) hx hb dX3_isKnown_39 (by decide) ?_
          refine lv_goto (tgt := 44) hx hb dX3_isKnown_40 (by decide) ?_
          exact W.zret (v := 1) hx hb hr narrow_b1 (fun t ht hW => ⟨_, rfl, (by rw [fX3_isKnown_T, if_neg c_1, if_neg c_9, if_neg c_19, if_pos c_36]), ht⟩) (fun _ h => absurd h List.not_mem_nil) dX3_isKnown_44

theorem b_X3_isKnown_T (σ : St) (p1 : Int32) (p2 : Int32) : fX3_isKnown_T σ p1 p2 = 0 ∨ fX3_isKnown_T σ p1 p2 = 1 := by
  unfold fX3_isKnown_T
  repeat' split
  all_goals first | exact Or.inl rfl | exact Or.inr rfl

theorem known_in_T {σ : St} {x k : Int32} (hI : IB σ) (c : ¬ fX3_isKnown_T σ x k = 0) : vp_in x (σ.2.1 3).toNatClampNeg := by
  unfold fX3_isKnown_T at c
  split at c
  · exact absurd rfl c
  · split at c
    · exact absurd rfl c
    · exact in_size hI.2.2.1 (by decide) (by assumption) (by assumption)

def flX3_sizeOfLoad_T_4 (σ : St) (p1 : Int32) : Nat → Nat → Int32 → Int32
  | 0, i, n => n
  | k + 1, i, n => (if (σ.1 14 i) = p1 then flX3_sizeOfLoad_T_4 σ p1 k (i + 1) (n + 1) else flX3_sizeOfLoad_T_4 σ p1 k (i + 1) n)
def fX3_sizeOfLoad_T (σ : St) (p1 : Int32) : Int32 :=
  flX3_sizeOfLoad_T_4 σ p1 ((σ.2.1 3).toNatClampNeg) 0 0
set_option maxHeartbeats 4000000 in
set_option maxRecDepth 100000 in
theorem c_X3_sizeOfLoad_T (l : Launch) (dC : Nat → ClassId) (dI : Nat → Nat → Nat) (cI cJ : ClassId) (q : Nat → Nat) (σ : St) (p1 : Int32) (hI : IB σ) : Met l yX3_sizeOfLoad (.code yX3_sizeOfLoad cX3_sizeOfLoad 4 (some .int) :: tb) { frames := 0, cells := 0, slots := 0, locals := 0 } (Pu (dC, dI) (tyC cI cJ) (wT cI cJ q σ) [.ref (q 14), .int p1]) (vp_Si (fun r => r = fX3_sizeOfLoad_T σ p1)) 0 0 (fun _ => False) := by
  refine Met.ofW (cc := cX3_sizeOfLoad) (maxL := 4) (ret := (some .int)) (by decide) rfl ?_
  intro p e s m args below meth c s₁ B hml hv
  obtain ⟨rfl, hP, hK⟩ := hv
  have hx := B.exec
  have hb := B.bytes
  have hr := B.returns
  have hts0 := atoms_spec (ws := .code yX3_sizeOfLoad cX3_sizeOfLoad 4 (some .int) :: tb) B.pre
  have hts : ∀ w ∈ tb, w.before _ s = true := fun w hw => hts0 w (List.mem_cons_of_mem _ hw)
  have hown : s.vm.findClass RX3 = some m.cls := findClass_of_methodNamed B.named
  have hlocks := B.notSynchronized
  have hl := lv_entry ([.ref (q 14), .int p1]) (n := 4) (Nat.le_of_ble_eq_true rfl)
  rw [lg_entry_eq]
  generalize (lg_sl ([.ref (q 14), .int p1]) ++ List.replicate (4 - (lg_sl ([.ref (q 14), .int p1])).length) Slot.unset).toArray = ls at hl ⊢
  have hl : lv_has ls 4 [(0, .ref (q 14)), (1, .int p1)] := hl
  refine lv_iconst (v := 0) hx hb dX3_sizeOfLoad_0 (by decide) ?_
  refine lv_istore_n (lv' := [(2, .int 0), (0, .ref (q 14)), (1, .int p1)]) hx hb dX3_sizeOfLoad_1 rfl hl (by decide) rfl (fun ls hl => ?_)
  refine lv_iconst (v := 0) hx hb dX3_sizeOfLoad_2 (by decide) ?_
  refine lv_istore_n (lv' := [(3, .int 0), (2, .int 0), (0, .ref (q 14)), (1, .int p1)]) hx hb dX3_sizeOfLoad_3 rfl hl (by decide) rfl (fun ls hl => ?_)
  have hz : szI (σ.2.1 3) 300 := hI.2.2.1
  have hz2 := hz.2
  have loop_4 : ∀ (k i : Nat) (n : Int32), i + k = (σ.2.1 3).toNatClampNeg → fX3_sizeOfLoad_T σ p1 = flX3_sizeOfLoad_T_4 σ p1 k i n → ∀ (ls : Array Slot), lv_has ls 4 [(0, .ref (q 14)), (1, .int p1), (3, .int (nI i)), (2, .int n)] → W p l e (headSpec (.code yX3_sizeOfLoad cX3_sizeOfLoad 4 (some .int) :: tb) { frames := 0, cells := 0, slots := 0, locals := 0 }).room s m (List.toArray [.ref (q 14), .int p1]) below meth c s.heap [] 0 0 (MQ below (vp_Si (fun r => r = fX3_sizeOfLoad_T σ p1)) (List.toArray [.ref (q 14), .int p1]) s 0 0 (fun _ => False)) (F0 m 4 ls []) := by
    intro k
    induction k with
    | zero =>
      intro i n hik hE ls hl
      refine lv_iload_n hx hb dX3_sizeOfLoad_4 rfl (lv_at hl 2 rfl) ?_
      refine lv_aload_n hx hb dX3_sizeOfLoad_5 rfl (lv_at hl 0 rfl) ?_
      refine va_get (D := (dC, dI)) (ci := 3) (v := .int (σ.2.1 3)) (C := RX3) (T := TX3) (N := 5) hx hb hts inX3 hown hK hP 14 rfl rfl 4 (by decide) (hts _ fl_X3_32) (fun _ h9 => h9) rfl dX3_sizeOfLoad_6 ?_
      refine lv_icmp_ge (tgt := 31) hx hb dX3_sizeOfLoad_9 (by decide) (fun c_9 => ?_) (fun c_9 => ?_)
      · refine lv_iload_n hx hb dX3_sizeOfLoad_31 rfl (lv_at hl 3 rfl) ?_
        exact W.iret (v := n) hx hb hr (fun t ht hW => ⟨_, rfl, (by rw [hE, flX3_sizeOfLoad_T_4]), ht⟩) (fun _ h => absurd h List.not_mem_nil) dX3_sizeOfLoad_32
      · exact absurd (by rw [hz.1]; exact nI_le (by omega) (by omega)) c_9
    | succ k ih =>
      intro i n hik hE ls hl
      refine lv_iload_n hx hb dX3_sizeOfLoad_4 rfl (lv_at hl 2 rfl) ?_
      refine lv_aload_n hx hb dX3_sizeOfLoad_5 rfl (lv_at hl 0 rfl) ?_
      refine va_get (D := (dC, dI)) (ci := 3) (v := .int (σ.2.1 3)) (C := RX3) (T := TX3) (N := 5) hx hb hts inX3 hown hK hP 14 rfl rfl 4 (by decide) (hts _ fl_X3_32) (fun _ h9 => h9) rfl dX3_sizeOfLoad_6 ?_
      refine lv_icmp_ge (tgt := 31) hx hb dX3_sizeOfLoad_9 (by decide) (fun c_9 => ?_) (fun c_9 => ?_)
      · exact absurd c_9 (by rw [hz.1]; exact nI_ge (by omega) (by omega))
      · refine lv_aload_n hx hb dX3_sizeOfLoad_12 rfl (lv_at hl 0 rfl) ?_
        refine va_get (D := (dC, dI)) (ci := 3) (v := .ref (q 20)) (C := RX3) (T := TX3) (N := 5) hx hb hts inX3 hown hK hP 14 rfl rfl 2 (by decide) (hts _ fl_X3_29) (fun _ h9 => h9) rfl dX3_sizeOfLoad_13 ?_
        refine lv_iload_n hx hb dX3_sizeOfLoad_16 rfl (lv_at hl 2 rfl) ?_
        refine xa_ild hx hb hK hP 20 0 rfl rfl (by omega) (by decide) dX3_sizeOfLoad_17 ?_
        refine lv_iload_n hx hb dX3_sizeOfLoad_18 rfl (lv_at hl 1 rfl) ?_
        refine lv_icmp_ne (tgt := 25) hx hb dX3_sizeOfLoad_19 (by decide) (fun c_19 => ?_) (fun c_19 => ?_)
        · refine lv_iinc (v := nI (i + 1)) (lv' := [(3, .int (nI (i + 1))), (0, .ref (q 14)), (1, .int p1), (2, .int n)]) hx hb dX3_sizeOfLoad_25 hl (k := 2) rfl (nI_1 i) (by decide) rfl (fun ls hl => ?_)
          refine lv_goto (tgt := 4) hx hb dX3_sizeOfLoad_28 (by decide) ?_
          exact ih (i + 1) n (by omega) (by rw [hE, flX3_sizeOfLoad_T_4, if_neg c_19]) ls (lv_sub hl [1, 2, 0, 3] rfl)
        · refine lv_iinc (v := n + 1) (lv' := [(2, .int (n + 1)), (0, .ref (q 14)), (1, .int p1), (3, .int (nI i))]) hx hb dX3_sizeOfLoad_22 hl (k := 3) rfl rfl (by decide) rfl (fun ls hl => ?_)
          refine lv_iinc (v := nI (i + 1)) (lv' := [(3, .int (nI (i + 1))), (2, .int (n + 1)), (0, .ref (q 14)), (1, .int p1)]) hx hb dX3_sizeOfLoad_25 hl (k := 3) rfl (nI_1 i) (by decide) rfl (fun ls hl => ?_)
          refine lv_goto (tgt := 4) hx hb dX3_sizeOfLoad_28 (by decide) ?_
          exact ih (i + 1) (n + 1) (by omega) (by rw [hE, flX3_sizeOfLoad_T_4, if_pos c_19]) ls (lv_sub hl [2, 3, 0, 1] rfl)
  exact loop_4 ((σ.2.1 3).toNatClampNeg) 0 0 (by rw [Nat.zero_add]) (by rw [fX3_sizeOfLoad_T]) ls (lv_sub hl [2, 3, 0, 1] rfl)
end
section
set_option maxHeartbeats 4000000 in
set_option maxRecDepth 100000 in
theorem c_X4_size (l : Launch) (dC : Nat → ClassId) (dI : Nat → Nat → Nat) (cI cJ : ClassId) (q : Nat → Nat) (σ : St) : Met l yX4_size (.code yX4_size cX4_size 1 (some .int) :: tb) { frames := 1, cells := 0, slots := 0, locals := 20 } (Pu (dC, dI) (tyC cI cJ) (wT cI cJ q σ) [.ref (q 13)]) (vp_Si (fun r => r = σ.2.1 3)) 0 0 (fun _ => False) := by
  refine Met.ofW (cc := cX4_size) (maxL := 1) (ret := (some .int)) (by decide) rfl ?_
  intro p e s m args below meth c s₁ B hml hv
  obtain ⟨rfl, hP, hK⟩ := hv
  have hx := B.exec
  have hb := B.bytes
  have hr := B.returns
  have hts0 := atoms_spec (ws := .code yX4_size cX4_size 1 (some .int) :: tb) B.pre
  have hts : ∀ w ∈ tb, w.before _ s = true := fun w hw => hts0 w (List.mem_cons_of_mem _ hw)
  have hown : s.vm.findClass RX4 = some m.cls := findClass_of_methodNamed B.named
  have hlocks := B.notSynchronized
  have hl := lv_entry ([.ref (q 13)]) (n := 1) (Nat.le_of_ble_eq_true rfl)
  rw [lg_entry_eq]
  generalize (lg_sl ([.ref (q 13)]) ++ List.replicate (1 - (lg_sl ([.ref (q 13)])).length) Slot.unset).toArray = ls at hl ⊢
  have hl : lv_has ls 1 [(0, .ref (q 13))] := hl
  refine lv_aload_n hx hb dX4_size_0 rfl (lv_at hl 0 rfl) ?_
  refine va_get (D := (dC, dI)) (ci := 4) (v := .ref (q 14)) (C := RX4) (T := TX4) (N := 5) hx hb hts inX4 hown hK hP 13 rfl rfl 0 (by decide) (hts _ fl_X4_14) (fun _ h9 => h9) rfl dX4_size_1 ?_
  refine xc_i (va_runV (As := []) (rest := []) ⟨hx, hb, hml, hown, hts⟩ (c_X3_size_T l dC dI cI cJ q σ ) (cwV 0 hts (gV ml_X4_33 im_X3_size se_X3_size in_X3 co_X3_size) rfl rfl rfl (by decide +kernel) ⟨Nat.le_of_ble_eq_true rfl, Nat.le_of_ble_eq_true rfl⟩) (preV hK hP (pos := 14) (ci := 3) rfl rfl) rfl rfl hl.1 rfl (lv_room (Nat.le_of_ble_eq_true rfl)) dX4_size_4 ⟨Nat.zero_le _, Nat.zero_le _⟩) ?_
  exact W.iret (v := σ.2.1 3) hx hb hr (fun t ht hW => ⟨_, rfl, rfl, ht⟩) (fun _ h => absurd h List.not_mem_nil) dX4_size_7

set_option maxHeartbeats 4000000 in
set_option maxRecDepth 100000 in
theorem c_X4_isFull (l : Launch) (dC : Nat → ClassId) (dI : Nat → Nat → Nat) (cI cJ : ClassId) (q : Nat → Nat) (σ : St) : Met l yX4_isFull (.code yX4_isFull cX4_isFull 1 (some .boolean) :: tb) { frames := 1, cells := 0, slots := 0, locals := 20 } (Pu (dC, dI) (tyC cI cJ) (wT cI cJ q σ) [.ref (q 13)]) (vp_Si (fun r => r = fX3_isFull_T σ)) 0 0 (fun _ => False) := by
  refine Met.ofW (cc := cX4_isFull) (maxL := 1) (ret := (some .boolean)) (by decide) rfl ?_
  intro p e s m args below meth c s₁ B hml hv
  obtain ⟨rfl, hP, hK⟩ := hv
  have hx := B.exec
  have hb := B.bytes
  have hr := B.returns
  have hts0 := atoms_spec (ws := .code yX4_isFull cX4_isFull 1 (some .boolean) :: tb) B.pre
  have hts : ∀ w ∈ tb, w.before _ s = true := fun w hw => hts0 w (List.mem_cons_of_mem _ hw)
  have hown : s.vm.findClass RX4 = some m.cls := findClass_of_methodNamed B.named
  have hlocks := B.notSynchronized
  have hl := lv_entry ([.ref (q 13)]) (n := 1) (Nat.le_of_ble_eq_true rfl)
  rw [lg_entry_eq]
  generalize (lg_sl ([.ref (q 13)]) ++ List.replicate (1 - (lg_sl ([.ref (q 13)])).length) Slot.unset).toArray = ls at hl ⊢
  have hl : lv_has ls 1 [(0, .ref (q 13))] := hl
  refine lv_aload_n hx hb dX4_isFull_0 rfl (lv_at hl 0 rfl) ?_
  refine va_get (D := (dC, dI)) (ci := 4) (v := .ref (q 14)) (C := RX4) (T := TX4) (N := 5) hx hb hts inX4 hown hK hP 13 rfl rfl 0 (by decide) (hts _ fl_X4_14) (fun _ h9 => h9) rfl dX4_isFull_1 ?_
  refine xc_i (va_runV (As := []) (rest := []) ⟨hx, hb, hml, hown, hts⟩ (c_X3_isFull_T l dC dI cI cJ q σ ) (cwV 0 hts (gV ml_X4_37 im_X3_isFull se_X3_isFull in_X3 co_X3_isFull) rfl rfl rfl (by decide +kernel) ⟨Nat.le_of_ble_eq_true rfl, Nat.le_of_ble_eq_true rfl⟩) (preV hK hP (pos := 14) (ci := 3) rfl rfl) rfl rfl hl.1 rfl (lv_room (Nat.le_of_ble_eq_true rfl)) dX4_isFull_4 ⟨Nat.zero_le _, Nat.zero_le _⟩) ?_
  exact W.zret (v := fX3_isFull_T σ) hx hb hr (nb_of (b_X3_isFull_T σ)) (fun t ht hW => ⟨_, rfl, rfl, ht⟩) (fun _ h => absurd h List.not_mem_nil) dX4_isFull_7

set_option maxHeartbeats 4000000 in
set_option maxRecDepth 100000 in
theorem c_X4_sizeOfLoad (l : Launch) (dC : Nat → ClassId) (dI : Nat → Nat → Nat) (cI cJ : ClassId) (q : Nat → Nat) (σ : St) (p1 : Int32) (hI : IB σ) : Met l yX4_sizeOfLoad (.code yX4_sizeOfLoad cX4_sizeOfLoad 2 (some .int) :: tb) { frames := 1, cells := 0, slots := 0, locals := 23 } (Pu (dC, dI) (tyC cI cJ) (wT cI cJ q σ) [.ref (q 13), .int p1]) (vp_Si (fun r => r = fX3_sizeOfLoad_T σ p1)) 0 0 (fun _ => False) := by
  refine Met.ofW (cc := cX4_sizeOfLoad) (maxL := 2) (ret := (some .int)) (by decide) rfl ?_
  intro p e s m args below meth c s₁ B hml hv
  obtain ⟨rfl, hP, hK⟩ := hv
  have hx := B.exec
  have hb := B.bytes
  have hr := B.returns
  have hts0 := atoms_spec (ws := .code yX4_sizeOfLoad cX4_sizeOfLoad 2 (some .int) :: tb) B.pre
  have hts : ∀ w ∈ tb, w.before _ s = true := fun w hw => hts0 w (List.mem_cons_of_mem _ hw)
  have hown : s.vm.findClass RX4 = some m.cls := findClass_of_methodNamed B.named
  have hlocks := B.notSynchronized
  have hl := lv_entry ([.ref (q 13), .int p1]) (n := 2) (Nat.le_of_ble_eq_true rfl)
  rw [lg_entry_eq]
  generalize (lg_sl ([.ref (q 13), .int p1]) ++ List.replicate (2 - (lg_sl ([.ref (q 13), .int p1])).length) Slot.unset).toArray = ls at hl ⊢
  have hl : lv_has ls 2 [(0, .ref (q 13)), (1, .int p1)] := hl
  refine lv_aload_n hx hb dX4_sizeOfLoad_0 rfl (lv_at hl 0 rfl) ?_
  refine va_get (D := (dC, dI)) (ci := 4) (v := .ref (q 14)) (C := RX4) (T := TX4) (N := 5) hx hb hts inX4 hown hK hP 13 rfl rfl 0 (by decide) (hts _ fl_X4_14) (fun _ h9 => h9) rfl dX4_sizeOfLoad_1 ?_
  refine lv_iload_n hx hb dX4_sizeOfLoad_4 rfl (lv_at hl 1 rfl) ?_
  refine xc_i (va_runV (As := [.int p1]) (rest := []) ⟨hx, hb, hml, hown, hts⟩ (c_X3_sizeOfLoad_T l dC dI cI cJ q σ p1 (by assumption)) (cwV 1 hts (gV ml_X4_41 im_X3_sizeOfLoad se_X3_sizeOfLoad in_X3 co_X3_sizeOfLoad) rfl rfl rfl (by decide +kernel) ⟨Nat.le_of_ble_eq_true rfl, Nat.le_of_ble_eq_true rfl⟩) (preV hK hP (pos := 14) (ci := 3) rfl rfl) rfl rfl hl.1 rfl (lv_room (Nat.le_of_ble_eq_true rfl)) dX4_sizeOfLoad_5 ⟨Nat.zero_le _, Nat.zero_le _⟩) ?_
  exact W.iret (v := fX3_sizeOfLoad_T σ p1) hx hb hr (fun t ht hW => ⟨_, rfl, rfl, ht⟩) (fun _ h => absurd h List.not_mem_nil) dX4_sizeOfLoad_8

def fX4_isOf (σ : St) (p1 : Int32) (p2 : Int32) (p3 : Int32) : Int32 :=
  (if (σ.1 9 p1.toNatClampNeg) = p2 then (if (σ.1 10 p1.toNatClampNeg) = p3 then 1 else 0) else 0)
set_option maxHeartbeats 4000000 in
set_option maxRecDepth 100000 in
theorem c_X4_isOf (l : Launch) (dC : Nat → ClassId) (dI : Nat → Nat → Nat) (cI cJ : ClassId) (q : Nat → Nat) (σ : St) (p1 : Int32) (p2 : Int32) (p3 : Int32) (hR : vp_in p1 300) : Met l yX4_isOf (.code yX4_isOf cX4_isOf 4 (some .boolean) :: tb) { frames := 0, cells := 0, slots := 0, locals := 0 } (Pu (dC, dI) (tyC cI cJ) (wT cI cJ q σ) [.ref (q 13), .int p1, .int p2, .int p3]) (vp_Si (fun r => r = fX4_isOf σ p1 p2 p3)) 0 0 (fun _ => False) := by
  refine Met.ofW (cc := cX4_isOf) (maxL := 4) (ret := (some .boolean)) (by decide) rfl ?_
  intro p e s m args below meth c s₁ B hml hv
  obtain ⟨rfl, hP, hK⟩ := hv
  have hx := B.exec
  have hb := B.bytes
  have hr := B.returns
  have hts0 := atoms_spec (ws := .code yX4_isOf cX4_isOf 4 (some .boolean) :: tb) B.pre
  have hts : ∀ w ∈ tb, w.before _ s = true := fun w hw => hts0 w (List.mem_cons_of_mem _ hw)
  have hown : s.vm.findClass RX4 = some m.cls := findClass_of_methodNamed B.named
  have hlocks := B.notSynchronized
  have hl := lv_entry ([.ref (q 13), .int p1, .int p2, .int p3]) (n := 4) (Nat.le_of_ble_eq_true rfl)
  rw [lg_entry_eq]
  generalize (lg_sl ([.ref (q 13), .int p1, .int p2, .int p3]) ++ List.replicate (4 - (lg_sl ([.ref (q 13), .int p1, .int p2, .int p3])).length) Slot.unset).toArray = ls at hl ⊢
  have hl : lv_has ls 4 [(0, .ref (q 13)), (1, .int p1), (2, .int p2), (3, .int p3)] := hl
  refine lv_aload_n hx hb dX4_isOf_0 rfl (lv_at hl 0 rfl) ?_
  refine va_get (D := (dC, dI)) (ci := 4) (v := .ref (q 15)) (C := RX4) (T := TX4) (N := 5) hx hb hts inX4 hown hK hP 13 rfl rfl 1 (by decide) (hts _ fl_X4_20) (fun _ h9 => h9) rfl dX4_isOf_1 ?_
  refine lv_iload_n hx hb dX4_isOf_4 rfl (lv_at hl 1 rfl) ?_
  refine va_iald hx hb hK hP 15 0 rfl rfl (by assumption) dX4_isOf_5 ?_
  refine lv_iload_n hx hb dX4_isOf_6 rfl (lv_at hl 2 rfl) ?_
  refine lv_icmp_ne (tgt := 24) hx hb dX4_isOf_7 (by decide) (fun c_7 => ?_) (fun c_7 => ?_)
  · refine lv_iconst (v := 0) hx hb dX4_isOf_24 (by decide) ?_
    exact W.zret (v := 0) hx hb hr narrow_b0 (fun t ht hW => ⟨_, rfl, (by rw [fX4_isOf, if_neg c_7]), ht⟩) (fun _ h => absurd h List.not_mem_nil) dX4_isOf_25
  · refine lv_aload_n hx hb dX4_isOf_10 rfl (lv_at hl 0 rfl) ?_
    refine va_get (D := (dC, dI)) (ci := 4) (v := .ref (q 16)) (C := RX4) (T := TX4) (N := 5) hx hb hts inX4 hown hK hP 13 rfl rfl 2 (by decide) (hts _ fl_X4_24) (fun _ h9 => h9) rfl dX4_isOf_11 ?_
    refine lv_iload_n hx hb dX4_isOf_14 rfl (lv_at hl 1 rfl) ?_
    refine va_iald hx hb hK hP 16 0 rfl rfl (by assumption) dX4_isOf_15 ?_
    refine lv_iload_n hx hb dX4_isOf_16 rfl (lv_at hl 3 rfl) ?_
    refine lv_icmp_ne (tgt := 24) hx hb dX4_isOf_17 (by decide) (fun c_17 => ?_) (fun c_17 => ?_)
    · refine lv_iconst (v := 0) hx hb dX4_isOf_24 (by decide) ?_
      exact W.zret (v := 0) hx hb hr narrow_b0 (fun t ht hW => ⟨_, rfl, (by rw [fX4_isOf, if_pos c_7, if_neg c_17]), ht⟩) (fun _ h => absurd h List.not_mem_nil) dX4_isOf_25
    · refine lv_iconst (v := 1) hx hb dX4_isOf_20 (by decide) ?_
      refine lv_goto (tgt := 25) hx hb dX4_isOf_21 (by decide) ?_
      exact W.zret (v := 1) hx hb hr narrow_b1 (fun t ht hW => ⟨_, rfl, (by rw [fX4_isOf, if_pos c_7, if_pos c_17]), ht⟩) (fun _ h => absurd h List.not_mem_nil) dX4_isOf_25

def fX4_outdoes (σ : St) (p1 : Int32) (p2 : Int32) (p3 : Int32) : Int32 :=
  (if 1 < (σ.1 10 p1.toNatClampNeg) then (if p3 < (σ.1 11 p1.toNatClampNeg) then 0 else (if p2 = (-1) then 1 else (if (σ.1 11 p1.toNatClampNeg) < (σ.1 11 p2.toNatClampNeg) then 0 else 1))) else 1)
set_option maxHeartbeats 4000000 in
set_option maxRecDepth 100000 in
theorem c_X4_outdoes (l : Launch) (dC : Nat → ClassId) (dI : Nat → Nat → Nat) (cI cJ : ClassId) (q : Nat → Nat) (σ : St) (p1 : Int32) (p2 : Int32) (p3 : Int32) (hR : vp_in p1 300) (hB : p2 = (-1) ∨ vp_in p2 300) : Met l yX4_outdoes (.code yX4_outdoes cX4_outdoes 4 (some .boolean) :: tb) { frames := 0, cells := 0, slots := 0, locals := 0 } (Pu (dC, dI) (tyC cI cJ) (wT cI cJ q σ) [.ref (q 13), .int p1, .int p2, .int p3]) (vp_Si (fun r => r = fX4_outdoes σ p1 p2 p3)) 0 0 (fun _ => False) := by
  refine Met.ofW (cc := cX4_outdoes) (maxL := 4) (ret := (some .boolean)) (by decide) rfl ?_
  intro p e s m args below meth c s₁ B hml hv
  obtain ⟨rfl, hP, hK⟩ := hv
  have hx := B.exec
  have hb := B.bytes
  have hr := B.returns
  have hts0 := atoms_spec (ws := .code yX4_outdoes cX4_outdoes 4 (some .boolean) :: tb) B.pre
  have hts : ∀ w ∈ tb, w.before _ s = true := fun w hw => hts0 w (List.mem_cons_of_mem _ hw)
  have hown : s.vm.findClass RX4 = some m.cls := findClass_of_methodNamed B.named
  have hlocks := B.notSynchronized
  have hl := lv_entry ([.ref (q 13), .int p1, .int p2, .int p3]) (n := 4) (Nat.le_of_ble_eq_true rfl)
  rw [lg_entry_eq]
  generalize (lg_sl ([.ref (q 13), .int p1, .int p2, .int p3]) ++ List.replicate (4 - (lg_sl ([.ref (q 13), .int p1, .int p2, .int p3])).length) Slot.unset).toArray = ls at hl ⊢
  have hl : lv_has ls 4 [(0, .ref (q 13)), (1, .int p1), (2, .int p2), (3, .int p3)] := hl
  refine lv_aload_n hx hb dX4_outdoes_0 rfl (lv_at hl 0 rfl) ?_
  refine va_get (D := (dC, dI)) (ci := 4) (v := .ref (q 16)) (C := RX4) (T := TX4) (N := 5) hx hb hts inX4 hown hK hP 13 rfl rfl 2 (by decide) (hts _ fl_X4_24) (fun _ h9 => h9) rfl dX4_outdoes_1 ?_
  refine lv_iload_n hx hb dX4_outdoes_4 rfl (lv_at hl 1 rfl) ?_
  refine va_iald hx hb hK hP 16 0 rfl rfl (by assumption) dX4_outdoes_5 ?_
  refine lv_iconst (v := 1) hx hb dX4_outdoes_6 (by decide) ?_
  refine lv_icmp_gt (tgt := 12) hx hb dX4_outdoes_7 (by decide) (fun c_7 => ?_) (fun c_7 => ?_)
  · refine lv_aload_n hx hb dX4_outdoes_12 rfl (lv_at hl 0 rfl) ?_
    refine va_get (D := (dC, dI)) (ci := 4) (v := .ref (q 17)) (C := RX4) (T := TX4) (N := 5) hx hb hts inX4 hown hK hP 13 rfl rfl 3 (by decide) (hts _ fl_X4_27) (fun _ h9 => h9) rfl dX4_outdoes_13 ?_
    refine lv_iload_n hx hb dX4_outdoes_16 rfl (lv_at hl 1 rfl) ?_
    refine va_iald hx hb hK hP 17 0 rfl rfl (by assumption) dX4_outdoes_17 ?_
    refine lv_iload_n hx hb dX4_outdoes_18 rfl (lv_at hl 3 rfl) ?_
    refine lv_icmp_gt (tgt := 46) hx hb dX4_outdoes_19 (by decide) (fun c_19 => ?_) (fun c_19 => ?_)
    · refine lv_iconst (v := 0) hx hb dX4_outdoes_46 (by decide) ?_
      exact W.zret (v := 0) hx hb hr narrow_b0 (fun t ht hW => ⟨_, rfl, (by rw [fX4_outdoes, if_pos c_7, if_pos c_19]), ht⟩) (fun _ h => absurd h List.not_mem_nil) dX4_outdoes_47
    · refine lv_iload_n hx hb dX4_outdoes_22 rfl (lv_at hl 2 rfl) ?_
      refine lv_iconst (v := (-1)) hx hb dX4_outdoes_23 (by decide) ?_
      refine lv_icmp_eq (tgt := 42) hx hb dX4_outdoes_24 (by decide) (fun c_24 => ?_) (fun c_24 => ?_)
      · refine lv_iconst (v := 1) hx hb dX4_outdoes_42 (by decide) ?_
        refine lv_goto (tgt := 47) hx hb dX4_outdoes_43 (by decide) ?_
        exact W.zret (v := 1) hx hb hr narrow_b1 (fun t ht hW => ⟨_, rfl, (by rw [fX4_outdoes, if_pos c_7, if_neg c_19, if_pos c_24]), ht⟩) (fun _ h => absurd h List.not_mem_nil) dX4_outdoes_47
      · refine lv_aload_n hx hb dX4_outdoes_27 rfl (lv_at hl 0 rfl) ?_
        refine va_get (D := (dC, dI)) (ci := 4) (v := .ref (q 17)) (C := RX4) (T := TX4) (N := 5) hx hb hts inX4 hown hK hP 13 rfl rfl 3 (by decide) (hts _ fl_X4_27) (fun _ h9 => h9) rfl dX4_outdoes_28 ?_
        refine lv_iload_n hx hb dX4_outdoes_31 rfl (lv_at hl 1 rfl) ?_
        refine va_iald hx hb hK hP 17 0 rfl rfl (by assumption) dX4_outdoes_32 ?_
        refine lv_aload_n hx hb dX4_outdoes_33 rfl (lv_at hl 0 rfl) ?_
        refine va_get (D := (dC, dI)) (ci := 4) (v := .ref (q 17)) (C := RX4) (T := TX4) (N := 5) hx hb hts inX4 hown hK hP 13 rfl rfl 3 (by decide) (hts _ fl_X4_27) (fun _ h9 => h9) rfl dX4_outdoes_34 ?_
        refine lv_iload_n hx hb dX4_outdoes_37 rfl (lv_at hl 2 rfl) ?_
        refine va_iald hx hb hK hP 17 0 rfl rfl (hB.resolve_left c_24) dX4_outdoes_38 ?_
        refine lv_icmp_lt (tgt := 46) hx hb dX4_outdoes_39 (by decide) (fun c_39 => ?_) (fun c_39 => ?_)
        · refine lv_iconst (v := 0) hx hb dX4_outdoes_46 (by decide) ?_
          exact W.zret (v := 0) hx hb hr narrow_b0 (fun t ht hW => ⟨_, rfl, (by rw [fX4_outdoes, if_pos c_7, if_neg c_19, if_neg c_24, if_pos c_39]), ht⟩) (fun _ h => absurd h List.not_mem_nil) dX4_outdoes_47
        · refine lv_iconst (v := 1) hx hb dX4_outdoes_42 (by decide) ?_
          refine lv_goto (tgt := 47) hx hb dX4_outdoes_43 (by decide) ?_
          exact W.zret (v := 1) hx hb hr narrow_b1 (fun t ht hW => ⟨_, rfl, (by rw [fX4_outdoes, if_pos c_7, if_neg c_19, if_neg c_24, if_neg c_39]), ht⟩) (fun _ h => absurd h List.not_mem_nil) dX4_outdoes_47
  · refine lv_iconst (v := 1) hx hb dX4_outdoes_10 (by decide) ?_
    exact W.zret (v := 1) hx hb hr narrow_b1 (fun t ht hW => ⟨_, rfl, (by rw [fX4_outdoes, if_neg c_7]), ht⟩) (fun _ h => absurd h List.not_mem_nil) dX4_outdoes_11

def flX4_valueOn_6 (σ : St) (p1 : Int32) (p2 : Int32) (p3 : Int32) (p4 : Int32) : Nat → Nat → Int32 → Int32
  | 0, i, best => (if best = (-1) then 100 else σ.1 12 best.toNatClampNeg)
  | k + 1, i, best => (if (fX4_isOf σ (nI i) p1 p2) = 0 then flX4_valueOn_6 σ p1 p2 p3 p4 k (i + 1) best else (if (fX3_isKnown_T σ (nI i) p4) = 0 then flX4_valueOn_6 σ p1 p2 p3 p4 k (i + 1) best else (if (fX4_outdoes σ (nI i) best p3) = 0 then flX4_valueOn_6 σ p1 p2 p3 p4 k (i + 1) best else flX4_valueOn_6 σ p1 p2 p3 p4 k (i + 1) (nI i))))
def fX4_valueOn (σ : St) (p1 : Int32) (p2 : Int32) (p3 : Int32) (p4 : Int32) : Int32 :=
  flX4_valueOn_6 σ p1 p2 p3 p4 ((σ.2.1 3).toNatClampNeg) 0 (-1)
set_option maxHeartbeats 4000000 in
set_option maxRecDepth 100000 in
theorem c_X4_valueOn (l : Launch) (dC : Nat → ClassId) (dI : Nat → Nat → Nat) (cI cJ : ClassId) (q : Nat → Nat) (σ : St) (p1 : Int32) (p2 : Int32) (p3 : Int32) (p4 : Int32) (hI : IB σ) : Met l yX4_valueOn (.code yX4_valueOn cX4_valueOn 7 (some .int) :: tb) { frames := 2, cells := 0, slots := 0, locals := 44 } (Pu (dC, dI) (tyC cI cJ) (wT cI cJ q σ) [.ref (q 13), .int p1, .int p2, .int p3, .int p4]) (vp_Si (fun r => r = fX4_valueOn σ p1 p2 p3 p4)) 0 0 (fun _ => False) := by
  refine Met.ofW (cc := cX4_valueOn) (maxL := 7) (ret := (some .int)) (by decide) rfl ?_
  intro p e s m args below meth c s₁ B hml hv
  obtain ⟨rfl, hP, hK⟩ := hv
  have hx := B.exec
  have hb := B.bytes
  have hr := B.returns
  have hts0 := atoms_spec (ws := .code yX4_valueOn cX4_valueOn 7 (some .int) :: tb) B.pre
  have hts : ∀ w ∈ tb, w.before _ s = true := fun w hw => hts0 w (List.mem_cons_of_mem _ hw)
  have hown : s.vm.findClass RX4 = some m.cls := findClass_of_methodNamed B.named
  have hlocks := B.notSynchronized
  have hl := lv_entry ([.ref (q 13), .int p1, .int p2, .int p3, .int p4]) (n := 7) (Nat.le_of_ble_eq_true rfl)
  rw [lg_entry_eq]
  generalize (lg_sl ([.ref (q 13), .int p1, .int p2, .int p3, .int p4]) ++ List.replicate (7 - (lg_sl ([.ref (q 13), .int p1, .int p2, .int p3, .int p4])).length) Slot.unset).toArray = ls at hl ⊢
  have hl : lv_has ls 7 [(0, .ref (q 13)), (1, .int p1), (2, .int p2), (3, .int p3), (4, .int p4)] := hl
  refine lv_iconst (v := (-1)) hx hb dX4_valueOn_0 (by decide) ?_
  refine lv_istore (lv' := [(5, .int (-1)), (0, .ref (q 13)), (1, .int p1), (2, .int p2), (3, .int p3), (4, .int p4)]) hx hb dX4_valueOn_1 hl (by decide) rfl (fun ls hl => ?_)
  refine lv_iconst (v := 0) hx hb dX4_valueOn_3 (by decide) ?_
  refine lv_istore (lv' := [(6, .int 0), (5, .int (-1)), (0, .ref (q 13)), (1, .int p1), (2, .int p2), (3, .int p3), (4, .int p4)]) hx hb dX4_valueOn_4 hl (by decide) rfl (fun ls hl => ?_)
  have hz : szI (σ.2.1 3) 300 := hI.2.2.1
  have hz2 := hz.2
  have loop_6 : ∀ (k i : Nat) (best : Int32), i + k = (σ.2.1 3).toNatClampNeg → (best = (-1) ∨ vp_in best 300) → fX4_valueOn σ p1 p2 p3 p4 = flX4_valueOn_6 σ p1 p2 p3 p4 k i best → ∀ (ls : Array Slot), lv_has ls 7 [(0, .ref (q 13)), (1, .int p1), (2, .int p2), (3, .int p3), (4, .int p4), (6, .int (nI i)), (5, .int best)] → W p l e (headSpec (.code yX4_valueOn cX4_valueOn 7 (some .int) :: tb) { frames := 2, cells := 0, slots := 0, locals := 44 }).room s m (List.toArray [.ref (q 13), .int p1, .int p2, .int p3, .int p4]) below meth c s.heap [] 0 0 (MQ below (vp_Si (fun r => r = fX4_valueOn σ p1 p2 p3 p4)) (List.toArray [.ref (q 13), .int p1, .int p2, .int p3, .int p4]) s 0 0 (fun _ => False)) (F0 m 6 ls []) := by
    intro k
    induction k with
    | zero =>
      intro i best hik hv hE ls hl
      refine lv_iload hx hb dX4_valueOn_6 (lv_at hl 5 rfl) ?_
      refine lv_aload_n hx hb dX4_valueOn_8 rfl (lv_at hl 0 rfl) ?_
      refine va_get (D := (dC, dI)) (ci := 4) (v := .ref (q 14)) (C := RX4) (T := TX4) (N := 5) hx hb hts inX4 hown hK hP 13 rfl rfl 0 (by decide) (hts _ fl_X4_14) (fun _ h9 => h9) rfl dX4_valueOn_9 ?_
      refine xc_i (va_runV (As := []) (rest := [.int (nI i)]) ⟨hx, hb, hml, hown, hts⟩ (c_X3_size_T l dC dI cI cJ q σ ) (cwV 0 hts (gV ml_X4_33 im_X3_size se_X3_size in_X3 co_X3_size) rfl rfl rfl (by decide +kernel) ⟨Nat.le_of_ble_eq_true rfl, Nat.le_of_ble_eq_true rfl⟩) (preV hK hP (pos := 14) (ci := 3) rfl rfl) rfl rfl hl.1 rfl (lv_room (Nat.le_of_ble_eq_true rfl)) dX4_valueOn_12 ⟨Nat.zero_le _, Nat.zero_le _⟩) ?_
      refine lv_icmp_ge (tgt := 65) hx hb dX4_valueOn_15 (by decide) (fun c_15 => ?_) (fun c_15 => ?_)
      · refine lv_iload hx hb dX4_valueOn_65 (lv_at hl 6 rfl) ?_
        refine lv_iconst (v := (-1)) hx hb dX4_valueOn_67 (by decide) ?_
        refine lv_icmp_ne (tgt := 76) hx hb dX4_valueOn_68 (by decide) (fun c_68 => ?_) (fun c_68 => ?_)
        · refine lv_aload_n hx hb dX4_valueOn_76 rfl (lv_at hl 0 rfl) ?_
          refine va_get (D := (dC, dI)) (ci := 4) (v := .ref (q 18)) (C := RX4) (T := TX4) (N := 5) hx hb hts inX4 hown hK hP 13 rfl rfl 4 (by decide) (hts _ fl_X4_30) (fun _ h9 => h9) rfl dX4_valueOn_77 ?_
          refine lv_iload hx hb dX4_valueOn_80 (lv_at hl 6 rfl) ?_
          refine va_iald hx hb hK hP 18 0 rfl rfl (hv.resolve_left c_68) dX4_valueOn_82 ?_
          exact W.iret (v := σ.1 12 best.toNatClampNeg) hx hb hr (fun t ht hW => ⟨_, rfl, (by rw [hE, flX4_valueOn_6, if_neg c_68]), ht⟩) (fun _ h => absurd h List.not_mem_nil) dX4_valueOn_83
        · refine lv_bipush (v := 100) hx hb dX4_valueOn_71 (by decide) ?_
          refine lv_goto (tgt := 83) hx hb dX4_valueOn_73 (by decide) ?_
          exact W.iret (v := 100) hx hb hr (fun t ht hW => ⟨_, rfl, (by rw [hE, flX4_valueOn_6, if_pos c_68]), ht⟩) (fun _ h => absurd h List.not_mem_nil) dX4_valueOn_83
      · exact absurd (by rw [hz.1]; exact nI_le (by omega) (by omega)) c_15
    | succ k ih =>
      intro i best hik hv hE ls hl
      refine lv_iload hx hb dX4_valueOn_6 (lv_at hl 5 rfl) ?_
      refine lv_aload_n hx hb dX4_valueOn_8 rfl (lv_at hl 0 rfl) ?_
      refine va_get (D := (dC, dI)) (ci := 4) (v := .ref (q 14)) (C := RX4) (T := TX4) (N := 5) hx hb hts inX4 hown hK hP 13 rfl rfl 0 (by decide) (hts _ fl_X4_14) (fun _ h9 => h9) rfl dX4_valueOn_9 ?_
      refine xc_i (va_runV (As := []) (rest := [.int (nI i)]) ⟨hx, hb, hml, hown, hts⟩ (c_X3_size_T l dC dI cI cJ q σ ) (cwV 0 hts (gV ml_X4_33 im_X3_size se_X3_size in_X3 co_X3_size) rfl rfl rfl (by decide +kernel) ⟨Nat.le_of_ble_eq_true rfl, Nat.le_of_ble_eq_true rfl⟩) (preV hK hP (pos := 14) (ci := 3) rfl rfl) rfl rfl hl.1 rfl (lv_room (Nat.le_of_ble_eq_true rfl)) dX4_valueOn_12 ⟨Nat.zero_le _, Nat.zero_le _⟩) ?_
      refine lv_icmp_ge (tgt := 65) hx hb dX4_valueOn_15 (by decide) (fun c_15 => ?_) (fun c_15 => ?_)
      · exact absurd c_15 (by rw [hz.1]; exact nI_ge (by omega) (by omega))
      · refine lv_aload_n hx hb dX4_valueOn_18 rfl (lv_at hl 0 rfl) ?_
        refine lv_iload hx hb dX4_valueOn_19 (lv_at hl 5 rfl) ?_
        refine lv_iload_n hx hb dX4_valueOn_21 rfl (lv_at hl 1 rfl) ?_
        refine lv_iload_n hx hb dX4_valueOn_22 rfl (lv_at hl 2 rfl) ?_
        refine xc_i (va_runV (As := [.int (nI i), .int p1, .int p2]) (rest := []) ⟨hx, hb, hml, hown, hts⟩ (c_X4_isOf l dC dI cI cJ q σ (nI i) p1 p2 (vp_in_nI (by omega) (by decide))) (cwV 3 hts (gV ml_X4_48 im_X4_isOf se_X4_isOf in_X4 co_X4_isOf) rfl rfl rfl (by decide +kernel) ⟨Nat.le_of_ble_eq_true rfl, Nat.le_of_ble_eq_true rfl⟩) (preV hK hP (pos := 13) (ci := 4) rfl rfl) rfl rfl hl.1 rfl (lv_room (Nat.le_of_ble_eq_true rfl)) dX4_valueOn_23 ⟨Nat.zero_le _, Nat.zero_le _⟩) ?_
        refine lv_if_eq (tgt := 59) hx hb dX4_valueOn_26 (by decide) (fun c_26 => ?_) (fun c_26 => ?_)
        · refine lv_iinc (v := nI (i + 1)) (lv' := [(6, .int (nI (i + 1))), (0, .ref (q 13)), (1, .int p1), (2, .int p2), (3, .int p3), (4, .int p4), (5, .int best)]) hx hb dX4_valueOn_59 hl (k := 5) rfl (nI_1 i) (by decide) rfl (fun ls hl => ?_)
          refine lv_goto (tgt := 6) hx hb dX4_valueOn_62 (by decide) ?_
          exact ih (i + 1) best (by omega) (by first | exact hv | exact Or.inr (vp_in_nI (by omega) (by decide))) (by rw [hE, flX4_valueOn_6, if_pos c_26]) ls (lv_sub hl [1, 2, 3, 4, 5, 0, 6] rfl)
        · refine lv_aload_n hx hb dX4_valueOn_29 rfl (lv_at hl 0 rfl) ?_
          refine va_get (D := (dC, dI)) (ci := 4) (v := .ref (q 14)) (C := RX4) (T := TX4) (N := 5) hx hb hts inX4 hown hK hP 13 rfl rfl 0 (by decide) (hts _ fl_X4_14) (fun _ h9 => h9) rfl dX4_valueOn_30 ?_
          refine lv_iload hx hb dX4_valueOn_33 (lv_at hl 5 rfl) ?_
          refine lv_iload hx hb dX4_valueOn_35 (lv_at hl 4 rfl) ?_
          refine xc_i (va_runV (As := [.int (nI i), .int p4]) (rest := []) ⟨hx, hb, hml, hown, hts⟩ (c_X3_isKnown_T l dC dI cI cJ q σ (nI i) p4 (by assumption)) (cwV 2 hts (gV ml_X4_52 im_X3_isKnown se_X3_isKnown in_X3 co_X3_isKnown) rfl rfl rfl (by decide +kernel) ⟨Nat.le_of_ble_eq_true rfl, Nat.le_of_ble_eq_true rfl⟩) (preV hK hP (pos := 14) (ci := 3) rfl rfl) rfl rfl hl.1 rfl (lv_room (Nat.le_of_ble_eq_true rfl)) dX4_valueOn_37 ⟨Nat.zero_le _, Nat.zero_le _⟩) ?_
          refine lv_if_eq (tgt := 59) hx hb dX4_valueOn_40 (by decide) (fun c_40 => ?_) (fun c_40 => ?_)
          · refine lv_iinc (v := nI (i + 1)) (lv' := [(6, .int (nI (i + 1))), (0, .ref (q 13)), (1, .int p1), (2, .int p2), (3, .int p3), (4, .int p4), (5, .int best)]) hx hb dX4_valueOn_59 hl (k := 5) rfl (nI_1 i) (by decide) rfl (fun ls hl => ?_)
            refine lv_goto (tgt := 6) hx hb dX4_valueOn_62 (by decide) ?_
            exact ih (i + 1) best (by omega) (by first | exact hv | exact Or.inr (vp_in_nI (by omega) (by decide))) (by rw [hE, flX4_valueOn_6, if_neg c_26, if_pos c_40]) ls (lv_sub hl [1, 2, 3, 4, 5, 0, 6] rfl)
          · refine lv_aload_n hx hb dX4_valueOn_43 rfl (lv_at hl 0 rfl) ?_
            refine lv_iload hx hb dX4_valueOn_44 (lv_at hl 5 rfl) ?_
            refine lv_iload hx hb dX4_valueOn_46 (lv_at hl 6 rfl) ?_
            refine lv_iload_n hx hb dX4_valueOn_48 rfl (lv_at hl 3 rfl) ?_
            refine xc_i (va_runV (As := [.int (nI i), .int best, .int p3]) (rest := []) ⟨hx, hb, hml, hown, hts⟩ (c_X4_outdoes l dC dI cI cJ q σ (nI i) best p3 (vp_in_nI (by omega) (by decide)) hv) (cwV 3 hts (gV ml_X4_56 im_X4_outdoes se_X4_outdoes in_X4 co_X4_outdoes) rfl rfl rfl (by decide +kernel) ⟨Nat.le_of_ble_eq_true rfl, Nat.le_of_ble_eq_true rfl⟩) (preV hK hP (pos := 13) (ci := 4) rfl rfl) rfl rfl hl.1 rfl (lv_room (Nat.le_of_ble_eq_true rfl)) dX4_valueOn_49 ⟨Nat.zero_le _, Nat.zero_le _⟩) ?_
            refine lv_if_eq (tgt := 59) hx hb dX4_valueOn_52 (by decide) (fun c_52 => ?_) (fun c_52 => ?_)
            · refine lv_iinc (v := nI (i + 1)) (lv' := [(6, .int (nI (i + 1))), (0, .ref (q 13)), (1, .int p1), (2, .int p2), (3, .int p3), (4, .int p4), (5, .int best)]) hx hb dX4_valueOn_59 hl (k := 5) rfl (nI_1 i) (by decide) rfl (fun ls hl => ?_)
              refine lv_goto (tgt := 6) hx hb dX4_valueOn_62 (by decide) ?_
              exact ih (i + 1) best (by omega) (by first | exact hv | exact Or.inr (vp_in_nI (by omega) (by decide))) (by rw [hE, flX4_valueOn_6, if_neg c_26, if_neg c_40, if_pos c_52]) ls (lv_sub hl [1, 2, 3, 4, 5, 0, 6] rfl)
            · refine lv_iload hx hb dX4_valueOn_55 (lv_at hl 5 rfl) ?_
              refine lv_istore (lv' := [(5, .int (nI i)), (0, .ref (q 13)), (1, .int p1), (2, .int p2), (3, .int p3), (4, .int p4), (6, .int (nI i))]) hx hb dX4_valueOn_57 hl (by decide) rfl (fun ls hl => ?_)
              refine lv_iinc (v := nI (i + 1)) (lv' := [(6, .int (nI (i + 1))), (5, .int (nI i)), (0, .ref (q 13)), (1, .int p1), (2, .int p2), (3, .int p3), (4, .int p4)]) hx hb dX4_valueOn_59 hl (k := 6) rfl (nI_1 i) (by decide) rfl (fun ls hl => ?_)
              refine lv_goto (tgt := 6) hx hb dX4_valueOn_62 (by decide) ?_
              exact ih (i + 1) (nI i) (by omega) (by first | exact hv | exact Or.inr (vp_in_nI (by omega) (by decide))) (by rw [hE, flX4_valueOn_6, if_neg c_26, if_neg c_40, if_neg c_52]) ls (lv_sub hl [2, 3, 4, 5, 6, 0, 1] rfl)
  exact loop_6 ((σ.2.1 3).toNatClampNeg) 0 (-1) (by rw [Nat.zero_add]) (Or.inl rfl) (by rw [fX4_valueOn]) ls (lv_sub hl [2, 3, 4, 5, 6, 0, 1] rfl)

def flX4_timesToldOver_9 (σ : St) (p1 : Int32) (p2 : Int32) : Nat → Nat → Int32 → Int32 → Int32
  | 0, i, n, ahead => n
  | k + 1, i, n, ahead => (if (fX4_isOf σ (nI i) p1 1) = 0 then flX4_timesToldOver_9 σ p1 p2 k (i + 1) n ahead else (if (fX3_isKnown_T σ (nI i) p2) = 0 then flX4_timesToldOver_9 σ p1 p2 k (i + 1) n ahead else (if ahead = 100 then flX4_timesToldOver_9 σ p1 p2 k (i + 1) n (σ.1 12 i) else (if ahead = (σ.1 12 i) then flX4_timesToldOver_9 σ p1 p2 k (i + 1) n (σ.1 12 i) else flX4_timesToldOver_9 σ p1 p2 k (i + 1) (n + 1) (σ.1 12 i)))))
def fX4_timesToldOver (σ : St) (p1 : Int32) (p2 : Int32) : Int32 :=
  flX4_timesToldOver_9 σ p1 p2 ((σ.2.1 3).toNatClampNeg) 0 0 100
set_option maxHeartbeats 4000000 in
set_option maxRecDepth 100000 in
theorem c_X4_timesToldOver (l : Launch) (dC : Nat → ClassId) (dI : Nat → Nat → Nat) (cI cJ : ClassId) (q : Nat → Nat) (σ : St) (p1 : Int32) (p2 : Int32) (hI : IB σ) : Met l yX4_timesToldOver (.code yX4_timesToldOver cX4_timesToldOver 6 (some .int) :: tb) { frames := 2, cells := 0, slots := 0, locals := 44 } (Pu (dC, dI) (tyC cI cJ) (wT cI cJ q σ) [.ref (q 13), .int p1, .int p2]) (vp_Si (fun r => r = fX4_timesToldOver σ p1 p2)) 0 0 (fun _ => False) := by
  refine Met.ofW (cc := cX4_timesToldOver) (maxL := 6) (ret := (some .int)) (by decide) rfl ?_
  intro p e s m args below meth c s₁ B hml hv
  obtain ⟨rfl, hP, hK⟩ := hv
  have hx := B.exec
  have hb := B.bytes
  have hr := B.returns
  have hts0 := atoms_spec (ws := .code yX4_timesToldOver cX4_timesToldOver 6 (some .int) :: tb) B.pre
  have hts : ∀ w ∈ tb, w.before _ s = true := fun w hw => hts0 w (List.mem_cons_of_mem _ hw)
  have hown : s.vm.findClass RX4 = some m.cls := findClass_of_methodNamed B.named
  have hlocks := B.notSynchronized
  have hl := lv_entry ([.ref (q 13), .int p1, .int p2]) (n := 6) (Nat.le_of_ble_eq_true rfl)
  rw [lg_entry_eq]
  generalize (lg_sl ([.ref (q 13), .int p1, .int p2]) ++ List.replicate (6 - (lg_sl ([.ref (q 13), .int p1, .int p2])).length) Slot.unset).toArray = ls at hl ⊢
  have hl : lv_has ls 6 [(0, .ref (q 13)), (1, .int p1), (2, .int p2)] := hl
  refine lv_iconst (v := 0) hx hb dX4_timesToldOver_0 (by decide) ?_
  refine lv_istore_n (lv' := [(3, .int 0), (0, .ref (q 13)), (1, .int p1), (2, .int p2)]) hx hb dX4_timesToldOver_1 rfl hl (by decide) rfl (fun ls hl => ?_)
  refine lv_bipush (v := 100) hx hb dX4_timesToldOver_2 (by decide) ?_
  refine lv_istore (lv' := [(4, .int 100), (3, .int 0), (0, .ref (q 13)), (1, .int p1), (2, .int p2)]) hx hb dX4_timesToldOver_4 hl (by decide) rfl (fun ls hl => ?_)
  refine lv_iconst (v := 0) hx hb dX4_timesToldOver_6 (by decide) ?_
  refine lv_istore (lv' := [(5, .int 0), (4, .int 100), (3, .int 0), (0, .ref (q 13)), (1, .int p1), (2, .int p2)]) hx hb dX4_timesToldOver_7 hl (by decide) rfl (fun ls hl => ?_)
  have hz : szI (σ.2.1 3) 300 := hI.2.2.1
  have hz2 := hz.2
  have loop_9 : ∀ (k i : Nat) (n : Int32) (ahead : Int32), i + k = (σ.2.1 3).toNatClampNeg → fX4_timesToldOver σ p1 p2 = flX4_timesToldOver_9 σ p1 p2 k i n ahead → ∀ (ls : Array Slot), lv_has ls 6 [(0, .ref (q 13)), (1, .int p1), (2, .int p2), (5, .int (nI i)), (3, .int n), (4, .int ahead)] → W p l e (headSpec (.code yX4_timesToldOver cX4_timesToldOver 6 (some .int) :: tb) { frames := 2, cells := 0, slots := 0, locals := 44 }).room s m (List.toArray [.ref (q 13), .int p1, .int p2]) below meth c s.heap [] 0 0 (MQ below (vp_Si (fun r => r = fX4_timesToldOver σ p1 p2)) (List.toArray [.ref (q 13), .int p1, .int p2]) s 0 0 (fun _ => False)) (F0 m 9 ls []) := by
    intro k
    induction k with
    | zero =>
      intro i n ahead hik hE ls hl
      refine lv_iload hx hb dX4_timesToldOver_9 (lv_at hl 3 rfl) ?_
      refine lv_aload_n hx hb dX4_timesToldOver_11 rfl (lv_at hl 0 rfl) ?_
      refine va_get (D := (dC, dI)) (ci := 4) (v := .ref (q 14)) (C := RX4) (T := TX4) (N := 5) hx hb hts inX4 hown hK hP 13 rfl rfl 0 (by decide) (hts _ fl_X4_14) (fun _ h9 => h9) rfl dX4_timesToldOver_12 ?_
      refine xc_i (va_runV (As := []) (rest := [.int (nI i)]) ⟨hx, hb, hml, hown, hts⟩ (c_X3_size_T l dC dI cI cJ q σ ) (cwV 0 hts (gV ml_X4_33 im_X3_size se_X3_size in_X3 co_X3_size) rfl rfl rfl (by decide +kernel) ⟨Nat.le_of_ble_eq_true rfl, Nat.le_of_ble_eq_true rfl⟩) (preV hK hP (pos := 14) (ci := 3) rfl rfl) rfl rfl hl.1 rfl (lv_room (Nat.le_of_ble_eq_true rfl)) dX4_timesToldOver_15 ⟨Nat.zero_le _, Nat.zero_le _⟩) ?_
      refine lv_icmp_ge (tgt := 82) hx hb dX4_timesToldOver_18 (by decide) (fun c_18 => ?_) (fun c_18 => ?_)
      · refine lv_iload_n hx hb dX4_timesToldOver_82 rfl (lv_at hl 4 rfl) ?_
        exact W.iret (v := n) hx hb hr (fun t ht hW => ⟨_, rfl, (by rw [hE, flX4_timesToldOver_9]), ht⟩) (fun _ h => absurd h List.not_mem_nil) dX4_timesToldOver_83
      · exact absurd (by rw [hz.1]; exact nI_le (by omega) (by omega)) c_18
    | succ k ih =>
      intro i n ahead hik hE ls hl
      refine lv_iload hx hb dX4_timesToldOver_9 (lv_at hl 3 rfl) ?_
      refine lv_aload_n hx hb dX4_timesToldOver_11 rfl (lv_at hl 0 rfl) ?_
      refine va_get (D := (dC, dI)) (ci := 4) (v := .ref (q 14)) (C := RX4) (T := TX4) (N := 5) hx hb hts inX4 hown hK hP 13 rfl rfl 0 (by decide) (hts _ fl_X4_14) (fun _ h9 => h9) rfl dX4_timesToldOver_12 ?_
      refine xc_i (va_runV (As := []) (rest := [.int (nI i)]) ⟨hx, hb, hml, hown, hts⟩ (c_X3_size_T l dC dI cI cJ q σ ) (cwV 0 hts (gV ml_X4_33 im_X3_size se_X3_size in_X3 co_X3_size) rfl rfl rfl (by decide +kernel) ⟨Nat.le_of_ble_eq_true rfl, Nat.le_of_ble_eq_true rfl⟩) (preV hK hP (pos := 14) (ci := 3) rfl rfl) rfl rfl hl.1 rfl (lv_room (Nat.le_of_ble_eq_true rfl)) dX4_timesToldOver_15 ⟨Nat.zero_le _, Nat.zero_le _⟩) ?_
      refine lv_icmp_ge (tgt := 82) hx hb dX4_timesToldOver_18 (by decide) (fun c_18 => ?_) (fun c_18 => ?_)
      · exact absurd c_18 (by rw [hz.1]; exact nI_ge (by omega) (by omega))
      · refine lv_aload_n hx hb dX4_timesToldOver_21 rfl (lv_at hl 0 rfl) ?_
        refine lv_iload hx hb dX4_timesToldOver_22 (lv_at hl 3 rfl) ?_
        refine lv_iload_n hx hb dX4_timesToldOver_24 rfl (lv_at hl 1 rfl) ?_
        refine lv_iconst (v := 1) hx hb dX4_timesToldOver_25 (by decide) ?_
        refine xc_i (va_runV (As := [.int (nI i), .int p1, .int 1]) (rest := []) ⟨hx, hb, hml, hown, hts⟩ (c_X4_isOf l dC dI cI cJ q σ (nI i) p1 1 (vp_in_nI (by omega) (by decide))) (cwV 3 hts (gV ml_X4_48 im_X4_isOf se_X4_isOf in_X4 co_X4_isOf) rfl rfl rfl (by decide +kernel) ⟨Nat.le_of_ble_eq_true rfl, Nat.le_of_ble_eq_true rfl⟩) (preV hK hP (pos := 13) (ci := 4) rfl rfl) rfl rfl hl.1 rfl (lv_room (Nat.le_of_ble_eq_true rfl)) dX4_timesToldOver_26 ⟨Nat.zero_le _, Nat.zero_le _⟩) ?_
        refine lv_if_eq (tgt := 76) hx hb dX4_timesToldOver_29 (by decide) (fun c_29 => ?_) (fun c_29 => ?_)
        · refine lv_iinc (v := nI (i + 1)) (lv' := [(5, .int (nI (i + 1))), (0, .ref (q 13)), (1, .int p1), (2, .int p2), (3, .int n), (4, .int ahead)]) hx hb dX4_timesToldOver_76 hl (k := 3) rfl (nI_1 i) (by decide) rfl (fun ls hl => ?_)
          refine lv_goto (tgt := 9) hx hb dX4_timesToldOver_79 (by decide) ?_
          exact ih (i + 1) n ahead (by omega) (by rw [hE, flX4_timesToldOver_9, if_pos c_29]) ls (lv_sub hl [1, 2, 3, 0, 4, 5] rfl)
        · refine lv_aload_n hx hb dX4_timesToldOver_32 rfl (lv_at hl 0 rfl) ?_
          refine va_get (D := (dC, dI)) (ci := 4) (v := .ref (q 14)) (C := RX4) (T := TX4) (N := 5) hx hb hts inX4 hown hK hP 13 rfl rfl 0 (by decide) (hts _ fl_X4_14) (fun _ h9 => h9) rfl dX4_timesToldOver_33 ?_
          refine lv_iload hx hb dX4_timesToldOver_36 (lv_at hl 3 rfl) ?_
          refine lv_iload_n hx hb dX4_timesToldOver_38 rfl (lv_at hl 2 rfl) ?_
          refine xc_i (va_runV (As := [.int (nI i), .int p2]) (rest := []) ⟨hx, hb, hml, hown, hts⟩ (c_X3_isKnown_T l dC dI cI cJ q σ (nI i) p2 (by assumption)) (cwV 2 hts (gV ml_X4_52 im_X3_isKnown se_X3_isKnown in_X3 co_X3_isKnown) rfl rfl rfl (by decide +kernel) ⟨Nat.le_of_ble_eq_true rfl, Nat.le_of_ble_eq_true rfl⟩) (preV hK hP (pos := 14) (ci := 3) rfl rfl) rfl rfl hl.1 rfl (lv_room (Nat.le_of_ble_eq_true rfl)) dX4_timesToldOver_39 ⟨Nat.zero_le _, Nat.zero_le _⟩) ?_
          refine lv_if_eq (tgt := 76) hx hb dX4_timesToldOver_42 (by decide) (fun c_42 => ?_) (fun c_42 => ?_)
          · refine lv_iinc (v := nI (i + 1)) (lv' := [(5, .int (nI (i + 1))), (0, .ref (q 13)), (1, .int p1), (2, .int p2), (3, .int n), (4, .int ahead)]) hx hb dX4_timesToldOver_76 hl (k := 3) rfl (nI_1 i) (by decide) rfl (fun ls hl => ?_)
            refine lv_goto (tgt := 9) hx hb dX4_timesToldOver_79 (by decide) ?_
            exact ih (i + 1) n ahead (by omega) (by rw [hE, flX4_timesToldOver_9, if_neg c_29, if_pos c_42]) ls (lv_sub hl [1, 2, 3, 0, 4, 5] rfl)
          · refine lv_iload hx hb dX4_timesToldOver_45 (lv_at hl 5 rfl) ?_
            refine lv_bipush (v := 100) hx hb dX4_timesToldOver_47 (by decide) ?_
            refine lv_icmp_eq (tgt := 67) hx hb dX4_timesToldOver_49 (by decide) (fun c_49 => ?_) (fun c_49 => ?_)
            · refine lv_aload_n hx hb dX4_timesToldOver_67 rfl (lv_at hl 0 rfl) ?_
              refine va_get (D := (dC, dI)) (ci := 4) (v := .ref (q 18)) (C := RX4) (T := TX4) (N := 5) hx hb hts inX4 hown hK hP 13 rfl rfl 4 (by decide) (hts _ fl_X4_30) (fun _ h9 => h9) rfl dX4_timesToldOver_68 ?_
              refine lv_iload hx hb dX4_timesToldOver_71 (lv_at hl 3 rfl) ?_
              refine xa_ild hx hb hK hP 18 0 rfl rfl (by omega) (by decide) dX4_timesToldOver_73 ?_
              refine lv_istore (lv' := [(4, .int (σ.1 12 i)), (0, .ref (q 13)), (1, .int p1), (2, .int p2), (5, .int (nI i)), (3, .int n)]) hx hb dX4_timesToldOver_74 hl (by decide) rfl (fun ls hl => ?_)
              refine lv_iinc (v := nI (i + 1)) (lv' := [(5, .int (nI (i + 1))), (4, .int (σ.1 12 i)), (0, .ref (q 13)), (1, .int p1), (2, .int p2), (3, .int n)]) hx hb dX4_timesToldOver_76 hl (k := 4) rfl (nI_1 i) (by decide) rfl (fun ls hl => ?_)
              refine lv_goto (tgt := 9) hx hb dX4_timesToldOver_79 (by decide) ?_
              exact ih (i + 1) n (σ.1 12 i) (by omega) (by rw [hE, flX4_timesToldOver_9, if_neg c_29, if_neg c_42, if_pos c_49]) ls (lv_sub hl [2, 3, 4, 0, 5, 1] rfl)
            · refine lv_iload hx hb dX4_timesToldOver_52 (lv_at hl 5 rfl) ?_
              refine lv_aload_n hx hb dX4_timesToldOver_54 rfl (lv_at hl 0 rfl) ?_
              refine va_get (D := (dC, dI)) (ci := 4) (v := .ref (q 18)) (C := RX4) (T := TX4) (N := 5) hx hb hts inX4 hown hK hP 13 rfl rfl 4 (by decide) (hts _ fl_X4_30) (fun _ h9 => h9) rfl dX4_timesToldOver_55 ?_
              refine lv_iload hx hb dX4_timesToldOver_58 (lv_at hl 3 rfl) ?_
              refine xa_ild hx hb hK hP 18 0 rfl rfl (by omega) (by decide) dX4_timesToldOver_60 ?_
              refine lv_icmp_eq (tgt := 67) hx hb dX4_timesToldOver_61 (by decide) (fun c_61 => ?_) (fun c_61 => ?_)
              · refine lv_aload_n hx hb dX4_timesToldOver_67 rfl (lv_at hl 0 rfl) ?_
                refine va_get (D := (dC, dI)) (ci := 4) (v := .ref (q 18)) (C := RX4) (T := TX4) (N := 5) hx hb hts inX4 hown hK hP 13 rfl rfl 4 (by decide) (hts _ fl_X4_30) (fun _ h9 => h9) rfl dX4_timesToldOver_68 ?_
                refine lv_iload hx hb dX4_timesToldOver_71 (lv_at hl 3 rfl) ?_
                refine xa_ild hx hb hK hP 18 0 rfl rfl (by omega) (by decide) dX4_timesToldOver_73 ?_
                refine lv_istore (lv' := [(4, .int (σ.1 12 i)), (0, .ref (q 13)), (1, .int p1), (2, .int p2), (5, .int (nI i)), (3, .int n)]) hx hb dX4_timesToldOver_74 hl (by decide) rfl (fun ls hl => ?_)
                refine lv_iinc (v := nI (i + 1)) (lv' := [(5, .int (nI (i + 1))), (4, .int (σ.1 12 i)), (0, .ref (q 13)), (1, .int p1), (2, .int p2), (3, .int n)]) hx hb dX4_timesToldOver_76 hl (k := 4) rfl (nI_1 i) (by decide) rfl (fun ls hl => ?_)
                refine lv_goto (tgt := 9) hx hb dX4_timesToldOver_79 (by decide) ?_
                exact ih (i + 1) n (σ.1 12 i) (by omega) (by rw [hE, flX4_timesToldOver_9, if_neg c_29, if_neg c_42, if_neg c_49, if_pos c_61]) ls (lv_sub hl [2, 3, 4, 0, 5, 1] rfl)
              · refine lv_iinc (v := n + 1) (lv' := [(3, .int (n + 1)), (0, .ref (q 13)), (1, .int p1), (2, .int p2), (5, .int (nI i)), (4, .int ahead)]) hx hb dX4_timesToldOver_64 hl (k := 4) rfl rfl (by decide) rfl (fun ls hl => ?_)
                refine lv_aload_n hx hb dX4_timesToldOver_67 rfl (lv_at hl 1 rfl) ?_
                refine va_get (D := (dC, dI)) (ci := 4) (v := .ref (q 18)) (C := RX4) (T := TX4) (N := 5) hx hb hts inX4 hown hK hP 13 rfl rfl 4 (by decide) (hts _ fl_X4_30) (fun _ h9 => h9) rfl dX4_timesToldOver_68 ?_
                refine lv_iload hx hb dX4_timesToldOver_71 (lv_at hl 4 rfl) ?_
                refine xa_ild hx hb hK hP 18 0 rfl rfl (by omega) (by decide) dX4_timesToldOver_73 ?_
                refine lv_istore (lv' := [(4, .int (σ.1 12 i)), (3, .int (n + 1)), (0, .ref (q 13)), (1, .int p1), (2, .int p2), (5, .int (nI i))]) hx hb dX4_timesToldOver_74 hl (by decide) rfl (fun ls hl => ?_)
                refine lv_iinc (v := nI (i + 1)) (lv' := [(5, .int (nI (i + 1))), (4, .int (σ.1 12 i)), (3, .int (n + 1)), (0, .ref (q 13)), (1, .int p1), (2, .int p2)]) hx hb dX4_timesToldOver_76 hl (k := 5) rfl (nI_1 i) (by decide) rfl (fun ls hl => ?_)
                refine lv_goto (tgt := 9) hx hb dX4_timesToldOver_79 (by decide) ?_
                exact ih (i + 1) (n + 1) (σ.1 12 i) (by omega) (by rw [hE, flX4_timesToldOver_9, if_neg c_29, if_neg c_42, if_neg c_49, if_neg c_61]) ls (lv_sub hl [3, 4, 5, 0, 2, 1] rfl)
  exact loop_9 ((σ.2.1 3).toNatClampNeg) 0 0 100 (by rw [Nat.zero_add]) (by rw [fX4_timesToldOver]) ls (lv_sub hl [3, 4, 5, 0, 2, 1] rfl)

def fX4_add (σ : St) (p1 : Int32) (p2 : Int32) (p3 : Int32) (p4 : Int32) (p5 : Int32) : St :=
  (if ((fX3_add_T σ p5).1) = (-1) then (fX3_add_T σ p5).2 else (sI (sI (sI (sI (fX3_add_T σ p5).2 9 (((fX3_add_T σ p5).1).toNatClampNeg) p1) 10 (((fX3_add_T σ p5).1).toNatClampNeg) p2) 11 (((fX3_add_T σ p5).1).toNatClampNeg) p3) 12 (((fX3_add_T σ p5).1).toNatClampNeg) p4))
set_option maxHeartbeats 4000000 in
set_option maxRecDepth 100000 in
theorem c_X4_add (l : Launch) (dC : Nat → ClassId) (dI : Nat → Nat → Nat) (cI cJ : ClassId) (q : Nat → Nat) (σ : St) (p1 : Int32) (p2 : Int32) (p3 : Int32) (p4 : Int32) (p5 : Int32) (hd : dT 30 q) (hI : IB σ) : Met l yX4_add (.code yX4_add cX4_add 7 none :: tb) { frames := 2, cells := 0, slots := 0, locals := 41 } (Pu (dC, dI) (tyC cI cJ) (wT cI cJ q σ) [.ref (q 13), .int p1, .int p2, .int p3, .int p4, .int p5]) (xw_Q none (dC, dI) (wT cI cJ q (fX4_add σ p1 p2 p3 p4 p5)) (aT 30 q)) 0 0 (aT 30 q) := by
  refine Met.ofW (cc := cX4_add) (maxL := 7) (ret := none) (by decide) rfl ?_
  intro p e s m args below meth c s₁ B hml hv
  obtain ⟨rfl, hP, hK⟩ := hv
  have hx := B.exec
  have hb := B.bytes
  have hr := B.returns
  have hts0 := atoms_spec (ws := .code yX4_add cX4_add 7 none :: tb) B.pre
  have hts : ∀ w ∈ tb, w.before _ s = true := fun w hw => hts0 w (List.mem_cons_of_mem _ hw)
  have hown : s.vm.findClass RX4 = some m.cls := findClass_of_methodNamed B.named
  have hlocks := B.notSynchronized
  have hl := lv_entry ([.ref (q 13), .int p1, .int p2, .int p3, .int p4, .int p5]) (n := 7) (Nat.le_of_ble_eq_true rfl)
  rw [lg_entry_eq]
  generalize (lg_sl ([.ref (q 13), .int p1, .int p2, .int p3, .int p4, .int p5]) ++ List.replicate (7 - (lg_sl ([.ref (q 13), .int p1, .int p2, .int p3, .int p4, .int p5])).length) Slot.unset).toArray = ls at hl ⊢
  have hl : lv_has ls 7 [(0, .ref (q 13)), (1, .int p1), (2, .int p2), (3, .int p3), (4, .int p4), (5, .int p5)] := hl
  obtain ⟨H, hHe⟩ : ∃ H, s.heap = H := ⟨_, rfl⟩
  rw [hHe] at hP ⊢
  obtain ⟨locs, hLe⟩ : ∃ x : List Loc, ([] : List Loc) = x := ⟨_, rfl⟩
  rw [hLe]
  have hS : va_S (aT 30 q) s.heap H locs := by rw [← hHe, ← hLe]; exact va_S.rf
  refine lv_aload_n hx hb dX4_add_0 rfl (lv_at hl 0 rfl) ?_
  refine va_get (D := (dC, dI)) (ci := 4) (v := .ref (q 14)) (C := RX4) (T := TX4) (N := 5) hx hb hts inX4 hown hK hP 13 rfl rfl 0 (by decide) (hts _ fl_X4_14) (fun _ h9 => h9) rfl dX4_add_1 ?_
  refine lv_iload hx hb dX4_add_4 (lv_at hl 5 rfl) ?_
  refine xw_c (va_runV (As := [.int p5]) (rest := []) ⟨hx, hb, hml, hown, hts⟩ (c_X3_add_T l dC dI cI cJ q σ p5 (by assumption) (by assumption)) (cwV 1 hts (gV ml_X4_45 im_X3_add se_X3_add in_X3 co_X3_add) rfl rfl rfl (by decide +kernel) ⟨Nat.le_of_ble_eq_true rfl, Nat.le_of_ble_eq_true rfl⟩) (preV hK hP (pos := 14) (ci := 3) rfl rfl) rfl rfl hl.1 rfl (lv_room (Nat.le_of_ble_eq_true rfl)) dX4_add_6 ⟨Nat.zero_le _, Nat.zero_le _⟩) hS (fun _ h => h) (fun H locs hP _ _ hS => ?_)
  have hP : va_P (dC, dI) vwCl (wT cI cJ q (fX3_add_T σ p5).2) H := hP
  refine W.eq (g2 := F0 m 9 ls [.int ((fX3_add_T σ p5).1)]) rfl ?_
  refine lv_istore (lv' := [(6, .int ((fX3_add_T σ p5).1)), (0, .ref (q 13)), (1, .int p1), (2, .int p2), (3, .int p3), (4, .int p4), (5, .int p5)]) hx hb dX4_add_9 hl (by decide) rfl (fun ls hl => ?_)
  refine lv_iload hx hb dX4_add_11 (lv_at hl 0 rfl) ?_
  refine lv_iconst (v := (-1)) hx hb dX4_add_13 (by decide) ?_
  refine lv_icmp_ne (tgt := 18) hx hb dX4_add_14 (by decide) (fun c_14 => ?_) (fun c_14 => ?_)
  · refine lv_aload_n hx hb dX4_add_18 rfl (lv_at hl 1 rfl) ?_
    refine va_get (D := (dC, dI)) (ci := 4) (v := .ref (q 15)) (C := RX4) (T := TX4) (N := 5) hx hb hts inX4 hown hK hP 13 rfl rfl 1 (by decide) (hts _ fl_X4_20) (fun _ h9 => h9) rfl dX4_add_19 ?_
    refine lv_iload hx hb dX4_add_22 (lv_at hl 0 rfl) ?_
    refine lv_iload_n hx hb dX4_add_24 rfl (lv_at hl 2 rfl) ?_
    refine va_iast hx hb hK hP (wT_D hd) hS 15 0 rfl rfl (add_in_T hI c_14) dX4_add_25 (fun H locs hP _ hS => ?_)
    have hP : va_P (dC, dI) vwCl (wT cI cJ q (sI (fX3_add_T σ p5).2 9 (((fX3_add_T σ p5).1).toNatClampNeg) p1)) H := hP
    refine lv_aload_n hx hb dX4_add_26 rfl (lv_at hl 1 rfl) ?_
    refine va_get (D := (dC, dI)) (ci := 4) (v := .ref (q 16)) (C := RX4) (T := TX4) (N := 5) hx hb hts inX4 hown hK hP 13 rfl rfl 2 (by decide) (hts _ fl_X4_24) (fun _ h9 => h9) rfl dX4_add_27 ?_
    refine lv_iload hx hb dX4_add_30 (lv_at hl 0 rfl) ?_
    refine lv_iload_n hx hb dX4_add_32 rfl (lv_at hl 3 rfl) ?_
    refine va_iast hx hb hK hP (wT_D hd) hS 16 0 rfl rfl (add_in_T hI c_14) dX4_add_33 (fun H locs hP _ hS => ?_)
    have hP : va_P (dC, dI) vwCl (wT cI cJ q (sI (sI (fX3_add_T σ p5).2 9 (((fX3_add_T σ p5).1).toNatClampNeg) p1) 10 (((fX3_add_T σ p5).1).toNatClampNeg) p2)) H := hP
    refine lv_aload_n hx hb dX4_add_34 rfl (lv_at hl 1 rfl) ?_
    refine va_get (D := (dC, dI)) (ci := 4) (v := .ref (q 17)) (C := RX4) (T := TX4) (N := 5) hx hb hts inX4 hown hK hP 13 rfl rfl 3 (by decide) (hts _ fl_X4_27) (fun _ h9 => h9) rfl dX4_add_35 ?_
    refine lv_iload hx hb dX4_add_38 (lv_at hl 0 rfl) ?_
    refine lv_iload_n hx hb dX4_add_40 rfl (lv_at hl 4 rfl) ?_
    refine va_iast hx hb hK hP (wT_D hd) hS 17 0 rfl rfl (add_in_T hI c_14) dX4_add_41 (fun H locs hP _ hS => ?_)
    have hP : va_P (dC, dI) vwCl (wT cI cJ q (sI (sI (sI (fX3_add_T σ p5).2 9 (((fX3_add_T σ p5).1).toNatClampNeg) p1) 10 (((fX3_add_T σ p5).1).toNatClampNeg) p2) 11 (((fX3_add_T σ p5).1).toNatClampNeg) p3)) H := hP
    refine lv_aload_n hx hb dX4_add_42 rfl (lv_at hl 1 rfl) ?_
    refine va_get (D := (dC, dI)) (ci := 4) (v := .ref (q 18)) (C := RX4) (T := TX4) (N := 5) hx hb hts inX4 hown hK hP 13 rfl rfl 4 (by decide) (hts _ fl_X4_30) (fun _ h9 => h9) rfl dX4_add_43 ?_
    refine lv_iload hx hb dX4_add_46 (lv_at hl 0 rfl) ?_
    refine lv_iload hx hb dX4_add_48 (lv_at hl 5 rfl) ?_
    refine va_iast hx hb hK hP (wT_D hd) hS 18 0 rfl rfl (add_in_T hI c_14) dX4_add_50 (fun H locs hP _ hS => ?_)
    have hP : va_P (dC, dI) vwCl (wT cI cJ q (sI (sI (sI (sI (fX3_add_T σ p5).2 9 (((fX3_add_T σ p5).1).toNatClampNeg) p1) 10 (((fX3_add_T σ p5).1).toNatClampNeg) p2) 11 (((fX3_add_T σ p5).1).toNatClampNeg) p3) 12 (((fX3_add_T σ p5).1).toNatClampNeg) p4)) H := hP
    have hF : fX4_add σ p1 p2 p3 p4 p5 = (sI (sI (sI (sI (fX3_add_T σ p5).2 9 (((fX3_add_T σ p5).1).toNatClampNeg) p1) 10 (((fX3_add_T σ p5).1).toNatClampNeg) p2) 11 (((fX3_add_T σ p5).1).toNatClampNeg) p3) 12 (((fX3_add_T σ p5).1).toNatClampNeg) p4) := by rw [fX4_add, if_neg c_14]
    have hP9 : va_P (dC, dI) vwCl (wT cI cJ q (fX4_add σ p1 p2 p3 p4 p5)) H := by rw [hF]; exact hP
    exact W.vret hx hb hr (fun t ht hW => ⟨rfl, by rw [ht]; exact hP9, hS.F ht⟩) hS.2.2 dX4_add_51
  · have hF : fX4_add σ p1 p2 p3 p4 p5 = (fX3_add_T σ p5).2 := by rw [fX4_add, if_pos c_14]
    have hP9 : va_P (dC, dI) vwCl (wT cI cJ q (fX4_add σ p1 p2 p3 p4 p5)) H := by rw [hF]; exact hP
    exact W.vret hx hb hr (fun t ht hW => ⟨rfl, by rw [ht]; exact hP9, hS.F ht⟩) hS.2.2 dX4_add_17
end
section
set_option maxHeartbeats 4000000 in
set_option maxRecDepth 100000 in
theorem c_X1_size (l : Launch) (dC : Nat → ClassId) (dI : Nat → Nat → Nat) (cI cJ : ClassId) (q : Nat → Nat) (σ : St) : Met l yX1_size (.code yX1_size cX1_size 1 (some .int) :: tb) { frames := 1, cells := 0, slots := 0, locals := 20 } (Pu (dC, dI) (tyC cI cJ) (wT cI cJ q σ) [.ref (q 21)]) (vp_Si (fun r => r = σ.2.1 2)) 0 0 (fun _ => False) := by
  refine Met.ofW (cc := cX1_size) (maxL := 1) (ret := (some .int)) (by decide) rfl ?_
  intro p e s m args below meth c s₁ B hml hv
  obtain ⟨rfl, hP, hK⟩ := hv
  have hx := B.exec
  have hb := B.bytes
  have hr := B.returns
  have hts0 := atoms_spec (ws := .code yX1_size cX1_size 1 (some .int) :: tb) B.pre
  have hts : ∀ w ∈ tb, w.before _ s = true := fun w hw => hts0 w (List.mem_cons_of_mem _ hw)
  have hown : s.vm.findClass RX1 = some m.cls := findClass_of_methodNamed B.named
  have hlocks := B.notSynchronized
  have hl := lv_entry ([.ref (q 21)]) (n := 1) (Nat.le_of_ble_eq_true rfl)
  rw [lg_entry_eq]
  generalize (lg_sl ([.ref (q 21)]) ++ List.replicate (1 - (lg_sl ([.ref (q 21)])).length) Slot.unset).toArray = ls at hl ⊢
  have hl : lv_has ls 1 [(0, .ref (q 21))] := hl
  refine lv_aload_n hx hb dX1_size_0 rfl (lv_at hl 0 rfl) ?_
  refine va_get (D := (dC, dI)) (ci := 1) (v := .ref (q 22)) (C := RX1) (T := TX1) (N := 4) hx hb hts inX1 hown hK hP 21 rfl rfl 0 (by decide) (hts _ fl_X1_14) (fun _ h9 => h9) rfl dX1_size_1 ?_
  refine xc_i (va_runV (As := []) (rest := []) ⟨hx, hb, hml, hown, hts⟩ (c_X3_size_F l dC dI cI cJ q σ ) (cwV 0 hts (gV ml_X1_30 im_X3_size se_X3_size in_X3 co_X3_size) rfl rfl rfl (by decide +kernel) ⟨Nat.le_of_ble_eq_true rfl, Nat.le_of_ble_eq_true rfl⟩) (preV hK hP (pos := 22) (ci := 3) rfl rfl) rfl rfl hl.1 rfl (lv_room (Nat.le_of_ble_eq_true rfl)) dX1_size_4 ⟨Nat.zero_le _, Nat.zero_le _⟩) ?_
  exact W.iret (v := σ.2.1 2) hx hb hr (fun t ht hW => ⟨_, rfl, rfl, ht⟩) (fun _ h => absurd h List.not_mem_nil) dX1_size_7

set_option maxHeartbeats 4000000 in
set_option maxRecDepth 100000 in
theorem c_X1_isFull (l : Launch) (dC : Nat → ClassId) (dI : Nat → Nat → Nat) (cI cJ : ClassId) (q : Nat → Nat) (σ : St) : Met l yX1_isFull (.code yX1_isFull cX1_isFull 1 (some .boolean) :: tb) { frames := 1, cells := 0, slots := 0, locals := 20 } (Pu (dC, dI) (tyC cI cJ) (wT cI cJ q σ) [.ref (q 21)]) (vp_Si (fun r => r = fX3_isFull_F σ)) 0 0 (fun _ => False) := by
  refine Met.ofW (cc := cX1_isFull) (maxL := 1) (ret := (some .boolean)) (by decide) rfl ?_
  intro p e s m args below meth c s₁ B hml hv
  obtain ⟨rfl, hP, hK⟩ := hv
  have hx := B.exec
  have hb := B.bytes
  have hr := B.returns
  have hts0 := atoms_spec (ws := .code yX1_isFull cX1_isFull 1 (some .boolean) :: tb) B.pre
  have hts : ∀ w ∈ tb, w.before _ s = true := fun w hw => hts0 w (List.mem_cons_of_mem _ hw)
  have hown : s.vm.findClass RX1 = some m.cls := findClass_of_methodNamed B.named
  have hlocks := B.notSynchronized
  have hl := lv_entry ([.ref (q 21)]) (n := 1) (Nat.le_of_ble_eq_true rfl)
  rw [lg_entry_eq]
  generalize (lg_sl ([.ref (q 21)]) ++ List.replicate (1 - (lg_sl ([.ref (q 21)])).length) Slot.unset).toArray = ls at hl ⊢
  have hl : lv_has ls 1 [(0, .ref (q 21))] := hl
  refine lv_aload_n hx hb dX1_isFull_0 rfl (lv_at hl 0 rfl) ?_
  refine va_get (D := (dC, dI)) (ci := 1) (v := .ref (q 22)) (C := RX1) (T := TX1) (N := 4) hx hb hts inX1 hown hK hP 21 rfl rfl 0 (by decide) (hts _ fl_X1_14) (fun _ h9 => h9) rfl dX1_isFull_1 ?_
  refine xc_i (va_runV (As := []) (rest := []) ⟨hx, hb, hml, hown, hts⟩ (c_X3_isFull_F l dC dI cI cJ q σ ) (cwV 0 hts (gV ml_X1_34 im_X3_isFull se_X3_isFull in_X3 co_X3_isFull) rfl rfl rfl (by decide +kernel) ⟨Nat.le_of_ble_eq_true rfl, Nat.le_of_ble_eq_true rfl⟩) (preV hK hP (pos := 22) (ci := 3) rfl rfl) rfl rfl hl.1 rfl (lv_room (Nat.le_of_ble_eq_true rfl)) dX1_isFull_4 ⟨Nat.zero_le _, Nat.zero_le _⟩) ?_
  exact W.zret (v := fX3_isFull_F σ) hx hb hr (nb_of (b_X3_isFull_F σ)) (fun t ht hW => ⟨_, rfl, rfl, ht⟩) (fun _ h => absurd h List.not_mem_nil) dX1_isFull_7

set_option maxHeartbeats 4000000 in
set_option maxRecDepth 100000 in
theorem c_X1_sizeOfLoad (l : Launch) (dC : Nat → ClassId) (dI : Nat → Nat → Nat) (cI cJ : ClassId) (q : Nat → Nat) (σ : St) (p1 : Int32) (hI : IB σ) : Met l yX1_sizeOfLoad (.code yX1_sizeOfLoad cX1_sizeOfLoad 2 (some .int) :: tb) { frames := 1, cells := 0, slots := 0, locals := 23 } (Pu (dC, dI) (tyC cI cJ) (wT cI cJ q σ) [.ref (q 21), .int p1]) (vp_Si (fun r => r = fX3_sizeOfLoad_F σ p1)) 0 0 (fun _ => False) := by
  refine Met.ofW (cc := cX1_sizeOfLoad) (maxL := 2) (ret := (some .int)) (by decide) rfl ?_
  intro p e s m args below meth c s₁ B hml hv
  obtain ⟨rfl, hP, hK⟩ := hv
  have hx := B.exec
  have hb := B.bytes
  have hr := B.returns
  have hts0 := atoms_spec (ws := .code yX1_sizeOfLoad cX1_sizeOfLoad 2 (some .int) :: tb) B.pre
  have hts : ∀ w ∈ tb, w.before _ s = true := fun w hw => hts0 w (List.mem_cons_of_mem _ hw)
  have hown : s.vm.findClass RX1 = some m.cls := findClass_of_methodNamed B.named
  have hlocks := B.notSynchronized
  have hl := lv_entry ([.ref (q 21), .int p1]) (n := 2) (Nat.le_of_ble_eq_true rfl)
  rw [lg_entry_eq]
  generalize (lg_sl ([.ref (q 21), .int p1]) ++ List.replicate (2 - (lg_sl ([.ref (q 21), .int p1])).length) Slot.unset).toArray = ls at hl ⊢
  have hl : lv_has ls 2 [(0, .ref (q 21)), (1, .int p1)] := hl
  refine lv_aload_n hx hb dX1_sizeOfLoad_0 rfl (lv_at hl 0 rfl) ?_
  refine va_get (D := (dC, dI)) (ci := 1) (v := .ref (q 22)) (C := RX1) (T := TX1) (N := 4) hx hb hts inX1 hown hK hP 21 rfl rfl 0 (by decide) (hts _ fl_X1_14) (fun _ h9 => h9) rfl dX1_sizeOfLoad_1 ?_
  refine lv_iload_n hx hb dX1_sizeOfLoad_4 rfl (lv_at hl 1 rfl) ?_
  refine xc_i (va_runV (As := [.int p1]) (rest := []) ⟨hx, hb, hml, hown, hts⟩ (c_X3_sizeOfLoad_F l dC dI cI cJ q σ p1 (by assumption)) (cwV 1 hts (gV ml_X1_38 im_X3_sizeOfLoad se_X3_sizeOfLoad in_X3 co_X3_sizeOfLoad) rfl rfl rfl (by decide +kernel) ⟨Nat.le_of_ble_eq_true rfl, Nat.le_of_ble_eq_true rfl⟩) (preV hK hP (pos := 22) (ci := 3) rfl rfl) rfl rfl hl.1 rfl (lv_room (Nat.le_of_ble_eq_true rfl)) dX1_sizeOfLoad_5 ⟨Nat.zero_le _, Nat.zero_le _⟩) ?_
  exact W.iret (v := fX3_sizeOfLoad_F σ p1) hx hb hr (fun t ht hW => ⟨_, rfl, rfl, ht⟩) (fun _ h => absurd h List.not_mem_nil) dX1_sizeOfLoad_8

set_option maxHeartbeats 4000000 in
set_option maxRecDepth 100000 in
theorem c_X1_isKnown (l : Launch) (dC : Nat → ClassId) (dI : Nat → Nat → Nat) (cI cJ : ClassId) (q : Nat → Nat) (σ : St) (p1 : Int32) (p2 : Int32) (hI : IB σ) : Met l yX1_isKnown (.code yX1_isKnown cX1_isKnown 3 (some .boolean) :: tb) { frames := 2, cells := 0, slots := 0, locals := 44 } (Pu (dC, dI) (tyC cI cJ) (wT cI cJ q σ) [.ref (q 21), .int p1, .int p2]) (vp_Si (fun r => r = fX3_isKnown_F σ p1 p2)) 0 0 (fun _ => False) := by
  refine Met.ofW (cc := cX1_isKnown) (maxL := 3) (ret := (some .boolean)) (by decide) rfl ?_
  intro p e s m args below meth c s₁ B hml hv
  obtain ⟨rfl, hP, hK⟩ := hv
  have hx := B.exec
  have hb := B.bytes
  have hr := B.returns
  have hts0 := atoms_spec (ws := .code yX1_isKnown cX1_isKnown 3 (some .boolean) :: tb) B.pre
  have hts : ∀ w ∈ tb, w.before _ s = true := fun w hw => hts0 w (List.mem_cons_of_mem _ hw)
  have hown : s.vm.findClass RX1 = some m.cls := findClass_of_methodNamed B.named
  have hlocks := B.notSynchronized
  have hl := lv_entry ([.ref (q 21), .int p1, .int p2]) (n := 3) (Nat.le_of_ble_eq_true rfl)
  rw [lg_entry_eq]
  generalize (lg_sl ([.ref (q 21), .int p1, .int p2]) ++ List.replicate (3 - (lg_sl ([.ref (q 21), .int p1, .int p2])).length) Slot.unset).toArray = ls at hl ⊢
  have hl : lv_has ls 3 [(0, .ref (q 21)), (1, .int p1), (2, .int p2)] := hl
  refine lv_aload_n hx hb dX1_isKnown_0 rfl (lv_at hl 0 rfl) ?_
  refine va_get (D := (dC, dI)) (ci := 1) (v := .ref (q 22)) (C := RX1) (T := TX1) (N := 4) hx hb hts inX1 hown hK hP 21 rfl rfl 0 (by decide) (hts _ fl_X1_14) (fun _ h9 => h9) rfl dX1_isKnown_1 ?_
  refine lv_iload_n hx hb dX1_isKnown_4 rfl (lv_at hl 1 rfl) ?_
  refine lv_iload_n hx hb dX1_isKnown_5 rfl (lv_at hl 2 rfl) ?_
  refine xc_i (va_runV (As := [.int p1, .int p2]) (rest := []) ⟨hx, hb, hml, hown, hts⟩ (c_X3_isKnown_F l dC dI cI cJ q σ p1 p2 (by assumption)) (cwV 2 hts (gV ml_X1_42 im_X3_isKnown se_X3_isKnown in_X3 co_X3_isKnown) rfl rfl rfl (by decide +kernel) ⟨Nat.le_of_ble_eq_true rfl, Nat.le_of_ble_eq_true rfl⟩) (preV hK hP (pos := 22) (ci := 3) rfl rfl) rfl rfl hl.1 rfl (lv_room (Nat.le_of_ble_eq_true rfl)) dX1_isKnown_6 ⟨Nat.zero_le _, Nat.zero_le _⟩) ?_
  exact W.zret (v := fX3_isKnown_F σ p1 p2) hx hb hr (nb_of (b_X3_isKnown_F σ p1 p2)) (fun t ht hW => ⟨_, rfl, rfl, ht⟩) (fun _ h => absurd h List.not_mem_nil) dX1_isKnown_9

def fX1_add (σ : St) (p1 : Int32) (p2 : Int32) (p3 : Int32) (p4 : Int32) : Int32 × St :=
  (if ((fX3_add_F σ p4).1) = (-1) then ((-1), (fX3_add_F σ p4).2) else ((fX3_add_F σ p4).1, (sI (sI (sI (fX3_add_F σ p4).2 15 (((fX3_add_F σ p4).1).toNatClampNeg) p1) 16 (((fX3_add_F σ p4).1).toNatClampNeg) p2) 17 (((fX3_add_F σ p4).1).toNatClampNeg) p3)))
set_option maxHeartbeats 4000000 in
set_option maxRecDepth 100000 in
theorem c_X1_add (l : Launch) (dC : Nat → ClassId) (dI : Nat → Nat → Nat) (cI cJ : ClassId) (q : Nat → Nat) (σ : St) (p1 : Int32) (p2 : Int32) (p3 : Int32) (p4 : Int32) (hd : dT 30 q) (hI : IB σ) : Met l yX1_add (.code yX1_add cX1_add 6 (some .int) :: tb) { frames := 2, cells := 0, slots := 0, locals := 41 } (Pu (dC, dI) (tyC cI cJ) (wT cI cJ q σ) [.ref (q 21), .int p1, .int p2, .int p3, .int p4]) (xw_Q (some (.int (fX1_add σ p1 p2 p3 p4).1)) (dC, dI) (wT cI cJ q (fX1_add σ p1 p2 p3 p4).2) (aT 30 q)) 0 0 (aT 30 q) := by
  refine Met.ofW (cc := cX1_add) (maxL := 6) (ret := (some .int)) (by decide) rfl ?_
  intro p e s m args below meth c s₁ B hml hv
  obtain ⟨rfl, hP, hK⟩ := hv
  have hx := B.exec
  have hb := B.bytes
  have hr := B.returns
  have hts0 := atoms_spec (ws := .code yX1_add cX1_add 6 (some .int) :: tb) B.pre
  have hts : ∀ w ∈ tb, w.before _ s = true := fun w hw => hts0 w (List.mem_cons_of_mem _ hw)
  have hown : s.vm.findClass RX1 = some m.cls := findClass_of_methodNamed B.named
  have hlocks := B.notSynchronized
  have hl := lv_entry ([.ref (q 21), .int p1, .int p2, .int p3, .int p4]) (n := 6) (Nat.le_of_ble_eq_true rfl)
  rw [lg_entry_eq]
  generalize (lg_sl ([.ref (q 21), .int p1, .int p2, .int p3, .int p4]) ++ List.replicate (6 - (lg_sl ([.ref (q 21), .int p1, .int p2, .int p3, .int p4])).length) Slot.unset).toArray = ls at hl ⊢
  have hl : lv_has ls 6 [(0, .ref (q 21)), (1, .int p1), (2, .int p2), (3, .int p3), (4, .int p4)] := hl
  obtain ⟨H, hHe⟩ : ∃ H, s.heap = H := ⟨_, rfl⟩
  rw [hHe] at hP ⊢
  obtain ⟨locs, hLe⟩ : ∃ x : List Loc, ([] : List Loc) = x := ⟨_, rfl⟩
  rw [hLe]
  have hS : va_S (aT 30 q) s.heap H locs := by rw [← hHe, ← hLe]; exact va_S.rf
  refine lv_aload_n hx hb dX1_add_0 rfl (lv_at hl 0 rfl) ?_
  refine va_get (D := (dC, dI)) (ci := 1) (v := .ref (q 22)) (C := RX1) (T := TX1) (N := 4) hx hb hts inX1 hown hK hP 21 rfl rfl 0 (by decide) (hts _ fl_X1_14) (fun _ h9 => h9) rfl dX1_add_1 ?_
  refine lv_iload hx hb dX1_add_4 (lv_at hl 4 rfl) ?_
  refine xw_c (va_runV (As := [.int p4]) (rest := []) ⟨hx, hb, hml, hown, hts⟩ (c_X3_add_F l dC dI cI cJ q σ p4 (by assumption) (by assumption)) (cwV 1 hts (gV ml_X1_46 im_X3_add se_X3_add in_X3 co_X3_add) rfl rfl rfl (by decide +kernel) ⟨Nat.le_of_ble_eq_true rfl, Nat.le_of_ble_eq_true rfl⟩) (preV hK hP (pos := 22) (ci := 3) rfl rfl) rfl rfl hl.1 rfl (lv_room (Nat.le_of_ble_eq_true rfl)) dX1_add_6 ⟨Nat.zero_le _, Nat.zero_le _⟩) hS (fun _ h => h) (fun H locs hP _ _ hS => ?_)
  have hP : va_P (dC, dI) vwCl (wT cI cJ q (fX3_add_F σ p4).2) H := hP
  refine W.eq (g2 := F0 m 9 ls [.int ((fX3_add_F σ p4).1)]) rfl ?_
  refine lv_istore (lv' := [(5, .int ((fX3_add_F σ p4).1)), (0, .ref (q 21)), (1, .int p1), (2, .int p2), (3, .int p3), (4, .int p4)]) hx hb dX1_add_9 hl (by decide) rfl (fun ls hl => ?_)
  refine lv_iload hx hb dX1_add_11 (lv_at hl 0 rfl) ?_
  refine lv_iconst (v := (-1)) hx hb dX1_add_13 (by decide) ?_
  refine lv_icmp_ne (tgt := 19) hx hb dX1_add_14 (by decide) (fun c_14 => ?_) (fun c_14 => ?_)
  · refine lv_aload_n hx hb dX1_add_19 rfl (lv_at hl 1 rfl) ?_
    refine va_get (D := (dC, dI)) (ci := 1) (v := .ref (q 23)) (C := RX1) (T := TX1) (N := 4) hx hb hts inX1 hown hK hP 21 rfl rfl 1 (by decide) (hts _ fl_X1_20) (fun _ h9 => h9) rfl dX1_add_20 ?_
    refine lv_iload hx hb dX1_add_23 (lv_at hl 0 rfl) ?_
    refine lv_iload_n hx hb dX1_add_25 rfl (lv_at hl 2 rfl) ?_
    refine va_iast hx hb hK hP (wT_D hd) hS 23 0 rfl rfl (add_in_F hI c_14) dX1_add_26 (fun H locs hP _ hS => ?_)
    have hP : va_P (dC, dI) vwCl (wT cI cJ q (sI (fX3_add_F σ p4).2 15 (((fX3_add_F σ p4).1).toNatClampNeg) p1)) H := hP
    refine lv_aload_n hx hb dX1_add_27 rfl (lv_at hl 1 rfl) ?_
    refine va_get (D := (dC, dI)) (ci := 1) (v := .ref (q 24)) (C := RX1) (T := TX1) (N := 4) hx hb hts inX1 hown hK hP 21 rfl rfl 2 (by decide) (hts _ fl_X1_24) (fun _ h9 => h9) rfl dX1_add_28 ?_
    refine lv_iload hx hb dX1_add_31 (lv_at hl 0 rfl) ?_
    refine lv_iload_n hx hb dX1_add_33 rfl (lv_at hl 3 rfl) ?_
    refine va_iast hx hb hK hP (wT_D hd) hS 24 0 rfl rfl (add_in_F hI c_14) dX1_add_34 (fun H locs hP _ hS => ?_)
    have hP : va_P (dC, dI) vwCl (wT cI cJ q (sI (sI (fX3_add_F σ p4).2 15 (((fX3_add_F σ p4).1).toNatClampNeg) p1) 16 (((fX3_add_F σ p4).1).toNatClampNeg) p2)) H := hP
    refine lv_aload_n hx hb dX1_add_35 rfl (lv_at hl 1 rfl) ?_
    refine va_get (D := (dC, dI)) (ci := 1) (v := .ref (q 25)) (C := RX1) (T := TX1) (N := 4) hx hb hts inX1 hown hK hP 21 rfl rfl 3 (by decide) (hts _ fl_X1_27) (fun _ h9 => h9) rfl dX1_add_36 ?_
    refine lv_iload hx hb dX1_add_39 (lv_at hl 0 rfl) ?_
    refine lv_iload_n hx hb dX1_add_41 rfl (lv_at hl 4 rfl) ?_
    refine va_iast hx hb hK hP (wT_D hd) hS 25 0 rfl rfl (add_in_F hI c_14) dX1_add_42 (fun H locs hP _ hS => ?_)
    have hP : va_P (dC, dI) vwCl (wT cI cJ q (sI (sI (sI (fX3_add_F σ p4).2 15 (((fX3_add_F σ p4).1).toNatClampNeg) p1) 16 (((fX3_add_F σ p4).1).toNatClampNeg) p2) 17 (((fX3_add_F σ p4).1).toNatClampNeg) p3)) H := hP
    refine lv_iload hx hb dX1_add_43 (lv_at hl 0 rfl) ?_
    have hF : fX1_add σ p1 p2 p3 p4 = ((fX3_add_F σ p4).1, (sI (sI (sI (fX3_add_F σ p4).2 15 (((fX3_add_F σ p4).1).toNatClampNeg) p1) 16 (((fX3_add_F σ p4).1).toNatClampNeg) p2) 17 (((fX3_add_F σ p4).1).toNatClampNeg) p3)) := by rw [fX1_add, if_neg c_14]
    have hP9 : va_P (dC, dI) vwCl (wT cI cJ q (fX1_add σ p1 p2 p3 p4).2) H := by rw [hF]; exact hP
    exact W.iret (v := (fX3_add_F σ p4).1) hx hb hr (fun t ht hW => ⟨(by rw [hF]), by rw [ht]; exact hP9, hS.F ht⟩) hS.2.2 dX1_add_45
  · refine lv_iconst (v := (-1)) hx hb dX1_add_17 (by decide) ?_
    have hF : fX1_add σ p1 p2 p3 p4 = ((-1), (fX3_add_F σ p4).2) := by rw [fX1_add, if_pos c_14]
    have hP9 : va_P (dC, dI) vwCl (wT cI cJ q (fX1_add σ p1 p2 p3 p4).2) H := by rw [hF]; exact hP
    exact W.iret (v := (-1)) hx hb hr (fun t ht hW => ⟨(by rw [hF]), by rw [ht]; exact hP9, hS.F ht⟩) hS.2.2 dX1_add_18

set_option maxHeartbeats 4000000 in
set_option maxRecDepth 100000 in
theorem c_X1_codeOf (l : Launch) (dC : Nat → ClassId) (dI : Nat → Nat → Nat) (cI cJ : ClassId) (q : Nat → Nat) (σ : St) (p1 : Int32) (hR : vp_in p1 200) : Met l yX1_codeOf (.code yX1_codeOf cX1_codeOf 2 (some .int) :: tb) { frames := 0, cells := 0, slots := 0, locals := 0 } (Pu (dC, dI) (tyC cI cJ) (wT cI cJ q σ) [.ref (q 21), .int p1]) (vp_Si (fun r => r = σ.1 15 p1.toNatClampNeg)) 0 0 (fun _ => False) := by
  refine Met.ofW (cc := cX1_codeOf) (maxL := 2) (ret := (some .int)) (by decide) rfl ?_
  intro p e s m args below meth c s₁ B hml hv
  obtain ⟨rfl, hP, hK⟩ := hv
  have hx := B.exec
  have hb := B.bytes
  have hr := B.returns
  have hts0 := atoms_spec (ws := .code yX1_codeOf cX1_codeOf 2 (some .int) :: tb) B.pre
  have hts : ∀ w ∈ tb, w.before _ s = true := fun w hw => hts0 w (List.mem_cons_of_mem _ hw)
  have hown : s.vm.findClass RX1 = some m.cls := findClass_of_methodNamed B.named
  have hlocks := B.notSynchronized
  have hl := lv_entry ([.ref (q 21), .int p1]) (n := 2) (Nat.le_of_ble_eq_true rfl)
  rw [lg_entry_eq]
  generalize (lg_sl ([.ref (q 21), .int p1]) ++ List.replicate (2 - (lg_sl ([.ref (q 21), .int p1])).length) Slot.unset).toArray = ls at hl ⊢
  have hl : lv_has ls 2 [(0, .ref (q 21)), (1, .int p1)] := hl
  refine lv_aload_n hx hb dX1_codeOf_0 rfl (lv_at hl 0 rfl) ?_
  refine va_get (D := (dC, dI)) (ci := 1) (v := .ref (q 23)) (C := RX1) (T := TX1) (N := 4) hx hb hts inX1 hown hK hP 21 rfl rfl 1 (by decide) (hts _ fl_X1_20) (fun _ h9 => h9) rfl dX1_codeOf_1 ?_
  refine lv_iload_n hx hb dX1_codeOf_4 rfl (lv_at hl 1 rfl) ?_
  refine va_iald hx hb hK hP 23 0 rfl rfl (by assumption) dX1_codeOf_5 ?_
  exact W.iret (v := σ.1 15 p1.toNatClampNeg) hx hb hr (fun t ht hW => ⟨_, rfl, rfl, ht⟩) (fun _ h => absurd h List.not_mem_nil) dX1_codeOf_6

set_option maxHeartbeats 4000000 in
set_option maxRecDepth 100000 in
theorem c_X1_dayOf (l : Launch) (dC : Nat → ClassId) (dI : Nat → Nat → Nat) (cI cJ : ClassId) (q : Nat → Nat) (σ : St) (p1 : Int32) (hR : vp_in p1 200) : Met l yX1_dayOf (.code yX1_dayOf cX1_dayOf 2 (some .int) :: tb) { frames := 0, cells := 0, slots := 0, locals := 0 } (Pu (dC, dI) (tyC cI cJ) (wT cI cJ q σ) [.ref (q 21), .int p1]) (vp_Si (fun r => r = σ.1 16 p1.toNatClampNeg)) 0 0 (fun _ => False) := by
  refine Met.ofW (cc := cX1_dayOf) (maxL := 2) (ret := (some .int)) (by decide) rfl ?_
  intro p e s m args below meth c s₁ B hml hv
  obtain ⟨rfl, hP, hK⟩ := hv
  have hx := B.exec
  have hb := B.bytes
  have hr := B.returns
  have hts0 := atoms_spec (ws := .code yX1_dayOf cX1_dayOf 2 (some .int) :: tb) B.pre
  have hts : ∀ w ∈ tb, w.before _ s = true := fun w hw => hts0 w (List.mem_cons_of_mem _ hw)
  have hown : s.vm.findClass RX1 = some m.cls := findClass_of_methodNamed B.named
  have hlocks := B.notSynchronized
  have hl := lv_entry ([.ref (q 21), .int p1]) (n := 2) (Nat.le_of_ble_eq_true rfl)
  rw [lg_entry_eq]
  generalize (lg_sl ([.ref (q 21), .int p1]) ++ List.replicate (2 - (lg_sl ([.ref (q 21), .int p1])).length) Slot.unset).toArray = ls at hl ⊢
  have hl : lv_has ls 2 [(0, .ref (q 21)), (1, .int p1)] := hl
  refine lv_aload_n hx hb dX1_dayOf_0 rfl (lv_at hl 0 rfl) ?_
  refine va_get (D := (dC, dI)) (ci := 1) (v := .ref (q 24)) (C := RX1) (T := TX1) (N := 4) hx hb hts inX1 hown hK hP 21 rfl rfl 2 (by decide) (hts _ fl_X1_24) (fun _ h9 => h9) rfl dX1_dayOf_1 ?_
  refine lv_iload_n hx hb dX1_dayOf_4 rfl (lv_at hl 1 rfl) ?_
  refine va_iald hx hb hK hP 24 0 rfl rfl (by assumption) dX1_dayOf_5 ?_
  exact W.iret (v := σ.1 16 p1.toNatClampNeg) hx hb hr (fun t ht hW => ⟨_, rfl, rfl, ht⟩) (fun _ h => absurd h List.not_mem_nil) dX1_dayOf_6

set_option maxHeartbeats 4000000 in
set_option maxRecDepth 100000 in
theorem c_X1_amountOf (l : Launch) (dC : Nat → ClassId) (dI : Nat → Nat → Nat) (cI cJ : ClassId) (q : Nat → Nat) (σ : St) (p1 : Int32) (hR : vp_in p1 200) : Met l yX1_amountOf (.code yX1_amountOf cX1_amountOf 2 (some .int) :: tb) { frames := 0, cells := 0, slots := 0, locals := 0 } (Pu (dC, dI) (tyC cI cJ) (wT cI cJ q σ) [.ref (q 21), .int p1]) (vp_Si (fun r => r = σ.1 17 p1.toNatClampNeg)) 0 0 (fun _ => False) := by
  refine Met.ofW (cc := cX1_amountOf) (maxL := 2) (ret := (some .int)) (by decide) rfl ?_
  intro p e s m args below meth c s₁ B hml hv
  obtain ⟨rfl, hP, hK⟩ := hv
  have hx := B.exec
  have hb := B.bytes
  have hr := B.returns
  have hts0 := atoms_spec (ws := .code yX1_amountOf cX1_amountOf 2 (some .int) :: tb) B.pre
  have hts : ∀ w ∈ tb, w.before _ s = true := fun w hw => hts0 w (List.mem_cons_of_mem _ hw)
  have hown : s.vm.findClass RX1 = some m.cls := findClass_of_methodNamed B.named
  have hlocks := B.notSynchronized
  have hl := lv_entry ([.ref (q 21), .int p1]) (n := 2) (Nat.le_of_ble_eq_true rfl)
  rw [lg_entry_eq]
  generalize (lg_sl ([.ref (q 21), .int p1]) ++ List.replicate (2 - (lg_sl ([.ref (q 21), .int p1])).length) Slot.unset).toArray = ls at hl ⊢
  have hl : lv_has ls 2 [(0, .ref (q 21)), (1, .int p1)] := hl
  refine lv_aload_n hx hb dX1_amountOf_0 rfl (lv_at hl 0 rfl) ?_
  refine va_get (D := (dC, dI)) (ci := 1) (v := .ref (q 25)) (C := RX1) (T := TX1) (N := 4) hx hb hts inX1 hown hK hP 21 rfl rfl 3 (by decide) (hts _ fl_X1_27) (fun _ h9 => h9) rfl dX1_amountOf_1 ?_
  refine lv_iload_n hx hb dX1_amountOf_4 rfl (lv_at hl 1 rfl) ?_
  refine va_iald hx hb hK hP 25 0 rfl rfl (by assumption) dX1_amountOf_5 ?_
  exact W.iret (v := σ.1 17 p1.toNatClampNeg) hx hb hr (fun t ht hW => ⟨_, rfl, rfl, ht⟩) (fun _ h => absurd h List.not_mem_nil) dX1_amountOf_6
end
section
set_option maxHeartbeats 4000000 in
set_option maxRecDepth 100000 in
theorem c_X5_size (l : Launch) (dC : Nat → ClassId) (dI : Nat → Nat → Nat) (cI cJ : ClassId) (q : Nat → Nat) (σ : St) : Met l yX5_size (.code yX5_size cX5_size 1 (some .int) :: tb) { frames := 0, cells := 0, slots := 0, locals := 0 } (Pu (dC, dI) (tyC cI cJ) (wT cI cJ q σ) [.ref (q 3)]) (vp_Si (fun r => r = σ.2.1 1)) 0 0 (fun _ => False) := by
  refine Met.ofW (cc := cX5_size) (maxL := 1) (ret := (some .int)) (by decide) rfl ?_
  intro p e s m args below meth c s₁ B hml hv
  obtain ⟨rfl, hP, hK⟩ := hv
  have hx := B.exec
  have hb := B.bytes
  have hr := B.returns
  have hts0 := atoms_spec (ws := .code yX5_size cX5_size 1 (some .int) :: tb) B.pre
  have hts : ∀ w ∈ tb, w.before _ s = true := fun w hw => hts0 w (List.mem_cons_of_mem _ hw)
  have hown : s.vm.findClass RX5 = some m.cls := findClass_of_methodNamed B.named
  have hlocks := B.notSynchronized
  have hl := lv_entry ([.ref (q 3)]) (n := 1) (Nat.le_of_ble_eq_true rfl)
  rw [lg_entry_eq]
  generalize (lg_sl ([.ref (q 3)]) ++ List.replicate (1 - (lg_sl ([.ref (q 3)])).length) Slot.unset).toArray = ls at hl ⊢
  have hl : lv_has ls 1 [(0, .ref (q 3))] := hl
  refine lv_aload_n hx hb dX5_size_0 rfl (lv_at hl 0 rfl) ?_
  refine va_get (D := (dC, dI)) (ci := 5) (v := .int (σ.2.1 1)) (C := RX5) (T := TX5) (N := 10) hx hb hts inX5 hown hK hP 3 rfl rfl 9 (by decide) (hts _ fl_X5_39) (fun _ h9 => h9) rfl dX5_size_1 ?_
  exact W.iret (v := σ.2.1 1) hx hb hr (fun t ht hW => ⟨_, rfl, rfl, ht⟩) (fun _ h => absurd h List.not_mem_nil) dX5_size_4

set_option maxHeartbeats 4000000 in
set_option maxRecDepth 100000 in
theorem c_X5_room (l : Launch) (dC : Nat → ClassId) (dI : Nat → Nat → Nat) (cI cJ : ClassId) (q : Nat → Nat) (σ : St) : Met l yX5_room (.code yX5_room cX5_room 1 (some .int) :: tb) { frames := 0, cells := 0, slots := 0, locals := 0 } (Pu (dC, dI) (tyC cI cJ) (wT cI cJ q σ) [.ref (q 3)]) (vp_Si (fun r => r = 40 - (σ.2.1 1))) 0 0 (fun _ => False) := by
  refine Met.ofW (cc := cX5_room) (maxL := 1) (ret := (some .int)) (by decide) rfl ?_
  intro p e s m args below meth c s₁ B hml hv
  obtain ⟨rfl, hP, hK⟩ := hv
  have hx := B.exec
  have hb := B.bytes
  have hr := B.returns
  have hts0 := atoms_spec (ws := .code yX5_room cX5_room 1 (some .int) :: tb) B.pre
  have hts : ∀ w ∈ tb, w.before _ s = true := fun w hw => hts0 w (List.mem_cons_of_mem _ hw)
  have hown : s.vm.findClass RX5 = some m.cls := findClass_of_methodNamed B.named
  have hlocks := B.notSynchronized
  have hl := lv_entry ([.ref (q 3)]) (n := 1) (Nat.le_of_ble_eq_true rfl)
  rw [lg_entry_eq]
  generalize (lg_sl ([.ref (q 3)]) ++ List.replicate (1 - (lg_sl ([.ref (q 3)])).length) Slot.unset).toArray = ls at hl ⊢
  have hl : lv_has ls 1 [(0, .ref (q 3))] := hl
  refine lv_bipush (v := 40) hx hb dX5_room_0 (by decide) ?_
  refine lv_aload_n hx hb dX5_room_2 rfl (lv_at hl 0 rfl) ?_
  refine va_get (D := (dC, dI)) (ci := 5) (v := .int (σ.2.1 1)) (C := RX5) (T := TX5) (N := 10) hx hb hts inX5 hown hK hP 3 rfl rfl 9 (by decide) (hts _ fl_X5_39) (fun _ h9 => h9) rfl dX5_room_3 ?_
  refine lv_isub hx hb dX5_room_6 ?_
  exact W.iret (v := 40 - (σ.2.1 1)) hx hb hr (fun t ht hW => ⟨_, rfl, rfl, ht⟩) (fun _ h => absurd h List.not_mem_nil) dX5_room_7

def fX5_has (σ : St) (p1 : Int32) : Int32 :=
  (if p1 < 0 then 0 else (if (σ.2.1 1) ≤ p1 then 0 else 1))
set_option maxHeartbeats 4000000 in
set_option maxRecDepth 100000 in
theorem c_X5_has (l : Launch) (dC : Nat → ClassId) (dI : Nat → Nat → Nat) (cI cJ : ClassId) (q : Nat → Nat) (σ : St) (p1 : Int32) : Met l yX5_has (.code yX5_has cX5_has 2 (some .boolean) :: tb) { frames := 0, cells := 0, slots := 0, locals := 0 } (Pu (dC, dI) (tyC cI cJ) (wT cI cJ q σ) [.ref (q 3), .int p1]) (vp_Si (fun r => r = fX5_has σ p1)) 0 0 (fun _ => False) := by
  refine Met.ofW (cc := cX5_has) (maxL := 2) (ret := (some .boolean)) (by decide) rfl ?_
  intro p e s m args below meth c s₁ B hml hv
  obtain ⟨rfl, hP, hK⟩ := hv
  have hx := B.exec
  have hb := B.bytes
  have hr := B.returns
  have hts0 := atoms_spec (ws := .code yX5_has cX5_has 2 (some .boolean) :: tb) B.pre
  have hts : ∀ w ∈ tb, w.before _ s = true := fun w hw => hts0 w (List.mem_cons_of_mem _ hw)
  have hown : s.vm.findClass RX5 = some m.cls := findClass_of_methodNamed B.named
  have hlocks := B.notSynchronized
  have hl := lv_entry ([.ref (q 3), .int p1]) (n := 2) (Nat.le_of_ble_eq_true rfl)
  rw [lg_entry_eq]
  generalize (lg_sl ([.ref (q 3), .int p1]) ++ List.replicate (2 - (lg_sl ([.ref (q 3), .int p1])).length) Slot.unset).toArray = ls at hl ⊢
  have hl : lv_has ls 2 [(0, .ref (q 3)), (1, .int p1)] := hl
  refine lv_iload_n hx hb dX5_has_0 rfl (lv_at hl 1 rfl) ?_
  refine lv_if_lt (tgt := 16) hx hb dX5_has_1 (by decide) (fun c_1 => ?_) (fun c_1 => ?_)
  · refine lv_iconst (v := 0) hx hb dX5_has_16 (by decide) ?_
    exact W.zret (v := 0) hx hb hr narrow_b0 (fun t ht hW => ⟨_, rfl, (by rw [fX5_has, if_pos c_1]), ht⟩) (fun _ h => absurd h List.not_mem_nil) dX5_has_17
  · refine lv_iload_n hx hb dX5_has_4 rfl (lv_at hl 1 rfl) ?_
    refine lv_aload_n hx hb dX5_has_5 rfl (lv_at hl 0 rfl) ?_
    refine va_get (D := (dC, dI)) (ci := 5) (v := .int (σ.2.1 1)) (C := RX5) (T := TX5) (N := 10) hx hb hts inX5 hown hK hP 3 rfl rfl 9 (by decide) (hts _ fl_X5_39) (fun _ h9 => h9) rfl dX5_has_6 ?_
    refine lv_icmp_ge (tgt := 16) hx hb dX5_has_9 (by decide) (fun c_9 => ?_) (fun c_9 => ?_)
    · refine lv_iconst (v := 0) hx hb dX5_has_16 (by decide) ?_
      exact W.zret (v := 0) hx hb hr narrow_b0 (fun t ht hW => ⟨_, rfl, (by rw [fX5_has, if_neg c_1, if_pos c_9]), ht⟩) (fun _ h => absurd h List.not_mem_nil) dX5_has_17
    · refine lv_iconst (v := 1) hx hb dX5_has_12 (by decide) ?_
      refine lv_goto (tgt := 17) hx hb dX5_has_13 (by decide) ?_
      exact W.zret (v := 1) hx hb hr narrow_b1 (fun t ht hW => ⟨_, rfl, (by rw [fX5_has, if_neg c_1, if_neg c_9]), ht⟩) (fun _ h => absurd h List.not_mem_nil) dX5_has_17

theorem has_in {σ : St} {x : Int32} (hI : IB σ) (c : ¬ fX5_has σ x = 0) : vp_in x (σ.2.1 1).toNatClampNeg := by
  unfold fX5_has at c
  split at c
  · exact absurd rfl c
  · split at c
    · exact absurd rfl c
    · exact in_size hI.1 (by decide) (by assumption) (by assumption)
theorem has_in40 {σ : St} {x : Int32} (hI : IB σ) (c : ¬ fX5_has σ x = 0) : vp_in x 40 := vp_in_mono (has_in hI c) hI.1.2

def fX5_add (σ : St) (p1 : Int32) (p2 : Int32) (p3 : Int32) : Int32 × St :=
  (if 1 ≤ (40 - (σ.2.1 1)) then (((σ.2.1 1) + 1) - 1, (sV (sI (sI (sI (sI (sI (sI (sI (sI (sI σ 0 ((σ.2.1 1).toNatClampNeg) p1) 1 ((σ.2.1 1).toNatClampNeg) p2) 2 ((σ.2.1 1).toNatClampNeg) p3) 3 ((σ.2.1 1).toNatClampNeg) 2001) 4 ((σ.2.1 1).toNatClampNeg) 2001) 5 ((σ.2.1 1).toNatClampNeg) 0) 6 ((σ.2.1 1).toNatClampNeg) (-1)) 7 ((σ.2.1 1).toNatClampNeg) 0) 8 ((σ.2.1 1).toNatClampNeg) 1) 1 ((σ.2.1 1) + 1))) else ((-1), σ))
set_option maxHeartbeats 4000000 in
set_option maxRecDepth 100000 in
theorem c_X5_add (l : Launch) (dC : Nat → ClassId) (dI : Nat → Nat → Nat) (cI cJ : ClassId) (q : Nat → Nat) (σ : St) (p1 : Int32) (p2 : Int32) (p3 : Int32) (hd : dT 30 q) (hI : IB σ) : Met l yX5_add (.code yX5_add cX5_add 4 (some .int) :: tb) { frames := 1, cells := 0, slots := 0, locals := 20 } (Pu (dC, dI) (tyC cI cJ) (wT cI cJ q σ) [.ref (q 3), .int p1, .int p2, .int p3]) (xw_Q (some (.int (fX5_add σ p1 p2 p3).1)) (dC, dI) (wT cI cJ q (fX5_add σ p1 p2 p3).2) (aT 30 q)) 0 0 (aT 30 q) := by
  refine Met.ofW (cc := cX5_add) (maxL := 4) (ret := (some .int)) (by decide) rfl ?_
  intro p e s m args below meth c s₁ B hml hv
  obtain ⟨rfl, hP, hK⟩ := hv
  have hx := B.exec
  have hb := B.bytes
  have hr := B.returns
  have hts0 := atoms_spec (ws := .code yX5_add cX5_add 4 (some .int) :: tb) B.pre
  have hts : ∀ w ∈ tb, w.before _ s = true := fun w hw => hts0 w (List.mem_cons_of_mem _ hw)
  have hown : s.vm.findClass RX5 = some m.cls := findClass_of_methodNamed B.named
  have hlocks := B.notSynchronized
  have hl := lv_entry ([.ref (q 3), .int p1, .int p2, .int p3]) (n := 4) (Nat.le_of_ble_eq_true rfl)
  rw [lg_entry_eq]
  generalize (lg_sl ([.ref (q 3), .int p1, .int p2, .int p3]) ++ List.replicate (4 - (lg_sl ([.ref (q 3), .int p1, .int p2, .int p3])).length) Slot.unset).toArray = ls at hl ⊢
  have hl : lv_has ls 4 [(0, .ref (q 3)), (1, .int p1), (2, .int p2), (3, .int p3)] := hl
  obtain ⟨H, hHe⟩ : ∃ H, s.heap = H := ⟨_, rfl⟩
  rw [hHe] at hP ⊢
  obtain ⟨locs, hLe⟩ : ∃ x : List Loc, ([] : List Loc) = x := ⟨_, rfl⟩
  rw [hLe]
  have hS : va_S (aT 30 q) s.heap H locs := by rw [← hHe, ← hLe]; exact va_S.rf
  refine lv_aload_n hx hb dX5_add_0 rfl (lv_at hl 0 rfl) ?_
  refine xc_i (va_runV (As := []) (rest := []) ⟨hx, hb, hml, hown, hts⟩ (c_X5_room l dC dI cI cJ q σ ) (cwV 0 hts (gV ml_X5_43 im_X5_room se_X5_room in_X5 co_X5_room) rfl rfl rfl (by decide +kernel) ⟨Nat.le_of_ble_eq_true rfl, Nat.le_of_ble_eq_true rfl⟩) (preV hK hP (pos := 3) (ci := 5) rfl rfl) rfl rfl hl.1 rfl (lv_room (Nat.le_of_ble_eq_true rfl)) dX5_add_1 ⟨Nat.zero_le _, Nat.zero_le _⟩) ?_
  refine lv_iconst (v := 1) hx hb dX5_add_4 (by decide) ?_
  refine lv_icmp_ge (tgt := 10) hx hb dX5_add_5 (by decide) (fun c_5 => ?_) (fun c_5 => ?_)
  · refine lv_aload_n hx hb dX5_add_10 rfl (lv_at hl 0 rfl) ?_
    refine va_get (D := (dC, dI)) (ci := 5) (v := .ref (q 4)) (C := RX5) (T := TX5) (N := 10) hx hb hts inX5 hown hK hP 3 rfl rfl 0 (by decide) (hts _ fl_X5_9) (fun _ h9 => h9) rfl dX5_add_11 ?_
    refine lv_aload_n hx hb dX5_add_14 rfl (lv_at hl 0 rfl) ?_
    refine va_get (D := (dC, dI)) (ci := 5) (v := .int (σ.2.1 1)) (C := RX5) (T := TX5) (N := 10) hx hb hts inX5 hown hK hP 3 rfl rfl 9 (by decide) (hts _ fl_X5_39) (fun _ h9 => h9) rfl dX5_add_15 ?_
    refine lv_iload_n hx hb dX5_add_18 rfl (lv_at hl 1 rfl) ?_
    refine va_iast hx hb hK hP (wT_D hd) hS 4 0 rfl rfl (room_in hI.1 c_5) dX5_add_19 (fun H locs hP _ hS => ?_)
    have hP : va_P (dC, dI) vwCl (wT cI cJ q (sI σ 0 ((σ.2.1 1).toNatClampNeg) p1)) H := hP
    refine lv_aload_n hx hb dX5_add_20 rfl (lv_at hl 0 rfl) ?_
    refine va_get (D := (dC, dI)) (ci := 5) (v := .ref (q 5)) (C := RX5) (T := TX5) (N := 10) hx hb hts inX5 hown hK hP 3 rfl rfl 1 (by decide) (hts _ fl_X5_15) (fun _ h9 => h9) rfl dX5_add_21 ?_
    refine lv_aload_n hx hb dX5_add_24 rfl (lv_at hl 0 rfl) ?_
    refine va_get (D := (dC, dI)) (ci := 5) (v := .int (σ.2.1 1)) (C := RX5) (T := TX5) (N := 10) hx hb hts inX5 hown hK hP 3 rfl rfl 9 (by decide) (hts _ fl_X5_39) (fun _ h9 => h9) rfl dX5_add_25 ?_
    refine lv_iload_n hx hb dX5_add_28 rfl (lv_at hl 2 rfl) ?_
    refine va_iast hx hb hK hP (wT_D hd) hS 5 0 rfl rfl (room_in hI.1 c_5) dX5_add_29 (fun H locs hP _ hS => ?_)
    have hP : va_P (dC, dI) vwCl (wT cI cJ q (sI (sI σ 0 ((σ.2.1 1).toNatClampNeg) p1) 1 ((σ.2.1 1).toNatClampNeg) p2)) H := hP
    refine lv_aload_n hx hb dX5_add_30 rfl (lv_at hl 0 rfl) ?_
    refine va_get (D := (dC, dI)) (ci := 5) (v := .ref (q 6)) (C := RX5) (T := TX5) (N := 10) hx hb hts inX5 hown hK hP 3 rfl rfl 2 (by decide) (hts _ fl_X5_18) (fun _ h9 => h9) rfl dX5_add_31 ?_
    refine lv_aload_n hx hb dX5_add_34 rfl (lv_at hl 0 rfl) ?_
    refine va_get (D := (dC, dI)) (ci := 5) (v := .int (σ.2.1 1)) (C := RX5) (T := TX5) (N := 10) hx hb hts inX5 hown hK hP 3 rfl rfl 9 (by decide) (hts _ fl_X5_39) (fun _ h9 => h9) rfl dX5_add_35 ?_
    refine lv_iload_n hx hb dX5_add_38 rfl (lv_at hl 3 rfl) ?_
    refine va_iast hx hb hK hP (wT_D hd) hS 6 0 rfl rfl (room_in hI.1 c_5) dX5_add_39 (fun H locs hP _ hS => ?_)
    have hP : va_P (dC, dI) vwCl (wT cI cJ q (sI (sI (sI σ 0 ((σ.2.1 1).toNatClampNeg) p1) 1 ((σ.2.1 1).toNatClampNeg) p2) 2 ((σ.2.1 1).toNatClampNeg) p3)) H := hP
    refine lv_aload_n hx hb dX5_add_40 rfl (lv_at hl 0 rfl) ?_
    refine va_get (D := (dC, dI)) (ci := 5) (v := .ref (q 7)) (C := RX5) (T := TX5) (N := 10) hx hb hts inX5 hown hK hP 3 rfl rfl 3 (by decide) (hts _ fl_X5_21) (fun _ h9 => h9) rfl dX5_add_41 ?_
    refine lv_aload_n hx hb dX5_add_44 rfl (lv_at hl 0 rfl) ?_
    refine va_get (D := (dC, dI)) (ci := 5) (v := .int (σ.2.1 1)) (C := RX5) (T := TX5) (N := 10) hx hb hts inX5 hown hK hP 3 rfl rfl 9 (by decide) (hts _ fl_X5_39) (fun _ h9 => h9) rfl dX5_add_45 ?_
    refine lv_sipush (v := 2001) hx hb dX5_add_48 (by decide) ?_
    refine va_iast hx hb hK hP (wT_D hd) hS 7 0 rfl rfl (room_in hI.1 c_5) dX5_add_51 (fun H locs hP _ hS => ?_)
    have hP : va_P (dC, dI) vwCl (wT cI cJ q (sI (sI (sI (sI σ 0 ((σ.2.1 1).toNatClampNeg) p1) 1 ((σ.2.1 1).toNatClampNeg) p2) 2 ((σ.2.1 1).toNatClampNeg) p3) 3 ((σ.2.1 1).toNatClampNeg) 2001)) H := hP
    refine lv_aload_n hx hb dX5_add_52 rfl (lv_at hl 0 rfl) ?_
    refine va_get (D := (dC, dI)) (ci := 5) (v := .ref (q 8)) (C := RX5) (T := TX5) (N := 10) hx hb hts inX5 hown hK hP 3 rfl rfl 4 (by decide) (hts _ fl_X5_24) (fun _ h9 => h9) rfl dX5_add_53 ?_
    refine lv_aload_n hx hb dX5_add_56 rfl (lv_at hl 0 rfl) ?_
    refine va_get (D := (dC, dI)) (ci := 5) (v := .int (σ.2.1 1)) (C := RX5) (T := TX5) (N := 10) hx hb hts inX5 hown hK hP 3 rfl rfl 9 (by decide) (hts _ fl_X5_39) (fun _ h9 => h9) rfl dX5_add_57 ?_
    refine lv_sipush (v := 2001) hx hb dX5_add_60 (by decide) ?_
    refine va_iast hx hb hK hP (wT_D hd) hS 8 0 rfl rfl (room_in hI.1 c_5) dX5_add_63 (fun H locs hP _ hS => ?_)
    have hP : va_P (dC, dI) vwCl (wT cI cJ q (sI (sI (sI (sI (sI σ 0 ((σ.2.1 1).toNatClampNeg) p1) 1 ((σ.2.1 1).toNatClampNeg) p2) 2 ((σ.2.1 1).toNatClampNeg) p3) 3 ((σ.2.1 1).toNatClampNeg) 2001) 4 ((σ.2.1 1).toNatClampNeg) 2001)) H := hP
    refine lv_aload_n hx hb dX5_add_64 rfl (lv_at hl 0 rfl) ?_
    refine va_get (D := (dC, dI)) (ci := 5) (v := .ref (q 9)) (C := RX5) (T := TX5) (N := 10) hx hb hts inX5 hown hK hP 3 rfl rfl 5 (by decide) (hts _ fl_X5_27) (fun _ h9 => h9) rfl dX5_add_65 ?_
    refine lv_aload_n hx hb dX5_add_68 rfl (lv_at hl 0 rfl) ?_
    refine va_get (D := (dC, dI)) (ci := 5) (v := .int (σ.2.1 1)) (C := RX5) (T := TX5) (N := 10) hx hb hts inX5 hown hK hP 3 rfl rfl 9 (by decide) (hts _ fl_X5_39) (fun _ h9 => h9) rfl dX5_add_69 ?_
    refine lv_iconst (v := 0) hx hb dX5_add_72 (by decide) ?_
    refine va_iast hx hb hK hP (wT_D hd) hS 9 0 rfl rfl (room_in hI.1 c_5) dX5_add_73 (fun H locs hP _ hS => ?_)
    have hP : va_P (dC, dI) vwCl (wT cI cJ q (sI (sI (sI (sI (sI (sI σ 0 ((σ.2.1 1).toNatClampNeg) p1) 1 ((σ.2.1 1).toNatClampNeg) p2) 2 ((σ.2.1 1).toNatClampNeg) p3) 3 ((σ.2.1 1).toNatClampNeg) 2001) 4 ((σ.2.1 1).toNatClampNeg) 2001) 5 ((σ.2.1 1).toNatClampNeg) 0)) H := hP
    refine lv_aload_n hx hb dX5_add_74 rfl (lv_at hl 0 rfl) ?_
    refine va_get (D := (dC, dI)) (ci := 5) (v := .ref (q 10)) (C := RX5) (T := TX5) (N := 10) hx hb hts inX5 hown hK hP 3 rfl rfl 6 (by decide) (hts _ fl_X5_30) (fun _ h9 => h9) rfl dX5_add_75 ?_
    refine lv_aload_n hx hb dX5_add_78 rfl (lv_at hl 0 rfl) ?_
    refine va_get (D := (dC, dI)) (ci := 5) (v := .int (σ.2.1 1)) (C := RX5) (T := TX5) (N := 10) hx hb hts inX5 hown hK hP 3 rfl rfl 9 (by decide) (hts _ fl_X5_39) (fun _ h9 => h9) rfl dX5_add_79 ?_
    refine lv_iconst (v := (-1)) hx hb dX5_add_82 (by decide) ?_
    refine va_iast hx hb hK hP (wT_D hd) hS 10 0 rfl rfl (room_in hI.1 c_5) dX5_add_83 (fun H locs hP _ hS => ?_)
    have hP : va_P (dC, dI) vwCl (wT cI cJ q (sI (sI (sI (sI (sI (sI (sI σ 0 ((σ.2.1 1).toNatClampNeg) p1) 1 ((σ.2.1 1).toNatClampNeg) p2) 2 ((σ.2.1 1).toNatClampNeg) p3) 3 ((σ.2.1 1).toNatClampNeg) 2001) 4 ((σ.2.1 1).toNatClampNeg) 2001) 5 ((σ.2.1 1).toNatClampNeg) 0) 6 ((σ.2.1 1).toNatClampNeg) (-1))) H := hP
    refine lv_aload_n hx hb dX5_add_84 rfl (lv_at hl 0 rfl) ?_
    refine va_get (D := (dC, dI)) (ci := 5) (v := .ref (q 11)) (C := RX5) (T := TX5) (N := 10) hx hb hts inX5 hown hK hP 3 rfl rfl 7 (by decide) (hts _ fl_X5_33) (fun _ h9 => h9) rfl dX5_add_85 ?_
    refine lv_aload_n hx hb dX5_add_88 rfl (lv_at hl 0 rfl) ?_
    refine va_get (D := (dC, dI)) (ci := 5) (v := .int (σ.2.1 1)) (C := RX5) (T := TX5) (N := 10) hx hb hts inX5 hown hK hP 3 rfl rfl 9 (by decide) (hts _ fl_X5_39) (fun _ h9 => h9) rfl dX5_add_89 ?_
    refine lv_iconst (v := 0) hx hb dX5_add_92 (by decide) ?_
    refine va_iast hx hb hK hP (wT_D hd) hS 11 0 rfl rfl (room_in hI.1 c_5) dX5_add_93 (fun H locs hP _ hS => ?_)
    have hP : va_P (dC, dI) vwCl (wT cI cJ q (sI (sI (sI (sI (sI (sI (sI (sI σ 0 ((σ.2.1 1).toNatClampNeg) p1) 1 ((σ.2.1 1).toNatClampNeg) p2) 2 ((σ.2.1 1).toNatClampNeg) p3) 3 ((σ.2.1 1).toNatClampNeg) 2001) 4 ((σ.2.1 1).toNatClampNeg) 2001) 5 ((σ.2.1 1).toNatClampNeg) 0) 6 ((σ.2.1 1).toNatClampNeg) (-1)) 7 ((σ.2.1 1).toNatClampNeg) 0)) H := hP
    refine lv_aload_n hx hb dX5_add_94 rfl (lv_at hl 0 rfl) ?_
    refine va_get (D := (dC, dI)) (ci := 5) (v := .ref (q 12)) (C := RX5) (T := TX5) (N := 10) hx hb hts inX5 hown hK hP 3 rfl rfl 8 (by decide) (hts _ fl_X5_36) (fun _ h9 => h9) rfl dX5_add_95 ?_
    refine lv_aload_n hx hb dX5_add_98 rfl (lv_at hl 0 rfl) ?_
    refine va_get (D := (dC, dI)) (ci := 5) (v := .int (σ.2.1 1)) (C := RX5) (T := TX5) (N := 10) hx hb hts inX5 hown hK hP 3 rfl rfl 9 (by decide) (hts _ fl_X5_39) (fun _ h9 => h9) rfl dX5_add_99 ?_
    refine lv_iconst (v := 1) hx hb dX5_add_102 (by decide) ?_
    refine va_iast hx hb hK hP (wT_D hd) hS 12 0 rfl rfl (room_in hI.1 c_5) dX5_add_103 (fun H locs hP _ hS => ?_)
    have hP : va_P (dC, dI) vwCl (wT cI cJ q (sI (sI (sI (sI (sI (sI (sI (sI (sI σ 0 ((σ.2.1 1).toNatClampNeg) p1) 1 ((σ.2.1 1).toNatClampNeg) p2) 2 ((σ.2.1 1).toNatClampNeg) p3) 3 ((σ.2.1 1).toNatClampNeg) 2001) 4 ((σ.2.1 1).toNatClampNeg) 2001) 5 ((σ.2.1 1).toNatClampNeg) 0) 6 ((σ.2.1 1).toNatClampNeg) (-1)) 7 ((σ.2.1 1).toNatClampNeg) 0) 8 ((σ.2.1 1).toNatClampNeg) 1)) H := hP
    refine lv_aload_n hx hb dX5_add_104 rfl (lv_at hl 0 rfl) ?_
    refine lv_dup hx hb dX5_add_105 rfl ?_
    refine va_get (D := (dC, dI)) (ci := 5) (v := .int (σ.2.1 1)) (C := RX5) (T := TX5) (N := 10) hx hb hts inX5 hown hK hP 3 rfl rfl 9 (by decide) (hts _ fl_X5_39) (fun _ h9 => h9) rfl dX5_add_106 ?_
    refine lv_iconst (v := 1) hx hb dX5_add_109 (by decide) ?_
    refine lv_iadd hx hb dX5_add_110 ?_
    refine va_put (D := (dC, dI)) (ci := 5) (v := .int ((σ.2.1 1) + 1)) (ty := .int) (C := RX5) (T := TX5) (N := 10) hx hb hts inX5 tyX5 tyX5_ok nmX5 hown hK hP (wT_D hd) hS 3 rfl rfl 9 (by decide) (hts _ fl_X5_39) (fun _ h9 => h9) rfl (by decide +kernel) rfl rfl (Nat.le_of_ble_eq_true rfl) dX5_add_111 (fun H locs hP _ hS => ?_)
    have hP : va_P (dC, dI) vwCl (wT cI cJ q (sV (sI (sI (sI (sI (sI (sI (sI (sI (sI σ 0 ((σ.2.1 1).toNatClampNeg) p1) 1 ((σ.2.1 1).toNatClampNeg) p2) 2 ((σ.2.1 1).toNatClampNeg) p3) 3 ((σ.2.1 1).toNatClampNeg) 2001) 4 ((σ.2.1 1).toNatClampNeg) 2001) 5 ((σ.2.1 1).toNatClampNeg) 0) 6 ((σ.2.1 1).toNatClampNeg) (-1)) 7 ((σ.2.1 1).toNatClampNeg) 0) 8 ((σ.2.1 1).toNatClampNeg) 1) 1 ((σ.2.1 1) + 1))) H := hP
    refine lv_aload_n hx hb dX5_add_114 rfl (lv_at hl 0 rfl) ?_
    refine va_get (D := (dC, dI)) (ci := 5) (v := .int ((σ.2.1 1) + 1)) (C := RX5) (T := TX5) (N := 10) hx hb hts inX5 hown hK hP 3 rfl rfl 9 (by decide) (hts _ fl_X5_39) (fun _ h9 => h9) rfl dX5_add_115 ?_
    refine lv_iconst (v := 1) hx hb dX5_add_118 (by decide) ?_
    refine lv_isub hx hb dX5_add_119 ?_
    have hF : fX5_add σ p1 p2 p3 = (((σ.2.1 1) + 1) - 1, (sV (sI (sI (sI (sI (sI (sI (sI (sI (sI σ 0 ((σ.2.1 1).toNatClampNeg) p1) 1 ((σ.2.1 1).toNatClampNeg) p2) 2 ((σ.2.1 1).toNatClampNeg) p3) 3 ((σ.2.1 1).toNatClampNeg) 2001) 4 ((σ.2.1 1).toNatClampNeg) 2001) 5 ((σ.2.1 1).toNatClampNeg) 0) 6 ((σ.2.1 1).toNatClampNeg) (-1)) 7 ((σ.2.1 1).toNatClampNeg) 0) 8 ((σ.2.1 1).toNatClampNeg) 1) 1 ((σ.2.1 1) + 1))) := by rw [fX5_add, if_pos c_5]
    have hP9 : va_P (dC, dI) vwCl (wT cI cJ q (fX5_add σ p1 p2 p3).2) H := by rw [hF]; exact hP
    exact W.iret (v := ((σ.2.1 1) + 1) - 1) hx hb hr (fun t ht hW => ⟨(by rw [hF]), by rw [ht]; exact hP9, hS.F ht⟩) hS.2.2 dX5_add_120
  · refine lv_iconst (v := (-1)) hx hb dX5_add_8 (by decide) ?_
    have hF : fX5_add σ p1 p2 p3 = ((-1), σ) := by rw [fX5_add, if_neg c_5]
    have hP9 : va_P (dC, dI) vwCl (wT cI cJ q (fX5_add σ p1 p2 p3).2) H := by rw [hF]; exact hP
    exact W.iret (v := (-1)) hx hb hr (fun t ht hW => ⟨(by rw [hF]), by rw [ht]; exact hP9, hS.F ht⟩) hS.2.2 dX5_add_9

def fX5_finish (σ : St) (p1 : Int32) (p2 : Int32) (p3 : Int32) (p4 : Int32) (p5 : Int32) : St :=
  (sI (sI (sI (sI σ 3 p1.toNatClampNeg p2) 4 p1.toNatClampNeg p3) 5 p1.toNatClampNeg p4) 6 p1.toNatClampNeg p5)
set_option maxHeartbeats 4000000 in
set_option maxRecDepth 100000 in
theorem c_X5_finish (l : Launch) (dC : Nat → ClassId) (dI : Nat → Nat → Nat) (cI cJ : ClassId) (q : Nat → Nat) (σ : St) (p1 : Int32) (p2 : Int32) (p3 : Int32) (p4 : Int32) (p5 : Int32) (hd : dT 30 q) (hT : vp_in p1 40) : Met l yX5_finish (.code yX5_finish cX5_finish 6 none :: tb) { frames := 0, cells := 0, slots := 0, locals := 0 } (Pu (dC, dI) (tyC cI cJ) (wT cI cJ q σ) [.ref (q 3), .int p1, .int p2, .int p3, .int p4, .int p5]) (xw_Q none (dC, dI) (wT cI cJ q (fX5_finish σ p1 p2 p3 p4 p5)) (aT 30 q)) 0 0 (aT 30 q) := by
  refine Met.ofW (cc := cX5_finish) (maxL := 6) (ret := none) (by decide) rfl ?_
  intro p e s m args below meth c s₁ B hml hv
  obtain ⟨rfl, hP, hK⟩ := hv
  have hx := B.exec
  have hb := B.bytes
  have hr := B.returns
  have hts0 := atoms_spec (ws := .code yX5_finish cX5_finish 6 none :: tb) B.pre
  have hts : ∀ w ∈ tb, w.before _ s = true := fun w hw => hts0 w (List.mem_cons_of_mem _ hw)
  have hown : s.vm.findClass RX5 = some m.cls := findClass_of_methodNamed B.named
  have hlocks := B.notSynchronized
  have hl := lv_entry ([.ref (q 3), .int p1, .int p2, .int p3, .int p4, .int p5]) (n := 6) (Nat.le_of_ble_eq_true rfl)
  rw [lg_entry_eq]
  generalize (lg_sl ([.ref (q 3), .int p1, .int p2, .int p3, .int p4, .int p5]) ++ List.replicate (6 - (lg_sl ([.ref (q 3), .int p1, .int p2, .int p3, .int p4, .int p5])).length) Slot.unset).toArray = ls at hl ⊢
  have hl : lv_has ls 6 [(0, .ref (q 3)), (1, .int p1), (2, .int p2), (3, .int p3), (4, .int p4), (5, .int p5)] := hl
  obtain ⟨H, hHe⟩ : ∃ H, s.heap = H := ⟨_, rfl⟩
  rw [hHe] at hP ⊢
  obtain ⟨locs, hLe⟩ : ∃ x : List Loc, ([] : List Loc) = x := ⟨_, rfl⟩
  rw [hLe]
  have hS : va_S (aT 30 q) s.heap H locs := by rw [← hHe, ← hLe]; exact va_S.rf
  refine lv_aload_n hx hb dX5_finish_0 rfl (lv_at hl 0 rfl) ?_
  refine va_get (D := (dC, dI)) (ci := 5) (v := .ref (q 7)) (C := RX5) (T := TX5) (N := 10) hx hb hts inX5 hown hK hP 3 rfl rfl 3 (by decide) (hts _ fl_X5_21) (fun _ h9 => h9) rfl dX5_finish_1 ?_
  refine lv_iload_n hx hb dX5_finish_4 rfl (lv_at hl 1 rfl) ?_
  refine lv_iload_n hx hb dX5_finish_5 rfl (lv_at hl 2 rfl) ?_
  refine va_iast hx hb hK hP (wT_D hd) hS 7 0 rfl rfl (by assumption) dX5_finish_6 (fun H locs hP _ hS => ?_)
  have hP : va_P (dC, dI) vwCl (wT cI cJ q (sI σ 3 p1.toNatClampNeg p2)) H := hP
  refine lv_aload_n hx hb dX5_finish_7 rfl (lv_at hl 0 rfl) ?_
  refine va_get (D := (dC, dI)) (ci := 5) (v := .ref (q 8)) (C := RX5) (T := TX5) (N := 10) hx hb hts inX5 hown hK hP 3 rfl rfl 4 (by decide) (hts _ fl_X5_24) (fun _ h9 => h9) rfl dX5_finish_8 ?_
  refine lv_iload_n hx hb dX5_finish_11 rfl (lv_at hl 1 rfl) ?_
  refine lv_iload_n hx hb dX5_finish_12 rfl (lv_at hl 3 rfl) ?_
  refine va_iast hx hb hK hP (wT_D hd) hS 8 0 rfl rfl (by assumption) dX5_finish_13 (fun H locs hP _ hS => ?_)
  have hP : va_P (dC, dI) vwCl (wT cI cJ q (sI (sI σ 3 p1.toNatClampNeg p2) 4 p1.toNatClampNeg p3)) H := hP
  refine lv_aload_n hx hb dX5_finish_14 rfl (lv_at hl 0 rfl) ?_
  refine va_get (D := (dC, dI)) (ci := 5) (v := .ref (q 9)) (C := RX5) (T := TX5) (N := 10) hx hb hts inX5 hown hK hP 3 rfl rfl 5 (by decide) (hts _ fl_X5_27) (fun _ h9 => h9) rfl dX5_finish_15 ?_
  refine lv_iload_n hx hb dX5_finish_18 rfl (lv_at hl 1 rfl) ?_
  refine lv_iload hx hb dX5_finish_19 (lv_at hl 4 rfl) ?_
  refine va_iast hx hb hK hP (wT_D hd) hS 9 0 rfl rfl (by assumption) dX5_finish_21 (fun H locs hP _ hS => ?_)
  have hP : va_P (dC, dI) vwCl (wT cI cJ q (sI (sI (sI σ 3 p1.toNatClampNeg p2) 4 p1.toNatClampNeg p3) 5 p1.toNatClampNeg p4)) H := hP
  refine lv_aload_n hx hb dX5_finish_22 rfl (lv_at hl 0 rfl) ?_
  refine va_get (D := (dC, dI)) (ci := 5) (v := .ref (q 10)) (C := RX5) (T := TX5) (N := 10) hx hb hts inX5 hown hK hP 3 rfl rfl 6 (by decide) (hts _ fl_X5_30) (fun _ h9 => h9) rfl dX5_finish_23 ?_
  refine lv_iload_n hx hb dX5_finish_26 rfl (lv_at hl 1 rfl) ?_
  refine lv_iload hx hb dX5_finish_27 (lv_at hl 5 rfl) ?_
  refine va_iast hx hb hK hP (wT_D hd) hS 10 0 rfl rfl (by assumption) dX5_finish_29 (fun H locs hP _ hS => ?_)
  have hP : va_P (dC, dI) vwCl (wT cI cJ q (sI (sI (sI (sI σ 3 p1.toNatClampNeg p2) 4 p1.toNatClampNeg p3) 5 p1.toNatClampNeg p4) 6 p1.toNatClampNeg p5)) H := hP
  have hF : fX5_finish σ p1 p2 p3 p4 p5 = (sI (sI (sI (sI σ 3 p1.toNatClampNeg p2) 4 p1.toNatClampNeg p3) 5 p1.toNatClampNeg p4) 6 p1.toNatClampNeg p5) := by rw [fX5_finish]
  have hP9 : va_P (dC, dI) vwCl (wT cI cJ q (fX5_finish σ p1 p2 p3 p4 p5)) H := by rw [hF]; exact hP
  exact W.vret hx hb hr (fun t ht hW => ⟨rfl, by rw [ht]; exact hP9, hS.F ht⟩) hS.2.2 dX5_finish_30

def fX5_setShare (σ : St) (p1 : Int32) (p2 : Int32) (p3 : Int32) : St :=
  (sI (sI σ 7 p1.toNatClampNeg p2) 8 p1.toNatClampNeg p3)
set_option maxHeartbeats 4000000 in
set_option maxRecDepth 100000 in
theorem c_X5_setShare (l : Launch) (dC : Nat → ClassId) (dI : Nat → Nat → Nat) (cI cJ : ClassId) (q : Nat → Nat) (σ : St) (p1 : Int32) (p2 : Int32) (p3 : Int32) (hd : dT 30 q) (hT : vp_in p1 40) : Met l yX5_setShare (.code yX5_setShare cX5_setShare 4 none :: tb) { frames := 0, cells := 0, slots := 0, locals := 0 } (Pu (dC, dI) (tyC cI cJ) (wT cI cJ q σ) [.ref (q 3), .int p1, .int p2, .int p3]) (xw_Q none (dC, dI) (wT cI cJ q (fX5_setShare σ p1 p2 p3)) (aT 30 q)) 0 0 (aT 30 q) := by
  refine Met.ofW (cc := cX5_setShare) (maxL := 4) (ret := none) (by decide) rfl ?_
  intro p e s m args below meth c s₁ B hml hv
  obtain ⟨rfl, hP, hK⟩ := hv
  have hx := B.exec
  have hb := B.bytes
  have hr := B.returns
  have hts0 := atoms_spec (ws := .code yX5_setShare cX5_setShare 4 none :: tb) B.pre
  have hts : ∀ w ∈ tb, w.before _ s = true := fun w hw => hts0 w (List.mem_cons_of_mem _ hw)
  have hown : s.vm.findClass RX5 = some m.cls := findClass_of_methodNamed B.named
  have hlocks := B.notSynchronized
  have hl := lv_entry ([.ref (q 3), .int p1, .int p2, .int p3]) (n := 4) (Nat.le_of_ble_eq_true rfl)
  rw [lg_entry_eq]
  generalize (lg_sl ([.ref (q 3), .int p1, .int p2, .int p3]) ++ List.replicate (4 - (lg_sl ([.ref (q 3), .int p1, .int p2, .int p3])).length) Slot.unset).toArray = ls at hl ⊢
  have hl : lv_has ls 4 [(0, .ref (q 3)), (1, .int p1), (2, .int p2), (3, .int p3)] := hl
  obtain ⟨H, hHe⟩ : ∃ H, s.heap = H := ⟨_, rfl⟩
  rw [hHe] at hP ⊢
  obtain ⟨locs, hLe⟩ : ∃ x : List Loc, ([] : List Loc) = x := ⟨_, rfl⟩
  rw [hLe]
  have hS : va_S (aT 30 q) s.heap H locs := by rw [← hHe, ← hLe]; exact va_S.rf
  refine lv_aload_n hx hb dX5_setShare_0 rfl (lv_at hl 0 rfl) ?_
  refine va_get (D := (dC, dI)) (ci := 5) (v := .ref (q 11)) (C := RX5) (T := TX5) (N := 10) hx hb hts inX5 hown hK hP 3 rfl rfl 7 (by decide) (hts _ fl_X5_33) (fun _ h9 => h9) rfl dX5_setShare_1 ?_
  refine lv_iload_n hx hb dX5_setShare_4 rfl (lv_at hl 1 rfl) ?_
  refine lv_iload_n hx hb dX5_setShare_5 rfl (lv_at hl 2 rfl) ?_
  refine va_iast hx hb hK hP (wT_D hd) hS 11 0 rfl rfl (by assumption) dX5_setShare_6 (fun H locs hP _ hS => ?_)
  have hP : va_P (dC, dI) vwCl (wT cI cJ q (sI σ 7 p1.toNatClampNeg p2)) H := hP
  refine lv_aload_n hx hb dX5_setShare_7 rfl (lv_at hl 0 rfl) ?_
  refine va_get (D := (dC, dI)) (ci := 5) (v := .ref (q 12)) (C := RX5) (T := TX5) (N := 10) hx hb hts inX5 hown hK hP 3 rfl rfl 8 (by decide) (hts _ fl_X5_36) (fun _ h9 => h9) rfl dX5_setShare_8 ?_
  refine lv_iload_n hx hb dX5_setShare_11 rfl (lv_at hl 1 rfl) ?_
  refine lv_iload_n hx hb dX5_setShare_12 rfl (lv_at hl 3 rfl) ?_
  refine va_iast hx hb hK hP (wT_D hd) hS 12 0 rfl rfl (by assumption) dX5_setShare_13 (fun H locs hP _ hS => ?_)
  have hP : va_P (dC, dI) vwCl (wT cI cJ q (sI (sI σ 7 p1.toNatClampNeg p2) 8 p1.toNatClampNeg p3)) H := hP
  have hF : fX5_setShare σ p1 p2 p3 = (sI (sI σ 7 p1.toNatClampNeg p2) 8 p1.toNatClampNeg p3) := by rw [fX5_setShare]
  have hP9 : va_P (dC, dI) vwCl (wT cI cJ q (fX5_setShare σ p1 p2 p3)) H := by rw [hF]; exact hP
  exact W.vret hx hb hr (fun t ht hW => ⟨rfl, by rw [ht]; exact hP9, hS.F ht⟩) hS.2.2 dX5_setShare_14

def flX5_isTaken_3 (σ : St) (p1 : Int32) (p2 : Int32) (p3 : Int32) (p4 : Int32) : Nat → Nat → Int32
  | 0, i => 0
  | k + 1, i => (if (nI i) = p3 then flX5_isTaken_3 σ p1 p2 p3 p4 k (i + 1)  else (if (nI i) = p4 then flX5_isTaken_3 σ p1 p2 p3 p4 k (i + 1)  else (if (σ.1 0 i) = p1 then (if (σ.1 3 i) ≤ p2 then flX5_isTaken_3 σ p1 p2 p3 p4 k (i + 1)  else 1) else flX5_isTaken_3 σ p1 p2 p3 p4 k (i + 1) )))
def fX5_isTaken (σ : St) (p1 : Int32) (p2 : Int32) (p3 : Int32) (p4 : Int32) : Int32 :=
  flX5_isTaken_3 σ p1 p2 p3 p4 ((σ.2.1 1).toNatClampNeg) 0 
set_option maxHeartbeats 4000000 in
set_option maxRecDepth 100000 in
theorem c_X5_isTaken (l : Launch) (dC : Nat → ClassId) (dI : Nat → Nat → Nat) (cI cJ : ClassId) (q : Nat → Nat) (σ : St) (p1 : Int32) (p2 : Int32) (p3 : Int32) (p4 : Int32) (hI : IB σ) : Met l yX5_isTaken (.code yX5_isTaken cX5_isTaken 6 (some .boolean) :: tb) { frames := 0, cells := 0, slots := 0, locals := 0 } (Pu (dC, dI) (tyC cI cJ) (wT cI cJ q σ) [.ref (q 3), .int p1, .int p2, .int p3, .int p4]) (vp_Si (fun r => r = fX5_isTaken σ p1 p2 p3 p4)) 0 0 (fun _ => False) := by
  refine Met.ofW (cc := cX5_isTaken) (maxL := 6) (ret := (some .boolean)) (by decide) rfl ?_
  intro p e s m args below meth c s₁ B hml hv
  obtain ⟨rfl, hP, hK⟩ := hv
  have hx := B.exec
  have hb := B.bytes
  have hr := B.returns
  have hts0 := atoms_spec (ws := .code yX5_isTaken cX5_isTaken 6 (some .boolean) :: tb) B.pre
  have hts : ∀ w ∈ tb, w.before _ s = true := fun w hw => hts0 w (List.mem_cons_of_mem _ hw)
  have hown : s.vm.findClass RX5 = some m.cls := findClass_of_methodNamed B.named
  have hlocks := B.notSynchronized
  have hl := lv_entry ([.ref (q 3), .int p1, .int p2, .int p3, .int p4]) (n := 6) (Nat.le_of_ble_eq_true rfl)
  rw [lg_entry_eq]
  generalize (lg_sl ([.ref (q 3), .int p1, .int p2, .int p3, .int p4]) ++ List.replicate (6 - (lg_sl ([.ref (q 3), .int p1, .int p2, .int p3, .int p4])).length) Slot.unset).toArray = ls at hl ⊢
  have hl : lv_has ls 6 [(0, .ref (q 3)), (1, .int p1), (2, .int p2), (3, .int p3), (4, .int p4)] := hl
  refine lv_iconst (v := 0) hx hb dX5_isTaken_0 (by decide) ?_
  refine lv_istore (lv' := [(5, .int 0), (0, .ref (q 3)), (1, .int p1), (2, .int p2), (3, .int p3), (4, .int p4)]) hx hb dX5_isTaken_1 hl (by decide) rfl (fun ls hl => ?_)
  have hz : szI (σ.2.1 1) 40 := hI.1
  have hz2 := hz.2
  have loop_3 : ∀ (k i : Nat), i + k = (σ.2.1 1).toNatClampNeg → fX5_isTaken σ p1 p2 p3 p4 = flX5_isTaken_3 σ p1 p2 p3 p4 k i  → ∀ (ls : Array Slot), lv_has ls 6 [(0, .ref (q 3)), (1, .int p1), (2, .int p2), (3, .int p3), (4, .int p4), (5, .int (nI i))] → W p l e (headSpec (.code yX5_isTaken cX5_isTaken 6 (some .boolean) :: tb) { frames := 0, cells := 0, slots := 0, locals := 0 }).room s m (List.toArray [.ref (q 3), .int p1, .int p2, .int p3, .int p4]) below meth c s.heap [] 0 0 (MQ below (vp_Si (fun r => r = fX5_isTaken σ p1 p2 p3 p4)) (List.toArray [.ref (q 3), .int p1, .int p2, .int p3, .int p4]) s 0 0 (fun _ => False)) (F0 m 3 ls []) := by
    intro k
    induction k with
    | zero =>
      intro i  hik hE ls hl
      refine lv_iload hx hb dX5_isTaken_3 (lv_at hl 5 rfl) ?_
      refine lv_aload_n hx hb dX5_isTaken_5 rfl (lv_at hl 0 rfl) ?_
      refine va_get (D := (dC, dI)) (ci := 5) (v := .int (σ.2.1 1)) (C := RX5) (T := TX5) (N := 10) hx hb hts inX5 hown hK hP 3 rfl rfl 9 (by decide) (hts _ fl_X5_39) (fun _ h9 => h9) rfl dX5_isTaken_6 ?_
      refine lv_icmp_ge (tgt := 55) hx hb dX5_isTaken_9 (by decide) (fun c_9 => ?_) (fun c_9 => ?_)
      · refine lv_iconst (v := 0) hx hb dX5_isTaken_55 (by decide) ?_
        exact W.zret (v := 0) hx hb hr narrow_b0 (fun t ht hW => ⟨_, rfl, (by rw [hE, flX5_isTaken_3]), ht⟩) (fun _ h => absurd h List.not_mem_nil) dX5_isTaken_56
      · exact absurd (by rw [hz.1]; exact nI_le (by omega) (by omega)) c_9
    | succ k ih =>
      intro i  hik hE ls hl
      refine lv_iload hx hb dX5_isTaken_3 (lv_at hl 5 rfl) ?_
      refine lv_aload_n hx hb dX5_isTaken_5 rfl (lv_at hl 0 rfl) ?_
      refine va_get (D := (dC, dI)) (ci := 5) (v := .int (σ.2.1 1)) (C := RX5) (T := TX5) (N := 10) hx hb hts inX5 hown hK hP 3 rfl rfl 9 (by decide) (hts _ fl_X5_39) (fun _ h9 => h9) rfl dX5_isTaken_6 ?_
      refine lv_icmp_ge (tgt := 55) hx hb dX5_isTaken_9 (by decide) (fun c_9 => ?_) (fun c_9 => ?_)
      · exact absurd c_9 (by rw [hz.1]; exact nI_ge (by omega) (by omega))
      · refine lv_iload hx hb dX5_isTaken_12 (lv_at hl 5 rfl) ?_
        refine lv_iload_n hx hb dX5_isTaken_14 rfl (lv_at hl 3 rfl) ?_
        refine lv_icmp_eq (tgt := 49) hx hb dX5_isTaken_15 (by decide) (fun c_15 => ?_) (fun c_15 => ?_)
        · refine lv_iinc (v := nI (i + 1)) (lv' := [(5, .int (nI (i + 1))), (0, .ref (q 3)), (1, .int p1), (2, .int p2), (3, .int p3), (4, .int p4)]) hx hb dX5_isTaken_49 hl (k := 5) rfl (nI_1 i) (by decide) rfl (fun ls hl => ?_)
          refine lv_goto (tgt := 3) hx hb dX5_isTaken_52 (by decide) ?_
          exact ih (i + 1)  (by omega) (by rw [hE, flX5_isTaken_3, if_pos c_15]) ls (lv_sub hl [1, 2, 3, 4, 5, 0] rfl)
        · refine lv_iload hx hb dX5_isTaken_18 (lv_at hl 5 rfl) ?_
          refine lv_iload hx hb dX5_isTaken_20 (lv_at hl 4 rfl) ?_
          refine lv_icmp_eq (tgt := 49) hx hb dX5_isTaken_22 (by decide) (fun c_22 => ?_) (fun c_22 => ?_)
          · refine lv_iinc (v := nI (i + 1)) (lv' := [(5, .int (nI (i + 1))), (0, .ref (q 3)), (1, .int p1), (2, .int p2), (3, .int p3), (4, .int p4)]) hx hb dX5_isTaken_49 hl (k := 5) rfl (nI_1 i) (by decide) rfl (fun ls hl => ?_)
            refine lv_goto (tgt := 3) hx hb dX5_isTaken_52 (by decide) ?_
            exact ih (i + 1)  (by omega) (by rw [hE, flX5_isTaken_3, if_neg c_15, if_pos c_22]) ls (lv_sub hl [1, 2, 3, 4, 5, 0] rfl)
          · refine lv_aload_n hx hb dX5_isTaken_25 rfl (lv_at hl 0 rfl) ?_
            refine va_get (D := (dC, dI)) (ci := 5) (v := .ref (q 4)) (C := RX5) (T := TX5) (N := 10) hx hb hts inX5 hown hK hP 3 rfl rfl 0 (by decide) (hts _ fl_X5_9) (fun _ h9 => h9) rfl dX5_isTaken_26 ?_
            refine lv_iload hx hb dX5_isTaken_29 (lv_at hl 5 rfl) ?_
            refine xa_ild hx hb hK hP 4 0 rfl rfl (by omega) (by decide) dX5_isTaken_31 ?_
            refine lv_iload_n hx hb dX5_isTaken_32 rfl (lv_at hl 1 rfl) ?_
            refine lv_icmp_ne (tgt := 49) hx hb dX5_isTaken_33 (by decide) (fun c_33 => ?_) (fun c_33 => ?_)
            · refine lv_iinc (v := nI (i + 1)) (lv' := [(5, .int (nI (i + 1))), (0, .ref (q 3)), (1, .int p1), (2, .int p2), (3, .int p3), (4, .int p4)]) hx hb dX5_isTaken_49 hl (k := 5) rfl (nI_1 i) (by decide) rfl (fun ls hl => ?_)
              refine lv_goto (tgt := 3) hx hb dX5_isTaken_52 (by decide) ?_
              exact ih (i + 1)  (by omega) (by rw [hE, flX5_isTaken_3, if_neg c_15, if_neg c_22, if_neg c_33]) ls (lv_sub hl [1, 2, 3, 4, 5, 0] rfl)
            · refine lv_aload_n hx hb dX5_isTaken_36 rfl (lv_at hl 0 rfl) ?_
              refine va_get (D := (dC, dI)) (ci := 5) (v := .ref (q 7)) (C := RX5) (T := TX5) (N := 10) hx hb hts inX5 hown hK hP 3 rfl rfl 3 (by decide) (hts _ fl_X5_21) (fun _ h9 => h9) rfl dX5_isTaken_37 ?_
              refine lv_iload hx hb dX5_isTaken_40 (lv_at hl 5 rfl) ?_
              refine xa_ild hx hb hK hP 7 0 rfl rfl (by omega) (by decide) dX5_isTaken_42 ?_
              refine lv_iload_n hx hb dX5_isTaken_43 rfl (lv_at hl 2 rfl) ?_
              refine lv_icmp_le (tgt := 49) hx hb dX5_isTaken_44 (by decide) (fun c_44 => ?_) (fun c_44 => ?_)
              · refine lv_iinc (v := nI (i + 1)) (lv' := [(5, .int (nI (i + 1))), (0, .ref (q 3)), (1, .int p1), (2, .int p2), (3, .int p3), (4, .int p4)]) hx hb dX5_isTaken_49 hl (k := 5) rfl (nI_1 i) (by decide) rfl (fun ls hl => ?_)
                refine lv_goto (tgt := 3) hx hb dX5_isTaken_52 (by decide) ?_
                exact ih (i + 1)  (by omega) (by rw [hE, flX5_isTaken_3, if_neg c_15, if_neg c_22, if_pos c_33, if_pos c_44]) ls (lv_sub hl [1, 2, 3, 4, 5, 0] rfl)
              · refine lv_iconst (v := 1) hx hb dX5_isTaken_47 (by decide) ?_
                exact W.zret (v := 1) hx hb hr narrow_b1 (fun t ht hW => ⟨_, rfl, (by rw [hE, flX5_isTaken_3, if_neg c_15, if_neg c_22, if_pos c_33, if_neg c_44]), ht⟩) (fun _ h => absurd h List.not_mem_nil) dX5_isTaken_48
  exact loop_3 ((σ.2.1 1).toNatClampNeg) 0  (by rw [Nat.zero_add]) (by rw [fX5_isTaken]) ls (lv_sub hl [1, 2, 3, 4, 5, 0] rfl)

def fX5_hasEnd (σ : St) (p1 : Int32) : Int32 :=
  (if (σ.1 3 p1.toNatClampNeg) = 2001 then 0 else 1)
set_option maxHeartbeats 4000000 in
set_option maxRecDepth 100000 in
theorem c_X5_hasEnd (l : Launch) (dC : Nat → ClassId) (dI : Nat → Nat → Nat) (cI cJ : ClassId) (q : Nat → Nat) (σ : St) (p1 : Int32) (hT : vp_in p1 40) : Met l yX5_hasEnd (.code yX5_hasEnd cX5_hasEnd 2 (some .boolean) :: tb) { frames := 0, cells := 0, slots := 0, locals := 0 } (Pu (dC, dI) (tyC cI cJ) (wT cI cJ q σ) [.ref (q 3), .int p1]) (vp_Si (fun r => r = fX5_hasEnd σ p1)) 0 0 (fun _ => False) := by
  refine Met.ofW (cc := cX5_hasEnd) (maxL := 2) (ret := (some .boolean)) (by decide) rfl ?_
  intro p e s m args below meth c s₁ B hml hv
  obtain ⟨rfl, hP, hK⟩ := hv
  have hx := B.exec
  have hb := B.bytes
  have hr := B.returns
  have hts0 := atoms_spec (ws := .code yX5_hasEnd cX5_hasEnd 2 (some .boolean) :: tb) B.pre
  have hts : ∀ w ∈ tb, w.before _ s = true := fun w hw => hts0 w (List.mem_cons_of_mem _ hw)
  have hown : s.vm.findClass RX5 = some m.cls := findClass_of_methodNamed B.named
  have hlocks := B.notSynchronized
  have hl := lv_entry ([.ref (q 3), .int p1]) (n := 2) (Nat.le_of_ble_eq_true rfl)
  rw [lg_entry_eq]
  generalize (lg_sl ([.ref (q 3), .int p1]) ++ List.replicate (2 - (lg_sl ([.ref (q 3), .int p1])).length) Slot.unset).toArray = ls at hl ⊢
  have hl : lv_has ls 2 [(0, .ref (q 3)), (1, .int p1)] := hl
  refine lv_aload_n hx hb dX5_hasEnd_0 rfl (lv_at hl 0 rfl) ?_
  refine va_get (D := (dC, dI)) (ci := 5) (v := .ref (q 7)) (C := RX5) (T := TX5) (N := 10) hx hb hts inX5 hown hK hP 3 rfl rfl 3 (by decide) (hts _ fl_X5_21) (fun _ h9 => h9) rfl dX5_hasEnd_1 ?_
  refine lv_iload_n hx hb dX5_hasEnd_4 rfl (lv_at hl 1 rfl) ?_
  refine va_iald hx hb hK hP 7 0 rfl rfl (by assumption) dX5_hasEnd_5 ?_
  refine lv_sipush (v := 2001) hx hb dX5_hasEnd_6 (by decide) ?_
  refine lv_icmp_eq (tgt := 16) hx hb dX5_hasEnd_9 (by decide) (fun c_9 => ?_) (fun c_9 => ?_)
  · refine lv_iconst (v := 0) hx hb dX5_hasEnd_16 (by decide) ?_
    exact W.zret (v := 0) hx hb hr narrow_b0 (fun t ht hW => ⟨_, rfl, (by rw [fX5_hasEnd, if_pos c_9]), ht⟩) (fun _ h => absurd h List.not_mem_nil) dX5_hasEnd_17
  · refine lv_iconst (v := 1) hx hb dX5_hasEnd_12 (by decide) ?_
    refine lv_goto (tgt := 17) hx hb dX5_hasEnd_13 (by decide) ?_
    exact W.zret (v := 1) hx hb hr narrow_b1 (fun t ht hW => ⟨_, rfl, (by rw [fX5_hasEnd, if_neg c_9]), ht⟩) (fun _ h => absurd h List.not_mem_nil) dX5_hasEnd_17

def fX5_isKnown (σ : St) (p1 : Int32) (p2 : Int32) : Int32 :=
  (if (fX5_has σ p1) = 0 then 0 else (if p2 < (σ.1 2 p1.toNatClampNeg) then 0 else 1))
set_option maxHeartbeats 4000000 in
set_option maxRecDepth 100000 in
theorem c_X5_isKnown (l : Launch) (dC : Nat → ClassId) (dI : Nat → Nat → Nat) (cI cJ : ClassId) (q : Nat → Nat) (σ : St) (p1 : Int32) (p2 : Int32) (hI : IB σ) : Met l yX5_isKnown (.code yX5_isKnown cX5_isKnown 3 (some .boolean) :: tb) { frames := 1, cells := 0, slots := 0, locals := 21 } (Pu (dC, dI) (tyC cI cJ) (wT cI cJ q σ) [.ref (q 3), .int p1, .int p2]) (vp_Si (fun r => r = fX5_isKnown σ p1 p2)) 0 0 (fun _ => False) := by
  refine Met.ofW (cc := cX5_isKnown) (maxL := 3) (ret := (some .boolean)) (by decide) rfl ?_
  intro p e s m args below meth c s₁ B hml hv
  obtain ⟨rfl, hP, hK⟩ := hv
  have hx := B.exec
  have hb := B.bytes
  have hr := B.returns
  have hts0 := atoms_spec (ws := .code yX5_isKnown cX5_isKnown 3 (some .boolean) :: tb) B.pre
  have hts : ∀ w ∈ tb, w.before _ s = true := fun w hw => hts0 w (List.mem_cons_of_mem _ hw)
  have hown : s.vm.findClass RX5 = some m.cls := findClass_of_methodNamed B.named
  have hlocks := B.notSynchronized
  have hl := lv_entry ([.ref (q 3), .int p1, .int p2]) (n := 3) (Nat.le_of_ble_eq_true rfl)
  rw [lg_entry_eq]
  generalize (lg_sl ([.ref (q 3), .int p1, .int p2]) ++ List.replicate (3 - (lg_sl ([.ref (q 3), .int p1, .int p2])).length) Slot.unset).toArray = ls at hl ⊢
  have hl : lv_has ls 3 [(0, .ref (q 3)), (1, .int p1), (2, .int p2)] := hl
  refine lv_aload_n hx hb dX5_isKnown_0 rfl (lv_at hl 0 rfl) ?_
  refine lv_iload_n hx hb dX5_isKnown_1 rfl (lv_at hl 1 rfl) ?_
  refine xc_i (va_runV (As := [.int p1]) (rest := []) ⟨hx, hb, hml, hown, hts⟩ (c_X5_has l dC dI cI cJ q σ p1) (cwV 1 hts (gV ml_X5_47 im_X5_has se_X5_has in_X5 co_X5_has) rfl rfl rfl (by decide +kernel) ⟨Nat.le_of_ble_eq_true rfl, Nat.le_of_ble_eq_true rfl⟩) (preV hK hP (pos := 3) (ci := 5) rfl rfl) rfl rfl hl.1 rfl (lv_room (Nat.le_of_ble_eq_true rfl)) dX5_isKnown_2 ⟨Nat.zero_le _, Nat.zero_le _⟩) ?_
  refine lv_if_eq (tgt := 22) hx hb dX5_isKnown_5 (by decide) (fun c_5 => ?_) (fun c_5 => ?_)
  · refine lv_iconst (v := 0) hx hb dX5_isKnown_22 (by decide) ?_
    exact W.zret (v := 0) hx hb hr narrow_b0 (fun t ht hW => ⟨_, rfl, (by rw [fX5_isKnown, if_pos c_5]), ht⟩) (fun _ h => absurd h List.not_mem_nil) dX5_isKnown_23
  · refine lv_aload_n hx hb dX5_isKnown_8 rfl (lv_at hl 0 rfl) ?_
    refine va_get (D := (dC, dI)) (ci := 5) (v := .ref (q 6)) (C := RX5) (T := TX5) (N := 10) hx hb hts inX5 hown hK hP 3 rfl rfl 2 (by decide) (hts _ fl_X5_18) (fun _ h9 => h9) rfl dX5_isKnown_9 ?_
    refine lv_iload_n hx hb dX5_isKnown_12 rfl (lv_at hl 1 rfl) ?_
    refine va_iald hx hb hK hP 6 0 rfl rfl (has_in40 hI c_5) dX5_isKnown_13 ?_
    refine lv_iload_n hx hb dX5_isKnown_14 rfl (lv_at hl 2 rfl) ?_
    refine lv_icmp_gt (tgt := 22) hx hb dX5_isKnown_15 (by decide) (fun c_15 => ?_) (fun c_15 => ?_)
    · refine lv_iconst (v := 0) hx hb dX5_isKnown_22 (by decide) ?_
      exact W.zret (v := 0) hx hb hr narrow_b0 (fun t ht hW => ⟨_, rfl, (by rw [fX5_isKnown, if_neg c_5, if_pos c_15]), ht⟩) (fun _ h => absurd h List.not_mem_nil) dX5_isKnown_23
    · refine lv_iconst (v := 1) hx hb dX5_isKnown_18 (by decide) ?_
      refine lv_goto (tgt := 23) hx hb dX5_isKnown_19 (by decide) ?_
      exact W.zret (v := 1) hx hb hr narrow_b1 (fun t ht hW => ⟨_, rfl, (by rw [fX5_isKnown, if_neg c_5, if_neg c_15]), ht⟩) (fun _ h => absurd h List.not_mem_nil) dX5_isKnown_23

theorem tknown_in {σ : St} {x k : Int32} (hI : IB σ) (c : ¬ fX5_isKnown σ x k = 0) : vp_in x 40 := by
  unfold fX5_isKnown at c
  split at c
  · exact absurd rfl c
  · exact has_in40 hI (by assumption)

set_option maxHeartbeats 4000000 in
set_option maxRecDepth 100000 in
theorem c_X5_codeOf (l : Launch) (dC : Nat → ClassId) (dI : Nat → Nat → Nat) (cI cJ : ClassId) (q : Nat → Nat) (σ : St) (p1 : Int32) (hT : vp_in p1 40) : Met l yX5_codeOf (.code yX5_codeOf cX5_codeOf 2 (some .int) :: tb) { frames := 0, cells := 0, slots := 0, locals := 0 } (Pu (dC, dI) (tyC cI cJ) (wT cI cJ q σ) [.ref (q 3), .int p1]) (vp_Si (fun r => r = σ.1 0 p1.toNatClampNeg)) 0 0 (fun _ => False) := by
  refine Met.ofW (cc := cX5_codeOf) (maxL := 2) (ret := (some .int)) (by decide) rfl ?_
  intro p e s m args below meth c s₁ B hml hv
  obtain ⟨rfl, hP, hK⟩ := hv
  have hx := B.exec
  have hb := B.bytes
  have hr := B.returns
  have hts0 := atoms_spec (ws := .code yX5_codeOf cX5_codeOf 2 (some .int) :: tb) B.pre
  have hts : ∀ w ∈ tb, w.before _ s = true := fun w hw => hts0 w (List.mem_cons_of_mem _ hw)
  have hown : s.vm.findClass RX5 = some m.cls := findClass_of_methodNamed B.named
  have hlocks := B.notSynchronized
  have hl := lv_entry ([.ref (q 3), .int p1]) (n := 2) (Nat.le_of_ble_eq_true rfl)
  rw [lg_entry_eq]
  generalize (lg_sl ([.ref (q 3), .int p1]) ++ List.replicate (2 - (lg_sl ([.ref (q 3), .int p1])).length) Slot.unset).toArray = ls at hl ⊢
  have hl : lv_has ls 2 [(0, .ref (q 3)), (1, .int p1)] := hl
  refine lv_aload_n hx hb dX5_codeOf_0 rfl (lv_at hl 0 rfl) ?_
  refine va_get (D := (dC, dI)) (ci := 5) (v := .ref (q 4)) (C := RX5) (T := TX5) (N := 10) hx hb hts inX5 hown hK hP 3 rfl rfl 0 (by decide) (hts _ fl_X5_9) (fun _ h9 => h9) rfl dX5_codeOf_1 ?_
  refine lv_iload_n hx hb dX5_codeOf_4 rfl (lv_at hl 1 rfl) ?_
  refine va_iald hx hb hK hP 4 0 rfl rfl (by assumption) dX5_codeOf_5 ?_
  exact W.iret (v := σ.1 0 p1.toNatClampNeg) hx hb hr (fun t ht hW => ⟨_, rfl, rfl, ht⟩) (fun _ h => absurd h List.not_mem_nil) dX5_codeOf_6

set_option maxHeartbeats 4000000 in
set_option maxRecDepth 100000 in
theorem c_X5_birthOf (l : Launch) (dC : Nat → ClassId) (dI : Nat → Nat → Nat) (cI cJ : ClassId) (q : Nat → Nat) (σ : St) (p1 : Int32) (hT : vp_in p1 40) : Met l yX5_birthOf (.code yX5_birthOf cX5_birthOf 2 (some .int) :: tb) { frames := 0, cells := 0, slots := 0, locals := 0 } (Pu (dC, dI) (tyC cI cJ) (wT cI cJ q σ) [.ref (q 3), .int p1]) (vp_Si (fun r => r = σ.1 1 p1.toNatClampNeg)) 0 0 (fun _ => False) := by
  refine Met.ofW (cc := cX5_birthOf) (maxL := 2) (ret := (some .int)) (by decide) rfl ?_
  intro p e s m args below meth c s₁ B hml hv
  obtain ⟨rfl, hP, hK⟩ := hv
  have hx := B.exec
  have hb := B.bytes
  have hr := B.returns
  have hts0 := atoms_spec (ws := .code yX5_birthOf cX5_birthOf 2 (some .int) :: tb) B.pre
  have hts : ∀ w ∈ tb, w.before _ s = true := fun w hw => hts0 w (List.mem_cons_of_mem _ hw)
  have hown : s.vm.findClass RX5 = some m.cls := findClass_of_methodNamed B.named
  have hlocks := B.notSynchronized
  have hl := lv_entry ([.ref (q 3), .int p1]) (n := 2) (Nat.le_of_ble_eq_true rfl)
  rw [lg_entry_eq]
  generalize (lg_sl ([.ref (q 3), .int p1]) ++ List.replicate (2 - (lg_sl ([.ref (q 3), .int p1])).length) Slot.unset).toArray = ls at hl ⊢
  have hl : lv_has ls 2 [(0, .ref (q 3)), (1, .int p1)] := hl
  refine lv_aload_n hx hb dX5_birthOf_0 rfl (lv_at hl 0 rfl) ?_
  refine va_get (D := (dC, dI)) (ci := 5) (v := .ref (q 5)) (C := RX5) (T := TX5) (N := 10) hx hb hts inX5 hown hK hP 3 rfl rfl 1 (by decide) (hts _ fl_X5_15) (fun _ h9 => h9) rfl dX5_birthOf_1 ?_
  refine lv_iload_n hx hb dX5_birthOf_4 rfl (lv_at hl 1 rfl) ?_
  refine va_iald hx hb hK hP 5 0 rfl rfl (by assumption) dX5_birthOf_5 ?_
  exact W.iret (v := σ.1 1 p1.toNatClampNeg) hx hb hr (fun t ht hW => ⟨_, rfl, rfl, ht⟩) (fun _ h => absurd h List.not_mem_nil) dX5_birthOf_6

def fX5_isEndKnown (σ : St) (p1 : Int32) (p2 : Int32) : Int32 :=
  (if p2 < (σ.1 4 p1.toNatClampNeg) then 0 else 1)
set_option maxHeartbeats 4000000 in
set_option maxRecDepth 100000 in
theorem c_X5_isEndKnown (l : Launch) (dC : Nat → ClassId) (dI : Nat → Nat → Nat) (cI cJ : ClassId) (q : Nat → Nat) (σ : St) (p1 : Int32) (p2 : Int32) (hT : vp_in p1 40) : Met l yX5_isEndKnown (.code yX5_isEndKnown cX5_isEndKnown 3 (some .boolean) :: tb) { frames := 0, cells := 0, slots := 0, locals := 0 } (Pu (dC, dI) (tyC cI cJ) (wT cI cJ q σ) [.ref (q 3), .int p1, .int p2]) (vp_Si (fun r => r = fX5_isEndKnown σ p1 p2)) 0 0 (fun _ => False) := by
  refine Met.ofW (cc := cX5_isEndKnown) (maxL := 3) (ret := (some .boolean)) (by decide) rfl ?_
  intro p e s m args below meth c s₁ B hml hv
  obtain ⟨rfl, hP, hK⟩ := hv
  have hx := B.exec
  have hb := B.bytes
  have hr := B.returns
  have hts0 := atoms_spec (ws := .code yX5_isEndKnown cX5_isEndKnown 3 (some .boolean) :: tb) B.pre
  have hts : ∀ w ∈ tb, w.before _ s = true := fun w hw => hts0 w (List.mem_cons_of_mem _ hw)
  have hown : s.vm.findClass RX5 = some m.cls := findClass_of_methodNamed B.named
  have hlocks := B.notSynchronized
  have hl := lv_entry ([.ref (q 3), .int p1, .int p2]) (n := 3) (Nat.le_of_ble_eq_true rfl)
  rw [lg_entry_eq]
  generalize (lg_sl ([.ref (q 3), .int p1, .int p2]) ++ List.replicate (3 - (lg_sl ([.ref (q 3), .int p1, .int p2])).length) Slot.unset).toArray = ls at hl ⊢
  have hl : lv_has ls 3 [(0, .ref (q 3)), (1, .int p1), (2, .int p2)] := hl
  refine lv_aload_n hx hb dX5_isEndKnown_0 rfl (lv_at hl 0 rfl) ?_
  refine va_get (D := (dC, dI)) (ci := 5) (v := .ref (q 8)) (C := RX5) (T := TX5) (N := 10) hx hb hts inX5 hown hK hP 3 rfl rfl 4 (by decide) (hts _ fl_X5_24) (fun _ h9 => h9) rfl dX5_isEndKnown_1 ?_
  refine lv_iload_n hx hb dX5_isEndKnown_4 rfl (lv_at hl 1 rfl) ?_
  refine va_iald hx hb hK hP 8 0 rfl rfl (by assumption) dX5_isEndKnown_5 ?_
  refine lv_iload_n hx hb dX5_isEndKnown_6 rfl (lv_at hl 2 rfl) ?_
  refine lv_icmp_gt (tgt := 14) hx hb dX5_isEndKnown_7 (by decide) (fun c_7 => ?_) (fun c_7 => ?_)
  · refine lv_iconst (v := 0) hx hb dX5_isEndKnown_14 (by decide) ?_
    exact W.zret (v := 0) hx hb hr narrow_b0 (fun t ht hW => ⟨_, rfl, (by rw [fX5_isEndKnown, if_pos c_7]), ht⟩) (fun _ h => absurd h List.not_mem_nil) dX5_isEndKnown_15
  · refine lv_iconst (v := 1) hx hb dX5_isEndKnown_10 (by decide) ?_
    refine lv_goto (tgt := 15) hx hb dX5_isEndKnown_11 (by decide) ?_
    exact W.zret (v := 1) hx hb hr narrow_b1 (fun t ht hW => ⟨_, rfl, (by rw [fX5_isEndKnown, if_neg c_7]), ht⟩) (fun _ h => absurd h List.not_mem_nil) dX5_isEndKnown_15

def fX5_endOf (σ : St) (p1 : Int32) (p2 : Int32) : Int32 :=
  (if (fX5_isEndKnown σ p1 p2) = 0 then 2001 else σ.1 3 p1.toNatClampNeg)
set_option maxHeartbeats 4000000 in
set_option maxRecDepth 100000 in
theorem c_X5_endOf (l : Launch) (dC : Nat → ClassId) (dI : Nat → Nat → Nat) (cI cJ : ClassId) (q : Nat → Nat) (σ : St) (p1 : Int32) (p2 : Int32) (hT : vp_in p1 40) : Met l yX5_endOf (.code yX5_endOf cX5_endOf 3 (some .int) :: tb) { frames := 1, cells := 0, slots := 0, locals := 22 } (Pu (dC, dI) (tyC cI cJ) (wT cI cJ q σ) [.ref (q 3), .int p1, .int p2]) (vp_Si (fun r => r = fX5_endOf σ p1 p2)) 0 0 (fun _ => False) := by
  refine Met.ofW (cc := cX5_endOf) (maxL := 3) (ret := (some .int)) (by decide) rfl ?_
  intro p e s m args below meth c s₁ B hml hv
  obtain ⟨rfl, hP, hK⟩ := hv
  have hx := B.exec
  have hb := B.bytes
  have hr := B.returns
  have hts0 := atoms_spec (ws := .code yX5_endOf cX5_endOf 3 (some .int) :: tb) B.pre
  have hts : ∀ w ∈ tb, w.before _ s = true := fun w hw => hts0 w (List.mem_cons_of_mem _ hw)
  have hown : s.vm.findClass RX5 = some m.cls := findClass_of_methodNamed B.named
  have hlocks := B.notSynchronized
  have hl := lv_entry ([.ref (q 3), .int p1, .int p2]) (n := 3) (Nat.le_of_ble_eq_true rfl)
  rw [lg_entry_eq]
  generalize (lg_sl ([.ref (q 3), .int p1, .int p2]) ++ List.replicate (3 - (lg_sl ([.ref (q 3), .int p1, .int p2])).length) Slot.unset).toArray = ls at hl ⊢
  have hl : lv_has ls 3 [(0, .ref (q 3)), (1, .int p1), (2, .int p2)] := hl
  refine lv_aload_n hx hb dX5_endOf_0 rfl (lv_at hl 0 rfl) ?_
  refine lv_iload_n hx hb dX5_endOf_1 rfl (lv_at hl 1 rfl) ?_
  refine lv_iload_n hx hb dX5_endOf_2 rfl (lv_at hl 2 rfl) ?_
  refine xc_i (va_runV (As := [.int p1, .int p2]) (rest := []) ⟨hx, hb, hml, hown, hts⟩ (c_X5_isEndKnown l dC dI cI cJ q σ p1 p2 (by assumption)) (cwV 2 hts (gV ml_X5_51 im_X5_isEndKnown se_X5_isEndKnown in_X5 co_X5_isEndKnown) rfl rfl rfl (by decide +kernel) ⟨Nat.le_of_ble_eq_true rfl, Nat.le_of_ble_eq_true rfl⟩) (preV hK hP (pos := 3) (ci := 5) rfl rfl) rfl rfl hl.1 rfl (lv_room (Nat.le_of_ble_eq_true rfl)) dX5_endOf_3 ⟨Nat.zero_le _, Nat.zero_le _⟩) ?_
  refine lv_if_eq (tgt := 18) hx hb dX5_endOf_6 (by decide) (fun c_6 => ?_) (fun c_6 => ?_)
  · refine lv_sipush (v := 2001) hx hb dX5_endOf_18 (by decide) ?_
    exact W.iret (v := 2001) hx hb hr (fun t ht hW => ⟨_, rfl, (by rw [fX5_endOf, if_pos c_6]), ht⟩) (fun _ h => absurd h List.not_mem_nil) dX5_endOf_21
  · refine lv_aload_n hx hb dX5_endOf_9 rfl (lv_at hl 0 rfl) ?_
    refine va_get (D := (dC, dI)) (ci := 5) (v := .ref (q 7)) (C := RX5) (T := TX5) (N := 10) hx hb hts inX5 hown hK hP 3 rfl rfl 3 (by decide) (hts _ fl_X5_21) (fun _ h9 => h9) rfl dX5_endOf_10 ?_
    refine lv_iload_n hx hb dX5_endOf_13 rfl (lv_at hl 1 rfl) ?_
    refine va_iald hx hb hK hP 7 0 rfl rfl (by assumption) dX5_endOf_14 ?_
    refine lv_goto (tgt := 21) hx hb dX5_endOf_15 (by decide) ?_
    exact W.iret (v := σ.1 3 p1.toNatClampNeg) hx hb hr (fun t ht hW => ⟨_, rfl, (by rw [fX5_endOf, if_neg c_6]), ht⟩) (fun _ h => absurd h List.not_mem_nil) dX5_endOf_21

def fX5_endingOf (σ : St) (p1 : Int32) (p2 : Int32) : Int32 :=
  (if (fX5_isEndKnown σ p1 p2) = 0 then 0 else σ.1 5 p1.toNatClampNeg)
set_option maxHeartbeats 4000000 in
set_option maxRecDepth 100000 in
theorem c_X5_endingOf (l : Launch) (dC : Nat → ClassId) (dI : Nat → Nat → Nat) (cI cJ : ClassId) (q : Nat → Nat) (σ : St) (p1 : Int32) (p2 : Int32) (hT : vp_in p1 40) : Met l yX5_endingOf (.code yX5_endingOf cX5_endingOf 3 (some .int) :: tb) { frames := 1, cells := 0, slots := 0, locals := 22 } (Pu (dC, dI) (tyC cI cJ) (wT cI cJ q σ) [.ref (q 3), .int p1, .int p2]) (vp_Si (fun r => r = fX5_endingOf σ p1 p2)) 0 0 (fun _ => False) := by
  refine Met.ofW (cc := cX5_endingOf) (maxL := 3) (ret := (some .int)) (by decide) rfl ?_
  intro p e s m args below meth c s₁ B hml hv
  obtain ⟨rfl, hP, hK⟩ := hv
  have hx := B.exec
  have hb := B.bytes
  have hr := B.returns
  have hts0 := atoms_spec (ws := .code yX5_endingOf cX5_endingOf 3 (some .int) :: tb) B.pre
  have hts : ∀ w ∈ tb, w.before _ s = true := fun w hw => hts0 w (List.mem_cons_of_mem _ hw)
  have hown : s.vm.findClass RX5 = some m.cls := findClass_of_methodNamed B.named
  have hlocks := B.notSynchronized
  have hl := lv_entry ([.ref (q 3), .int p1, .int p2]) (n := 3) (Nat.le_of_ble_eq_true rfl)
  rw [lg_entry_eq]
  generalize (lg_sl ([.ref (q 3), .int p1, .int p2]) ++ List.replicate (3 - (lg_sl ([.ref (q 3), .int p1, .int p2])).length) Slot.unset).toArray = ls at hl ⊢
  have hl : lv_has ls 3 [(0, .ref (q 3)), (1, .int p1), (2, .int p2)] := hl
  refine lv_aload_n hx hb dX5_endingOf_0 rfl (lv_at hl 0 rfl) ?_
  refine lv_iload_n hx hb dX5_endingOf_1 rfl (lv_at hl 1 rfl) ?_
  refine lv_iload_n hx hb dX5_endingOf_2 rfl (lv_at hl 2 rfl) ?_
  refine xc_i (va_runV (As := [.int p1, .int p2]) (rest := []) ⟨hx, hb, hml, hown, hts⟩ (c_X5_isEndKnown l dC dI cI cJ q σ p1 p2 (by assumption)) (cwV 2 hts (gV ml_X5_51 im_X5_isEndKnown se_X5_isEndKnown in_X5 co_X5_isEndKnown) rfl rfl rfl (by decide +kernel) ⟨Nat.le_of_ble_eq_true rfl, Nat.le_of_ble_eq_true rfl⟩) (preV hK hP (pos := 3) (ci := 5) rfl rfl) rfl rfl hl.1 rfl (lv_room (Nat.le_of_ble_eq_true rfl)) dX5_endingOf_3 ⟨Nat.zero_le _, Nat.zero_le _⟩) ?_
  refine lv_if_eq (tgt := 18) hx hb dX5_endingOf_6 (by decide) (fun c_6 => ?_) (fun c_6 => ?_)
  · refine lv_iconst (v := 0) hx hb dX5_endingOf_18 (by decide) ?_
    exact W.iret (v := 0) hx hb hr (fun t ht hW => ⟨_, rfl, (by rw [fX5_endingOf, if_pos c_6]), ht⟩) (fun _ h => absurd h List.not_mem_nil) dX5_endingOf_19
  · refine lv_aload_n hx hb dX5_endingOf_9 rfl (lv_at hl 0 rfl) ?_
    refine va_get (D := (dC, dI)) (ci := 5) (v := .ref (q 9)) (C := RX5) (T := TX5) (N := 10) hx hb hts inX5 hown hK hP 3 rfl rfl 5 (by decide) (hts _ fl_X5_27) (fun _ h9 => h9) rfl dX5_endingOf_10 ?_
    refine lv_iload_n hx hb dX5_endingOf_13 rfl (lv_at hl 1 rfl) ?_
    refine va_iald hx hb hK hP 9 0 rfl rfl (by assumption) dX5_endingOf_14 ?_
    refine lv_goto (tgt := 19) hx hb dX5_endingOf_15 (by decide) ?_
    exact W.iret (v := σ.1 5 p1.toNatClampNeg) hx hb hr (fun t ht hW => ⟨_, rfl, (by rw [fX5_endingOf, if_neg c_6]), ht⟩) (fun _ h => absurd h List.not_mem_nil) dX5_endingOf_19

def fX5_heirOf (σ : St) (p1 : Int32) (p2 : Int32) : Int32 :=
  (if (fX5_isEndKnown σ p1 p2) = 0 then (-1) else σ.1 6 p1.toNatClampNeg)
set_option maxHeartbeats 4000000 in
set_option maxRecDepth 100000 in
theorem c_X5_heirOf (l : Launch) (dC : Nat → ClassId) (dI : Nat → Nat → Nat) (cI cJ : ClassId) (q : Nat → Nat) (σ : St) (p1 : Int32) (p2 : Int32) (hT : vp_in p1 40) : Met l yX5_heirOf (.code yX5_heirOf cX5_heirOf 3 (some .int) :: tb) { frames := 1, cells := 0, slots := 0, locals := 22 } (Pu (dC, dI) (tyC cI cJ) (wT cI cJ q σ) [.ref (q 3), .int p1, .int p2]) (vp_Si (fun r => r = fX5_heirOf σ p1 p2)) 0 0 (fun _ => False) := by
  refine Met.ofW (cc := cX5_heirOf) (maxL := 3) (ret := (some .int)) (by decide) rfl ?_
  intro p e s m args below meth c s₁ B hml hv
  obtain ⟨rfl, hP, hK⟩ := hv
  have hx := B.exec
  have hb := B.bytes
  have hr := B.returns
  have hts0 := atoms_spec (ws := .code yX5_heirOf cX5_heirOf 3 (some .int) :: tb) B.pre
  have hts : ∀ w ∈ tb, w.before _ s = true := fun w hw => hts0 w (List.mem_cons_of_mem _ hw)
  have hown : s.vm.findClass RX5 = some m.cls := findClass_of_methodNamed B.named
  have hlocks := B.notSynchronized
  have hl := lv_entry ([.ref (q 3), .int p1, .int p2]) (n := 3) (Nat.le_of_ble_eq_true rfl)
  rw [lg_entry_eq]
  generalize (lg_sl ([.ref (q 3), .int p1, .int p2]) ++ List.replicate (3 - (lg_sl ([.ref (q 3), .int p1, .int p2])).length) Slot.unset).toArray = ls at hl ⊢
  have hl : lv_has ls 3 [(0, .ref (q 3)), (1, .int p1), (2, .int p2)] := hl
  refine lv_aload_n hx hb dX5_heirOf_0 rfl (lv_at hl 0 rfl) ?_
  refine lv_iload_n hx hb dX5_heirOf_1 rfl (lv_at hl 1 rfl) ?_
  refine lv_iload_n hx hb dX5_heirOf_2 rfl (lv_at hl 2 rfl) ?_
  refine xc_i (va_runV (As := [.int p1, .int p2]) (rest := []) ⟨hx, hb, hml, hown, hts⟩ (c_X5_isEndKnown l dC dI cI cJ q σ p1 p2 (by assumption)) (cwV 2 hts (gV ml_X5_51 im_X5_isEndKnown se_X5_isEndKnown in_X5 co_X5_isEndKnown) rfl rfl rfl (by decide +kernel) ⟨Nat.le_of_ble_eq_true rfl, Nat.le_of_ble_eq_true rfl⟩) (preV hK hP (pos := 3) (ci := 5) rfl rfl) rfl rfl hl.1 rfl (lv_room (Nat.le_of_ble_eq_true rfl)) dX5_heirOf_3 ⟨Nat.zero_le _, Nat.zero_le _⟩) ?_
  refine lv_if_eq (tgt := 18) hx hb dX5_heirOf_6 (by decide) (fun c_6 => ?_) (fun c_6 => ?_)
  · refine lv_iconst (v := (-1)) hx hb dX5_heirOf_18 (by decide) ?_
    exact W.iret (v := (-1)) hx hb hr (fun t ht hW => ⟨_, rfl, (by rw [fX5_heirOf, if_pos c_6]), ht⟩) (fun _ h => absurd h List.not_mem_nil) dX5_heirOf_19
  · refine lv_aload_n hx hb dX5_heirOf_9 rfl (lv_at hl 0 rfl) ?_
    refine va_get (D := (dC, dI)) (ci := 5) (v := .ref (q 10)) (C := RX5) (T := TX5) (N := 10) hx hb hts inX5 hown hK hP 3 rfl rfl 6 (by decide) (hts _ fl_X5_30) (fun _ h9 => h9) rfl dX5_heirOf_10 ?_
    refine lv_iload_n hx hb dX5_heirOf_13 rfl (lv_at hl 1 rfl) ?_
    refine va_iald hx hb hK hP 10 0 rfl rfl (by assumption) dX5_heirOf_14 ?_
    refine lv_goto (tgt := 19) hx hb dX5_heirOf_15 (by decide) ?_
    exact W.iret (v := σ.1 6 p1.toNatClampNeg) hx hb hr (fun t ht hW => ⟨_, rfl, (by rw [fX5_heirOf, if_neg c_6]), ht⟩) (fun _ h => absurd h List.not_mem_nil) dX5_heirOf_19

def fX5_livesOn (σ : St) (p1 : Int32) (p2 : Int32) (p3 : Int32) : Int32 :=
  (if (fX5_isKnown σ p1 p3) = 0 then 0 else (if p2 < (σ.1 1 p1.toNatClampNeg) then 0 else (if (fX5_endOf σ p1 p3) ≤ p2 then 0 else 1)))
set_option maxHeartbeats 4000000 in
set_option maxRecDepth 100000 in
theorem c_X5_livesOn (l : Launch) (dC : Nat → ClassId) (dI : Nat → Nat → Nat) (cI cJ : ClassId) (q : Nat → Nat) (σ : St) (p1 : Int32) (p2 : Int32) (p3 : Int32) (hI : IB σ) : Met l yX5_livesOn (.code yX5_livesOn cX5_livesOn 4 (some .boolean) :: tb) { frames := 2, cells := 0, slots := 0, locals := 44 } (Pu (dC, dI) (tyC cI cJ) (wT cI cJ q σ) [.ref (q 3), .int p1, .int p2, .int p3]) (vp_Si (fun r => r = fX5_livesOn σ p1 p2 p3)) 0 0 (fun _ => False) := by
  refine Met.ofW (cc := cX5_livesOn) (maxL := 4) (ret := (some .boolean)) (by decide) rfl ?_
  intro p e s m args below meth c s₁ B hml hv
  obtain ⟨rfl, hP, hK⟩ := hv
  have hx := B.exec
  have hb := B.bytes
  have hr := B.returns
  have hts0 := atoms_spec (ws := .code yX5_livesOn cX5_livesOn 4 (some .boolean) :: tb) B.pre
  have hts : ∀ w ∈ tb, w.before _ s = true := fun w hw => hts0 w (List.mem_cons_of_mem _ hw)
  have hown : s.vm.findClass RX5 = some m.cls := findClass_of_methodNamed B.named
  have hlocks := B.notSynchronized
  have hl := lv_entry ([.ref (q 3), .int p1, .int p2, .int p3]) (n := 4) (Nat.le_of_ble_eq_true rfl)
  rw [lg_entry_eq]
  generalize (lg_sl ([.ref (q 3), .int p1, .int p2, .int p3]) ++ List.replicate (4 - (lg_sl ([.ref (q 3), .int p1, .int p2, .int p3])).length) Slot.unset).toArray = ls at hl ⊢
  have hl : lv_has ls 4 [(0, .ref (q 3)), (1, .int p1), (2, .int p2), (3, .int p3)] := hl
  refine lv_aload_n hx hb dX5_livesOn_0 rfl (lv_at hl 0 rfl) ?_
  refine lv_iload_n hx hb dX5_livesOn_1 rfl (lv_at hl 1 rfl) ?_
  refine lv_iload_n hx hb dX5_livesOn_2 rfl (lv_at hl 3 rfl) ?_
  refine xc_i (va_runV (As := [.int p1, .int p3]) (rest := []) ⟨hx, hb, hml, hown, hts⟩ (c_X5_isKnown l dC dI cI cJ q σ p1 p3 (by assumption)) (cwV 2 hts (gV ml_X5_55 im_X5_isKnown se_X5_isKnown in_X5 co_X5_isKnown) rfl rfl rfl (by decide +kernel) ⟨Nat.le_of_ble_eq_true rfl, Nat.le_of_ble_eq_true rfl⟩) (preV hK hP (pos := 3) (ci := 5) rfl rfl) rfl rfl hl.1 rfl (lv_room (Nat.le_of_ble_eq_true rfl)) dX5_livesOn_3 ⟨Nat.zero_le _, Nat.zero_le _⟩) ?_
  refine lv_if_eq (tgt := 33) hx hb dX5_livesOn_6 (by decide) (fun c_6 => ?_) (fun c_6 => ?_)
  · refine lv_iconst (v := 0) hx hb dX5_livesOn_33 (by decide) ?_
    exact W.zret (v := 0) hx hb hr narrow_b0 (fun t ht hW => ⟨_, rfl, (by rw [fX5_livesOn, if_pos c_6]), ht⟩) (fun _ h => absurd h List.not_mem_nil) dX5_livesOn_34
  · refine lv_aload_n hx hb dX5_livesOn_9 rfl (lv_at hl 0 rfl) ?_
    refine va_get (D := (dC, dI)) (ci := 5) (v := .ref (q 5)) (C := RX5) (T := TX5) (N := 10) hx hb hts inX5 hown hK hP 3 rfl rfl 1 (by decide) (hts _ fl_X5_15) (fun _ h9 => h9) rfl dX5_livesOn_10 ?_
    refine lv_iload_n hx hb dX5_livesOn_13 rfl (lv_at hl 1 rfl) ?_
    refine va_iald hx hb hK hP 5 0 rfl rfl (tknown_in hI c_6) dX5_livesOn_14 ?_
    refine lv_iload_n hx hb dX5_livesOn_15 rfl (lv_at hl 2 rfl) ?_
    refine lv_icmp_gt (tgt := 33) hx hb dX5_livesOn_16 (by decide) (fun c_16 => ?_) (fun c_16 => ?_)
    · refine lv_iconst (v := 0) hx hb dX5_livesOn_33 (by decide) ?_
      exact W.zret (v := 0) hx hb hr narrow_b0 (fun t ht hW => ⟨_, rfl, (by rw [fX5_livesOn, if_neg c_6, if_pos c_16]), ht⟩) (fun _ h => absurd h List.not_mem_nil) dX5_livesOn_34
    · refine lv_iload_n hx hb dX5_livesOn_19 rfl (lv_at hl 2 rfl) ?_
      refine lv_aload_n hx hb dX5_livesOn_20 rfl (lv_at hl 0 rfl) ?_
      refine lv_iload_n hx hb dX5_livesOn_21 rfl (lv_at hl 1 rfl) ?_
      refine lv_iload_n hx hb dX5_livesOn_22 rfl (lv_at hl 3 rfl) ?_
      refine xc_i (va_runV (As := [.int p1, .int p3]) (rest := [.int p2]) ⟨hx, hb, hml, hown, hts⟩ (c_X5_endOf l dC dI cI cJ q σ p1 p3 (tknown_in hI c_6)) (cwV 2 hts (gV ml_X5_58 im_X5_endOf se_X5_endOf in_X5 co_X5_endOf) rfl rfl rfl (by decide +kernel) ⟨Nat.le_of_ble_eq_true rfl, Nat.le_of_ble_eq_true rfl⟩) (preV hK hP (pos := 3) (ci := 5) rfl rfl) rfl rfl hl.1 rfl (lv_room (Nat.le_of_ble_eq_true rfl)) dX5_livesOn_23 ⟨Nat.zero_le _, Nat.zero_le _⟩) ?_
      refine lv_icmp_ge (tgt := 33) hx hb dX5_livesOn_26 (by decide) (fun c_26 => ?_) (fun c_26 => ?_)
      · refine lv_iconst (v := 0) hx hb dX5_livesOn_33 (by decide) ?_
        exact W.zret (v := 0) hx hb hr narrow_b0 (fun t ht hW => ⟨_, rfl, (by rw [fX5_livesOn, if_neg c_6, if_neg c_16, if_pos c_26]), ht⟩) (fun _ h => absurd h List.not_mem_nil) dX5_livesOn_34
      · refine lv_iconst (v := 1) hx hb dX5_livesOn_29 (by decide) ?_
        refine lv_goto (tgt := 34) hx hb dX5_livesOn_30 (by decide) ?_
        exact W.zret (v := 1) hx hb hr narrow_b1 (fun t ht hW => ⟨_, rfl, (by rw [fX5_livesOn, if_neg c_6, if_neg c_16, if_neg c_26]), ht⟩) (fun _ h => absurd h List.not_mem_nil) dX5_livesOn_34

def flX5_livingOn_3 (σ : St) (p1 : Int32) (p2 : Int32) (p3 : Int32) : Nat → Nat → Int32
  | 0, i => (-1)
  | k + 1, i => (if (σ.1 0 i) = p1 then (if (fX5_livesOn σ (nI i) p2 p3) = 0 then flX5_livingOn_3 σ p1 p2 p3 k (i + 1)  else nI i) else flX5_livingOn_3 σ p1 p2 p3 k (i + 1) )
def fX5_livingOn (σ : St) (p1 : Int32) (p2 : Int32) (p3 : Int32) : Int32 :=
  flX5_livingOn_3 σ p1 p2 p3 ((σ.2.1 1).toNatClampNeg) 0 
set_option maxHeartbeats 4000000 in
set_option maxRecDepth 100000 in
theorem c_X5_livingOn (l : Launch) (dC : Nat → ClassId) (dI : Nat → Nat → Nat) (cI cJ : ClassId) (q : Nat → Nat) (σ : St) (p1 : Int32) (p2 : Int32) (p3 : Int32) (hI : IB σ) : Met l yX5_livingOn (.code yX5_livingOn cX5_livingOn 5 (some .int) :: tb) { frames := 3, cells := 0, slots := 0, locals := 67 } (Pu (dC, dI) (tyC cI cJ) (wT cI cJ q σ) [.ref (q 3), .int p1, .int p2, .int p3]) (vp_Si (fun r => r = fX5_livingOn σ p1 p2 p3)) 0 0 (fun _ => False) := by
  refine Met.ofW (cc := cX5_livingOn) (maxL := 5) (ret := (some .int)) (by decide) rfl ?_
  intro p e s m args below meth c s₁ B hml hv
  obtain ⟨rfl, hP, hK⟩ := hv
  have hx := B.exec
  have hb := B.bytes
  have hr := B.returns
  have hts0 := atoms_spec (ws := .code yX5_livingOn cX5_livingOn 5 (some .int) :: tb) B.pre
  have hts : ∀ w ∈ tb, w.before _ s = true := fun w hw => hts0 w (List.mem_cons_of_mem _ hw)
  have hown : s.vm.findClass RX5 = some m.cls := findClass_of_methodNamed B.named
  have hlocks := B.notSynchronized
  have hl := lv_entry ([.ref (q 3), .int p1, .int p2, .int p3]) (n := 5) (Nat.le_of_ble_eq_true rfl)
  rw [lg_entry_eq]
  generalize (lg_sl ([.ref (q 3), .int p1, .int p2, .int p3]) ++ List.replicate (5 - (lg_sl ([.ref (q 3), .int p1, .int p2, .int p3])).length) Slot.unset).toArray = ls at hl ⊢
  have hl : lv_has ls 5 [(0, .ref (q 3)), (1, .int p1), (2, .int p2), (3, .int p3)] := hl
  refine lv_iconst (v := 0) hx hb dX5_livingOn_0 (by decide) ?_
  refine lv_istore (lv' := [(4, .int 0), (0, .ref (q 3)), (1, .int p1), (2, .int p2), (3, .int p3)]) hx hb dX5_livingOn_1 hl (by decide) rfl (fun ls hl => ?_)
  have hz : szI (σ.2.1 1) 40 := hI.1
  have hz2 := hz.2
  have loop_3 : ∀ (k i : Nat), i + k = (σ.2.1 1).toNatClampNeg → fX5_livingOn σ p1 p2 p3 = flX5_livingOn_3 σ p1 p2 p3 k i  → ∀ (ls : Array Slot), lv_has ls 5 [(0, .ref (q 3)), (1, .int p1), (2, .int p2), (3, .int p3), (4, .int (nI i))] → W p l e (headSpec (.code yX5_livingOn cX5_livingOn 5 (some .int) :: tb) { frames := 3, cells := 0, slots := 0, locals := 67 }).room s m (List.toArray [.ref (q 3), .int p1, .int p2, .int p3]) below meth c s.heap [] 0 0 (MQ below (vp_Si (fun r => r = fX5_livingOn σ p1 p2 p3)) (List.toArray [.ref (q 3), .int p1, .int p2, .int p3]) s 0 0 (fun _ => False)) (F0 m 3 ls []) := by
    intro k
    induction k with
    | zero =>
      intro i  hik hE ls hl
      refine lv_iload hx hb dX5_livingOn_3 (lv_at hl 4 rfl) ?_
      refine lv_aload_n hx hb dX5_livingOn_5 rfl (lv_at hl 0 rfl) ?_
      refine va_get (D := (dC, dI)) (ci := 5) (v := .int (σ.2.1 1)) (C := RX5) (T := TX5) (N := 10) hx hb hts inX5 hown hK hP 3 rfl rfl 9 (by decide) (hts _ fl_X5_39) (fun _ h9 => h9) rfl dX5_livingOn_6 ?_
      refine lv_icmp_ge (tgt := 43) hx hb dX5_livingOn_9 (by decide) (fun c_9 => ?_) (fun c_9 => ?_)
      · refine lv_iconst (v := (-1)) hx hb dX5_livingOn_43 (by decide) ?_
        exact W.iret (v := (-1)) hx hb hr (fun t ht hW => ⟨_, rfl, (by rw [hE, flX5_livingOn_3]), ht⟩) (fun _ h => absurd h List.not_mem_nil) dX5_livingOn_44
      · exact absurd (by rw [hz.1]; exact nI_le (by omega) (by omega)) c_9
    | succ k ih =>
      intro i  hik hE ls hl
      refine lv_iload hx hb dX5_livingOn_3 (lv_at hl 4 rfl) ?_
      refine lv_aload_n hx hb dX5_livingOn_5 rfl (lv_at hl 0 rfl) ?_
      refine va_get (D := (dC, dI)) (ci := 5) (v := .int (σ.2.1 1)) (C := RX5) (T := TX5) (N := 10) hx hb hts inX5 hown hK hP 3 rfl rfl 9 (by decide) (hts _ fl_X5_39) (fun _ h9 => h9) rfl dX5_livingOn_6 ?_
      refine lv_icmp_ge (tgt := 43) hx hb dX5_livingOn_9 (by decide) (fun c_9 => ?_) (fun c_9 => ?_)
      · exact absurd c_9 (by rw [hz.1]; exact nI_ge (by omega) (by omega))
      · refine lv_aload_n hx hb dX5_livingOn_12 rfl (lv_at hl 0 rfl) ?_
        refine va_get (D := (dC, dI)) (ci := 5) (v := .ref (q 4)) (C := RX5) (T := TX5) (N := 10) hx hb hts inX5 hown hK hP 3 rfl rfl 0 (by decide) (hts _ fl_X5_9) (fun _ h9 => h9) rfl dX5_livingOn_13 ?_
        refine lv_iload hx hb dX5_livingOn_16 (lv_at hl 4 rfl) ?_
        refine xa_ild hx hb hK hP 4 0 rfl rfl (by omega) (by decide) dX5_livingOn_18 ?_
        refine lv_iload_n hx hb dX5_livingOn_19 rfl (lv_at hl 1 rfl) ?_
        refine lv_icmp_ne (tgt := 37) hx hb dX5_livingOn_20 (by decide) (fun c_20 => ?_) (fun c_20 => ?_)
        · refine lv_iinc (v := nI (i + 1)) (lv' := [(4, .int (nI (i + 1))), (0, .ref (q 3)), (1, .int p1), (2, .int p2), (3, .int p3)]) hx hb dX5_livingOn_37 hl (k := 4) rfl (nI_1 i) (by decide) rfl (fun ls hl => ?_)
          refine lv_goto (tgt := 3) hx hb dX5_livingOn_40 (by decide) ?_
          exact ih (i + 1)  (by omega) (by rw [hE, flX5_livingOn_3, if_neg c_20]) ls (lv_sub hl [1, 2, 3, 4, 0] rfl)
        · refine lv_aload_n hx hb dX5_livingOn_23 rfl (lv_at hl 0 rfl) ?_
          refine lv_iload hx hb dX5_livingOn_24 (lv_at hl 4 rfl) ?_
          refine lv_iload_n hx hb dX5_livingOn_26 rfl (lv_at hl 2 rfl) ?_
          refine lv_iload_n hx hb dX5_livingOn_27 rfl (lv_at hl 3 rfl) ?_
          refine xc_i (va_runV (As := [.int (nI i), .int p2, .int p3]) (rest := []) ⟨hx, hb, hml, hown, hts⟩ (c_X5_livesOn l dC dI cI cJ q σ (nI i) p2 p3 (by assumption)) (cwV 3 hts (gV ml_X5_62 im_X5_livesOn se_X5_livesOn in_X5 co_X5_livesOn) rfl rfl rfl (by decide +kernel) ⟨Nat.le_of_ble_eq_true rfl, Nat.le_of_ble_eq_true rfl⟩) (preV hK hP (pos := 3) (ci := 5) rfl rfl) rfl rfl hl.1 rfl (lv_room (Nat.le_of_ble_eq_true rfl)) dX5_livingOn_28 ⟨Nat.zero_le _, Nat.zero_le _⟩) ?_
          refine lv_if_eq (tgt := 37) hx hb dX5_livingOn_31 (by decide) (fun c_31 => ?_) (fun c_31 => ?_)
          · refine lv_iinc (v := nI (i + 1)) (lv' := [(4, .int (nI (i + 1))), (0, .ref (q 3)), (1, .int p1), (2, .int p2), (3, .int p3)]) hx hb dX5_livingOn_37 hl (k := 4) rfl (nI_1 i) (by decide) rfl (fun ls hl => ?_)
            refine lv_goto (tgt := 3) hx hb dX5_livingOn_40 (by decide) ?_
            exact ih (i + 1)  (by omega) (by rw [hE, flX5_livingOn_3, if_pos c_20, if_pos c_31]) ls (lv_sub hl [1, 2, 3, 4, 0] rfl)
          · refine lv_iload hx hb dX5_livingOn_34 (lv_at hl 4 rfl) ?_
            exact W.iret (v := nI i) hx hb hr (fun t ht hW => ⟨_, rfl, (by rw [hE, flX5_livingOn_3, if_pos c_20, if_neg c_31]), ht⟩) (fun _ h => absurd h List.not_mem_nil) dX5_livingOn_36
  exact loop_3 ((σ.2.1 1).toNatClampNeg) 0  (by rw [Nat.zero_add]) (by rw [fX5_livingOn]) ls (lv_sub hl [1, 2, 3, 4, 0] rfl)

def fX5_firstShareOf (σ : St) (p1 : Int32) (p2 : Int32) : Int32 :=
  (if 1 ≤ (σ.1 8 p1.toNatClampNeg) then (p2 * (σ.1 7 p1.toNatClampNeg)) / (σ.1 8 p1.toNatClampNeg) else 0)
set_option maxHeartbeats 4000000 in
set_option maxRecDepth 100000 in
theorem c_X5_firstShareOf (l : Launch) (dC : Nat → ClassId) (dI : Nat → Nat → Nat) (cI cJ : ClassId) (q : Nat → Nat) (σ : St) (p1 : Int32) (p2 : Int32) (hT : vp_in p1 40) : Met l yX5_firstShareOf (.code yX5_firstShareOf cX5_firstShareOf 4 (some .int) :: tb) { frames := 0, cells := 0, slots := 0, locals := 0 } (Pu (dC, dI) (tyC cI cJ) (wT cI cJ q σ) [.ref (q 3), .int p1, .int p2]) (vp_Si (fun r => r = fX5_firstShareOf σ p1 p2)) 0 0 (fun _ => False) := by
  refine Met.ofW (cc := cX5_firstShareOf) (maxL := 4) (ret := (some .int)) (by decide) rfl ?_
  intro p e s m args below meth c s₁ B hml hv
  obtain ⟨rfl, hP, hK⟩ := hv
  have hx := B.exec
  have hb := B.bytes
  have hr := B.returns
  have hts0 := atoms_spec (ws := .code yX5_firstShareOf cX5_firstShareOf 4 (some .int) :: tb) B.pre
  have hts : ∀ w ∈ tb, w.before _ s = true := fun w hw => hts0 w (List.mem_cons_of_mem _ hw)
  have hown : s.vm.findClass RX5 = some m.cls := findClass_of_methodNamed B.named
  have hlocks := B.notSynchronized
  have hl := lv_entry ([.ref (q 3), .int p1, .int p2]) (n := 4) (Nat.le_of_ble_eq_true rfl)
  rw [lg_entry_eq]
  generalize (lg_sl ([.ref (q 3), .int p1, .int p2]) ++ List.replicate (4 - (lg_sl ([.ref (q 3), .int p1, .int p2])).length) Slot.unset).toArray = ls at hl ⊢
  have hl : lv_has ls 4 [(0, .ref (q 3)), (1, .int p1), (2, .int p2)] := hl
  refine lv_aload_n hx hb dX5_firstShareOf_0 rfl (lv_at hl 0 rfl) ?_
  refine va_get (D := (dC, dI)) (ci := 5) (v := .ref (q 12)) (C := RX5) (T := TX5) (N := 10) hx hb hts inX5 hown hK hP 3 rfl rfl 8 (by decide) (hts _ fl_X5_36) (fun _ h9 => h9) rfl dX5_firstShareOf_1 ?_
  refine lv_iload_n hx hb dX5_firstShareOf_4 rfl (lv_at hl 1 rfl) ?_
  refine va_iald hx hb hK hP 12 0 rfl rfl (by assumption) dX5_firstShareOf_5 ?_
  refine lv_istore_n (lv' := [(3, .int (σ.1 8 p1.toNatClampNeg)), (0, .ref (q 3)), (1, .int p1), (2, .int p2)]) hx hb dX5_firstShareOf_6 rfl hl (by decide) rfl (fun ls hl => ?_)
  refine lv_iload_n hx hb dX5_firstShareOf_7 rfl (lv_at hl 0 rfl) ?_
  refine lv_iconst (v := 1) hx hb dX5_firstShareOf_8 (by decide) ?_
  refine lv_icmp_ge (tgt := 16) hx hb dX5_firstShareOf_9 (by decide) (fun c_9 => ?_) (fun c_9 => ?_)
  · refine lv_iload_n hx hb dX5_firstShareOf_16 rfl (lv_at hl 3 rfl) ?_
    refine lv_aload_n hx hb dX5_firstShareOf_17 rfl (lv_at hl 1 rfl) ?_
    refine va_get (D := (dC, dI)) (ci := 5) (v := .ref (q 11)) (C := RX5) (T := TX5) (N := 10) hx hb hts inX5 hown hK hP 3 rfl rfl 7 (by decide) (hts _ fl_X5_33) (fun _ h9 => h9) rfl dX5_firstShareOf_18 ?_
    refine lv_iload_n hx hb dX5_firstShareOf_21 rfl (lv_at hl 2 rfl) ?_
    refine va_iald hx hb hK hP 11 0 rfl rfl (by assumption) dX5_firstShareOf_22 ?_
    refine lv_imul hx hb dX5_firstShareOf_23 ?_
    refine lv_iload_n hx hb dX5_firstShareOf_24 rfl (lv_at hl 0 rfl) ?_
    refine lv_idiv hx hb dX5_firstShareOf_25 (ge1_ne c_9) ?_
    exact W.iret (v := (p2 * (σ.1 7 p1.toNatClampNeg)) / (σ.1 8 p1.toNatClampNeg)) hx hb hr (fun t ht hW => ⟨_, rfl, (by rw [fX5_firstShareOf, if_pos c_9]), ht⟩) (fun _ h => absurd h List.not_mem_nil) dX5_firstShareOf_26
  · refine lv_iconst (v := 0) hx hb dX5_firstShareOf_12 (by decide) ?_
    refine lv_goto (tgt := 26) hx hb dX5_firstShareOf_13 (by decide) ?_
    exact W.iret (v := 0) hx hb hr (fun t ht hW => ⟨_, rfl, (by rw [fX5_firstShareOf, if_neg c_9]), ht⟩) (fun _ h => absurd h List.not_mem_nil) dX5_firstShareOf_26
end
section
def flX0_start_17 (σ : St) (p1 : Int32) (p2 : Int32) : Nat → Nat → St → St
  | 0, i, σ1 => σ1
  | k + 1, i, σ1 => flX0_start_17 σ p1 p2 k (i + 1) (sL σ1 ((nI i).toNatClampNeg) 0)
def fX0_start (σ : St) (p1 : Int32) (p2 : Int32) : St :=
  flX0_start_17 σ p1 p2 ((40 : Int32).toNatClampNeg) 0 (sZ (sV (sV σ 6 p1) 7 p2) 0)
set_option maxHeartbeats 4000000 in
set_option maxRecDepth 100000 in
theorem c_X0_start (l : Launch) (dC : Nat → ClassId) (dI : Nat → Nat → Nat) (cI cJ : ClassId) (q : Nat → Nat) (σ : St) (p1 : Int32) (p2 : Int32) (hd : dT 30 q) : Met l yX0_start (.code yX0_start cX0_start 4 none :: tb) { frames := 0, cells := 0, slots := 0, locals := 0 } (Pu (dC, dI) (tyC cI cJ) (wT cI cJ q σ) [.ref (q 28), .int p1, .int p2]) (xw_Q none (dC, dI) (wT cI cJ q (fX0_start σ p1 p2)) (aT 30 q)) 0 0 (aT 30 q) := by
  refine Met.ofW (cc := cX0_start) (maxL := 4) (ret := none) (by decide) rfl ?_
  intro p e s m args below meth c s₁ B hml hv
  obtain ⟨rfl, hP, hK⟩ := hv
  have hx := B.exec
  have hb := B.bytes
  have hr := B.returns
  have hts0 := atoms_spec (ws := .code yX0_start cX0_start 4 none :: tb) B.pre
  have hts : ∀ w ∈ tb, w.before _ s = true := fun w hw => hts0 w (List.mem_cons_of_mem _ hw)
  have hown : s.vm.findClass RX0 = some m.cls := findClass_of_methodNamed B.named
  have hlocks := B.notSynchronized
  have hl := lv_entry ([.ref (q 28), .int p1, .int p2]) (n := 4) (Nat.le_of_ble_eq_true rfl)
  rw [lg_entry_eq]
  generalize (lg_sl ([.ref (q 28), .int p1, .int p2]) ++ List.replicate (4 - (lg_sl ([.ref (q 28), .int p1, .int p2])).length) Slot.unset).toArray = ls at hl ⊢
  have hl : lv_has ls 4 [(0, .ref (q 28)), (1, .int p1), (2, .int p2)] := hl
  obtain ⟨H, hHe⟩ : ∃ H, s.heap = H := ⟨_, rfl⟩
  rw [hHe] at hP ⊢
  obtain ⟨locs, hLe⟩ : ∃ x : List Loc, ([] : List Loc) = x := ⟨_, rfl⟩
  rw [hLe]
  have hS : va_S (aT 30 q) s.heap H locs := by rw [← hHe, ← hLe]; exact va_S.rf
  refine lv_aload_n hx hb dX0_start_0 rfl (lv_at hl 0 rfl) ?_
  refine lv_iload_n hx hb dX0_start_1 rfl (lv_at hl 1 rfl) ?_
  refine va_put (D := (dC, dI)) (ci := 0) (v := .int p1) (ty := .int) (C := RX0) (T := TX0) (N := 5) hx hb hts inX0 tyX0 tyX0_ok nmX0 hown hK hP (wT_D hd) hS 28 rfl rfl 3 (by decide) (hts _ fl_X0_23) (fun _ h9 => h9) rfl (by decide +kernel) rfl rfl (Nat.le_of_ble_eq_true rfl) dX0_start_2 (fun H locs hP _ hS => ?_)
  have hP : va_P (dC, dI) vwCl (wT cI cJ q (sV σ 6 p1)) H := hP
  refine lv_aload_n hx hb dX0_start_5 rfl (lv_at hl 0 rfl) ?_
  refine lv_iload_n hx hb dX0_start_6 rfl (lv_at hl 2 rfl) ?_
  refine va_put (D := (dC, dI)) (ci := 0) (v := .int p2) (ty := .int) (C := RX0) (T := TX0) (N := 5) hx hb hts inX0 tyX0 tyX0_ok nmX0 hown hK hP (wT_D hd) hS 28 rfl rfl 4 (by decide) (hts _ fl_X0_27) (fun _ h9 => h9) rfl (by decide +kernel) rfl rfl (Nat.le_of_ble_eq_true rfl) dX0_start_7 (fun H locs hP _ hS => ?_)
  have hP : va_P (dC, dI) vwCl (wT cI cJ q (sV (sV σ 6 p1) 7 p2)) H := hP
  refine lv_aload_n hx hb dX0_start_10 rfl (lv_at hl 0 rfl) ?_
  refine lv_lconst (v := 0) hx hb dX0_start_11 (by decide) ?_
  refine va_put (D := (dC, dI)) (ci := 0) (v := .long 0) (ty := .long) (C := RX0) (T := TX0) (N := 5) hx hb hts inX0 tyX0 tyX0_ok nmX0 hown hK hP (wT_D hd) hS 28 rfl rfl 2 (by decide) (hts _ fl_X0_19) (fun _ h9 => h9) rfl (by decide +kernel) rfl rfl (Nat.le_of_ble_eq_true rfl) dX0_start_12 (fun H locs hP _ hS => ?_)
  have hP : va_P (dC, dI) vwCl (wT cI cJ q (sZ (sV (sV σ 6 p1) 7 p2) 0)) H := hP
  refine lv_iconst (v := 0) hx hb dX0_start_15 (by decide) ?_
  refine lv_istore_n (lv' := [(3, .int 0), (0, .ref (q 28)), (1, .int p1), (2, .int p2)]) hx hb dX0_start_16 rfl hl (by decide) rfl (fun ls hl => ?_)
  have hb40 : (40 : Int32).toNatClampNeg = 40 := by decide
  have loop_17 : ∀ (k i : Nat) (σ1 : St) (H : Heap) (locs : List Loc), i + k = (40 : Int32).toNatClampNeg → szI (40 : Int32) 40 → fX0_start σ p1 p2 = flX0_start_17 σ p1 p2 k i σ1 → ∀ (ls : Array Slot), lv_has ls 4 [(0, .ref (q 28)), (1, .int p1), (2, .int p2), (3, .int (nI i))] → va_P (dC, dI) vwCl (wT cI cJ q σ1) H → va_S (aT 30 q) s.heap H locs → W p l e (headSpec (.code yX0_start cX0_start 4 none :: tb) { frames := 0, cells := 0, slots := 0, locals := 0 }).room s m (List.toArray [.ref (q 28), .int p1, .int p2]) below meth c H locs 0 0 (MQ below (xw_Q none (dC, dI) (wT cI cJ q (fX0_start σ p1 p2)) (aT 30 q)) (List.toArray [.ref (q 28), .int p1, .int p2]) s 0 0 (aT 30 q)) (F0 m 17 ls []) := by
    intro k
    induction k with
    | zero =>
      intro i σ1 H locs hik hz hE ls hl hP hS
      have hz2 := hz.2
      refine lv_iload_n hx hb dX0_start_17 rfl (lv_at hl 3 rfl) ?_
      refine lv_bipush (v := 40) hx hb dX0_start_18 (by decide) ?_
      refine lv_icmp_ge (tgt := 36) hx hb dX0_start_20 (by decide) (fun c_20 => ?_) (fun c_20 => ?_)
      · have hF : fX0_start σ p1 p2 = σ1 := by rw [hE, flX0_start_17]
        have hP9 : va_P (dC, dI) vwCl (wT cI cJ q (fX0_start σ p1 p2)) H := by rw [hF]; exact hP
        exact W.vret hx hb hr (fun t ht hW => ⟨rfl, by rw [ht]; exact hP9, hS.F ht⟩) hS.2.2 dX0_start_36
      · exact absurd (by rw [hz.1]; exact nI_le (by omega) (by omega)) c_20
    | succ k ih =>
      intro i σ1 H locs hik hz hE ls hl hP hS
      have hz2 := hz.2
      refine lv_iload_n hx hb dX0_start_17 rfl (lv_at hl 3 rfl) ?_
      refine lv_bipush (v := 40) hx hb dX0_start_18 (by decide) ?_
      refine lv_icmp_ge (tgt := 36) hx hb dX0_start_20 (by decide) (fun c_20 => ?_) (fun c_20 => ?_)
      · exact absurd c_20 (by rw [hz.1]; exact nI_ge (by omega) (by omega))
      · refine lv_aload_n hx hb dX0_start_23 rfl (lv_at hl 0 rfl) ?_
        refine va_get (D := (dC, dI)) (ci := 0) (v := .ref (q 29)) (C := RX0) (T := TX0) (N := 5) hx hb hts inX0 hown hK hP 28 rfl rfl 1 (by decide) (hts _ fl_X0_15) (fun _ h9 => h9) rfl dX0_start_24 ?_
        refine lv_iload_n hx hb dX0_start_27 rfl (lv_at hl 3 rfl) ?_
        refine lv_lconst (v := 0) hx hb dX0_start_28 (by decide) ?_
        refine va_last hx hb hK hP (wT_D hd) hS 29 1 rfl rfl (vp_in_nI (by omega) (by decide)) dX0_start_29 (fun H locs hP _ hS => ?_)
        have hP : va_P (dC, dI) vwCl (wT cI cJ q (sL σ1 ((nI i).toNatClampNeg) 0)) H := hP
        refine lv_iinc (v := nI (i + 1)) (lv' := [(3, .int (nI (i + 1))), (0, .ref (q 28)), (1, .int p1), (2, .int p2)]) hx hb dX0_start_30 hl (k := 3) rfl (nI_1 i) (by decide) rfl (fun ls hl => ?_)
        refine lv_goto (tgt := 17) hx hb dX0_start_33 (by decide) ?_
        exact ih (i + 1) _ H locs (by omega) hz (by rw [hE, flX0_start_17]) ls (lv_sub hl [1, 2, 3, 0] rfl) hP hS
  exact loop_17 ((40 : Int32).toNatClampNeg) 0 _ H locs (by rw [Nat.zero_add]) ⟨by decide, by decide⟩ (by rw [fX0_start]) ls (lv_sub hl [1, 2, 3, 0] rfl) hP hS

set_option maxHeartbeats 4000000 in
set_option maxRecDepth 100000 in
theorem c_X0_stayingOn (l : Launch) (dC : Nat → ClassId) (dI : Nat → Nat → Nat) (cI cJ : ClassId) (q : Nat → Nat) (σ : St) (p1 : Int32) (hT : vp_in p1 40) : Met l yX0_stayingOn (.code yX0_stayingOn cX0_stayingOn 2 (some .long) :: tb) { frames := 0, cells := 0, slots := 0, locals := 0 } (Pu (dC, dI) (tyC cI cJ) (wT cI cJ q σ) [.ref (q 28), .int p1]) (vp_Sl (fun r => r = σ.2.2.1 p1.toNatClampNeg)) 0 0 (fun _ => False) := by
  refine Met.ofW (cc := cX0_stayingOn) (maxL := 2) (ret := (some .long)) (by decide) rfl ?_
  intro p e s m args below meth c s₁ B hml hv
  obtain ⟨rfl, hP, hK⟩ := hv
  have hx := B.exec
  have hb := B.bytes
  have hr := B.returns
  have hts0 := atoms_spec (ws := .code yX0_stayingOn cX0_stayingOn 2 (some .long) :: tb) B.pre
  have hts : ∀ w ∈ tb, w.before _ s = true := fun w hw => hts0 w (List.mem_cons_of_mem _ hw)
  have hown : s.vm.findClass RX0 = some m.cls := findClass_of_methodNamed B.named
  have hlocks := B.notSynchronized
  have hl := lv_entry ([.ref (q 28), .int p1]) (n := 2) (Nat.le_of_ble_eq_true rfl)
  rw [lg_entry_eq]
  generalize (lg_sl ([.ref (q 28), .int p1]) ++ List.replicate (2 - (lg_sl ([.ref (q 28), .int p1])).length) Slot.unset).toArray = ls at hl ⊢
  have hl : lv_has ls 2 [(0, .ref (q 28)), (1, .int p1)] := hl
  refine lv_aload_n hx hb dX0_stayingOn_0 rfl (lv_at hl 0 rfl) ?_
  refine va_get (D := (dC, dI)) (ci := 0) (v := .ref (q 29)) (C := RX0) (T := TX0) (N := 5) hx hb hts inX0 hown hK hP 28 rfl rfl 1 (by decide) (hts _ fl_X0_15) (fun _ h9 => h9) rfl dX0_stayingOn_1 ?_
  refine lv_iload_n hx hb dX0_stayingOn_4 rfl (lv_at hl 1 rfl) ?_
  refine va_lald hx hb hK hP 29 1 rfl rfl (by assumption) dX0_stayingOn_5 ?_
  exact W.lret (v := σ.2.2.1 p1.toNatClampNeg) hx hb hr (fun t ht hW => ⟨_, rfl, rfl, ht⟩) (fun _ h => absurd h List.not_mem_nil) dX0_stayingOn_6

set_option maxHeartbeats 4000000 in
set_option maxRecDepth 100000 in
theorem c_X0_nowhere (l : Launch) (dC : Nat → ClassId) (dI : Nat → Nat → Nat) (cI cJ : ClassId) (q : Nat → Nat) (σ : St) : Met l yX0_nowhere (.code yX0_nowhere cX0_nowhere 1 (some .long) :: tb) { frames := 0, cells := 0, slots := 0, locals := 0 } (Pu (dC, dI) (tyC cI cJ) (wT cI cJ q σ) [.ref (q 28)]) (vp_Sl (fun r => r = σ.2.2.2)) 0 0 (fun _ => False) := by
  refine Met.ofW (cc := cX0_nowhere) (maxL := 1) (ret := (some .long)) (by decide) rfl ?_
  intro p e s m args below meth c s₁ B hml hv
  obtain ⟨rfl, hP, hK⟩ := hv
  have hx := B.exec
  have hb := B.bytes
  have hr := B.returns
  have hts0 := atoms_spec (ws := .code yX0_nowhere cX0_nowhere 1 (some .long) :: tb) B.pre
  have hts : ∀ w ∈ tb, w.before _ s = true := fun w hw => hts0 w (List.mem_cons_of_mem _ hw)
  have hown : s.vm.findClass RX0 = some m.cls := findClass_of_methodNamed B.named
  have hlocks := B.notSynchronized
  have hl := lv_entry ([.ref (q 28)]) (n := 1) (Nat.le_of_ble_eq_true rfl)
  rw [lg_entry_eq]
  generalize (lg_sl ([.ref (q 28)]) ++ List.replicate (1 - (lg_sl ([.ref (q 28)])).length) Slot.unset).toArray = ls at hl ⊢
  have hl : lv_has ls 1 [(0, .ref (q 28))] := hl
  refine lv_aload_n hx hb dX0_nowhere_0 rfl (lv_at hl 0 rfl) ?_
  refine va_get (D := (dC, dI)) (ci := 0) (v := .long σ.2.2.2) (C := RX0) (T := TX0) (N := 5) hx hb hts inX0 hown hK hP 28 rfl rfl 2 (by decide) (hts _ fl_X0_19) (fun _ h9 => h9) rfl dX0_nowhere_1 ?_
  exact W.lret (v := σ.2.2.2) hx hb hr (fun t ht hW => ⟨_, rfl, rfl, ht⟩) (fun _ h => absurd h List.not_mem_nil) dX0_nowhere_4

def fX0_carry : Nat → St → Int32 → Int32 → Int32 → St
  | 0, σ, p1, p2, p3 => σ
  | k + 1, σ, p1, p2, p3 => (if p2 = 0 then σ else (if 40 ≤ p3 then σ else (if (fX5_has σ p1) = 0 then σ else (if (fX5_livesOn σ p1 (σ.2.1 6) (σ.2.1 7)) = 0 then (if (σ.1 1 p1.toNatClampNeg) ≤ (σ.2.1 6) then (if (fX5_endingOf σ p1 (σ.2.1 7)) = 2 then (fX0_carry k (fX0_carry k σ (fX5_heirOf σ p1 (σ.2.1 7)) (fX5_firstShareOf σ p1 p2) (p3 + 1)) ((fX5_heirOf σ p1 (σ.2.1 7)) + 1) (p2 - (fX5_firstShareOf σ p1 p2)) (p3 + 1)) else (if (fX5_endingOf σ p1 (σ.2.1 7)) = 3 then (fX0_carry k σ (fX5_heirOf σ p1 (σ.2.1 7)) p2 (p3 + 1)) else (sZ σ (σ.2.2.2 + p2.toInt64)))) else (sZ σ (σ.2.2.2 + p2.toInt64))) else (sL σ p1.toNatClampNeg ((σ.2.2.1 p1.toNatClampNeg) + p2.toInt64))))))
theorem carry_keep : ∀ (k : Nat) (σ : St) (a b d : Int32), (fX0_carry k σ a b d).1 = σ.1 ∧ (fX0_carry k σ a b d).2.1 = σ.2.1 := by
  intro k
  induction k with
  | zero => intro σ a b d; exact ⟨rfl, rfl⟩
  | succ k ih =>
    intro σ a b d
    rw [fX0_carry]
    repeat' split
    all_goals first | exact ⟨rfl, rfl⟩ | exact ih _ _ _ _ | exact ⟨(ih _ _ _ _).1.trans (ih _ _ _ _).1, (ih _ _ _ _).2.trans (ih _ _ _ _).2⟩
theorem carry_IB {k : Nat} {σ : St} {a b d : Int32} (h : IB σ) : IB (fX0_carry k σ a b d) := IB_congr (carry_keep k σ a b d).1 (carry_keep k σ a b d).2 h
theorem dp_s {p : Int32} {k : Nat} (h : ∃ d : Nat, p = nI d ∧ 40 ≤ d + (k + 1) ∧ d ≤ 40) (c : ¬ 40 ≤ p) : ∃ d : Nat, p + 1 = nI d ∧ 40 ≤ d + k ∧ d ≤ 40 := by
  obtain ⟨d, rfl, h1, h2⟩ := h
  have : d < 40 := by
    rcases Nat.lt_or_ge d 40 with q | q
    · exact q
    · exact absurd (nI_le q (by omega) : nI 40 ≤ nI d) c
  exact ⟨d + 1, nI_1 d, by omega, by omega⟩
theorem dp_0 {p : Int32} (h : ∃ d : Nat, p = nI d ∧ 40 ≤ d + 0 ∧ d ≤ 40) : 40 ≤ p := by
  obtain ⟨d, rfl, h1, h2⟩ := h
  exact (nI_le (by omega) (by omega) : nI 40 ≤ nI d)

set_option maxHeartbeats 4000000 in
set_option maxRecDepth 100000 in
theorem c_X0_carry (l : Launch) (dC : Nat → ClassId) (dI : Nat → Nat → Nat) (cI cJ : ClassId) (q : Nat → Nat) (hd : dT 30 q) : ∀ (k : Nat) (σ : St) (p1 : Int32) (p2 : Int32) (p3 : Int32) (hI : IB σ) (hk : ∃ d : Nat, p3 = nI d ∧ 40 ≤ d + k ∧ d ≤ 40), Met l yX0_carry (.code yX0_carry cX0_carry 8 none :: tb) { frames := 3 + k, cells := 0, slots := 0, locals := 67 + 27 * k } (Pu (dC, dI) (tyC cI cJ) (wT cI cJ q σ) [.ref (q 28), .int p1, .int p2, .int p3]) (xw_Q none (dC, dI) (wT cI cJ q (fX0_carry k σ p1 p2 p3)) (aT 30 q)) 0 0 (aT 30 q) := by
  intro k
  induction k with
  | zero =>
    intro σ p1 p2 p3 hI hk
    refine Met.ofW (cc := cX0_carry) (maxL := 8) (ret := none) (by decide) rfl ?_
    intro p e s m args below meth c s₁ B hml hv
    obtain ⟨rfl, hP, hK⟩ := hv
    have hx := B.exec
    have hb := B.bytes
    have hr := B.returns
    have hts0 := atoms_spec (ws := .code yX0_carry cX0_carry 8 none :: tb) B.pre
    have hts : ∀ w ∈ tb, w.before _ s = true := fun w hw => hts0 w (List.mem_cons_of_mem _ hw)
    have hown : s.vm.findClass RX0 = some m.cls := findClass_of_methodNamed B.named
    have hlocks := B.notSynchronized
    have hl := lv_entry ([.ref (q 28), .int p1, .int p2, .int p3]) (n := 8) (Nat.le_of_ble_eq_true rfl)
    rw [lg_entry_eq]
    generalize (lg_sl ([.ref (q 28), .int p1, .int p2, .int p3]) ++ List.replicate (8 - (lg_sl ([.ref (q 28), .int p1, .int p2, .int p3])).length) Slot.unset).toArray = ls at hl ⊢
    have hl : lv_has ls 8 [(0, .ref (q 28)), (1, .int p1), (2, .int p2), (3, .int p3)] := hl
    obtain ⟨H, hHe⟩ : ∃ H, s.heap = H := ⟨_, rfl⟩
    rw [hHe] at hP ⊢
    obtain ⟨locs, hLe⟩ : ∃ x : List Loc, ([] : List Loc) = x := ⟨_, rfl⟩
    rw [hLe]
    have hS : va_S (aT 30 q) s.heap H locs := by rw [← hHe, ← hLe]; exact va_S.rf
    refine lv_aload_n hx hb dX0_carry_0 rfl (lv_at hl 0 rfl) ?_
    refine va_get (D := (dC, dI)) (ci := 0) (v := .ref (q 3)) (C := RX0) (T := TX0) (N := 5) hx hb hts inX0 hown hK hP 28 rfl rfl 0 (by decide) (hts _ fl_X0_9) (fun _ h9 => h9) rfl dX0_carry_1 ?_
    refine lv_astore (lv' := [(4, .ref (q 3)), (0, .ref (q 28)), (1, .int p1), (2, .int p2), (3, .int p3)]) hx hb dX0_carry_4 hl (by decide) rfl (fun ls hl => ?_)
    refine lv_iload_n hx hb dX0_carry_6 rfl (lv_at hl 3 rfl) ?_
    refine lv_if_eq (tgt := 25) hx hb dX0_carry_7 (by decide) (fun c_7 => ?_) (fun c_7 => ?_)
    · have hF : fX0_carry 0 σ p1 p2 p3 = σ := by rw [fX0_carry]
      have hP9 : va_P (dC, dI) vwCl (wT cI cJ q (fX0_carry 0 σ p1 p2 p3)) H := by rw [hF]; exact hP
      exact W.vret hx hb hr (fun t ht hW => ⟨rfl, by rw [ht]; exact hP9, hS.F ht⟩) hS.2.2 dX0_carry_25
    · refine lv_iload_n hx hb dX0_carry_10 rfl (lv_at hl 4 rfl) ?_
      refine lv_bipush (v := 40) hx hb dX0_carry_11 (by decide) ?_
      refine lv_icmp_ge (tgt := 25) hx hb dX0_carry_13 (by decide) (fun c_13 => ?_) (fun c_13 => ?_)
      · have hF : fX0_carry 0 σ p1 p2 p3 = σ := by rw [fX0_carry]
        have hP9 : va_P (dC, dI) vwCl (wT cI cJ q (fX0_carry 0 σ p1 p2 p3)) H := by rw [hF]; exact hP
        exact W.vret hx hb hr (fun t ht hW => ⟨rfl, by rw [ht]; exact hP9, hS.F ht⟩) hS.2.2 dX0_carry_25
      · exact absurd (dp_0 hk) c_13
  | succ k ih =>
    intro σ p1 p2 p3 hI hk
    refine Met.ofW (cc := cX0_carry) (maxL := 8) (ret := none) (by decide) rfl ?_
    intro p e s m args below meth c s₁ B hml hv
    obtain ⟨rfl, hP, hK⟩ := hv
    have hx := B.exec
    have hb := B.bytes
    have hr := B.returns
    have hts0 := atoms_spec (ws := .code yX0_carry cX0_carry 8 none :: tb) B.pre
    have hts : ∀ w ∈ tb, w.before _ s = true := fun w hw => hts0 w (List.mem_cons_of_mem _ hw)
    have hown : s.vm.findClass RX0 = some m.cls := findClass_of_methodNamed B.named
    have hlocks := B.notSynchronized
    have hl := lv_entry ([.ref (q 28), .int p1, .int p2, .int p3]) (n := 8) (Nat.le_of_ble_eq_true rfl)
    rw [lg_entry_eq]
    generalize (lg_sl ([.ref (q 28), .int p1, .int p2, .int p3]) ++ List.replicate (8 - (lg_sl ([.ref (q 28), .int p1, .int p2, .int p3])).length) Slot.unset).toArray = ls at hl ⊢
    have hl : lv_has ls 8 [(0, .ref (q 28)), (1, .int p1), (2, .int p2), (3, .int p3)] := hl
    obtain ⟨H, hHe⟩ : ∃ H, s.heap = H := ⟨_, rfl⟩
    rw [hHe] at hP ⊢
    obtain ⟨locs, hLe⟩ : ∃ x : List Loc, ([] : List Loc) = x := ⟨_, rfl⟩
    rw [hLe]
    have hS : va_S (aT 30 q) s.heap H locs := by rw [← hHe, ← hLe]; exact va_S.rf
    refine lv_aload_n hx hb dX0_carry_0 rfl (lv_at hl 0 rfl) ?_
    refine va_get (D := (dC, dI)) (ci := 0) (v := .ref (q 3)) (C := RX0) (T := TX0) (N := 5) hx hb hts inX0 hown hK hP 28 rfl rfl 0 (by decide) (hts _ fl_X0_9) (fun _ h9 => h9) rfl dX0_carry_1 ?_
    refine lv_astore (lv' := [(4, .ref (q 3)), (0, .ref (q 28)), (1, .int p1), (2, .int p2), (3, .int p3)]) hx hb dX0_carry_4 hl (by decide) rfl (fun ls hl => ?_)
    refine lv_iload_n hx hb dX0_carry_6 rfl (lv_at hl 3 rfl) ?_
    refine lv_if_eq (tgt := 25) hx hb dX0_carry_7 (by decide) (fun c_7 => ?_) (fun c_7 => ?_)
    · have hF : fX0_carry (k + 1) σ p1 p2 p3 = σ := by rw [fX0_carry, if_pos c_7]
      have hP9 : va_P (dC, dI) vwCl (wT cI cJ q (fX0_carry (k + 1) σ p1 p2 p3)) H := by rw [hF]; exact hP
      exact W.vret hx hb hr (fun t ht hW => ⟨rfl, by rw [ht]; exact hP9, hS.F ht⟩) hS.2.2 dX0_carry_25
    · refine lv_iload_n hx hb dX0_carry_10 rfl (lv_at hl 4 rfl) ?_
      refine lv_bipush (v := 40) hx hb dX0_carry_11 (by decide) ?_
      refine lv_icmp_ge (tgt := 25) hx hb dX0_carry_13 (by decide) (fun c_13 => ?_) (fun c_13 => ?_)
      · have hF : fX0_carry (k + 1) σ p1 p2 p3 = σ := by rw [fX0_carry, if_neg c_7, if_pos c_13]
        have hP9 : va_P (dC, dI) vwCl (wT cI cJ q (fX0_carry (k + 1) σ p1 p2 p3)) H := by rw [hF]; exact hP
        exact W.vret hx hb hr (fun t ht hW => ⟨rfl, by rw [ht]; exact hP9, hS.F ht⟩) hS.2.2 dX0_carry_25
      · refine lv_aload hx hb dX0_carry_16 (lv_at hl 0 rfl) ?_
        refine lv_iload_n hx hb dX0_carry_18 rfl (lv_at hl 2 rfl) ?_
        refine xc_i (va_runV (As := [.int p1]) (rest := []) ⟨hx, hb, hml, hown, hts⟩ (c_X5_has l dC dI cI cJ q σ p1) (cwV 1 hts (gV ml_X0_34 im_X5_has se_X5_has in_X5 co_X5_has) rfl rfl rfl (by decide +kernel) ⟨(show 0 + 1 ≤ 3 + (k + 1) by omega), (show 8 + (2 + 11) + 0 ≤ 67 + 27 * (k + 1) by omega)⟩) (preV hK hP (pos := 3) (ci := 5) rfl rfl) rfl rfl hl.1 rfl (lv_room (Nat.le_of_ble_eq_true rfl)) dX0_carry_19 ⟨Nat.zero_le _, Nat.zero_le _⟩) ?_
        refine lv_if_ne (tgt := 26) hx hb dX0_carry_22 (by decide) (fun c_22 => ?_) (fun c_22 => ?_)
        · refine lv_aload hx hb dX0_carry_26 (lv_at hl 0 rfl) ?_
          refine lv_iload_n hx hb dX0_carry_28 rfl (lv_at hl 2 rfl) ?_
          refine lv_aload_n hx hb dX0_carry_29 rfl (lv_at hl 1 rfl) ?_
          refine va_get (D := (dC, dI)) (ci := 0) (v := .int (σ.2.1 6)) (C := RX0) (T := TX0) (N := 5) hx hb hts inX0 hown hK hP 28 rfl rfl 3 (by decide) (hts _ fl_X0_23) (fun _ h9 => h9) rfl dX0_carry_30 ?_
          refine lv_aload_n hx hb dX0_carry_33 rfl (lv_at hl 1 rfl) ?_
          refine va_get (D := (dC, dI)) (ci := 0) (v := .int (σ.2.1 7)) (C := RX0) (T := TX0) (N := 5) hx hb hts inX0 hown hK hP 28 rfl rfl 4 (by decide) (hts _ fl_X0_27) (fun _ h9 => h9) rfl dX0_carry_34 ?_
          refine xc_i (va_runV (As := [.int p1, .int (σ.2.1 6), .int (σ.2.1 7)]) (rest := []) ⟨hx, hb, hml, hown, hts⟩ (c_X5_livesOn l dC dI cI cJ q σ p1 (σ.2.1 6) (σ.2.1 7) (by assumption)) (cwV 3 hts (gV ml_X0_40 im_X5_livesOn se_X5_livesOn in_X5 co_X5_livesOn) rfl rfl rfl (by decide +kernel) ⟨(show 2 + 1 ≤ 3 + (k + 1) by omega), (show 8 + (4 + 11) + 44 ≤ 67 + 27 * (k + 1) by omega)⟩) (preV hK hP (pos := 3) (ci := 5) rfl rfl) rfl rfl hl.1 rfl (lv_room (Nat.le_of_ble_eq_true rfl)) dX0_carry_37 ⟨Nat.zero_le _, Nat.zero_le _⟩) ?_
          refine lv_if_eq (tgt := 55) hx hb dX0_carry_40 (by decide) (fun c_40 => ?_) (fun c_40 => ?_)
          · refine lv_aload_n hx hb dX0_carry_55 rfl (lv_at hl 1 rfl) ?_
            refine va_get (D := (dC, dI)) (ci := 0) (v := .int (σ.2.1 6)) (C := RX0) (T := TX0) (N := 5) hx hb hts inX0 hown hK hP 28 rfl rfl 3 (by decide) (hts _ fl_X0_23) (fun _ h9 => h9) rfl dX0_carry_56 ?_
            refine lv_aload hx hb dX0_carry_59 (lv_at hl 0 rfl) ?_
            refine lv_iload_n hx hb dX0_carry_61 rfl (lv_at hl 2 rfl) ?_
            refine xc_i (va_runV (As := [.int p1]) (rest := [.int (σ.2.1 6)]) ⟨hx, hb, hml, hown, hts⟩ (c_X5_birthOf l dC dI cI cJ q σ p1 (has_in40 hI c_22)) (cwV 1 hts (gV ml_X0_44 im_X5_birthOf se_X5_birthOf in_X5 co_X5_birthOf) rfl rfl rfl (by decide +kernel) ⟨(show 0 + 1 ≤ 3 + (k + 1) by omega), (show 8 + (2 + 11) + 0 ≤ 67 + 27 * (k + 1) by omega)⟩) (preV hK hP (pos := 3) (ci := 5) rfl rfl) rfl rfl hl.1 rfl (lv_room (Nat.le_of_ble_eq_true rfl)) dX0_carry_62 ⟨Nat.zero_le _, Nat.zero_le _⟩) ?_
            refine lv_icmp_ge (tgt := 72) hx hb dX0_carry_65 (by decide) (fun c_65 => ?_) (fun c_65 => ?_)
            · refine lv_aload hx hb dX0_carry_72 (lv_at hl 0 rfl) ?_
              refine lv_iload_n hx hb dX0_carry_74 rfl (lv_at hl 2 rfl) ?_
              refine lv_aload_n hx hb dX0_carry_75 rfl (lv_at hl 1 rfl) ?_
              refine va_get (D := (dC, dI)) (ci := 0) (v := .int (σ.2.1 7)) (C := RX0) (T := TX0) (N := 5) hx hb hts inX0 hown hK hP 28 rfl rfl 4 (by decide) (hts _ fl_X0_27) (fun _ h9 => h9) rfl dX0_carry_76 ?_
              refine xc_i (va_runV (As := [.int p1, .int (σ.2.1 7)]) (rest := []) ⟨hx, hb, hml, hown, hts⟩ (c_X5_endingOf l dC dI cI cJ q σ p1 (σ.2.1 7) (has_in40 hI c_22)) (cwV 2 hts (gV ml_X0_48 im_X5_endingOf se_X5_endingOf in_X5 co_X5_endingOf) rfl rfl rfl (by decide +kernel) ⟨(show 1 + 1 ≤ 3 + (k + 1) by omega), (show 8 + (3 + 11) + 22 ≤ 67 + 27 * (k + 1) by omega)⟩) (preV hK hP (pos := 3) (ci := 5) rfl rfl) rfl rfl hl.1 rfl (lv_room (Nat.le_of_ble_eq_true rfl)) dX0_carry_79 ⟨Nat.zero_le _, Nat.zero_le _⟩) ?_
              refine lv_istore (lv' := [(5, .int (fX5_endingOf σ p1 (σ.2.1 7))), (4, .ref (q 3)), (0, .ref (q 28)), (1, .int p1), (2, .int p2), (3, .int p3)]) hx hb dX0_carry_82 hl (by decide) rfl (fun ls hl => ?_)
              refine lv_aload hx hb dX0_carry_84 (lv_at hl 1 rfl) ?_
              refine lv_iload_n hx hb dX0_carry_86 rfl (lv_at hl 3 rfl) ?_
              refine lv_aload_n hx hb dX0_carry_87 rfl (lv_at hl 2 rfl) ?_
              refine va_get (D := (dC, dI)) (ci := 0) (v := .int (σ.2.1 7)) (C := RX0) (T := TX0) (N := 5) hx hb hts inX0 hown hK hP 28 rfl rfl 4 (by decide) (hts _ fl_X0_27) (fun _ h9 => h9) rfl dX0_carry_88 ?_
              refine xc_i (va_runV (As := [.int p1, .int (σ.2.1 7)]) (rest := []) ⟨hx, hb, hml, hown, hts⟩ (c_X5_heirOf l dC dI cI cJ q σ p1 (σ.2.1 7) (has_in40 hI c_22)) (cwV 2 hts (gV ml_X0_52 im_X5_heirOf se_X5_heirOf in_X5 co_X5_heirOf) rfl rfl rfl (by decide +kernel) ⟨(show 1 + 1 ≤ 3 + (k + 1) by omega), (show 8 + (3 + 11) + 22 ≤ 67 + 27 * (k + 1) by omega)⟩) (preV hK hP (pos := 3) (ci := 5) rfl rfl) rfl rfl hl.1 rfl (lv_room (Nat.le_of_ble_eq_true rfl)) dX0_carry_91 ⟨Nat.zero_le _, Nat.zero_le _⟩) ?_
              refine lv_istore (lv' := [(6, .int (fX5_heirOf σ p1 (σ.2.1 7))), (5, .int (fX5_endingOf σ p1 (σ.2.1 7))), (4, .ref (q 3)), (0, .ref (q 28)), (1, .int p1), (2, .int p2), (3, .int p3)]) hx hb dX0_carry_94 hl (by decide) rfl (fun ls hl => ?_)
              refine lv_iload hx hb dX0_carry_96 (lv_at hl 1 rfl) ?_
              refine lv_iconst (v := 2) hx hb dX0_carry_98 (by decide) ?_
              refine lv_icmp_ne (tgt := 140) hx hb dX0_carry_99 (by decide) (fun c_99 => ?_) (fun c_99 => ?_)
              · refine lv_iload hx hb dX0_carry_140 (lv_at hl 1 rfl) ?_
                refine lv_iconst (v := 3) hx hb dX0_carry_142 (by decide) ?_
                refine lv_icmp_ne (tgt := 159) hx hb dX0_carry_143 (by decide) (fun c_143 => ?_) (fun c_143 => ?_)
                · refine lv_aload_n hx hb dX0_carry_159 rfl (lv_at hl 3 rfl) ?_
                  refine lv_dup hx hb dX0_carry_160 rfl ?_
                  refine va_get (D := (dC, dI)) (ci := 0) (v := .long σ.2.2.2) (C := RX0) (T := TX0) (N := 5) hx hb hts inX0 hown hK hP 28 rfl rfl 2 (by decide) (hts _ fl_X0_19) (fun _ h9 => h9) rfl dX0_carry_161 ?_
                  refine lv_iload_n hx hb dX0_carry_164 rfl (lv_at hl 5 rfl) ?_
                  refine lv_i2l (v := p2.toInt64) hx hb dX0_carry_165 rfl ?_
                  refine lv_ladd hx hb dX0_carry_166 ?_
                  refine va_put (D := (dC, dI)) (ci := 0) (v := .long (σ.2.2.2 + p2.toInt64)) (ty := .long) (C := RX0) (T := TX0) (N := 5) hx hb hts inX0 tyX0 tyX0_ok nmX0 hown hK hP (wT_D hd) hS 28 rfl rfl 2 (by decide) (hts _ fl_X0_19) (fun _ h9 => h9) rfl (by decide +kernel) rfl rfl (Nat.le_of_ble_eq_true rfl) dX0_carry_167 (fun H locs hP _ hS => ?_)
                  have hP : va_P (dC, dI) vwCl (wT cI cJ q (sZ σ (σ.2.2.2 + p2.toInt64))) H := hP
                  have hF : fX0_carry (k + 1) σ p1 p2 p3 = (sZ σ (σ.2.2.2 + p2.toInt64)) := by rw [fX0_carry, if_neg c_7, if_neg c_13, if_neg c_22, if_pos c_40, if_pos c_65, if_neg c_99, if_neg c_143]
                  have hP9 : va_P (dC, dI) vwCl (wT cI cJ q (fX0_carry (k + 1) σ p1 p2 p3)) H := by rw [hF]; exact hP
                  exact W.vret hx hb hr (fun t ht hW => ⟨rfl, by rw [ht]; exact hP9, hS.F ht⟩) hS.2.2 dX0_carry_170
                · refine lv_aload_n hx hb dX0_carry_146 rfl (lv_at hl 3 rfl) ?_
                  refine lv_iload hx hb dX0_carry_147 (lv_at hl 0 rfl) ?_
                  refine lv_iload_n hx hb dX0_carry_149 rfl (lv_at hl 5 rfl) ?_
                  refine lv_iload_n hx hb dX0_carry_150 rfl (lv_at hl 6 rfl) ?_
                  refine lv_iconst (v := 1) hx hb dX0_carry_151 (by decide) ?_
                  refine lv_iadd hx hb dX0_carry_152 ?_
                  refine xw_c (va_runS (As := [.ref (q 28), .int (fX5_heirOf σ p1 (σ.2.1 7)), .int p2, .int (p3 + 1)]) (rest := []) ⟨hx, hb, hml, hown, hts⟩ (ih σ (fX5_heirOf σ p1 (σ.2.1 7)) p2 (p3 + 1) (by assumption) (dp_s hk c_13)) (va_cwS 4 hts (gS ml_X0_30 st_X0_carry in_X0 co_X0_carry) rfl rfl rfl (by decide +kernel) ⟨(show (3 + k) + 1 ≤ 3 + (k + 1) by omega), (show 8 + (8 + 11) + (67 + 27 * k) ≤ 67 + 27 * (k + 1) by omega)⟩) (preS hK hP) rfl rfl hl.1 rfl (lv_room (Nat.le_of_ble_eq_true rfl)) dX0_carry_153 ⟨Nat.zero_le _, Nat.zero_le _⟩) hS (fun _ h => h) (fun H locs hP _ _ hS => ?_)
                  have hP : va_P (dC, dI) vwCl (wT cI cJ q (fX0_carry k σ (fX5_heirOf σ p1 (σ.2.1 7)) p2 (p3 + 1))) H := hP
                  refine W.eq (g2 := F0 m 156 ls []) rfl ?_
                  refine lv_goto (tgt := 170) hx hb dX0_carry_156 (by decide) ?_
                  have hF : fX0_carry (k + 1) σ p1 p2 p3 = (fX0_carry k σ (fX5_heirOf σ p1 (σ.2.1 7)) p2 (p3 + 1)) := by rw [fX0_carry, if_neg c_7, if_neg c_13, if_neg c_22, if_pos c_40, if_pos c_65, if_neg c_99, if_pos c_143]
                  have hP9 : va_P (dC, dI) vwCl (wT cI cJ q (fX0_carry (k + 1) σ p1 p2 p3)) H := by rw [hF]; exact hP
                  exact W.vret hx hb hr (fun t ht hW => ⟨rfl, by rw [ht]; exact hP9, hS.F ht⟩) hS.2.2 dX0_carry_170
              · refine lv_aload hx hb dX0_carry_102 (lv_at hl 2 rfl) ?_
                refine lv_iload_n hx hb dX0_carry_104 rfl (lv_at hl 4 rfl) ?_
                refine lv_iload_n hx hb dX0_carry_105 rfl (lv_at hl 5 rfl) ?_
                refine xc_i (va_runV (As := [.int p1, .int p2]) (rest := []) ⟨hx, hb, hml, hown, hts⟩ (c_X5_firstShareOf l dC dI cI cJ q σ p1 p2 (has_in40 hI c_22)) (cwV 2 hts (gV ml_X0_55 im_X5_firstShareOf se_X5_firstShareOf in_X5 co_X5_firstShareOf) rfl rfl rfl (by decide +kernel) ⟨(show 0 + 1 ≤ 3 + (k + 1) by omega), (show 8 + (4 + 11) + 0 ≤ 67 + 27 * (k + 1) by omega)⟩) (preV hK hP (pos := 3) (ci := 5) rfl rfl) rfl rfl hl.1 rfl (lv_room (Nat.le_of_ble_eq_true rfl)) dX0_carry_106 ⟨Nat.zero_le _, Nat.zero_le _⟩) ?_
                refine lv_istore (lv' := [(7, .int (fX5_firstShareOf σ p1 p2)), (6, .int (fX5_heirOf σ p1 (σ.2.1 7))), (5, .int (fX5_endingOf σ p1 (σ.2.1 7))), (4, .ref (q 3)), (0, .ref (q 28)), (1, .int p1), (2, .int p2), (3, .int p3)]) hx hb dX0_carry_109 hl (by decide) rfl (fun ls hl => ?_)
                refine lv_aload_n hx hb dX0_carry_111 rfl (lv_at hl 4 rfl) ?_
                refine lv_iload hx hb dX0_carry_112 (lv_at hl 1 rfl) ?_
                refine lv_iload hx hb dX0_carry_114 (lv_at hl 0 rfl) ?_
                refine lv_iload_n hx hb dX0_carry_116 rfl (lv_at hl 7 rfl) ?_
                refine lv_iconst (v := 1) hx hb dX0_carry_117 (by decide) ?_
                refine lv_iadd hx hb dX0_carry_118 ?_
                refine xw_c (va_runS (As := [.ref (q 28), .int (fX5_heirOf σ p1 (σ.2.1 7)), .int (fX5_firstShareOf σ p1 p2), .int (p3 + 1)]) (rest := []) ⟨hx, hb, hml, hown, hts⟩ (ih σ (fX5_heirOf σ p1 (σ.2.1 7)) (fX5_firstShareOf σ p1 p2) (p3 + 1) (by assumption) (dp_s hk c_13)) (va_cwS 4 hts (gS ml_X0_30 st_X0_carry in_X0 co_X0_carry) rfl rfl rfl (by decide +kernel) ⟨(show (3 + k) + 1 ≤ 3 + (k + 1) by omega), (show 8 + (8 + 11) + (67 + 27 * k) ≤ 67 + 27 * (k + 1) by omega)⟩) (preS hK hP) rfl rfl hl.1 rfl (lv_room (Nat.le_of_ble_eq_true rfl)) dX0_carry_119 ⟨Nat.zero_le _, Nat.zero_le _⟩) hS (fun _ h => h) (fun H locs hP _ _ hS => ?_)
                have hP : va_P (dC, dI) vwCl (wT cI cJ q (fX0_carry k σ (fX5_heirOf σ p1 (σ.2.1 7)) (fX5_firstShareOf σ p1 p2) (p3 + 1))) H := hP
                refine W.eq (g2 := F0 m 122 ls []) rfl ?_
                refine lv_aload_n hx hb dX0_carry_122 rfl (lv_at hl 4 rfl) ?_
                refine lv_iload hx hb dX0_carry_123 (lv_at hl 1 rfl) ?_
                refine lv_iconst (v := 1) hx hb dX0_carry_125 (by decide) ?_
                refine lv_iadd hx hb dX0_carry_126 ?_
                refine lv_iload_n hx hb dX0_carry_127 rfl (lv_at hl 6 rfl) ?_
                refine lv_iload hx hb dX0_carry_128 (lv_at hl 0 rfl) ?_
                refine lv_isub hx hb dX0_carry_130 ?_
                refine lv_iload_n hx hb dX0_carry_131 rfl (lv_at hl 7 rfl) ?_
                refine lv_iconst (v := 1) hx hb dX0_carry_132 (by decide) ?_
                refine lv_iadd hx hb dX0_carry_133 ?_
                refine xw_c (va_runS (As := [.ref (q 28), .int ((fX5_heirOf σ p1 (σ.2.1 7)) + 1), .int (p2 - (fX5_firstShareOf σ p1 p2)), .int (p3 + 1)]) (rest := []) ⟨hx, hb, hml, hown, hts⟩ (ih (fX0_carry k σ (fX5_heirOf σ p1 (σ.2.1 7)) (fX5_firstShareOf σ p1 p2) (p3 + 1)) ((fX5_heirOf σ p1 (σ.2.1 7)) + 1) (p2 - (fX5_firstShareOf σ p1 p2)) (p3 + 1) (carry_IB hI) (dp_s hk c_13)) (va_cwS 4 hts (gS ml_X0_30 st_X0_carry in_X0 co_X0_carry) rfl rfl rfl (by decide +kernel) ⟨(show (3 + k) + 1 ≤ 3 + (k + 1) by omega), (show 8 + (8 + 11) + (67 + 27 * k) ≤ 67 + 27 * (k + 1) by omega)⟩) (preS hK hP) rfl rfl hl.1 rfl (lv_room (Nat.le_of_ble_eq_true rfl)) dX0_carry_134 ⟨Nat.zero_le _, Nat.zero_le _⟩) hS (fun _ h => h) (fun H locs hP _ _ hS => ?_)
                have hP : va_P (dC, dI) vwCl (wT cI cJ q (fX0_carry k (fX0_carry k σ (fX5_heirOf σ p1 (σ.2.1 7)) (fX5_firstShareOf σ p1 p2) (p3 + 1)) ((fX5_heirOf σ p1 (σ.2.1 7)) + 1) (p2 - (fX5_firstShareOf σ p1 p2)) (p3 + 1))) H := hP
                refine W.eq (g2 := F0 m 137 ls []) rfl ?_
                refine lv_goto (tgt := 170) hx hb dX0_carry_137 (by decide) ?_
                have hF : fX0_carry (k + 1) σ p1 p2 p3 = (fX0_carry k (fX0_carry k σ (fX5_heirOf σ p1 (σ.2.1 7)) (fX5_firstShareOf σ p1 p2) (p3 + 1)) ((fX5_heirOf σ p1 (σ.2.1 7)) + 1) (p2 - (fX5_firstShareOf σ p1 p2)) (p3 + 1)) := by rw [fX0_carry, if_neg c_7, if_neg c_13, if_neg c_22, if_pos c_40, if_pos c_65, if_pos c_99]
                have hP9 : va_P (dC, dI) vwCl (wT cI cJ q (fX0_carry (k + 1) σ p1 p2 p3)) H := by rw [hF]; exact hP
                exact W.vret hx hb hr (fun t ht hW => ⟨rfl, by rw [ht]; exact hP9, hS.F ht⟩) hS.2.2 dX0_carry_170
            · refine lv_iconst (v := 1) hx hb dX0_carry_68 (by decide) ?_
              refine lv_goto (tgt := 82) hx hb dX0_carry_69 (by decide) ?_
              refine lv_istore (lv' := [(5, .int 1), (4, .ref (q 3)), (0, .ref (q 28)), (1, .int p1), (2, .int p2), (3, .int p3)]) hx hb dX0_carry_82 hl (by decide) rfl (fun ls hl => ?_)
              refine lv_aload hx hb dX0_carry_84 (lv_at hl 1 rfl) ?_
              refine lv_iload_n hx hb dX0_carry_86 rfl (lv_at hl 3 rfl) ?_
              refine lv_aload_n hx hb dX0_carry_87 rfl (lv_at hl 2 rfl) ?_
              refine va_get (D := (dC, dI)) (ci := 0) (v := .int (σ.2.1 7)) (C := RX0) (T := TX0) (N := 5) hx hb hts inX0 hown hK hP 28 rfl rfl 4 (by decide) (hts _ fl_X0_27) (fun _ h9 => h9) rfl dX0_carry_88 ?_
              refine xc_i (va_runV (As := [.int p1, .int (σ.2.1 7)]) (rest := []) ⟨hx, hb, hml, hown, hts⟩ (c_X5_heirOf l dC dI cI cJ q σ p1 (σ.2.1 7) (has_in40 hI c_22)) (cwV 2 hts (gV ml_X0_52 im_X5_heirOf se_X5_heirOf in_X5 co_X5_heirOf) rfl rfl rfl (by decide +kernel) ⟨(show 1 + 1 ≤ 3 + (k + 1) by omega), (show 8 + (3 + 11) + 22 ≤ 67 + 27 * (k + 1) by omega)⟩) (preV hK hP (pos := 3) (ci := 5) rfl rfl) rfl rfl hl.1 rfl (lv_room (Nat.le_of_ble_eq_true rfl)) dX0_carry_91 ⟨Nat.zero_le _, Nat.zero_le _⟩) ?_
              refine lv_istore (lv' := [(6, .int (fX5_heirOf σ p1 (σ.2.1 7))), (5, .int 1), (4, .ref (q 3)), (0, .ref (q 28)), (1, .int p1), (2, .int p2), (3, .int p3)]) hx hb dX0_carry_94 hl (by decide) rfl (fun ls hl => ?_)
              refine lv_iload hx hb dX0_carry_96 (lv_at hl 1 rfl) ?_
              refine lv_iconst (v := 2) hx hb dX0_carry_98 (by decide) ?_
              refine lv_icmp_ne (tgt := 140) hx hb dX0_carry_99 (by decide) (fun c_99 => ?_) (fun c_99 => ?_)
              · refine lv_iload hx hb dX0_carry_140 (lv_at hl 1 rfl) ?_
                refine lv_iconst (v := 3) hx hb dX0_carry_142 (by decide) ?_
                refine lv_icmp_ne (tgt := 159) hx hb dX0_carry_143 (by decide) (fun c_143 => ?_) (fun c_143 => ?_)
                · refine lv_aload_n hx hb dX0_carry_159 rfl (lv_at hl 3 rfl) ?_
                  refine lv_dup hx hb dX0_carry_160 rfl ?_
                  refine va_get (D := (dC, dI)) (ci := 0) (v := .long σ.2.2.2) (C := RX0) (T := TX0) (N := 5) hx hb hts inX0 hown hK hP 28 rfl rfl 2 (by decide) (hts _ fl_X0_19) (fun _ h9 => h9) rfl dX0_carry_161 ?_
                  refine lv_iload_n hx hb dX0_carry_164 rfl (lv_at hl 5 rfl) ?_
                  refine lv_i2l (v := p2.toInt64) hx hb dX0_carry_165 rfl ?_
                  refine lv_ladd hx hb dX0_carry_166 ?_
                  refine va_put (D := (dC, dI)) (ci := 0) (v := .long (σ.2.2.2 + p2.toInt64)) (ty := .long) (C := RX0) (T := TX0) (N := 5) hx hb hts inX0 tyX0 tyX0_ok nmX0 hown hK hP (wT_D hd) hS 28 rfl rfl 2 (by decide) (hts _ fl_X0_19) (fun _ h9 => h9) rfl (by decide +kernel) rfl rfl (Nat.le_of_ble_eq_true rfl) dX0_carry_167 (fun H locs hP _ hS => ?_)
                  have hP : va_P (dC, dI) vwCl (wT cI cJ q (sZ σ (σ.2.2.2 + p2.toInt64))) H := hP
                  have hF : fX0_carry (k + 1) σ p1 p2 p3 = (sZ σ (σ.2.2.2 + p2.toInt64)) := by rw [fX0_carry, if_neg c_7, if_neg c_13, if_neg c_22, if_pos c_40, if_neg c_65]
                  have hP9 : va_P (dC, dI) vwCl (wT cI cJ q (fX0_carry (k + 1) σ p1 p2 p3)) H := by rw [hF]; exact hP
                  exact W.vret hx hb hr (fun t ht hW => ⟨rfl, by rw [ht]; exact hP9, hS.F ht⟩) hS.2.2 dX0_carry_170
                · exact absurd c_143 (by decide)
              · exact absurd c_99 (by decide)
          · refine lv_aload_n hx hb dX0_carry_43 rfl (lv_at hl 1 rfl) ?_
            refine va_get (D := (dC, dI)) (ci := 0) (v := .ref (q 29)) (C := RX0) (T := TX0) (N := 5) hx hb hts inX0 hown hK hP 28 rfl rfl 1 (by decide) (hts _ fl_X0_15) (fun _ h9 => h9) rfl dX0_carry_44 ?_
            refine lv_iload_n hx hb dX0_carry_47 rfl (lv_at hl 2 rfl) ?_
            refine lv_dup2_11 hx hb dX0_carry_48 rfl rfl ?_
            refine va_lald hx hb hK hP 29 1 rfl rfl (has_in40 hI c_22) dX0_carry_49 ?_
            refine lv_iload_n hx hb dX0_carry_50 rfl (lv_at hl 3 rfl) ?_
            refine lv_i2l (v := p2.toInt64) hx hb dX0_carry_51 rfl ?_
            refine lv_ladd hx hb dX0_carry_52 ?_
            refine va_last hx hb hK hP (wT_D hd) hS 29 1 rfl rfl (has_in40 hI c_22) dX0_carry_53 (fun H locs hP _ hS => ?_)
            have hP : va_P (dC, dI) vwCl (wT cI cJ q (sL σ p1.toNatClampNeg ((σ.2.2.1 p1.toNatClampNeg) + p2.toInt64))) H := hP
            have hF : fX0_carry (k + 1) σ p1 p2 p3 = (sL σ p1.toNatClampNeg ((σ.2.2.1 p1.toNatClampNeg) + p2.toInt64)) := by rw [fX0_carry, if_neg c_7, if_neg c_13, if_neg c_22, if_neg c_40]
            have hP9 : va_P (dC, dI) vwCl (wT cI cJ q (fX0_carry (k + 1) σ p1 p2 p3)) H := by rw [hF]; exact hP
            exact W.vret hx hb hr (fun t ht hW => ⟨rfl, by rw [ht]; exact hP9, hS.F ht⟩) hS.2.2 dX0_carry_54
        · have hF : fX0_carry (k + 1) σ p1 p2 p3 = σ := by rw [fX0_carry, if_neg c_7, if_neg c_13, if_pos c_22]
          have hP9 : va_P (dC, dI) vwCl (wT cI cJ q (fX0_carry (k + 1) σ p1 p2 p3)) H := by rw [hF]; exact hP
          exact W.vret hx hb hr (fun t ht hW => ⟨rfl, by rw [ht]; exact hP9, hS.F ht⟩) hS.2.2 dX0_carry_25

def fX0_add (σ : St) (p1 : Int32) (p2 : Int32) : St :=
  (fX0_carry 40 σ p1 p2 0)
set_option maxHeartbeats 4000000 in
set_option maxRecDepth 100000 in
theorem c_X0_add (l : Launch) (dC : Nat → ClassId) (dI : Nat → Nat → Nat) (cI cJ : ClassId) (q : Nat → Nat) (σ : St) (p1 : Int32) (p2 : Int32) (hd : dT 30 q) (hI : IB σ) : Met l yX0_add (.code yX0_add cX0_add 3 none :: tb) { frames := 44, cells := 0, slots := 0, locals := 1174 } (Pu (dC, dI) (tyC cI cJ) (wT cI cJ q σ) [.ref (q 28), .int p1, .int p2]) (xw_Q none (dC, dI) (wT cI cJ q (fX0_add σ p1 p2)) (aT 30 q)) 0 0 (aT 30 q) := by
  refine Met.ofW (cc := cX0_add) (maxL := 3) (ret := none) (by decide) rfl ?_
  intro p e s m args below meth c s₁ B hml hv
  obtain ⟨rfl, hP, hK⟩ := hv
  have hx := B.exec
  have hb := B.bytes
  have hr := B.returns
  have hts0 := atoms_spec (ws := .code yX0_add cX0_add 3 none :: tb) B.pre
  have hts : ∀ w ∈ tb, w.before _ s = true := fun w hw => hts0 w (List.mem_cons_of_mem _ hw)
  have hown : s.vm.findClass RX0 = some m.cls := findClass_of_methodNamed B.named
  have hlocks := B.notSynchronized
  have hl := lv_entry ([.ref (q 28), .int p1, .int p2]) (n := 3) (Nat.le_of_ble_eq_true rfl)
  rw [lg_entry_eq]
  generalize (lg_sl ([.ref (q 28), .int p1, .int p2]) ++ List.replicate (3 - (lg_sl ([.ref (q 28), .int p1, .int p2])).length) Slot.unset).toArray = ls at hl ⊢
  have hl : lv_has ls 3 [(0, .ref (q 28)), (1, .int p1), (2, .int p2)] := hl
  obtain ⟨H, hHe⟩ : ∃ H, s.heap = H := ⟨_, rfl⟩
  rw [hHe] at hP ⊢
  obtain ⟨locs, hLe⟩ : ∃ x : List Loc, ([] : List Loc) = x := ⟨_, rfl⟩
  rw [hLe]
  have hS : va_S (aT 30 q) s.heap H locs := by rw [← hHe, ← hLe]; exact va_S.rf
  refine lv_aload_n hx hb dX0_add_0 rfl (lv_at hl 0 rfl) ?_
  refine lv_iload_n hx hb dX0_add_1 rfl (lv_at hl 1 rfl) ?_
  refine lv_iload_n hx hb dX0_add_2 rfl (lv_at hl 2 rfl) ?_
  refine lv_iconst (v := 0) hx hb dX0_add_3 (by decide) ?_
  refine xw_c (va_runS (As := [.ref (q 28), .int p1, .int p2, .int 0]) (rest := []) ⟨hx, hb, hml, hown, hts⟩ (c_X0_carry l dC dI cI cJ q hd 40 σ p1 p2 0 hI ⟨0, rfl, by decide, by decide⟩) (va_cwS 4 hts (gS ml_X0_30 st_X0_carry in_X0 co_X0_carry) rfl rfl rfl (by decide +kernel) ⟨Nat.le_of_ble_eq_true rfl, Nat.le_of_ble_eq_true rfl⟩) (preS hK hP) rfl rfl hl.1 rfl (lv_room (Nat.le_of_ble_eq_true rfl)) dX0_add_4 ⟨Nat.zero_le _, Nat.zero_le _⟩) hS (fun _ h => h) (fun H locs hP _ _ hS => ?_)
  have hP : va_P (dC, dI) vwCl (wT cI cJ q (fX0_carry 40 σ p1 p2 0)) H := hP
  refine W.eq (g2 := F0 m 7 ls []) rfl ?_
  have hF : fX0_add σ p1 p2 = (fX0_carry 40 σ p1 p2 0) := by rw [fX0_add]
  have hP9 : va_P (dC, dI) vwCl (wT cI cJ q (fX0_add σ p1 p2)) H := by rw [hF]; exact hP
  exact W.vret hx hb hr (fun t ht hW => ⟨rfl, by rw [ht]; exact hP9, hS.F ht⟩) hS.2.2 dX0_add_7
end
section
def fX6_isDay (σ : St) (p1 : Int32) : Int32 :=
  (if p1 < 0 then 0 else (if 2000 < p1 then 0 else 1))
set_option maxHeartbeats 4000000 in
set_option maxRecDepth 100000 in
theorem c_X6_isDay (l : Launch) (dC : Nat → ClassId) (dI : Nat → Nat → Nat) (cI cJ : ClassId) (q : Nat → Nat) (σ : St) (p1 : Int32) : Met l yX6_isDay (.code yX6_isDay cX6_isDay 1 (some .boolean) :: tb) { frames := 0, cells := 0, slots := 0, locals := 0 } (Pu (dC, dI) (tyC cI cJ) (wT cI cJ q σ) [.int p1]) (vp_Si (fun r => r = fX6_isDay σ p1)) 0 0 (fun _ => False) := by
  refine Met.ofW (cc := cX6_isDay) (maxL := 1) (ret := (some .boolean)) (by decide) rfl ?_
  intro p e s m args below meth c s₁ B hml hv
  obtain ⟨rfl, hP, hK⟩ := hv
  have hx := B.exec
  have hb := B.bytes
  have hr := B.returns
  have hts0 := atoms_spec (ws := .code yX6_isDay cX6_isDay 1 (some .boolean) :: tb) B.pre
  have hts : ∀ w ∈ tb, w.before _ s = true := fun w hw => hts0 w (List.mem_cons_of_mem _ hw)
  have hown : s.vm.findClass RX6 = some m.cls := findClass_of_methodNamed B.named
  have hlocks := B.notSynchronized
  have hl := lv_entry ([.int p1]) (n := 1) (Nat.le_of_ble_eq_true rfl)
  rw [lg_entry_eq]
  generalize (lg_sl ([.int p1]) ++ List.replicate (1 - (lg_sl ([.int p1])).length) Slot.unset).toArray = ls at hl ⊢
  have hl : lv_has ls 1 [(0, .int p1)] := hl
  refine lv_iload_n hx hb dX6_isDay_0 rfl (lv_at hl 0 rfl) ?_
  refine lv_if_lt (tgt := 15) hx hb dX6_isDay_1 (by decide) (fun c_1 => ?_) (fun c_1 => ?_)
  · refine lv_iconst (v := 0) hx hb dX6_isDay_15 (by decide) ?_
    exact W.zret (v := 0) hx hb hr narrow_b0 (fun t ht hW => ⟨_, rfl, (by rw [fX6_isDay, if_pos c_1]), ht⟩) (fun _ h => absurd h List.not_mem_nil) dX6_isDay_16
  · refine lv_iload_n hx hb dX6_isDay_4 rfl (lv_at hl 0 rfl) ?_
    refine lv_sipush (v := 2000) hx hb dX6_isDay_5 (by decide) ?_
    refine lv_icmp_gt (tgt := 15) hx hb dX6_isDay_8 (by decide) (fun c_8 => ?_) (fun c_8 => ?_)
    · refine lv_iconst (v := 0) hx hb dX6_isDay_15 (by decide) ?_
      exact W.zret (v := 0) hx hb hr narrow_b0 (fun t ht hW => ⟨_, rfl, (by rw [fX6_isDay, if_neg c_1, if_pos c_8]), ht⟩) (fun _ h => absurd h List.not_mem_nil) dX6_isDay_16
    · refine lv_iconst (v := 1) hx hb dX6_isDay_11 (by decide) ?_
      refine lv_goto (tgt := 16) hx hb dX6_isDay_12 (by decide) ?_
      exact W.zret (v := 1) hx hb hr narrow_b1 (fun t ht hW => ⟨_, rfl, (by rw [fX6_isDay, if_neg c_1, if_neg c_8]), ht⟩) (fun _ h => absurd h List.not_mem_nil) dX6_isDay_16

def fX6_isCode (σ : St) (p1 : Int32) : Int32 :=
  (if p1 < 0 then 0 else (if 99 < p1 then 0 else 1))
set_option maxHeartbeats 4000000 in
set_option maxRecDepth 100000 in
theorem c_X6_isCode (l : Launch) (dC : Nat → ClassId) (dI : Nat → Nat → Nat) (cI cJ : ClassId) (q : Nat → Nat) (σ : St) (p1 : Int32) : Met l yX6_isCode (.code yX6_isCode cX6_isCode 1 (some .boolean) :: tb) { frames := 0, cells := 0, slots := 0, locals := 0 } (Pu (dC, dI) (tyC cI cJ) (wT cI cJ q σ) [.int p1]) (vp_Si (fun r => r = fX6_isCode σ p1)) 0 0 (fun _ => False) := by
  refine Met.ofW (cc := cX6_isCode) (maxL := 1) (ret := (some .boolean)) (by decide) rfl ?_
  intro p e s m args below meth c s₁ B hml hv
  obtain ⟨rfl, hP, hK⟩ := hv
  have hx := B.exec
  have hb := B.bytes
  have hr := B.returns
  have hts0 := atoms_spec (ws := .code yX6_isCode cX6_isCode 1 (some .boolean) :: tb) B.pre
  have hts : ∀ w ∈ tb, w.before _ s = true := fun w hw => hts0 w (List.mem_cons_of_mem _ hw)
  have hown : s.vm.findClass RX6 = some m.cls := findClass_of_methodNamed B.named
  have hlocks := B.notSynchronized
  have hl := lv_entry ([.int p1]) (n := 1) (Nat.le_of_ble_eq_true rfl)
  rw [lg_entry_eq]
  generalize (lg_sl ([.int p1]) ++ List.replicate (1 - (lg_sl ([.int p1])).length) Slot.unset).toArray = ls at hl ⊢
  have hl : lv_has ls 1 [(0, .int p1)] := hl
  refine lv_iload_n hx hb dX6_isCode_0 rfl (lv_at hl 0 rfl) ?_
  refine lv_if_lt (tgt := 14) hx hb dX6_isCode_1 (by decide) (fun c_1 => ?_) (fun c_1 => ?_)
  · refine lv_iconst (v := 0) hx hb dX6_isCode_14 (by decide) ?_
    exact W.zret (v := 0) hx hb hr narrow_b0 (fun t ht hW => ⟨_, rfl, (by rw [fX6_isCode, if_pos c_1]), ht⟩) (fun _ h => absurd h List.not_mem_nil) dX6_isCode_15
  · refine lv_iload_n hx hb dX6_isCode_4 rfl (lv_at hl 0 rfl) ?_
    refine lv_bipush (v := 99) hx hb dX6_isCode_5 (by decide) ?_
    refine lv_icmp_gt (tgt := 14) hx hb dX6_isCode_7 (by decide) (fun c_7 => ?_) (fun c_7 => ?_)
    · refine lv_iconst (v := 0) hx hb dX6_isCode_14 (by decide) ?_
      exact W.zret (v := 0) hx hb hr narrow_b0 (fun t ht hW => ⟨_, rfl, (by rw [fX6_isCode, if_neg c_1, if_pos c_7]), ht⟩) (fun _ h => absurd h List.not_mem_nil) dX6_isCode_15
    · refine lv_iconst (v := 1) hx hb dX6_isCode_10 (by decide) ?_
      refine lv_goto (tgt := 15) hx hb dX6_isCode_11 (by decide) ?_
      exact W.zret (v := 1) hx hb hr narrow_b1 (fun t ht hW => ⟨_, rfl, (by rw [fX6_isCode, if_neg c_1, if_neg c_7]), ht⟩) (fun _ h => absurd h List.not_mem_nil) dX6_isCode_15

def fX6_isMark (σ : St) (p1 : Int32) : Int32 :=
  (if p1 < 0 then 0 else (if 3 < p1 then 0 else 1))
set_option maxHeartbeats 4000000 in
set_option maxRecDepth 100000 in
theorem c_X6_isMark (l : Launch) (dC : Nat → ClassId) (dI : Nat → Nat → Nat) (cI cJ : ClassId) (q : Nat → Nat) (σ : St) (p1 : Int32) : Met l yX6_isMark (.code yX6_isMark cX6_isMark 1 (some .boolean) :: tb) { frames := 0, cells := 0, slots := 0, locals := 0 } (Pu (dC, dI) (tyC cI cJ) (wT cI cJ q σ) [.int p1]) (vp_Si (fun r => r = fX6_isMark σ p1)) 0 0 (fun _ => False) := by
  refine Met.ofW (cc := cX6_isMark) (maxL := 1) (ret := (some .boolean)) (by decide) rfl ?_
  intro p e s m args below meth c s₁ B hml hv
  obtain ⟨rfl, hP, hK⟩ := hv
  have hx := B.exec
  have hb := B.bytes
  have hr := B.returns
  have hts0 := atoms_spec (ws := .code yX6_isMark cX6_isMark 1 (some .boolean) :: tb) B.pre
  have hts : ∀ w ∈ tb, w.before _ s = true := fun w hw => hts0 w (List.mem_cons_of_mem _ hw)
  have hown : s.vm.findClass RX6 = some m.cls := findClass_of_methodNamed B.named
  have hlocks := B.notSynchronized
  have hl := lv_entry ([.int p1]) (n := 1) (Nat.le_of_ble_eq_true rfl)
  rw [lg_entry_eq]
  generalize (lg_sl ([.int p1]) ++ List.replicate (1 - (lg_sl ([.int p1])).length) Slot.unset).toArray = ls at hl ⊢
  have hl : lv_has ls 1 [(0, .int p1)] := hl
  refine lv_iload_n hx hb dX6_isMark_0 rfl (lv_at hl 0 rfl) ?_
  refine lv_if_lt (tgt := 13) hx hb dX6_isMark_1 (by decide) (fun c_1 => ?_) (fun c_1 => ?_)
  · refine lv_iconst (v := 0) hx hb dX6_isMark_13 (by decide) ?_
    exact W.zret (v := 0) hx hb hr narrow_b0 (fun t ht hW => ⟨_, rfl, (by rw [fX6_isMark, if_pos c_1]), ht⟩) (fun _ h => absurd h List.not_mem_nil) dX6_isMark_14
  · refine lv_iload_n hx hb dX6_isMark_4 rfl (lv_at hl 0 rfl) ?_
    refine lv_iconst (v := 3) hx hb dX6_isMark_5 (by decide) ?_
    refine lv_icmp_gt (tgt := 13) hx hb dX6_isMark_6 (by decide) (fun c_6 => ?_) (fun c_6 => ?_)
    · refine lv_iconst (v := 0) hx hb dX6_isMark_13 (by decide) ?_
      exact W.zret (v := 0) hx hb hr narrow_b0 (fun t ht hW => ⟨_, rfl, (by rw [fX6_isMark, if_neg c_1, if_pos c_6]), ht⟩) (fun _ h => absurd h List.not_mem_nil) dX6_isMark_14
    · refine lv_iconst (v := 1) hx hb dX6_isMark_9 (by decide) ?_
      refine lv_goto (tgt := 14) hx hb dX6_isMark_10 (by decide) ?_
      exact W.zret (v := 1) hx hb hr narrow_b1 (fun t ht hW => ⟨_, rfl, (by rw [fX6_isMark, if_neg c_1, if_neg c_6]), ht⟩) (fun _ h => absurd h List.not_mem_nil) dX6_isMark_14

def fX6_isAnswer (σ : St) (p1 : Int32) : Int32 :=
  (if p1 < 0 then 0 else (if 100 < p1 then 0 else 1))
set_option maxHeartbeats 4000000 in
set_option maxRecDepth 100000 in
theorem c_X6_isAnswer (l : Launch) (dC : Nat → ClassId) (dI : Nat → Nat → Nat) (cI cJ : ClassId) (q : Nat → Nat) (σ : St) (p1 : Int32) : Met l yX6_isAnswer (.code yX6_isAnswer cX6_isAnswer 1 (some .boolean) :: tb) { frames := 0, cells := 0, slots := 0, locals := 0 } (Pu (dC, dI) (tyC cI cJ) (wT cI cJ q σ) [.int p1]) (vp_Si (fun r => r = fX6_isAnswer σ p1)) 0 0 (fun _ => False) := by
  refine Met.ofW (cc := cX6_isAnswer) (maxL := 1) (ret := (some .boolean)) (by decide) rfl ?_
  intro p e s m args below meth c s₁ B hml hv
  obtain ⟨rfl, hP, hK⟩ := hv
  have hx := B.exec
  have hb := B.bytes
  have hr := B.returns
  have hts0 := atoms_spec (ws := .code yX6_isAnswer cX6_isAnswer 1 (some .boolean) :: tb) B.pre
  have hts : ∀ w ∈ tb, w.before _ s = true := fun w hw => hts0 w (List.mem_cons_of_mem _ hw)
  have hown : s.vm.findClass RX6 = some m.cls := findClass_of_methodNamed B.named
  have hlocks := B.notSynchronized
  have hl := lv_entry ([.int p1]) (n := 1) (Nat.le_of_ble_eq_true rfl)
  rw [lg_entry_eq]
  generalize (lg_sl ([.int p1]) ++ List.replicate (1 - (lg_sl ([.int p1])).length) Slot.unset).toArray = ls at hl ⊢
  have hl : lv_has ls 1 [(0, .int p1)] := hl
  refine lv_iload_n hx hb dX6_isAnswer_0 rfl (lv_at hl 0 rfl) ?_
  refine lv_if_lt (tgt := 14) hx hb dX6_isAnswer_1 (by decide) (fun c_1 => ?_) (fun c_1 => ?_)
  · refine lv_iconst (v := 0) hx hb dX6_isAnswer_14 (by decide) ?_
    exact W.zret (v := 0) hx hb hr narrow_b0 (fun t ht hW => ⟨_, rfl, (by rw [fX6_isAnswer, if_pos c_1]), ht⟩) (fun _ h => absurd h List.not_mem_nil) dX6_isAnswer_15
  · refine lv_iload_n hx hb dX6_isAnswer_4 rfl (lv_at hl 0 rfl) ?_
    refine lv_bipush (v := 100) hx hb dX6_isAnswer_5 (by decide) ?_
    refine lv_icmp_gt (tgt := 14) hx hb dX6_isAnswer_7 (by decide) (fun c_7 => ?_) (fun c_7 => ?_)
    · refine lv_iconst (v := 0) hx hb dX6_isAnswer_14 (by decide) ?_
      exact W.zret (v := 0) hx hb hr narrow_b0 (fun t ht hW => ⟨_, rfl, (by rw [fX6_isAnswer, if_neg c_1, if_pos c_7]), ht⟩) (fun _ h => absurd h List.not_mem_nil) dX6_isAnswer_15
    · refine lv_iconst (v := 1) hx hb dX6_isAnswer_10 (by decide) ?_
      refine lv_goto (tgt := 15) hx hb dX6_isAnswer_11 (by decide) ?_
      exact W.zret (v := 1) hx hb hr narrow_b1 (fun t ht hW => ⟨_, rfl, (by rw [fX6_isAnswer, if_neg c_1, if_neg c_7]), ht⟩) (fun _ h => absurd h List.not_mem_nil) dX6_isAnswer_15

def fX6_isShare (σ : St) (p1 : Int32) (p2 : Int32) : Int32 :=
  (if p2 < 1 then 0 else (if 100 < p2 then 0 else (if p1 < 0 then 0 else (if p2 < p1 then 0 else 1))))
set_option maxHeartbeats 4000000 in
set_option maxRecDepth 100000 in
theorem c_X6_isShare (l : Launch) (dC : Nat → ClassId) (dI : Nat → Nat → Nat) (cI cJ : ClassId) (q : Nat → Nat) (σ : St) (p1 : Int32) (p2 : Int32) : Met l yX6_isShare (.code yX6_isShare cX6_isShare 2 (some .boolean) :: tb) { frames := 0, cells := 0, slots := 0, locals := 0 } (Pu (dC, dI) (tyC cI cJ) (wT cI cJ q σ) [.int p1, .int p2]) (vp_Si (fun r => r = fX6_isShare σ p1 p2)) 0 0 (fun _ => False) := by
  refine Met.ofW (cc := cX6_isShare) (maxL := 2) (ret := (some .boolean)) (by decide) rfl ?_
  intro p e s m args below meth c s₁ B hml hv
  obtain ⟨rfl, hP, hK⟩ := hv
  have hx := B.exec
  have hb := B.bytes
  have hr := B.returns
  have hts0 := atoms_spec (ws := .code yX6_isShare cX6_isShare 2 (some .boolean) :: tb) B.pre
  have hts : ∀ w ∈ tb, w.before _ s = true := fun w hw => hts0 w (List.mem_cons_of_mem _ hw)
  have hown : s.vm.findClass RX6 = some m.cls := findClass_of_methodNamed B.named
  have hlocks := B.notSynchronized
  have hl := lv_entry ([.int p1, .int p2]) (n := 2) (Nat.le_of_ble_eq_true rfl)
  rw [lg_entry_eq]
  generalize (lg_sl ([.int p1, .int p2]) ++ List.replicate (2 - (lg_sl ([.int p1, .int p2])).length) Slot.unset).toArray = ls at hl ⊢
  have hl : lv_has ls 2 [(0, .int p1), (1, .int p2)] := hl
  refine lv_iload_n hx hb dX6_isShare_0 rfl (lv_at hl 1 rfl) ?_
  refine lv_iconst (v := 1) hx hb dX6_isShare_1 (by decide) ?_
  refine lv_icmp_lt (tgt := 24) hx hb dX6_isShare_2 (by decide) (fun c_2 => ?_) (fun c_2 => ?_)
  · refine lv_iconst (v := 0) hx hb dX6_isShare_24 (by decide) ?_
    exact W.zret (v := 0) hx hb hr narrow_b0 (fun t ht hW => ⟨_, rfl, (by rw [fX6_isShare, if_pos c_2]), ht⟩) (fun _ h => absurd h List.not_mem_nil) dX6_isShare_25
  · refine lv_iload_n hx hb dX6_isShare_5 rfl (lv_at hl 1 rfl) ?_
    refine lv_bipush (v := 100) hx hb dX6_isShare_6 (by decide) ?_
    refine lv_icmp_gt (tgt := 24) hx hb dX6_isShare_8 (by decide) (fun c_8 => ?_) (fun c_8 => ?_)
    · refine lv_iconst (v := 0) hx hb dX6_isShare_24 (by decide) ?_
      exact W.zret (v := 0) hx hb hr narrow_b0 (fun t ht hW => ⟨_, rfl, (by rw [fX6_isShare, if_neg c_2, if_pos c_8]), ht⟩) (fun _ h => absurd h List.not_mem_nil) dX6_isShare_25
    · refine lv_iload_n hx hb dX6_isShare_11 rfl (lv_at hl 0 rfl) ?_
      refine lv_if_lt (tgt := 24) hx hb dX6_isShare_12 (by decide) (fun c_12 => ?_) (fun c_12 => ?_)
      · refine lv_iconst (v := 0) hx hb dX6_isShare_24 (by decide) ?_
        exact W.zret (v := 0) hx hb hr narrow_b0 (fun t ht hW => ⟨_, rfl, (by rw [fX6_isShare, if_neg c_2, if_neg c_8, if_pos c_12]), ht⟩) (fun _ h => absurd h List.not_mem_nil) dX6_isShare_25
      · refine lv_iload_n hx hb dX6_isShare_15 rfl (lv_at hl 0 rfl) ?_
        refine lv_iload_n hx hb dX6_isShare_16 rfl (lv_at hl 1 rfl) ?_
        refine lv_icmp_gt (tgt := 24) hx hb dX6_isShare_17 (by decide) (fun c_17 => ?_) (fun c_17 => ?_)
        · refine lv_iconst (v := 0) hx hb dX6_isShare_24 (by decide) ?_
          exact W.zret (v := 0) hx hb hr narrow_b0 (fun t ht hW => ⟨_, rfl, (by rw [fX6_isShare, if_neg c_2, if_neg c_8, if_neg c_12, if_pos c_17]), ht⟩) (fun _ h => absurd h List.not_mem_nil) dX6_isShare_25
        · refine lv_iconst (v := 1) hx hb dX6_isShare_20 (by decide) ?_
          refine lv_goto (tgt := 25) hx hb dX6_isShare_21 (by decide) ?_
          exact W.zret (v := 1) hx hb hr narrow_b1 (fun t ht hW => ⟨_, rfl, (by rw [fX6_isShare, if_neg c_2, if_neg c_8, if_neg c_12, if_neg c_17]), ht⟩) (fun _ h => absurd h List.not_mem_nil) dX6_isShare_25

def fX6_canEnd (σ : St) (p1 : Int32) (p2 : Int32) : Int32 :=
  (if (fX6_isDay σ p2) = 0 then 0 else (if (fX5_has σ p1) = 0 then 0 else (if (fX5_hasEnd σ p1) = 0 then (if p2 ≤ (σ.1 1 p1.toNatClampNeg) then 0 else 1) else 0)))
set_option maxHeartbeats 4000000 in
set_option maxRecDepth 100000 in
theorem c_X6_canEnd (l : Launch) (dC : Nat → ClassId) (dI : Nat → Nat → Nat) (cI cJ : ClassId) (q : Nat → Nat) (σ : St) (p1 : Int32) (p2 : Int32) (hI : IB σ) : Met l yX6_canEnd (.code yX6_canEnd cX6_canEnd 3 (some .boolean) :: tb) { frames := 1, cells := 0, slots := 0, locals := 21 } (Pu (dC, dI) (tyC cI cJ) (wT cI cJ q σ) [.ref (q 0), .int p1, .int p2]) (vp_Si (fun r => r = fX6_canEnd σ p1 p2)) 0 0 (fun _ => False) := by
  refine Met.ofW (cc := cX6_canEnd) (maxL := 3) (ret := (some .boolean)) (by decide) rfl ?_
  intro p e s m args below meth c s₁ B hml hv
  obtain ⟨rfl, hP, hK⟩ := hv
  have hx := B.exec
  have hb := B.bytes
  have hr := B.returns
  have hts0 := atoms_spec (ws := .code yX6_canEnd cX6_canEnd 3 (some .boolean) :: tb) B.pre
  have hts : ∀ w ∈ tb, w.before _ s = true := fun w hw => hts0 w (List.mem_cons_of_mem _ hw)
  have hown : s.vm.findClass RX6 = some m.cls := findClass_of_methodNamed B.named
  have hlocks := B.notSynchronized
  have hl := lv_entry ([.ref (q 0), .int p1, .int p2]) (n := 3) (Nat.le_of_ble_eq_true rfl)
  rw [lg_entry_eq]
  generalize (lg_sl ([.ref (q 0), .int p1, .int p2]) ++ List.replicate (3 - (lg_sl ([.ref (q 0), .int p1, .int p2])).length) Slot.unset).toArray = ls at hl ⊢
  have hl : lv_has ls 3 [(0, .ref (q 0)), (1, .int p1), (2, .int p2)] := hl
  refine lv_iload_n hx hb dX6_canEnd_0 rfl (lv_at hl 2 rfl) ?_
  refine xc_i (va_runS (As := [.int p2]) (rest := []) ⟨hx, hb, hml, hown, hts⟩ (c_X6_isDay l dC dI cI cJ q σ p2) (va_cwS 1 hts (gS ml_X6_56 st_X6_isDay in_X6 co_X6_isDay) rfl rfl rfl (by decide +kernel) ⟨Nat.le_of_ble_eq_true rfl, Nat.le_of_ble_eq_true rfl⟩) (preS hK hP) rfl rfl hl.1 rfl (lv_room (Nat.le_of_ble_eq_true rfl)) dX6_canEnd_1 ⟨Nat.zero_le _, Nat.zero_le _⟩) ?_
  refine lv_if_eq (tgt := 45) hx hb dX6_canEnd_4 (by decide) (fun c_4 => ?_) (fun c_4 => ?_)
  · refine lv_iconst (v := 0) hx hb dX6_canEnd_45 (by decide) ?_
    exact W.zret (v := 0) hx hb hr narrow_b0 (fun t ht hW => ⟨_, rfl, (by rw [fX6_canEnd, if_pos c_4]), ht⟩) (fun _ h => absurd h List.not_mem_nil) dX6_canEnd_46
  · refine lv_aload_n hx hb dX6_canEnd_7 rfl (lv_at hl 0 rfl) ?_
    refine va_get (D := (dC, dI)) (ci := 6) (v := .ref (q 3)) (C := RX6) (T := TX6) (N := 6) hx hb hts inX6 hown hK hP 0 rfl rfl 1 (by decide) (hts _ fl_X6_19) (fun _ h9 => h9) rfl dX6_canEnd_8 ?_
    refine lv_iload_n hx hb dX6_canEnd_11 rfl (lv_at hl 1 rfl) ?_
    refine xc_i (va_runV (As := [.int p1]) (rest := []) ⟨hx, hb, hml, hown, hts⟩ (c_X5_has l dC dI cI cJ q σ p1) (cwV 1 hts (gV ml_X6_86 im_X5_has se_X5_has in_X5 co_X5_has) rfl rfl rfl (by decide +kernel) ⟨Nat.le_of_ble_eq_true rfl, Nat.le_of_ble_eq_true rfl⟩) (preV hK hP (pos := 3) (ci := 5) rfl rfl) rfl rfl hl.1 rfl (lv_room (Nat.le_of_ble_eq_true rfl)) dX6_canEnd_12 ⟨Nat.zero_le _, Nat.zero_le _⟩) ?_
    refine lv_if_eq (tgt := 45) hx hb dX6_canEnd_15 (by decide) (fun c_15 => ?_) (fun c_15 => ?_)
    · refine lv_iconst (v := 0) hx hb dX6_canEnd_45 (by decide) ?_
      exact W.zret (v := 0) hx hb hr narrow_b0 (fun t ht hW => ⟨_, rfl, (by rw [fX6_canEnd, if_neg c_4, if_pos c_15]), ht⟩) (fun _ h => absurd h List.not_mem_nil) dX6_canEnd_46
    · refine lv_aload_n hx hb dX6_canEnd_18 rfl (lv_at hl 0 rfl) ?_
      refine va_get (D := (dC, dI)) (ci := 6) (v := .ref (q 3)) (C := RX6) (T := TX6) (N := 6) hx hb hts inX6 hown hK hP 0 rfl rfl 1 (by decide) (hts _ fl_X6_19) (fun _ h9 => h9) rfl dX6_canEnd_19 ?_
      refine lv_iload_n hx hb dX6_canEnd_22 rfl (lv_at hl 1 rfl) ?_
      refine xc_i (va_runV (As := [.int p1]) (rest := []) ⟨hx, hb, hml, hown, hts⟩ (c_X5_hasEnd l dC dI cI cJ q σ p1 (has_in40 hI c_15)) (cwV 1 hts (gV ml_X6_194 im_X5_hasEnd se_X5_hasEnd in_X5 co_X5_hasEnd) rfl rfl rfl (by decide +kernel) ⟨Nat.le_of_ble_eq_true rfl, Nat.le_of_ble_eq_true rfl⟩) (preV hK hP (pos := 3) (ci := 5) rfl rfl) rfl rfl hl.1 rfl (lv_room (Nat.le_of_ble_eq_true rfl)) dX6_canEnd_23 ⟨Nat.zero_le _, Nat.zero_le _⟩) ?_
      refine lv_if_ne (tgt := 45) hx hb dX6_canEnd_26 (by decide) (fun c_26 => ?_) (fun c_26 => ?_)
      · refine lv_iconst (v := 0) hx hb dX6_canEnd_45 (by decide) ?_
        exact W.zret (v := 0) hx hb hr narrow_b0 (fun t ht hW => ⟨_, rfl, (by rw [fX6_canEnd, if_neg c_4, if_neg c_15, if_neg c_26]), ht⟩) (fun _ h => absurd h List.not_mem_nil) dX6_canEnd_46
      · refine lv_iload_n hx hb dX6_canEnd_29 rfl (lv_at hl 2 rfl) ?_
        refine lv_aload_n hx hb dX6_canEnd_30 rfl (lv_at hl 0 rfl) ?_
        refine va_get (D := (dC, dI)) (ci := 6) (v := .ref (q 3)) (C := RX6) (T := TX6) (N := 6) hx hb hts inX6 hown hK hP 0 rfl rfl 1 (by decide) (hts _ fl_X6_19) (fun _ h9 => h9) rfl dX6_canEnd_31 ?_
        refine lv_iload_n hx hb dX6_canEnd_34 rfl (lv_at hl 1 rfl) ?_
        refine xc_i (va_runV (As := [.int p1]) (rest := [.int p2]) ⟨hx, hb, hml, hown, hts⟩ (c_X5_birthOf l dC dI cI cJ q σ p1 (has_in40 hI c_15)) (cwV 1 hts (gV ml_X6_129 im_X5_birthOf se_X5_birthOf in_X5 co_X5_birthOf) rfl rfl rfl (by decide +kernel) ⟨Nat.le_of_ble_eq_true rfl, Nat.le_of_ble_eq_true rfl⟩) (preV hK hP (pos := 3) (ci := 5) rfl rfl) rfl rfl hl.1 rfl (lv_room (Nat.le_of_ble_eq_true rfl)) dX6_canEnd_35 ⟨Nat.zero_le _, Nat.zero_le _⟩) ?_
        refine lv_icmp_le (tgt := 45) hx hb dX6_canEnd_38 (by decide) (fun c_38 => ?_) (fun c_38 => ?_)
        · refine lv_iconst (v := 0) hx hb dX6_canEnd_45 (by decide) ?_
          exact W.zret (v := 0) hx hb hr narrow_b0 (fun t ht hW => ⟨_, rfl, (by rw [fX6_canEnd, if_neg c_4, if_neg c_15, if_pos c_26, if_pos c_38]), ht⟩) (fun _ h => absurd h List.not_mem_nil) dX6_canEnd_46
        · refine lv_iconst (v := 1) hx hb dX6_canEnd_41 (by decide) ?_
          refine lv_goto (tgt := 46) hx hb dX6_canEnd_42 (by decide) ?_
          exact W.zret (v := 1) hx hb hr narrow_b1 (fun t ht hW => ⟨_, rfl, (by rw [fX6_canEnd, if_neg c_4, if_neg c_15, if_pos c_26, if_neg c_38]), ht⟩) (fun _ h => absurd h List.not_mem_nil) dX6_canEnd_46

theorem canEnd_in {σ : St} {x d : Int32} (hI : IB σ) (c : ¬ fX6_canEnd σ x d = 0) : vp_in x 40 := by
  unfold fX6_canEnd at c
  split at c
  · exact absurd rfl c
  · split at c
    · exact absurd rfl c
    · exact has_in40 hI (by assumption)

def fX6_isFixed (σ : St) (p1 : Int32) : Int32 :=
  (if (fX4_valueOn σ p1 0 (σ.2.1 0) (σ.2.1 0)) = 100 then 0 else 1)
set_option maxHeartbeats 4000000 in
set_option maxRecDepth 100000 in
theorem c_X6_isFixed (l : Launch) (dC : Nat → ClassId) (dI : Nat → Nat → Nat) (cI cJ : ClassId) (q : Nat → Nat) (σ : St) (p1 : Int32) (hI : IB σ) : Met l yX6_isFixed (.code yX6_isFixed cX6_isFixed 2 (some .boolean) :: tb) { frames := 3, cells := 0, slots := 0, locals := 70 } (Pu (dC, dI) (tyC cI cJ) (wT cI cJ q σ) [.ref (q 0), .int p1]) (vp_Si (fun r => r = fX6_isFixed σ p1)) 0 0 (fun _ => False) := by
  refine Met.ofW (cc := cX6_isFixed) (maxL := 2) (ret := (some .boolean)) (by decide) rfl ?_
  intro p e s m args below meth c s₁ B hml hv
  obtain ⟨rfl, hP, hK⟩ := hv
  have hx := B.exec
  have hb := B.bytes
  have hr := B.returns
  have hts0 := atoms_spec (ws := .code yX6_isFixed cX6_isFixed 2 (some .boolean) :: tb) B.pre
  have hts : ∀ w ∈ tb, w.before _ s = true := fun w hw => hts0 w (List.mem_cons_of_mem _ hw)
  have hown : s.vm.findClass RX6 = some m.cls := findClass_of_methodNamed B.named
  have hlocks := B.notSynchronized
  have hl := lv_entry ([.ref (q 0), .int p1]) (n := 2) (Nat.le_of_ble_eq_true rfl)
  rw [lg_entry_eq]
  generalize (lg_sl ([.ref (q 0), .int p1]) ++ List.replicate (2 - (lg_sl ([.ref (q 0), .int p1])).length) Slot.unset).toArray = ls at hl ⊢
  have hl : lv_has ls 2 [(0, .ref (q 0)), (1, .int p1)] := hl
  refine lv_aload_n hx hb dX6_isFixed_0 rfl (lv_at hl 0 rfl) ?_
  refine va_get (D := (dC, dI)) (ci := 6) (v := .ref (q 13)) (C := RX6) (T := TX6) (N := 6) hx hb hts inX6 hown hK hP 0 rfl rfl 2 (by decide) (hts _ fl_X6_28) (fun _ h9 => h9) rfl dX6_isFixed_1 ?_
  refine lv_iload_n hx hb dX6_isFixed_4 rfl (lv_at hl 1 rfl) ?_
  refine lv_iconst (v := 0) hx hb dX6_isFixed_5 (by decide) ?_
  refine lv_aload_n hx hb dX6_isFixed_6 rfl (lv_at hl 0 rfl) ?_
  refine va_get (D := (dC, dI)) (ci := 6) (v := .int (σ.2.1 0)) (C := RX6) (T := TX6) (N := 6) hx hb hts inX6 hown hK hP 0 rfl rfl 5 (by decide) (hts _ fl_X6_48) (fun _ h9 => h9) rfl dX6_isFixed_7 ?_
  refine lv_aload_n hx hb dX6_isFixed_10 rfl (lv_at hl 0 rfl) ?_
  refine va_get (D := (dC, dI)) (ci := 6) (v := .int (σ.2.1 0)) (C := RX6) (T := TX6) (N := 6) hx hb hts inX6 hown hK hP 0 rfl rfl 5 (by decide) (hts _ fl_X6_48) (fun _ h9 => h9) rfl dX6_isFixed_11 ?_
  refine xc_i (va_runV (As := [.int p1, .int 0, .int (σ.2.1 0), .int (σ.2.1 0)]) (rest := []) ⟨hx, hb, hml, hown, hts⟩ (c_X4_valueOn l dC dI cI cJ q σ p1 0 (σ.2.1 0) (σ.2.1 0) (by assumption)) (cwV 4 hts (gV ml_X6_123 im_X4_valueOn se_X4_valueOn in_X4 co_X4_valueOn) rfl rfl rfl (by decide +kernel) ⟨Nat.le_of_ble_eq_true rfl, Nat.le_of_ble_eq_true rfl⟩) (preV hK hP (pos := 13) (ci := 4) rfl rfl) rfl rfl hl.1 rfl (lv_room (Nat.le_of_ble_eq_true rfl)) dX6_isFixed_14 ⟨Nat.zero_le _, Nat.zero_le _⟩) ?_
  refine lv_bipush (v := 100) hx hb dX6_isFixed_17 (by decide) ?_
  refine lv_icmp_eq (tgt := 26) hx hb dX6_isFixed_19 (by decide) (fun c_19 => ?_) (fun c_19 => ?_)
  · refine lv_iconst (v := 0) hx hb dX6_isFixed_26 (by decide) ?_
    exact W.zret (v := 0) hx hb hr narrow_b0 (fun t ht hW => ⟨_, rfl, (by rw [fX6_isFixed, if_pos c_19]), ht⟩) (fun _ h => absurd h List.not_mem_nil) dX6_isFixed_27
  · refine lv_iconst (v := 1) hx hb dX6_isFixed_22 (by decide) ?_
    refine lv_goto (tgt := 27) hx hb dX6_isFixed_23 (by decide) ?_
    exact W.zret (v := 1) hx hb hr narrow_b1 (fun t ht hW => ⟨_, rfl, (by rw [fX6_isFixed, if_neg c_19]), ht⟩) (fun _ h => absurd h List.not_mem_nil) dX6_isFixed_27

set_option maxHeartbeats 4000000 in
set_option maxRecDepth 100000 in
theorem c_X6_thingOfFact (l : Launch) (dC : Nat → ClassId) (dI : Nat → Nat → Nat) (cI cJ : ClassId) (q : Nat → Nat) (σ : St) (p1 : Int32) (p2 : Int32) (hI : IB σ) (hR : vp_in p1 200) : Met l yX6_thingOfFact (.code yX6_thingOfFact cX6_thingOfFact 3 (some .int) :: tb) { frames := 4, cells := 0, slots := 0, locals := 91 } (Pu (dC, dI) (tyC cI cJ) (wT cI cJ q σ) [.ref (q 0), .int p1, .int p2]) (vp_Si (fun r => r = fX5_livingOn σ (σ.1 15 p1.toNatClampNeg) (σ.1 16 p1.toNatClampNeg) p2)) 0 0 (fun _ => False) := by
  refine Met.ofW (cc := cX6_thingOfFact) (maxL := 3) (ret := (some .int)) (by decide) rfl ?_
  intro p e s m args below meth c s₁ B hml hv
  obtain ⟨rfl, hP, hK⟩ := hv
  have hx := B.exec
  have hb := B.bytes
  have hr := B.returns
  have hts0 := atoms_spec (ws := .code yX6_thingOfFact cX6_thingOfFact 3 (some .int) :: tb) B.pre
  have hts : ∀ w ∈ tb, w.before _ s = true := fun w hw => hts0 w (List.mem_cons_of_mem _ hw)
  have hown : s.vm.findClass RX6 = some m.cls := findClass_of_methodNamed B.named
  have hlocks := B.notSynchronized
  have hl := lv_entry ([.ref (q 0), .int p1, .int p2]) (n := 3) (Nat.le_of_ble_eq_true rfl)
  rw [lg_entry_eq]
  generalize (lg_sl ([.ref (q 0), .int p1, .int p2]) ++ List.replicate (3 - (lg_sl ([.ref (q 0), .int p1, .int p2])).length) Slot.unset).toArray = ls at hl ⊢
  have hl : lv_has ls 3 [(0, .ref (q 0)), (1, .int p1), (2, .int p2)] := hl
  refine lv_aload_n hx hb dX6_thingOfFact_0 rfl (lv_at hl 0 rfl) ?_
  refine va_get (D := (dC, dI)) (ci := 6) (v := .ref (q 3)) (C := RX6) (T := TX6) (N := 6) hx hb hts inX6 hown hK hP 0 rfl rfl 1 (by decide) (hts _ fl_X6_19) (fun _ h9 => h9) rfl dX6_thingOfFact_1 ?_
  refine lv_aload_n hx hb dX6_thingOfFact_4 rfl (lv_at hl 0 rfl) ?_
  refine va_get (D := (dC, dI)) (ci := 6) (v := .ref (q 21)) (C := RX6) (T := TX6) (N := 6) hx hb hts inX6 hown hK hP 0 rfl rfl 3 (by decide) (hts _ fl_X6_35) (fun _ h9 => h9) rfl dX6_thingOfFact_5 ?_
  refine lv_iload_n hx hb dX6_thingOfFact_8 rfl (lv_at hl 1 rfl) ?_
  refine xc_i (va_runV (As := [.int p1]) (rest := [.ref (q 3)]) ⟨hx, hb, hml, hown, hts⟩ (c_X1_codeOf l dC dI cI cJ q σ p1 (by assumption)) (cwV 1 hts (gV ml_X6_197 im_X1_codeOf se_X1_codeOf in_X1 co_X1_codeOf) rfl rfl rfl (by decide +kernel) ⟨Nat.le_of_ble_eq_true rfl, Nat.le_of_ble_eq_true rfl⟩) (preV hK hP (pos := 21) (ci := 1) rfl rfl) rfl rfl hl.1 rfl (lv_room (Nat.le_of_ble_eq_true rfl)) dX6_thingOfFact_9 ⟨Nat.zero_le _, Nat.zero_le _⟩) ?_
  refine lv_aload_n hx hb dX6_thingOfFact_12 rfl (lv_at hl 0 rfl) ?_
  refine va_get (D := (dC, dI)) (ci := 6) (v := .ref (q 21)) (C := RX6) (T := TX6) (N := 6) hx hb hts inX6 hown hK hP 0 rfl rfl 3 (by decide) (hts _ fl_X6_35) (fun _ h9 => h9) rfl dX6_thingOfFact_13 ?_
  refine lv_iload_n hx hb dX6_thingOfFact_16 rfl (lv_at hl 1 rfl) ?_
  refine xc_i (va_runV (As := [.int p1]) (rest := [.int (σ.1 15 p1.toNatClampNeg), .ref (q 3)]) ⟨hx, hb, hml, hown, hts⟩ (c_X1_dayOf l dC dI cI cJ q σ p1 (by assumption)) (cwV 1 hts (gV ml_X6_198 im_X1_dayOf se_X1_dayOf in_X1 co_X1_dayOf) rfl rfl rfl (by decide +kernel) ⟨Nat.le_of_ble_eq_true rfl, Nat.le_of_ble_eq_true rfl⟩) (preV hK hP (pos := 21) (ci := 1) rfl rfl) rfl rfl hl.1 rfl (lv_room (Nat.le_of_ble_eq_true rfl)) dX6_thingOfFact_17 ⟨Nat.zero_le _, Nat.zero_le _⟩) ?_
  refine lv_iload_n hx hb dX6_thingOfFact_20 rfl (lv_at hl 2 rfl) ?_
  refine xc_i (va_runV (As := [.int (σ.1 15 p1.toNatClampNeg), .int (σ.1 16 p1.toNatClampNeg), .int p2]) (rest := []) ⟨hx, hb, hml, hown, hts⟩ (c_X5_livingOn l dC dI cI cJ q σ (σ.1 15 p1.toNatClampNeg) (σ.1 16 p1.toNatClampNeg) p2 (by assumption)) (cwV 3 hts (gV ml_X6_149 im_X5_livingOn se_X5_livingOn in_X5 co_X5_livingOn) rfl rfl rfl (by decide +kernel) ⟨Nat.le_of_ble_eq_true rfl, Nat.le_of_ble_eq_true rfl⟩) (preV hK hP (pos := 3) (ci := 5) rfl rfl) rfl rfl hl.1 rfl (lv_room (Nat.le_of_ble_eq_true rfl)) dX6_thingOfFact_21 ⟨Nat.zero_le _, Nat.zero_le _⟩) ?_
  exact W.iret (v := fX5_livingOn σ (σ.1 15 p1.toNatClampNeg) (σ.1 16 p1.toNatClampNeg) p2) hx hb hr (fun t ht hW => ⟨_, rfl, rfl, ht⟩) (fun _ h => absurd h List.not_mem_nil) dX6_thingOfFact_24

def fX6_isMarkedThen (σ : St) (p1 : Int32) (p2 : Int32) (p3 : Int32) (p4 : Int32) : Int32 :=
  (if (fX5_livingOn σ (σ.1 15 p1.toNatClampNeg) (σ.1 16 p1.toNatClampNeg) p4) = (-1) then 0 else (if (fX4_valueOn σ (fX5_livingOn σ (σ.1 15 p1.toNatClampNeg) (σ.1 16 p1.toNatClampNeg) p4) p2 (σ.1 16 p1.toNatClampNeg) p4) = p3 then 1 else 0))
set_option maxHeartbeats 4000000 in
set_option maxRecDepth 100000 in
theorem c_X6_isMarkedThen (l : Launch) (dC : Nat → ClassId) (dI : Nat → Nat → Nat) (cI cJ : ClassId) (q : Nat → Nat) (σ : St) (p1 : Int32) (p2 : Int32) (p3 : Int32) (p4 : Int32) (hI : IB σ) (hR : vp_in p1 200) : Met l yX6_isMarkedThen (.code yX6_isMarkedThen cX6_isMarkedThen 6 (some .boolean) :: tb) { frames := 5, cells := 0, slots := 0, locals := 113 } (Pu (dC, dI) (tyC cI cJ) (wT cI cJ q σ) [.ref (q 0), .int p1, .int p2, .int p3, .int p4]) (vp_Si (fun r => r = fX6_isMarkedThen σ p1 p2 p3 p4)) 0 0 (fun _ => False) := by
  refine Met.ofW (cc := cX6_isMarkedThen) (maxL := 6) (ret := (some .boolean)) (by decide) rfl ?_
  intro p e s m args below meth c s₁ B hml hv
  obtain ⟨rfl, hP, hK⟩ := hv
  have hx := B.exec
  have hb := B.bytes
  have hr := B.returns
  have hts0 := atoms_spec (ws := .code yX6_isMarkedThen cX6_isMarkedThen 6 (some .boolean) :: tb) B.pre
  have hts : ∀ w ∈ tb, w.before _ s = true := fun w hw => hts0 w (List.mem_cons_of_mem _ hw)
  have hown : s.vm.findClass RX6 = some m.cls := findClass_of_methodNamed B.named
  have hlocks := B.notSynchronized
  have hl := lv_entry ([.ref (q 0), .int p1, .int p2, .int p3, .int p4]) (n := 6) (Nat.le_of_ble_eq_true rfl)
  rw [lg_entry_eq]
  generalize (lg_sl ([.ref (q 0), .int p1, .int p2, .int p3, .int p4]) ++ List.replicate (6 - (lg_sl ([.ref (q 0), .int p1, .int p2, .int p3, .int p4])).length) Slot.unset).toArray = ls at hl ⊢
  have hl : lv_has ls 6 [(0, .ref (q 0)), (1, .int p1), (2, .int p2), (3, .int p3), (4, .int p4)] := hl
  refine lv_aload_n hx hb dX6_isMarkedThen_0 rfl (lv_at hl 0 rfl) ?_
  refine lv_iload_n hx hb dX6_isMarkedThen_1 rfl (lv_at hl 1 rfl) ?_
  refine lv_iload hx hb dX6_isMarkedThen_2 (lv_at hl 4 rfl) ?_
  refine xc_i (va_runV (As := [.int p1, .int p4]) (rest := []) ⟨hx, hb, hml, hown, hts⟩ (c_X6_thingOfFact l dC dI cI cJ q σ p1 p4 (by assumption) (by assumption)) (cwV 2 hts (gV ml_X6_146 im_X6_thingOfFact se_X6_thingOfFact in_X6 co_X6_thingOfFact) rfl rfl rfl (by decide +kernel) ⟨Nat.le_of_ble_eq_true rfl, Nat.le_of_ble_eq_true rfl⟩) (preV hK hP (pos := 0) (ci := 6) rfl rfl) rfl rfl hl.1 rfl (lv_room (Nat.le_of_ble_eq_true rfl)) dX6_isMarkedThen_4 ⟨Nat.zero_le _, Nat.zero_le _⟩) ?_
  refine lv_istore (lv' := [(5, .int (fX5_livingOn σ (σ.1 15 p1.toNatClampNeg) (σ.1 16 p1.toNatClampNeg) p4)), (0, .ref (q 0)), (1, .int p1), (2, .int p2), (3, .int p3), (4, .int p4)]) hx hb dX6_isMarkedThen_7 hl (by decide) rfl (fun ls hl => ?_)
  refine lv_iload hx hb dX6_isMarkedThen_9 (lv_at hl 0 rfl) ?_
  refine lv_iconst (v := (-1)) hx hb dX6_isMarkedThen_11 (by decide) ?_
  refine lv_icmp_eq (tgt := 43) hx hb dX6_isMarkedThen_12 (by decide) (fun c_12 => ?_) (fun c_12 => ?_)
  · refine lv_iconst (v := 0) hx hb dX6_isMarkedThen_43 (by decide) ?_
    exact W.zret (v := 0) hx hb hr narrow_b0 (fun t ht hW => ⟨_, rfl, (by rw [fX6_isMarkedThen, if_pos c_12]), ht⟩) (fun _ h => absurd h List.not_mem_nil) dX6_isMarkedThen_44
  · refine lv_aload_n hx hb dX6_isMarkedThen_15 rfl (lv_at hl 1 rfl) ?_
    refine va_get (D := (dC, dI)) (ci := 6) (v := .ref (q 13)) (C := RX6) (T := TX6) (N := 6) hx hb hts inX6 hown hK hP 0 rfl rfl 2 (by decide) (hts _ fl_X6_28) (fun _ h9 => h9) rfl dX6_isMarkedThen_16 ?_
    refine lv_iload hx hb dX6_isMarkedThen_19 (lv_at hl 0 rfl) ?_
    refine lv_iload_n hx hb dX6_isMarkedThen_21 rfl (lv_at hl 3 rfl) ?_
    refine lv_aload_n hx hb dX6_isMarkedThen_22 rfl (lv_at hl 1 rfl) ?_
    refine va_get (D := (dC, dI)) (ci := 6) (v := .ref (q 21)) (C := RX6) (T := TX6) (N := 6) hx hb hts inX6 hown hK hP 0 rfl rfl 3 (by decide) (hts _ fl_X6_35) (fun _ h9 => h9) rfl dX6_isMarkedThen_23 ?_
    refine lv_iload_n hx hb dX6_isMarkedThen_26 rfl (lv_at hl 2 rfl) ?_
    refine xc_i (va_runV (As := [.int p1]) (rest := [.int p2, .int (fX5_livingOn σ (σ.1 15 p1.toNatClampNeg) (σ.1 16 p1.toNatClampNeg) p4), .ref (q 13)]) ⟨hx, hb, hml, hown, hts⟩ (c_X1_dayOf l dC dI cI cJ q σ p1 (by assumption)) (cwV 1 hts (gV ml_X6_198 im_X1_dayOf se_X1_dayOf in_X1 co_X1_dayOf) rfl rfl rfl (by decide +kernel) ⟨Nat.le_of_ble_eq_true rfl, Nat.le_of_ble_eq_true rfl⟩) (preV hK hP (pos := 21) (ci := 1) rfl rfl) rfl rfl hl.1 rfl (lv_room (Nat.le_of_ble_eq_true rfl)) dX6_isMarkedThen_27 ⟨Nat.zero_le _, Nat.zero_le _⟩) ?_
    refine lv_iload hx hb dX6_isMarkedThen_30 (lv_at hl 5 rfl) ?_
    refine xc_i (va_runV (As := [.int (fX5_livingOn σ (σ.1 15 p1.toNatClampNeg) (σ.1 16 p1.toNatClampNeg) p4), .int p2, .int (σ.1 16 p1.toNatClampNeg), .int p4]) (rest := []) ⟨hx, hb, hml, hown, hts⟩ (c_X4_valueOn l dC dI cI cJ q σ (fX5_livingOn σ (σ.1 15 p1.toNatClampNeg) (σ.1 16 p1.toNatClampNeg) p4) p2 (σ.1 16 p1.toNatClampNeg) p4 (by assumption)) (cwV 4 hts (gV ml_X6_123 im_X4_valueOn se_X4_valueOn in_X4 co_X4_valueOn) rfl rfl rfl (by decide +kernel) ⟨Nat.le_of_ble_eq_true rfl, Nat.le_of_ble_eq_true rfl⟩) (preV hK hP (pos := 13) (ci := 4) rfl rfl) rfl rfl hl.1 rfl (lv_room (Nat.le_of_ble_eq_true rfl)) dX6_isMarkedThen_32 ⟨Nat.zero_le _, Nat.zero_le _⟩) ?_
    refine lv_iload_n hx hb dX6_isMarkedThen_35 rfl (lv_at hl 4 rfl) ?_
    refine lv_icmp_ne (tgt := 43) hx hb dX6_isMarkedThen_36 (by decide) (fun c_36 => ?_) (fun c_36 => ?_)
    · refine lv_iconst (v := 0) hx hb dX6_isMarkedThen_43 (by decide) ?_
      exact W.zret (v := 0) hx hb hr narrow_b0 (fun t ht hW => ⟨_, rfl, (by rw [fX6_isMarkedThen, if_neg c_12, if_neg c_36]), ht⟩) (fun _ h => absurd h List.not_mem_nil) dX6_isMarkedThen_44
    · refine lv_iconst (v := 1) hx hb dX6_isMarkedThen_39 (by decide) ?_
      refine lv_goto (tgt := 44) hx hb dX6_isMarkedThen_40 (by decide) ?_
      exact W.zret (v := 1) hx hb hr narrow_b1 (fun t ht hW => ⟨_, rfl, (by rw [fX6_isMarkedThen, if_neg c_12, if_pos c_36]), ht⟩) (fun _ h => absurd h List.not_mem_nil) dX6_isMarkedThen_44

def fX6_day (σ : St) (p1 : Int32) : Int32 × St :=
  (if p1 ≤ (σ.2.1 0) then (0, σ) else (if p1 ≤ 2000 then (1, (sV σ 0 p1)) else (0, σ)))
set_option maxHeartbeats 4000000 in
set_option maxRecDepth 100000 in
theorem c_X6_day (l : Launch) (dC : Nat → ClassId) (dI : Nat → Nat → Nat) (cI cJ : ClassId) (q : Nat → Nat) (σ : St) (p1 : Int32) (hd : dT 30 q) : Met l yX6_day (.code yX6_day cX6_day 2 (some .boolean) :: tb) { frames := 0, cells := 0, slots := 0, locals := 0 } (Pu (dC, dI) (tyC cI cJ) (wT cI cJ q σ) [.ref (q 0), .int p1]) (xw_Q (some (.int (fX6_day σ p1).1)) (dC, dI) (wT cI cJ q (fX6_day σ p1).2) (aT 30 q)) 0 0 (aT 30 q) := by
  refine Met.ofW (cc := cX6_day) (maxL := 2) (ret := (some .boolean)) (by decide) rfl ?_
  intro p e s m args below meth c s₁ B hml hv
  obtain ⟨rfl, hP, hK⟩ := hv
  have hx := B.exec
  have hb := B.bytes
  have hr := B.returns
  have hts0 := atoms_spec (ws := .code yX6_day cX6_day 2 (some .boolean) :: tb) B.pre
  have hts : ∀ w ∈ tb, w.before _ s = true := fun w hw => hts0 w (List.mem_cons_of_mem _ hw)
  have hown : s.vm.findClass RX6 = some m.cls := findClass_of_methodNamed B.named
  have hlocks := B.notSynchronized
  have hl := lv_entry ([.ref (q 0), .int p1]) (n := 2) (Nat.le_of_ble_eq_true rfl)
  rw [lg_entry_eq]
  generalize (lg_sl ([.ref (q 0), .int p1]) ++ List.replicate (2 - (lg_sl ([.ref (q 0), .int p1])).length) Slot.unset).toArray = ls at hl ⊢
  have hl : lv_has ls 2 [(0, .ref (q 0)), (1, .int p1)] := hl
  obtain ⟨H, hHe⟩ : ∃ H, s.heap = H := ⟨_, rfl⟩
  rw [hHe] at hP ⊢
  obtain ⟨locs, hLe⟩ : ∃ x : List Loc, ([] : List Loc) = x := ⟨_, rfl⟩
  rw [hLe]
  have hS : va_S (aT 30 q) s.heap H locs := by rw [← hHe, ← hLe]; exact va_S.rf
  refine lv_iload_n hx hb dX6_day_0 rfl (lv_at hl 1 rfl) ?_
  refine lv_aload_n hx hb dX6_day_1 rfl (lv_at hl 0 rfl) ?_
  refine va_get (D := (dC, dI)) (ci := 6) (v := .int (σ.2.1 0)) (C := RX6) (T := TX6) (N := 6) hx hb hts inX6 hown hK hP 0 rfl rfl 5 (by decide) (hts _ fl_X6_48) (fun _ h9 => h9) rfl dX6_day_2 ?_
  refine lv_icmp_le (tgt := 15) hx hb dX6_day_5 (by decide) (fun c_5 => ?_) (fun c_5 => ?_)
  · refine lv_iconst (v := 0) hx hb dX6_day_15 (by decide) ?_
    have hF : fX6_day σ p1 = (0, σ) := by rw [fX6_day, if_pos c_5]
    have hP9 : va_P (dC, dI) vwCl (wT cI cJ q (fX6_day σ p1).2) H := by rw [hF]; exact hP
    exact W.zret (v := 0) hx hb hr narrow_b0 (fun t ht hW => ⟨(by rw [hF]), by rw [ht]; exact hP9, hS.F ht⟩) hS.2.2 dX6_day_16
  · refine lv_iload_n hx hb dX6_day_8 rfl (lv_at hl 1 rfl) ?_
    refine lv_sipush (v := 2000) hx hb dX6_day_9 (by decide) ?_
    refine lv_icmp_le (tgt := 17) hx hb dX6_day_12 (by decide) (fun c_12 => ?_) (fun c_12 => ?_)
    · refine lv_aload_n hx hb dX6_day_17 rfl (lv_at hl 0 rfl) ?_
      refine lv_iload_n hx hb dX6_day_18 rfl (lv_at hl 1 rfl) ?_
      refine va_put (D := (dC, dI)) (ci := 6) (v := .int p1) (ty := .int) (C := RX6) (T := TX6) (N := 6) hx hb hts inX6 tyX6 tyX6_ok nmX6 hown hK hP (wT_D hd) hS 0 rfl rfl 5 (by decide) (hts _ fl_X6_48) (fun _ h9 => h9) rfl (by decide +kernel) rfl rfl (Nat.le_of_ble_eq_true rfl) dX6_day_19 (fun H locs hP _ hS => ?_)
      have hP : va_P (dC, dI) vwCl (wT cI cJ q (sV σ 0 p1)) H := hP
      refine lv_iconst (v := 1) hx hb dX6_day_22 (by decide) ?_
      have hF : fX6_day σ p1 = (1, (sV σ 0 p1)) := by rw [fX6_day, if_neg c_5, if_pos c_12]
      have hP9 : va_P (dC, dI) vwCl (wT cI cJ q (fX6_day σ p1).2) H := by rw [hF]; exact hP
      exact W.zret (v := 1) hx hb hr narrow_b1 (fun t ht hW => ⟨(by rw [hF]), by rw [ht]; exact hP9, hS.F ht⟩) hS.2.2 dX6_day_23
    · refine lv_iconst (v := 0) hx hb dX6_day_15 (by decide) ?_
      have hF : fX6_day σ p1 = (0, σ) := by rw [fX6_day, if_neg c_5, if_neg c_12]
      have hP9 : va_P (dC, dI) vwCl (wT cI cJ q (fX6_day σ p1).2) H := by rw [hF]; exact hP
      exact W.zret (v := 0) hx hb hr narrow_b0 (fun t ht hW => ⟨(by rw [hF]), by rw [ht]; exact hP9, hS.F ht⟩) hS.2.2 dX6_day_16

def fX6_born (σ : St) (p1 : Int32) (p2 : Int32) : Int32 × St :=
  (if (fX6_isCode σ p1) = 0 then ((-2), σ) else (if (fX6_isDay σ p2) = 0 then ((-2), σ) else (if (fX5_isTaken σ p1 p2 (-1) (-1)) = 0 then (if 1 ≤ (40 - (σ.2.1 1)) then ((fX5_add σ p1 p2 (σ.2.1 0)).1, (fX5_add σ p1 p2 (σ.2.1 0)).2) else ((-4), σ)) else ((-3), σ))))
set_option maxHeartbeats 4000000 in
set_option maxRecDepth 100000 in
theorem c_X6_born (l : Launch) (dC : Nat → ClassId) (dI : Nat → Nat → Nat) (cI cJ : ClassId) (q : Nat → Nat) (σ : St) (p1 : Int32) (p2 : Int32) (hd : dT 30 q) (hI : IB σ) : Met l yX6_born (.code yX6_born cX6_born 3 (some .int) :: tb) { frames := 2, cells := 0, slots := 0, locals := 43 } (Pu (dC, dI) (tyC cI cJ) (wT cI cJ q σ) [.ref (q 0), .int p1, .int p2]) (xw_Q (some (.int (fX6_born σ p1 p2).1)) (dC, dI) (wT cI cJ q (fX6_born σ p1 p2).2) (aT 30 q)) 0 0 (aT 30 q) := by
  refine Met.ofW (cc := cX6_born) (maxL := 3) (ret := (some .int)) (by decide) rfl ?_
  intro p e s m args below meth c s₁ B hml hv
  obtain ⟨rfl, hP, hK⟩ := hv
  have hx := B.exec
  have hb := B.bytes
  have hr := B.returns
  have hts0 := atoms_spec (ws := .code yX6_born cX6_born 3 (some .int) :: tb) B.pre
  have hts : ∀ w ∈ tb, w.before _ s = true := fun w hw => hts0 w (List.mem_cons_of_mem _ hw)
  have hown : s.vm.findClass RX6 = some m.cls := findClass_of_methodNamed B.named
  have hlocks := B.notSynchronized
  have hl := lv_entry ([.ref (q 0), .int p1, .int p2]) (n := 3) (Nat.le_of_ble_eq_true rfl)
  rw [lg_entry_eq]
  generalize (lg_sl ([.ref (q 0), .int p1, .int p2]) ++ List.replicate (3 - (lg_sl ([.ref (q 0), .int p1, .int p2])).length) Slot.unset).toArray = ls at hl ⊢
  have hl : lv_has ls 3 [(0, .ref (q 0)), (1, .int p1), (2, .int p2)] := hl
  obtain ⟨H, hHe⟩ : ∃ H, s.heap = H := ⟨_, rfl⟩
  rw [hHe] at hP ⊢
  obtain ⟨locs, hLe⟩ : ∃ x : List Loc, ([] : List Loc) = x := ⟨_, rfl⟩
  rw [hLe]
  have hS : va_S (aT 30 q) s.heap H locs := by rw [← hHe, ← hLe]; exact va_S.rf
  refine lv_iload_n hx hb dX6_born_0 rfl (lv_at hl 1 rfl) ?_
  refine xc_i (va_runS (As := [.int p1]) (rest := []) ⟨hx, hb, hml, hown, hts⟩ (c_X6_isCode l dC dI cI cJ q σ p1) (va_cwS 1 hts (gS ml_X6_52 st_X6_isCode in_X6 co_X6_isCode) rfl rfl rfl (by decide +kernel) ⟨Nat.le_of_ble_eq_true rfl, Nat.le_of_ble_eq_true rfl⟩) (preS hK hP) rfl rfl hl.1 rfl (lv_room (Nat.le_of_ble_eq_true rfl)) dX6_born_1 ⟨Nat.zero_le _, Nat.zero_le _⟩) ?_
  refine lv_if_eq (tgt := 14) hx hb dX6_born_4 (by decide) (fun c_4 => ?_) (fun c_4 => ?_)
  · refine lv_bipush (v := (-2)) hx hb dX6_born_14 (by decide) ?_
    have hF : fX6_born σ p1 p2 = ((-2), σ) := by rw [fX6_born, if_pos c_4]
    have hP9 : va_P (dC, dI) vwCl (wT cI cJ q (fX6_born σ p1 p2).2) H := by rw [hF]; exact hP
    exact W.iret (v := (-2)) hx hb hr (fun t ht hW => ⟨(by rw [hF]), by rw [ht]; exact hP9, hS.F ht⟩) hS.2.2 dX6_born_16
  · refine lv_iload_n hx hb dX6_born_7 rfl (lv_at hl 2 rfl) ?_
    refine xc_i (va_runS (As := [.int p2]) (rest := []) ⟨hx, hb, hml, hown, hts⟩ (c_X6_isDay l dC dI cI cJ q σ p2) (va_cwS 1 hts (gS ml_X6_56 st_X6_isDay in_X6 co_X6_isDay) rfl rfl rfl (by decide +kernel) ⟨Nat.le_of_ble_eq_true rfl, Nat.le_of_ble_eq_true rfl⟩) (preS hK hP) rfl rfl hl.1 rfl (lv_room (Nat.le_of_ble_eq_true rfl)) dX6_born_8 ⟨Nat.zero_le _, Nat.zero_le _⟩) ?_
    refine lv_if_ne (tgt := 17) hx hb dX6_born_11 (by decide) (fun c_11 => ?_) (fun c_11 => ?_)
    · refine lv_aload_n hx hb dX6_born_17 rfl (lv_at hl 0 rfl) ?_
      refine va_get (D := (dC, dI)) (ci := 6) (v := .ref (q 3)) (C := RX6) (T := TX6) (N := 6) hx hb hts inX6 hown hK hP 0 rfl rfl 1 (by decide) (hts _ fl_X6_19) (fun _ h9 => h9) rfl dX6_born_18 ?_
      refine lv_iload_n hx hb dX6_born_21 rfl (lv_at hl 1 rfl) ?_
      refine lv_iload_n hx hb dX6_born_22 rfl (lv_at hl 2 rfl) ?_
      refine lv_iconst (v := (-1)) hx hb dX6_born_23 (by decide) ?_
      refine lv_iconst (v := (-1)) hx hb dX6_born_24 (by decide) ?_
      refine xc_i (va_runV (As := [.int p1, .int p2, .int (-1), .int (-1)]) (rest := []) ⟨hx, hb, hml, hown, hts⟩ (c_X5_isTaken l dC dI cI cJ q σ p1 p2 (-1) (-1) (by assumption)) (cwV 4 hts (gV ml_X6_59 im_X5_isTaken se_X5_isTaken in_X5 co_X5_isTaken) rfl rfl rfl (by decide +kernel) ⟨Nat.le_of_ble_eq_true rfl, Nat.le_of_ble_eq_true rfl⟩) (preV hK hP (pos := 3) (ci := 5) rfl rfl) rfl rfl hl.1 rfl (lv_room (Nat.le_of_ble_eq_true rfl)) dX6_born_25 ⟨Nat.zero_le _, Nat.zero_le _⟩) ?_
      refine lv_if_eq (tgt := 34) hx hb dX6_born_28 (by decide) (fun c_28 => ?_) (fun c_28 => ?_)
      · refine lv_aload_n hx hb dX6_born_34 rfl (lv_at hl 0 rfl) ?_
        refine va_get (D := (dC, dI)) (ci := 6) (v := .ref (q 3)) (C := RX6) (T := TX6) (N := 6) hx hb hts inX6 hown hK hP 0 rfl rfl 1 (by decide) (hts _ fl_X6_19) (fun _ h9 => h9) rfl dX6_born_35 ?_
        refine xc_i (va_runV (As := []) (rest := []) ⟨hx, hb, hml, hown, hts⟩ (c_X5_room l dC dI cI cJ q σ ) (cwV 0 hts (gV ml_X6_63 im_X5_room se_X5_room in_X5 co_X5_room) rfl rfl rfl (by decide +kernel) ⟨Nat.le_of_ble_eq_true rfl, Nat.le_of_ble_eq_true rfl⟩) (preV hK hP (pos := 3) (ci := 5) rfl rfl) rfl rfl hl.1 rfl (lv_room (Nat.le_of_ble_eq_true rfl)) dX6_born_38 ⟨Nat.zero_le _, Nat.zero_le _⟩) ?_
        refine lv_iconst (v := 1) hx hb dX6_born_41 (by decide) ?_
        refine lv_icmp_ge (tgt := 48) hx hb dX6_born_42 (by decide) (fun c_42 => ?_) (fun c_42 => ?_)
        · refine lv_aload_n hx hb dX6_born_48 rfl (lv_at hl 0 rfl) ?_
          refine va_get (D := (dC, dI)) (ci := 6) (v := .ref (q 3)) (C := RX6) (T := TX6) (N := 6) hx hb hts inX6 hown hK hP 0 rfl rfl 1 (by decide) (hts _ fl_X6_19) (fun _ h9 => h9) rfl dX6_born_49 ?_
          refine lv_iload_n hx hb dX6_born_52 rfl (lv_at hl 1 rfl) ?_
          refine lv_iload_n hx hb dX6_born_53 rfl (lv_at hl 2 rfl) ?_
          refine lv_aload_n hx hb dX6_born_54 rfl (lv_at hl 0 rfl) ?_
          refine va_get (D := (dC, dI)) (ci := 6) (v := .int (σ.2.1 0)) (C := RX6) (T := TX6) (N := 6) hx hb hts inX6 hown hK hP 0 rfl rfl 5 (by decide) (hts _ fl_X6_48) (fun _ h9 => h9) rfl dX6_born_55 ?_
          refine xw_c (va_runV (As := [.int p1, .int p2, .int (σ.2.1 0)]) (rest := []) ⟨hx, hb, hml, hown, hts⟩ (c_X5_add l dC dI cI cJ q σ p1 p2 (σ.2.1 0) (by assumption) (by assumption)) (cwV 3 hts (gV ml_X6_67 im_X5_add se_X5_add in_X5 co_X5_add) rfl rfl rfl (by decide +kernel) ⟨Nat.le_of_ble_eq_true rfl, Nat.le_of_ble_eq_true rfl⟩) (preV hK hP (pos := 3) (ci := 5) rfl rfl) rfl rfl hl.1 rfl (lv_room (Nat.le_of_ble_eq_true rfl)) dX6_born_58 ⟨Nat.zero_le _, Nat.zero_le _⟩) hS (fun _ h => h) (fun H locs hP _ _ hS => ?_)
          have hP : va_P (dC, dI) vwCl (wT cI cJ q (fX5_add σ p1 p2 (σ.2.1 0)).2) H := hP
          refine W.eq (g2 := F0 m 61 ls [.int ((fX5_add σ p1 p2 (σ.2.1 0)).1)]) rfl ?_
          have hF : fX6_born σ p1 p2 = ((fX5_add σ p1 p2 (σ.2.1 0)).1, (fX5_add σ p1 p2 (σ.2.1 0)).2) := by rw [fX6_born, if_neg c_4, if_neg c_11, if_pos c_28, if_pos c_42]
          have hP9 : va_P (dC, dI) vwCl (wT cI cJ q (fX6_born σ p1 p2).2) H := by rw [hF]; exact hP
          exact W.iret (v := (fX5_add σ p1 p2 (σ.2.1 0)).1) hx hb hr (fun t ht hW => ⟨(by rw [hF]), by rw [ht]; exact hP9, hS.F ht⟩) hS.2.2 dX6_born_61
        · refine lv_bipush (v := (-4)) hx hb dX6_born_45 (by decide) ?_
          have hF : fX6_born σ p1 p2 = ((-4), σ) := by rw [fX6_born, if_neg c_4, if_neg c_11, if_pos c_28, if_neg c_42]
          have hP9 : va_P (dC, dI) vwCl (wT cI cJ q (fX6_born σ p1 p2).2) H := by rw [hF]; exact hP
          exact W.iret (v := (-4)) hx hb hr (fun t ht hW => ⟨(by rw [hF]), by rw [ht]; exact hP9, hS.F ht⟩) hS.2.2 dX6_born_47
      · refine lv_bipush (v := (-3)) hx hb dX6_born_31 (by decide) ?_
        have hF : fX6_born σ p1 p2 = ((-3), σ) := by rw [fX6_born, if_neg c_4, if_neg c_11, if_neg c_28]
        have hP9 : va_P (dC, dI) vwCl (wT cI cJ q (fX6_born σ p1 p2).2) H := by rw [hF]; exact hP
        exact W.iret (v := (-3)) hx hb hr (fun t ht hW => ⟨(by rw [hF]), by rw [ht]; exact hP9, hS.F ht⟩) hS.2.2 dX6_born_33
    · refine lv_bipush (v := (-2)) hx hb dX6_born_14 (by decide) ?_
      have hF : fX6_born σ p1 p2 = ((-2), σ) := by rw [fX6_born, if_neg c_4, if_pos c_11]
      have hP9 : va_P (dC, dI) vwCl (wT cI cJ q (fX6_born σ p1 p2).2) H := by rw [hF]; exact hP
      exact W.iret (v := (-2)) hx hb hr (fun t ht hW => ⟨(by rw [hF]), by rw [ht]; exact hP9, hS.F ht⟩) hS.2.2 dX6_born_16

def fX6_ends (σ : St) (p1 : Int32) (p2 : Int32) : Int32 × St :=
  (if (fX6_canEnd σ p1 p2) = 0 then (0, σ) else (1, (fX5_finish σ p1 p2 (σ.2.1 0) 1 (-1))))
set_option maxHeartbeats 4000000 in
set_option maxRecDepth 100000 in
theorem c_X6_ends (l : Launch) (dC : Nat → ClassId) (dI : Nat → Nat → Nat) (cI cJ : ClassId) (q : Nat → Nat) (σ : St) (p1 : Int32) (p2 : Int32) (hd : dT 30 q) (hI : IB σ) : Met l yX6_ends (.code yX6_ends cX6_ends 3 (some .boolean) :: tb) { frames := 2, cells := 0, slots := 0, locals := 43 } (Pu (dC, dI) (tyC cI cJ) (wT cI cJ q σ) [.ref (q 0), .int p1, .int p2]) (xw_Q (some (.int (fX6_ends σ p1 p2).1)) (dC, dI) (wT cI cJ q (fX6_ends σ p1 p2).2) (aT 30 q)) 0 0 (aT 30 q) := by
  refine Met.ofW (cc := cX6_ends) (maxL := 3) (ret := (some .boolean)) (by decide) rfl ?_
  intro p e s m args below meth c s₁ B hml hv
  obtain ⟨rfl, hP, hK⟩ := hv
  have hx := B.exec
  have hb := B.bytes
  have hr := B.returns
  have hts0 := atoms_spec (ws := .code yX6_ends cX6_ends 3 (some .boolean) :: tb) B.pre
  have hts : ∀ w ∈ tb, w.before _ s = true := fun w hw => hts0 w (List.mem_cons_of_mem _ hw)
  have hown : s.vm.findClass RX6 = some m.cls := findClass_of_methodNamed B.named
  have hlocks := B.notSynchronized
  have hl := lv_entry ([.ref (q 0), .int p1, .int p2]) (n := 3) (Nat.le_of_ble_eq_true rfl)
  rw [lg_entry_eq]
  generalize (lg_sl ([.ref (q 0), .int p1, .int p2]) ++ List.replicate (3 - (lg_sl ([.ref (q 0), .int p1, .int p2])).length) Slot.unset).toArray = ls at hl ⊢
  have hl : lv_has ls 3 [(0, .ref (q 0)), (1, .int p1), (2, .int p2)] := hl
  obtain ⟨H, hHe⟩ : ∃ H, s.heap = H := ⟨_, rfl⟩
  rw [hHe] at hP ⊢
  obtain ⟨locs, hLe⟩ : ∃ x : List Loc, ([] : List Loc) = x := ⟨_, rfl⟩
  rw [hLe]
  have hS : va_S (aT 30 q) s.heap H locs := by rw [← hHe, ← hLe]; exact va_S.rf
  refine lv_aload_n hx hb dX6_ends_0 rfl (lv_at hl 0 rfl) ?_
  refine lv_iload_n hx hb dX6_ends_1 rfl (lv_at hl 1 rfl) ?_
  refine lv_iload_n hx hb dX6_ends_2 rfl (lv_at hl 2 rfl) ?_
  refine xc_i (va_runV (As := [.int p1, .int p2]) (rest := []) ⟨hx, hb, hml, hown, hts⟩ (c_X6_canEnd l dC dI cI cJ q σ p1 p2 (by assumption)) (cwV 2 hts (gV ml_X6_71 im_X6_canEnd se_X6_canEnd in_X6 co_X6_canEnd) rfl rfl rfl (by decide +kernel) ⟨Nat.le_of_ble_eq_true rfl, Nat.le_of_ble_eq_true rfl⟩) (preV hK hP (pos := 0) (ci := 6) rfl rfl) rfl rfl hl.1 rfl (lv_room (Nat.le_of_ble_eq_true rfl)) dX6_ends_3 ⟨Nat.zero_le _, Nat.zero_le _⟩) ?_
  refine lv_if_ne (tgt := 11) hx hb dX6_ends_6 (by decide) (fun c_6 => ?_) (fun c_6 => ?_)
  · refine lv_aload_n hx hb dX6_ends_11 rfl (lv_at hl 0 rfl) ?_
    refine va_get (D := (dC, dI)) (ci := 6) (v := .ref (q 3)) (C := RX6) (T := TX6) (N := 6) hx hb hts inX6 hown hK hP 0 rfl rfl 1 (by decide) (hts _ fl_X6_19) (fun _ h9 => h9) rfl dX6_ends_12 ?_
    refine lv_iload_n hx hb dX6_ends_15 rfl (lv_at hl 1 rfl) ?_
    refine lv_iload_n hx hb dX6_ends_16 rfl (lv_at hl 2 rfl) ?_
    refine lv_aload_n hx hb dX6_ends_17 rfl (lv_at hl 0 rfl) ?_
    refine va_get (D := (dC, dI)) (ci := 6) (v := .int (σ.2.1 0)) (C := RX6) (T := TX6) (N := 6) hx hb hts inX6 hown hK hP 0 rfl rfl 5 (by decide) (hts _ fl_X6_48) (fun _ h9 => h9) rfl dX6_ends_18 ?_
    refine lv_iconst (v := 1) hx hb dX6_ends_21 (by decide) ?_
    refine lv_iconst (v := (-1)) hx hb dX6_ends_22 (by decide) ?_
    refine xw_c (va_runV (As := [.int p1, .int p2, .int (σ.2.1 0), .int 1, .int (-1)]) (rest := []) ⟨hx, hb, hml, hown, hts⟩ (c_X5_finish l dC dI cI cJ q σ p1 p2 (σ.2.1 0) 1 (-1) (by assumption) (canEnd_in hI c_6)) (cwV 5 hts (gV ml_X6_75 im_X5_finish se_X5_finish in_X5 co_X5_finish) rfl rfl rfl (by decide +kernel) ⟨Nat.le_of_ble_eq_true rfl, Nat.le_of_ble_eq_true rfl⟩) (preV hK hP (pos := 3) (ci := 5) rfl rfl) rfl rfl hl.1 rfl (lv_room (Nat.le_of_ble_eq_true rfl)) dX6_ends_23 ⟨Nat.zero_le _, Nat.zero_le _⟩) hS (fun _ h => h) (fun H locs hP _ _ hS => ?_)
    have hP : va_P (dC, dI) vwCl (wT cI cJ q (fX5_finish σ p1 p2 (σ.2.1 0) 1 (-1))) H := hP
    refine W.eq (g2 := F0 m 26 ls []) rfl ?_
    refine lv_iconst (v := 1) hx hb dX6_ends_26 (by decide) ?_
    have hF : fX6_ends σ p1 p2 = (1, (fX5_finish σ p1 p2 (σ.2.1 0) 1 (-1))) := by rw [fX6_ends, if_neg c_6]
    have hP9 : va_P (dC, dI) vwCl (wT cI cJ q (fX6_ends σ p1 p2).2) H := by rw [hF]; exact hP
    exact W.zret (v := 1) hx hb hr narrow_b1 (fun t ht hW => ⟨(by rw [hF]), by rw [ht]; exact hP9, hS.F ht⟩) hS.2.2 dX6_ends_27
  · refine lv_iconst (v := 0) hx hb dX6_ends_9 (by decide) ?_
    have hF : fX6_ends σ p1 p2 = (0, σ) := by rw [fX6_ends, if_pos c_6]
    have hP9 : va_P (dC, dI) vwCl (wT cI cJ q (fX6_ends σ p1 p2).2) H := by rw [hF]; exact hP
    exact W.zret (v := 0) hx hb hr narrow_b0 (fun t ht hW => ⟨(by rw [hF]), by rw [ht]; exact hP9, hS.F ht⟩) hS.2.2 dX6_ends_10
end
section
theorem sz_succ {z : Int32} {N : Nat} (h : vp_in z N) (hN : N < 2 ^ 31) : szI (z + 1) N := by
  obtain ⟨j, hj, rfl⟩ := vp_in_of h hN
  refine ⟨?_, ?_⟩
  · rw [nI_1, nI_clamp (by omega)]
  · rw [nI_1, nI_clamp (by omega)]
    omega
theorem add_IB {σ : St} {a b t : Int32} (h : IB σ) : IB (fX5_add σ a b t).2 := by
  unfold fX5_add
  split
  · rename_i c
    exact ⟨sz_succ (room_in h.1 c) (by decide), h.2.1, h.2.2.1, h.2.2.2.1, h.2.2.2.2.1, h.2.2.2.2.2⟩
  · exact h
theorem cbu_in {σ : St} {x : Int32} (h : IB σ) (c : ¬ fX2_canBeUndone σ x = 0) : vp_in x 40 := by
  unfold fX2_canBeUndone at c
  split at c
  · exact absurd rfl c
  · split at c
    · exact absurd rfl c
    · exact can_in h.2.2.2.1 (by assumption) (by assumption)
theorem su_IB {σ : St} {a b : Int32} (h : IB σ) : IB (fX2_setUndone σ a b) := h
theorem start_keep (σ : St) (d k : Int32) : ∀ (n i : Nat) (σ1 : St), (flX0_start_17 σ d k n i σ1).1 = σ1.1 ∧ (flX0_start_17 σ d k n i σ1).2.1 = σ1.2.1 := by
  intro n
  induction n with
  | zero => intro i σ1; exact ⟨rfl, rfl⟩
  | succ n ih => intro i σ1; rw [flX0_start_17]; exact ih _ _
theorem start_IB {σ : St} {d k : Int32} (h : IB σ) : IB (fX0_start σ d k) := by
  unfold fX0_start
  exact IB_congr (start_keep _ _ _ _ _ _).1 (start_keep _ _ _ _ _ _).2 h
theorem cadd_A {σ : St} {a b : Int32} : (fX0_add σ a b).1 = σ.1 := (carry_keep _ _ _ _ _).1
theorem cadd_V {σ : St} {a b : Int32} : (fX0_add σ a b).2.1 = σ.2.1 := (carry_keep _ _ _ _ _).2
theorem cadd_IB {σ : St} {a b : Int32} (h : IB σ) : IB (fX0_add σ a b) := IB_congr cadd_A cadd_V h

def fX6_split (σ : St) (p1 : Int32) (p2 : Int32) (p3 : Int32) (p4 : Int32) (p5 : Int32) (p6 : Int32) : Int32 × St :=
  (if (fX6_canEnd σ p1 p2) = 0 then ((-2), σ) else (if (fX6_isCode σ p3) = 0 then ((-2), σ) else (if (fX6_isCode σ p4) = 0 then ((-2), σ) else (if p3 = p4 then ((-2), σ) else (if (fX6_isShare σ p5 p6) = 0 then ((-2), σ) else (if (fX5_isTaken σ p3 p2 p1 (-1)) = 0 then (if (fX5_isTaken σ p4 p2 p1 (-1)) = 0 then (if 2 ≤ (40 - (σ.2.1 1)) then ((fX5_add σ p3 p2 (σ.2.1 0)).1, (fX5_setShare (fX5_finish (fX5_add (fX5_add σ p3 p2 (σ.2.1 0)).2 p4 p2 (((fX5_add σ p3 p2 (σ.2.1 0)).2).2.1 0)).2 p1 p2 (((fX5_add (fX5_add σ p3 p2 (σ.2.1 0)).2 p4 p2 (((fX5_add σ p3 p2 (σ.2.1 0)).2).2.1 0)).2).2.1 0) 2 ((fX5_add σ p3 p2 (σ.2.1 0)).1)) p1 p5 p6)) else ((-4), σ)) else ((-3), σ)) else ((-3), σ)))))))
set_option maxHeartbeats 4000000 in
set_option maxRecDepth 100000 in
theorem c_X6_split (l : Launch) (dC : Nat → ClassId) (dI : Nat → Nat → Nat) (cI cJ : ClassId) (q : Nat → Nat) (σ : St) (p1 : Int32) (p2 : Int32) (p3 : Int32) (p4 : Int32) (p5 : Int32) (p6 : Int32) (hd : dT 30 q) (hI : IB σ) : Met l yX6_split (.code yX6_split cX6_split 8 (some .int) :: tb) { frames := 2, cells := 0, slots := 0, locals := 43 } (Pu (dC, dI) (tyC cI cJ) (wT cI cJ q σ) [.ref (q 0), .int p1, .int p2, .int p3, .int p4, .int p5, .int p6]) (xw_Q (some (.int (fX6_split σ p1 p2 p3 p4 p5 p6).1)) (dC, dI) (wT cI cJ q (fX6_split σ p1 p2 p3 p4 p5 p6).2) (aT 30 q)) 0 0 (aT 30 q) := by
  refine Met.ofW (cc := cX6_split) (maxL := 8) (ret := (some .int)) (by decide) rfl ?_
  intro p e s m args below meth c s₁ B hml hv
  obtain ⟨rfl, hP, hK⟩ := hv
  have hx := B.exec
  have hb := B.bytes
  have hr := B.returns
  have hts0 := atoms_spec (ws := .code yX6_split cX6_split 8 (some .int) :: tb) B.pre
  have hts : ∀ w ∈ tb, w.before _ s = true := fun w hw => hts0 w (List.mem_cons_of_mem _ hw)
  have hown : s.vm.findClass RX6 = some m.cls := findClass_of_methodNamed B.named
  have hlocks := B.notSynchronized
  have hl := lv_entry ([.ref (q 0), .int p1, .int p2, .int p3, .int p4, .int p5, .int p6]) (n := 8) (Nat.le_of_ble_eq_true rfl)
  rw [lg_entry_eq]
  generalize (lg_sl ([.ref (q 0), .int p1, .int p2, .int p3, .int p4, .int p5, .int p6]) ++ List.replicate (8 - (lg_sl ([.ref (q 0), .int p1, .int p2, .int p3, .int p4, .int p5, .int p6])).length) Slot.unset).toArray = ls at hl ⊢
  have hl : lv_has ls 8 [(0, .ref (q 0)), (1, .int p1), (2, .int p2), (3, .int p3), (4, .int p4), (5, .int p5), (6, .int p6)] := hl
  obtain ⟨H, hHe⟩ : ∃ H, s.heap = H := ⟨_, rfl⟩
  rw [hHe] at hP ⊢
  obtain ⟨locs, hLe⟩ : ∃ x : List Loc, ([] : List Loc) = x := ⟨_, rfl⟩
  rw [hLe]
  have hS : va_S (aT 30 q) s.heap H locs := by rw [← hHe, ← hLe]; exact va_S.rf
  refine lv_aload_n hx hb dX6_split_0 rfl (lv_at hl 0 rfl) ?_
  refine lv_iload_n hx hb dX6_split_1 rfl (lv_at hl 1 rfl) ?_
  refine lv_iload_n hx hb dX6_split_2 rfl (lv_at hl 2 rfl) ?_
  refine xc_i (va_runV (As := [.int p1, .int p2]) (rest := []) ⟨hx, hb, hml, hown, hts⟩ (c_X6_canEnd l dC dI cI cJ q σ p1 p2 (by assumption)) (cwV 2 hts (gV ml_X6_71 im_X6_canEnd se_X6_canEnd in_X6 co_X6_canEnd) rfl rfl rfl (by decide +kernel) ⟨Nat.le_of_ble_eq_true rfl, Nat.le_of_ble_eq_true rfl⟩) (preV hK hP (pos := 0) (ci := 6) rfl rfl) rfl rfl hl.1 rfl (lv_room (Nat.le_of_ble_eq_true rfl)) dX6_split_3 ⟨Nat.zero_le _, Nat.zero_le _⟩) ?_
  refine lv_if_eq (tgt := 40) hx hb dX6_split_6 (by decide) (fun c_6 => ?_) (fun c_6 => ?_)
  · refine lv_bipush (v := (-2)) hx hb dX6_split_40 (by decide) ?_
    have hF : fX6_split σ p1 p2 p3 p4 p5 p6 = ((-2), σ) := by rw [fX6_split, if_pos c_6]
    have hP9 : va_P (dC, dI) vwCl (wT cI cJ q (fX6_split σ p1 p2 p3 p4 p5 p6).2) H := by rw [hF]; exact hP
    exact W.iret (v := (-2)) hx hb hr (fun t ht hW => ⟨(by rw [hF]), by rw [ht]; exact hP9, hS.F ht⟩) hS.2.2 dX6_split_42
  · refine lv_iload_n hx hb dX6_split_9 rfl (lv_at hl 3 rfl) ?_
    refine xc_i (va_runS (As := [.int p3]) (rest := []) ⟨hx, hb, hml, hown, hts⟩ (c_X6_isCode l dC dI cI cJ q σ p3) (va_cwS 1 hts (gS ml_X6_52 st_X6_isCode in_X6 co_X6_isCode) rfl rfl rfl (by decide +kernel) ⟨Nat.le_of_ble_eq_true rfl, Nat.le_of_ble_eq_true rfl⟩) (preS hK hP) rfl rfl hl.1 rfl (lv_room (Nat.le_of_ble_eq_true rfl)) dX6_split_10 ⟨Nat.zero_le _, Nat.zero_le _⟩) ?_
    refine lv_if_eq (tgt := 40) hx hb dX6_split_13 (by decide) (fun c_13 => ?_) (fun c_13 => ?_)
    · refine lv_bipush (v := (-2)) hx hb dX6_split_40 (by decide) ?_
      have hF : fX6_split σ p1 p2 p3 p4 p5 p6 = ((-2), σ) := by rw [fX6_split, if_neg c_6, if_pos c_13]
      have hP9 : va_P (dC, dI) vwCl (wT cI cJ q (fX6_split σ p1 p2 p3 p4 p5 p6).2) H := by rw [hF]; exact hP
      exact W.iret (v := (-2)) hx hb hr (fun t ht hW => ⟨(by rw [hF]), by rw [ht]; exact hP9, hS.F ht⟩) hS.2.2 dX6_split_42
    · refine lv_iload hx hb dX6_split_16 (lv_at hl 4 rfl) ?_
      refine xc_i (va_runS (As := [.int p4]) (rest := []) ⟨hx, hb, hml, hown, hts⟩ (c_X6_isCode l dC dI cI cJ q σ p4) (va_cwS 1 hts (gS ml_X6_52 st_X6_isCode in_X6 co_X6_isCode) rfl rfl rfl (by decide +kernel) ⟨Nat.le_of_ble_eq_true rfl, Nat.le_of_ble_eq_true rfl⟩) (preS hK hP) rfl rfl hl.1 rfl (lv_room (Nat.le_of_ble_eq_true rfl)) dX6_split_18 ⟨Nat.zero_le _, Nat.zero_le _⟩) ?_
      refine lv_if_eq (tgt := 40) hx hb dX6_split_21 (by decide) (fun c_21 => ?_) (fun c_21 => ?_)
      · refine lv_bipush (v := (-2)) hx hb dX6_split_40 (by decide) ?_
        have hF : fX6_split σ p1 p2 p3 p4 p5 p6 = ((-2), σ) := by rw [fX6_split, if_neg c_6, if_neg c_13, if_pos c_21]
        have hP9 : va_P (dC, dI) vwCl (wT cI cJ q (fX6_split σ p1 p2 p3 p4 p5 p6).2) H := by rw [hF]; exact hP
        exact W.iret (v := (-2)) hx hb hr (fun t ht hW => ⟨(by rw [hF]), by rw [ht]; exact hP9, hS.F ht⟩) hS.2.2 dX6_split_42
      · refine lv_iload_n hx hb dX6_split_24 rfl (lv_at hl 3 rfl) ?_
        refine lv_iload hx hb dX6_split_25 (lv_at hl 4 rfl) ?_
        refine lv_icmp_eq (tgt := 40) hx hb dX6_split_27 (by decide) (fun c_27 => ?_) (fun c_27 => ?_)
        · refine lv_bipush (v := (-2)) hx hb dX6_split_40 (by decide) ?_
          have hF : fX6_split σ p1 p2 p3 p4 p5 p6 = ((-2), σ) := by rw [fX6_split, if_neg c_6, if_neg c_13, if_neg c_21, if_pos c_27]
          have hP9 : va_P (dC, dI) vwCl (wT cI cJ q (fX6_split σ p1 p2 p3 p4 p5 p6).2) H := by rw [hF]; exact hP
          exact W.iret (v := (-2)) hx hb hr (fun t ht hW => ⟨(by rw [hF]), by rw [ht]; exact hP9, hS.F ht⟩) hS.2.2 dX6_split_42
        · refine lv_iload hx hb dX6_split_30 (lv_at hl 5 rfl) ?_
          refine lv_iload hx hb dX6_split_32 (lv_at hl 6 rfl) ?_
          refine xc_i (va_runS (As := [.int p5, .int p6]) (rest := []) ⟨hx, hb, hml, hown, hts⟩ (c_X6_isShare l dC dI cI cJ q σ p5 p6) (va_cwS 2 hts (gS ml_X6_79 st_X6_isShare in_X6 co_X6_isShare) rfl rfl rfl (by decide +kernel) ⟨Nat.le_of_ble_eq_true rfl, Nat.le_of_ble_eq_true rfl⟩) (preS hK hP) rfl rfl hl.1 rfl (lv_room (Nat.le_of_ble_eq_true rfl)) dX6_split_34 ⟨Nat.zero_le _, Nat.zero_le _⟩) ?_
          refine lv_if_ne (tgt := 43) hx hb dX6_split_37 (by decide) (fun c_37 => ?_) (fun c_37 => ?_)
          · refine lv_aload_n hx hb dX6_split_43 rfl (lv_at hl 0 rfl) ?_
            refine va_get (D := (dC, dI)) (ci := 6) (v := .ref (q 3)) (C := RX6) (T := TX6) (N := 6) hx hb hts inX6 hown hK hP 0 rfl rfl 1 (by decide) (hts _ fl_X6_19) (fun _ h9 => h9) rfl dX6_split_44 ?_
            refine lv_iload_n hx hb dX6_split_47 rfl (lv_at hl 3 rfl) ?_
            refine lv_iload_n hx hb dX6_split_48 rfl (lv_at hl 2 rfl) ?_
            refine lv_iload_n hx hb dX6_split_49 rfl (lv_at hl 1 rfl) ?_
            refine lv_iconst (v := (-1)) hx hb dX6_split_50 (by decide) ?_
            refine xc_i (va_runV (As := [.int p3, .int p2, .int p1, .int (-1)]) (rest := []) ⟨hx, hb, hml, hown, hts⟩ (c_X5_isTaken l dC dI cI cJ q σ p3 p2 p1 (-1) (by assumption)) (cwV 4 hts (gV ml_X6_59 im_X5_isTaken se_X5_isTaken in_X5 co_X5_isTaken) rfl rfl rfl (by decide +kernel) ⟨Nat.le_of_ble_eq_true rfl, Nat.le_of_ble_eq_true rfl⟩) (preV hK hP (pos := 3) (ci := 5) rfl rfl) rfl rfl hl.1 rfl (lv_room (Nat.le_of_ble_eq_true rfl)) dX6_split_51 ⟨Nat.zero_le _, Nat.zero_le _⟩) ?_
            refine lv_if_ne (tgt := 72) hx hb dX6_split_54 (by decide) (fun c_54 => ?_) (fun c_54 => ?_)
            · refine lv_bipush (v := (-3)) hx hb dX6_split_72 (by decide) ?_
              have hF : fX6_split σ p1 p2 p3 p4 p5 p6 = ((-3), σ) := by rw [fX6_split, if_neg c_6, if_neg c_13, if_neg c_21, if_neg c_27, if_neg c_37, if_neg c_54]
              have hP9 : va_P (dC, dI) vwCl (wT cI cJ q (fX6_split σ p1 p2 p3 p4 p5 p6).2) H := by rw [hF]; exact hP
              exact W.iret (v := (-3)) hx hb hr (fun t ht hW => ⟨(by rw [hF]), by rw [ht]; exact hP9, hS.F ht⟩) hS.2.2 dX6_split_74
            · refine lv_aload_n hx hb dX6_split_57 rfl (lv_at hl 0 rfl) ?_
              refine va_get (D := (dC, dI)) (ci := 6) (v := .ref (q 3)) (C := RX6) (T := TX6) (N := 6) hx hb hts inX6 hown hK hP 0 rfl rfl 1 (by decide) (hts _ fl_X6_19) (fun _ h9 => h9) rfl dX6_split_58 ?_
              refine lv_iload hx hb dX6_split_61 (lv_at hl 4 rfl) ?_
              refine lv_iload_n hx hb dX6_split_63 rfl (lv_at hl 2 rfl) ?_
              refine lv_iload_n hx hb dX6_split_64 rfl (lv_at hl 1 rfl) ?_
              refine lv_iconst (v := (-1)) hx hb dX6_split_65 (by decide) ?_
              refine xc_i (va_runV (As := [.int p4, .int p2, .int p1, .int (-1)]) (rest := []) ⟨hx, hb, hml, hown, hts⟩ (c_X5_isTaken l dC dI cI cJ q σ p4 p2 p1 (-1) (by assumption)) (cwV 4 hts (gV ml_X6_59 im_X5_isTaken se_X5_isTaken in_X5 co_X5_isTaken) rfl rfl rfl (by decide +kernel) ⟨Nat.le_of_ble_eq_true rfl, Nat.le_of_ble_eq_true rfl⟩) (preV hK hP (pos := 3) (ci := 5) rfl rfl) rfl rfl hl.1 rfl (lv_room (Nat.le_of_ble_eq_true rfl)) dX6_split_66 ⟨Nat.zero_le _, Nat.zero_le _⟩) ?_
              refine lv_if_eq (tgt := 75) hx hb dX6_split_69 (by decide) (fun c_69 => ?_) (fun c_69 => ?_)
              · refine lv_aload_n hx hb dX6_split_75 rfl (lv_at hl 0 rfl) ?_
                refine va_get (D := (dC, dI)) (ci := 6) (v := .ref (q 3)) (C := RX6) (T := TX6) (N := 6) hx hb hts inX6 hown hK hP 0 rfl rfl 1 (by decide) (hts _ fl_X6_19) (fun _ h9 => h9) rfl dX6_split_76 ?_
                refine xc_i (va_runV (As := []) (rest := []) ⟨hx, hb, hml, hown, hts⟩ (c_X5_room l dC dI cI cJ q σ ) (cwV 0 hts (gV ml_X6_63 im_X5_room se_X5_room in_X5 co_X5_room) rfl rfl rfl (by decide +kernel) ⟨Nat.le_of_ble_eq_true rfl, Nat.le_of_ble_eq_true rfl⟩) (preV hK hP (pos := 3) (ci := 5) rfl rfl) rfl rfl hl.1 rfl (lv_room (Nat.le_of_ble_eq_true rfl)) dX6_split_79 ⟨Nat.zero_le _, Nat.zero_le _⟩) ?_
                refine lv_iconst (v := 2) hx hb dX6_split_82 (by decide) ?_
                refine lv_icmp_ge (tgt := 89) hx hb dX6_split_83 (by decide) (fun c_83 => ?_) (fun c_83 => ?_)
                · refine lv_aload_n hx hb dX6_split_89 rfl (lv_at hl 0 rfl) ?_
                  refine va_get (D := (dC, dI)) (ci := 6) (v := .ref (q 3)) (C := RX6) (T := TX6) (N := 6) hx hb hts inX6 hown hK hP 0 rfl rfl 1 (by decide) (hts _ fl_X6_19) (fun _ h9 => h9) rfl dX6_split_90 ?_
                  refine lv_iload_n hx hb dX6_split_93 rfl (lv_at hl 3 rfl) ?_
                  refine lv_iload_n hx hb dX6_split_94 rfl (lv_at hl 2 rfl) ?_
                  refine lv_aload_n hx hb dX6_split_95 rfl (lv_at hl 0 rfl) ?_
                  refine va_get (D := (dC, dI)) (ci := 6) (v := .int (σ.2.1 0)) (C := RX6) (T := TX6) (N := 6) hx hb hts inX6 hown hK hP 0 rfl rfl 5 (by decide) (hts _ fl_X6_48) (fun _ h9 => h9) rfl dX6_split_96 ?_
                  refine xw_c (va_runV (As := [.int p3, .int p2, .int (σ.2.1 0)]) (rest := []) ⟨hx, hb, hml, hown, hts⟩ (c_X5_add l dC dI cI cJ q σ p3 p2 (σ.2.1 0) (by assumption) (by assumption)) (cwV 3 hts (gV ml_X6_67 im_X5_add se_X5_add in_X5 co_X5_add) rfl rfl rfl (by decide +kernel) ⟨Nat.le_of_ble_eq_true rfl, Nat.le_of_ble_eq_true rfl⟩) (preV hK hP (pos := 3) (ci := 5) rfl rfl) rfl rfl hl.1 rfl (lv_room (Nat.le_of_ble_eq_true rfl)) dX6_split_99 ⟨Nat.zero_le _, Nat.zero_le _⟩) hS (fun _ h => h) (fun H locs hP _ _ hS => ?_)
                  have hP : va_P (dC, dI) vwCl (wT cI cJ q (fX5_add σ p3 p2 (σ.2.1 0)).2) H := hP
                  refine W.eq (g2 := F0 m 102 ls [.int ((fX5_add σ p3 p2 (σ.2.1 0)).1)]) rfl ?_
                  refine lv_istore (lv' := [(7, .int ((fX5_add σ p3 p2 (σ.2.1 0)).1)), (0, .ref (q 0)), (1, .int p1), (2, .int p2), (3, .int p3), (4, .int p4), (5, .int p5), (6, .int p6)]) hx hb dX6_split_102 hl (by decide) rfl (fun ls hl => ?_)
                  refine lv_aload_n hx hb dX6_split_104 rfl (lv_at hl 1 rfl) ?_
                  refine va_get (D := (dC, dI)) (ci := 6) (v := .ref (q 3)) (C := RX6) (T := TX6) (N := 6) hx hb hts inX6 hown hK hP 0 rfl rfl 1 (by decide) (hts _ fl_X6_19) (fun _ h9 => h9) rfl dX6_split_105 ?_
                  refine lv_iload hx hb dX6_split_108 (lv_at hl 5 rfl) ?_
                  refine lv_iload_n hx hb dX6_split_110 rfl (lv_at hl 3 rfl) ?_
                  refine lv_aload_n hx hb dX6_split_111 rfl (lv_at hl 1 rfl) ?_
                  refine va_get (D := (dC, dI)) (ci := 6) (v := .int (((fX5_add σ p3 p2 (σ.2.1 0)).2).2.1 0)) (C := RX6) (T := TX6) (N := 6) hx hb hts inX6 hown hK hP 0 rfl rfl 5 (by decide) (hts _ fl_X6_48) (fun _ h9 => h9) rfl dX6_split_112 ?_
                  refine xw_c (va_runV (As := [.int p4, .int p2, .int (((fX5_add σ p3 p2 (σ.2.1 0)).2).2.1 0)]) (rest := []) ⟨hx, hb, hml, hown, hts⟩ (c_X5_add l dC dI cI cJ q (fX5_add σ p3 p2 (σ.2.1 0)).2 p4 p2 (((fX5_add σ p3 p2 (σ.2.1 0)).2).2.1 0) (by assumption) (add_IB hI)) (cwV 3 hts (gV ml_X6_67 im_X5_add se_X5_add in_X5 co_X5_add) rfl rfl rfl (by decide +kernel) ⟨Nat.le_of_ble_eq_true rfl, Nat.le_of_ble_eq_true rfl⟩) (preV hK hP (pos := 3) (ci := 5) rfl rfl) rfl rfl hl.1 rfl (lv_room (Nat.le_of_ble_eq_true rfl)) dX6_split_115 ⟨Nat.zero_le _, Nat.zero_le _⟩) hS (fun _ h => h) (fun H locs hP _ _ hS => ?_)
                  have hP : va_P (dC, dI) vwCl (wT cI cJ q (fX5_add (fX5_add σ p3 p2 (σ.2.1 0)).2 p4 p2 (((fX5_add σ p3 p2 (σ.2.1 0)).2).2.1 0)).2) H := hP
                  refine W.eq (g2 := F0 m 118 ls [.int ((fX5_add (fX5_add σ p3 p2 (σ.2.1 0)).2 p4 p2 (((fX5_add σ p3 p2 (σ.2.1 0)).2).2.1 0)).1)]) rfl ?_
                  refine lv_pop hx hb dX6_split_118 rfl ?_
                  refine lv_aload_n hx hb dX6_split_119 rfl (lv_at hl 1 rfl) ?_
                  refine va_get (D := (dC, dI)) (ci := 6) (v := .ref (q 3)) (C := RX6) (T := TX6) (N := 6) hx hb hts inX6 hown hK hP 0 rfl rfl 1 (by decide) (hts _ fl_X6_19) (fun _ h9 => h9) rfl dX6_split_120 ?_
                  refine lv_iload_n hx hb dX6_split_123 rfl (lv_at hl 2 rfl) ?_
                  refine lv_iload_n hx hb dX6_split_124 rfl (lv_at hl 3 rfl) ?_
                  refine lv_aload_n hx hb dX6_split_125 rfl (lv_at hl 1 rfl) ?_
                  refine va_get (D := (dC, dI)) (ci := 6) (v := .int (((fX5_add (fX5_add σ p3 p2 (σ.2.1 0)).2 p4 p2 (((fX5_add σ p3 p2 (σ.2.1 0)).2).2.1 0)).2).2.1 0)) (C := RX6) (T := TX6) (N := 6) hx hb hts inX6 hown hK hP 0 rfl rfl 5 (by decide) (hts _ fl_X6_48) (fun _ h9 => h9) rfl dX6_split_126 ?_
                  refine lv_iconst (v := 2) hx hb dX6_split_129 (by decide) ?_
                  refine lv_iload hx hb dX6_split_130 (lv_at hl 0 rfl) ?_
                  refine xw_c (va_runV (As := [.int p1, .int p2, .int (((fX5_add (fX5_add σ p3 p2 (σ.2.1 0)).2 p4 p2 (((fX5_add σ p3 p2 (σ.2.1 0)).2).2.1 0)).2).2.1 0), .int 2, .int ((fX5_add σ p3 p2 (σ.2.1 0)).1)]) (rest := []) ⟨hx, hb, hml, hown, hts⟩ (c_X5_finish l dC dI cI cJ q (fX5_add (fX5_add σ p3 p2 (σ.2.1 0)).2 p4 p2 (((fX5_add σ p3 p2 (σ.2.1 0)).2).2.1 0)).2 p1 p2 (((fX5_add (fX5_add σ p3 p2 (σ.2.1 0)).2 p4 p2 (((fX5_add σ p3 p2 (σ.2.1 0)).2).2.1 0)).2).2.1 0) 2 ((fX5_add σ p3 p2 (σ.2.1 0)).1) (by assumption) (canEnd_in hI c_6)) (cwV 5 hts (gV ml_X6_75 im_X5_finish se_X5_finish in_X5 co_X5_finish) rfl rfl rfl (by decide +kernel) ⟨Nat.le_of_ble_eq_true rfl, Nat.le_of_ble_eq_true rfl⟩) (preV hK hP (pos := 3) (ci := 5) rfl rfl) rfl rfl hl.1 rfl (lv_room (Nat.le_of_ble_eq_true rfl)) dX6_split_132 ⟨Nat.zero_le _, Nat.zero_le _⟩) hS (fun _ h => h) (fun H locs hP _ _ hS => ?_)
                  have hP : va_P (dC, dI) vwCl (wT cI cJ q (fX5_finish (fX5_add (fX5_add σ p3 p2 (σ.2.1 0)).2 p4 p2 (((fX5_add σ p3 p2 (σ.2.1 0)).2).2.1 0)).2 p1 p2 (((fX5_add (fX5_add σ p3 p2 (σ.2.1 0)).2 p4 p2 (((fX5_add σ p3 p2 (σ.2.1 0)).2).2.1 0)).2).2.1 0) 2 ((fX5_add σ p3 p2 (σ.2.1 0)).1))) H := hP
                  refine W.eq (g2 := F0 m 135 ls []) rfl ?_
                  refine lv_aload_n hx hb dX6_split_135 rfl (lv_at hl 1 rfl) ?_
                  refine va_get (D := (dC, dI)) (ci := 6) (v := .ref (q 3)) (C := RX6) (T := TX6) (N := 6) hx hb hts inX6 hown hK hP 0 rfl rfl 1 (by decide) (hts _ fl_X6_19) (fun _ h9 => h9) rfl dX6_split_136 ?_
                  refine lv_iload_n hx hb dX6_split_139 rfl (lv_at hl 2 rfl) ?_
                  refine lv_iload hx hb dX6_split_140 (lv_at hl 6 rfl) ?_
                  refine lv_iload hx hb dX6_split_142 (lv_at hl 7 rfl) ?_
                  refine xw_c (va_runV (As := [.int p1, .int p5, .int p6]) (rest := []) ⟨hx, hb, hml, hown, hts⟩ (c_X5_setShare l dC dI cI cJ q (fX5_finish (fX5_add (fX5_add σ p3 p2 (σ.2.1 0)).2 p4 p2 (((fX5_add σ p3 p2 (σ.2.1 0)).2).2.1 0)).2 p1 p2 (((fX5_add (fX5_add σ p3 p2 (σ.2.1 0)).2 p4 p2 (((fX5_add σ p3 p2 (σ.2.1 0)).2).2.1 0)).2).2.1 0) 2 ((fX5_add σ p3 p2 (σ.2.1 0)).1)) p1 p5 p6 (by assumption) (canEnd_in hI c_6)) (cwV 3 hts (gV ml_X6_82 im_X5_setShare se_X5_setShare in_X5 co_X5_setShare) rfl rfl rfl (by decide +kernel) ⟨Nat.le_of_ble_eq_true rfl, Nat.le_of_ble_eq_true rfl⟩) (preV hK hP (pos := 3) (ci := 5) rfl rfl) rfl rfl hl.1 rfl (lv_room (Nat.le_of_ble_eq_true rfl)) dX6_split_144 ⟨Nat.zero_le _, Nat.zero_le _⟩) hS (fun _ h => h) (fun H locs hP _ _ hS => ?_)
                  have hP : va_P (dC, dI) vwCl (wT cI cJ q (fX5_setShare (fX5_finish (fX5_add (fX5_add σ p3 p2 (σ.2.1 0)).2 p4 p2 (((fX5_add σ p3 p2 (σ.2.1 0)).2).2.1 0)).2 p1 p2 (((fX5_add (fX5_add σ p3 p2 (σ.2.1 0)).2 p4 p2 (((fX5_add σ p3 p2 (σ.2.1 0)).2).2.1 0)).2).2.1 0) 2 ((fX5_add σ p3 p2 (σ.2.1 0)).1)) p1 p5 p6)) H := hP
                  refine W.eq (g2 := F0 m 147 ls []) rfl ?_
                  refine lv_iload hx hb dX6_split_147 (lv_at hl 0 rfl) ?_
                  have hF : fX6_split σ p1 p2 p3 p4 p5 p6 = ((fX5_add σ p3 p2 (σ.2.1 0)).1, (fX5_setShare (fX5_finish (fX5_add (fX5_add σ p3 p2 (σ.2.1 0)).2 p4 p2 (((fX5_add σ p3 p2 (σ.2.1 0)).2).2.1 0)).2 p1 p2 (((fX5_add (fX5_add σ p3 p2 (σ.2.1 0)).2 p4 p2 (((fX5_add σ p3 p2 (σ.2.1 0)).2).2.1 0)).2).2.1 0) 2 ((fX5_add σ p3 p2 (σ.2.1 0)).1)) p1 p5 p6)) := by rw [fX6_split, if_neg c_6, if_neg c_13, if_neg c_21, if_neg c_27, if_neg c_37, if_pos c_54, if_pos c_69, if_pos c_83]
                  have hP9 : va_P (dC, dI) vwCl (wT cI cJ q (fX6_split σ p1 p2 p3 p4 p5 p6).2) H := by rw [hF]; exact hP
                  exact W.iret (v := (fX5_add σ p3 p2 (σ.2.1 0)).1) hx hb hr (fun t ht hW => ⟨(by rw [hF]), by rw [ht]; exact hP9, hS.F ht⟩) hS.2.2 dX6_split_149
                · refine lv_bipush (v := (-4)) hx hb dX6_split_86 (by decide) ?_
                  have hF : fX6_split σ p1 p2 p3 p4 p5 p6 = ((-4), σ) := by rw [fX6_split, if_neg c_6, if_neg c_13, if_neg c_21, if_neg c_27, if_neg c_37, if_pos c_54, if_pos c_69, if_neg c_83]
                  have hP9 : va_P (dC, dI) vwCl (wT cI cJ q (fX6_split σ p1 p2 p3 p4 p5 p6).2) H := by rw [hF]; exact hP
                  exact W.iret (v := (-4)) hx hb hr (fun t ht hW => ⟨(by rw [hF]), by rw [ht]; exact hP9, hS.F ht⟩) hS.2.2 dX6_split_88
              · refine lv_bipush (v := (-3)) hx hb dX6_split_72 (by decide) ?_
                have hF : fX6_split σ p1 p2 p3 p4 p5 p6 = ((-3), σ) := by rw [fX6_split, if_neg c_6, if_neg c_13, if_neg c_21, if_neg c_27, if_neg c_37, if_pos c_54, if_neg c_69]
                have hP9 : va_P (dC, dI) vwCl (wT cI cJ q (fX6_split σ p1 p2 p3 p4 p5 p6).2) H := by rw [hF]; exact hP
                exact W.iret (v := (-3)) hx hb hr (fun t ht hW => ⟨(by rw [hF]), by rw [ht]; exact hP9, hS.F ht⟩) hS.2.2 dX6_split_74
          · refine lv_bipush (v := (-2)) hx hb dX6_split_40 (by decide) ?_
            have hF : fX6_split σ p1 p2 p3 p4 p5 p6 = ((-2), σ) := by rw [fX6_split, if_neg c_6, if_neg c_13, if_neg c_21, if_neg c_27, if_pos c_37]
            have hP9 : va_P (dC, dI) vwCl (wT cI cJ q (fX6_split σ p1 p2 p3 p4 p5 p6).2) H := by rw [hF]; exact hP
            exact W.iret (v := (-2)) hx hb hr (fun t ht hW => ⟨(by rw [hF]), by rw [ht]; exact hP9, hS.F ht⟩) hS.2.2 dX6_split_42

def fX6_join (σ : St) (p1 : Int32) (p2 : Int32) (p3 : Int32) (p4 : Int32) : Int32 × St :=
  (if p1 = p2 then ((-2), σ) else (if (fX6_canEnd σ p1 p3) = 0 then ((-2), σ) else (if (fX6_canEnd σ p2 p3) = 0 then ((-2), σ) else (if (fX6_isCode σ p4) = 0 then ((-2), σ) else (if (fX5_isTaken σ p4 p3 p1 p2) = 0 then (if 1 ≤ (40 - (σ.2.1 1)) then ((fX5_add σ p4 p3 (σ.2.1 0)).1, (fX5_finish (fX5_finish (fX5_add σ p4 p3 (σ.2.1 0)).2 p1 p3 (((fX5_add σ p4 p3 (σ.2.1 0)).2).2.1 0) 3 ((fX5_add σ p4 p3 (σ.2.1 0)).1)) p2 p3 ((fX5_finish (fX5_add σ p4 p3 (σ.2.1 0)).2 p1 p3 (((fX5_add σ p4 p3 (σ.2.1 0)).2).2.1 0) 3 ((fX5_add σ p4 p3 (σ.2.1 0)).1)).2.1 0) 3 ((fX5_add σ p4 p3 (σ.2.1 0)).1))) else ((-4), σ)) else ((-3), σ))))))
set_option maxHeartbeats 4000000 in
set_option maxRecDepth 100000 in
theorem c_X6_join (l : Launch) (dC : Nat → ClassId) (dI : Nat → Nat → Nat) (cI cJ : ClassId) (q : Nat → Nat) (σ : St) (p1 : Int32) (p2 : Int32) (p3 : Int32) (p4 : Int32) (hd : dT 30 q) (hI : IB σ) : Met l yX6_join (.code yX6_join cX6_join 6 (some .int) :: tb) { frames := 2, cells := 0, slots := 0, locals := 43 } (Pu (dC, dI) (tyC cI cJ) (wT cI cJ q σ) [.ref (q 0), .int p1, .int p2, .int p3, .int p4]) (xw_Q (some (.int (fX6_join σ p1 p2 p3 p4).1)) (dC, dI) (wT cI cJ q (fX6_join σ p1 p2 p3 p4).2) (aT 30 q)) 0 0 (aT 30 q) := by
  refine Met.ofW (cc := cX6_join) (maxL := 6) (ret := (some .int)) (by decide) rfl ?_
  intro p e s m args below meth c s₁ B hml hv
  obtain ⟨rfl, hP, hK⟩ := hv
  have hx := B.exec
  have hb := B.bytes
  have hr := B.returns
  have hts0 := atoms_spec (ws := .code yX6_join cX6_join 6 (some .int) :: tb) B.pre
  have hts : ∀ w ∈ tb, w.before _ s = true := fun w hw => hts0 w (List.mem_cons_of_mem _ hw)
  have hown : s.vm.findClass RX6 = some m.cls := findClass_of_methodNamed B.named
  have hlocks := B.notSynchronized
  have hl := lv_entry ([.ref (q 0), .int p1, .int p2, .int p3, .int p4]) (n := 6) (Nat.le_of_ble_eq_true rfl)
  rw [lg_entry_eq]
  generalize (lg_sl ([.ref (q 0), .int p1, .int p2, .int p3, .int p4]) ++ List.replicate (6 - (lg_sl ([.ref (q 0), .int p1, .int p2, .int p3, .int p4])).length) Slot.unset).toArray = ls at hl ⊢
  have hl : lv_has ls 6 [(0, .ref (q 0)), (1, .int p1), (2, .int p2), (3, .int p3), (4, .int p4)] := hl
  obtain ⟨H, hHe⟩ : ∃ H, s.heap = H := ⟨_, rfl⟩
  rw [hHe] at hP ⊢
  obtain ⟨locs, hLe⟩ : ∃ x : List Loc, ([] : List Loc) = x := ⟨_, rfl⟩
  rw [hLe]
  have hS : va_S (aT 30 q) s.heap H locs := by rw [← hHe, ← hLe]; exact va_S.rf
  refine lv_iload_n hx hb dX6_join_0 rfl (lv_at hl 1 rfl) ?_
  refine lv_iload_n hx hb dX6_join_1 rfl (lv_at hl 2 rfl) ?_
  refine lv_icmp_eq (tgt := 31) hx hb dX6_join_2 (by decide) (fun c_2 => ?_) (fun c_2 => ?_)
  · refine lv_bipush (v := (-2)) hx hb dX6_join_31 (by decide) ?_
    have hF : fX6_join σ p1 p2 p3 p4 = ((-2), σ) := by rw [fX6_join, if_pos c_2]
    have hP9 : va_P (dC, dI) vwCl (wT cI cJ q (fX6_join σ p1 p2 p3 p4).2) H := by rw [hF]; exact hP
    exact W.iret (v := (-2)) hx hb hr (fun t ht hW => ⟨(by rw [hF]), by rw [ht]; exact hP9, hS.F ht⟩) hS.2.2 dX6_join_33
  · refine lv_aload_n hx hb dX6_join_5 rfl (lv_at hl 0 rfl) ?_
    refine lv_iload_n hx hb dX6_join_6 rfl (lv_at hl 1 rfl) ?_
    refine lv_iload_n hx hb dX6_join_7 rfl (lv_at hl 3 rfl) ?_
    refine xc_i (va_runV (As := [.int p1, .int p3]) (rest := []) ⟨hx, hb, hml, hown, hts⟩ (c_X6_canEnd l dC dI cI cJ q σ p1 p3 (by assumption)) (cwV 2 hts (gV ml_X6_71 im_X6_canEnd se_X6_canEnd in_X6 co_X6_canEnd) rfl rfl rfl (by decide +kernel) ⟨Nat.le_of_ble_eq_true rfl, Nat.le_of_ble_eq_true rfl⟩) (preV hK hP (pos := 0) (ci := 6) rfl rfl) rfl rfl hl.1 rfl (lv_room (Nat.le_of_ble_eq_true rfl)) dX6_join_8 ⟨Nat.zero_le _, Nat.zero_le _⟩) ?_
    refine lv_if_eq (tgt := 31) hx hb dX6_join_11 (by decide) (fun c_11 => ?_) (fun c_11 => ?_)
    · refine lv_bipush (v := (-2)) hx hb dX6_join_31 (by decide) ?_
      have hF : fX6_join σ p1 p2 p3 p4 = ((-2), σ) := by rw [fX6_join, if_neg c_2, if_pos c_11]
      have hP9 : va_P (dC, dI) vwCl (wT cI cJ q (fX6_join σ p1 p2 p3 p4).2) H := by rw [hF]; exact hP
      exact W.iret (v := (-2)) hx hb hr (fun t ht hW => ⟨(by rw [hF]), by rw [ht]; exact hP9, hS.F ht⟩) hS.2.2 dX6_join_33
    · refine lv_aload_n hx hb dX6_join_14 rfl (lv_at hl 0 rfl) ?_
      refine lv_iload_n hx hb dX6_join_15 rfl (lv_at hl 2 rfl) ?_
      refine lv_iload_n hx hb dX6_join_16 rfl (lv_at hl 3 rfl) ?_
      refine xc_i (va_runV (As := [.int p2, .int p3]) (rest := []) ⟨hx, hb, hml, hown, hts⟩ (c_X6_canEnd l dC dI cI cJ q σ p2 p3 (by assumption)) (cwV 2 hts (gV ml_X6_71 im_X6_canEnd se_X6_canEnd in_X6 co_X6_canEnd) rfl rfl rfl (by decide +kernel) ⟨Nat.le_of_ble_eq_true rfl, Nat.le_of_ble_eq_true rfl⟩) (preV hK hP (pos := 0) (ci := 6) rfl rfl) rfl rfl hl.1 rfl (lv_room (Nat.le_of_ble_eq_true rfl)) dX6_join_17 ⟨Nat.zero_le _, Nat.zero_le _⟩) ?_
      refine lv_if_eq (tgt := 31) hx hb dX6_join_20 (by decide) (fun c_20 => ?_) (fun c_20 => ?_)
      · refine lv_bipush (v := (-2)) hx hb dX6_join_31 (by decide) ?_
        have hF : fX6_join σ p1 p2 p3 p4 = ((-2), σ) := by rw [fX6_join, if_neg c_2, if_neg c_11, if_pos c_20]
        have hP9 : va_P (dC, dI) vwCl (wT cI cJ q (fX6_join σ p1 p2 p3 p4).2) H := by rw [hF]; exact hP
        exact W.iret (v := (-2)) hx hb hr (fun t ht hW => ⟨(by rw [hF]), by rw [ht]; exact hP9, hS.F ht⟩) hS.2.2 dX6_join_33
      · refine lv_iload hx hb dX6_join_23 (lv_at hl 4 rfl) ?_
        refine xc_i (va_runS (As := [.int p4]) (rest := []) ⟨hx, hb, hml, hown, hts⟩ (c_X6_isCode l dC dI cI cJ q σ p4) (va_cwS 1 hts (gS ml_X6_52 st_X6_isCode in_X6 co_X6_isCode) rfl rfl rfl (by decide +kernel) ⟨Nat.le_of_ble_eq_true rfl, Nat.le_of_ble_eq_true rfl⟩) (preS hK hP) rfl rfl hl.1 rfl (lv_room (Nat.le_of_ble_eq_true rfl)) dX6_join_25 ⟨Nat.zero_le _, Nat.zero_le _⟩) ?_
        refine lv_if_ne (tgt := 34) hx hb dX6_join_28 (by decide) (fun c_28 => ?_) (fun c_28 => ?_)
        · refine lv_aload_n hx hb dX6_join_34 rfl (lv_at hl 0 rfl) ?_
          refine va_get (D := (dC, dI)) (ci := 6) (v := .ref (q 3)) (C := RX6) (T := TX6) (N := 6) hx hb hts inX6 hown hK hP 0 rfl rfl 1 (by decide) (hts _ fl_X6_19) (fun _ h9 => h9) rfl dX6_join_35 ?_
          refine lv_iload hx hb dX6_join_38 (lv_at hl 4 rfl) ?_
          refine lv_iload_n hx hb dX6_join_40 rfl (lv_at hl 3 rfl) ?_
          refine lv_iload_n hx hb dX6_join_41 rfl (lv_at hl 1 rfl) ?_
          refine lv_iload_n hx hb dX6_join_42 rfl (lv_at hl 2 rfl) ?_
          refine xc_i (va_runV (As := [.int p4, .int p3, .int p1, .int p2]) (rest := []) ⟨hx, hb, hml, hown, hts⟩ (c_X5_isTaken l dC dI cI cJ q σ p4 p3 p1 p2 (by assumption)) (cwV 4 hts (gV ml_X6_59 im_X5_isTaken se_X5_isTaken in_X5 co_X5_isTaken) rfl rfl rfl (by decide +kernel) ⟨Nat.le_of_ble_eq_true rfl, Nat.le_of_ble_eq_true rfl⟩) (preV hK hP (pos := 3) (ci := 5) rfl rfl) rfl rfl hl.1 rfl (lv_room (Nat.le_of_ble_eq_true rfl)) dX6_join_43 ⟨Nat.zero_le _, Nat.zero_le _⟩) ?_
          refine lv_if_eq (tgt := 52) hx hb dX6_join_46 (by decide) (fun c_46 => ?_) (fun c_46 => ?_)
          · refine lv_aload_n hx hb dX6_join_52 rfl (lv_at hl 0 rfl) ?_
            refine va_get (D := (dC, dI)) (ci := 6) (v := .ref (q 3)) (C := RX6) (T := TX6) (N := 6) hx hb hts inX6 hown hK hP 0 rfl rfl 1 (by decide) (hts _ fl_X6_19) (fun _ h9 => h9) rfl dX6_join_53 ?_
            refine xc_i (va_runV (As := []) (rest := []) ⟨hx, hb, hml, hown, hts⟩ (c_X5_room l dC dI cI cJ q σ ) (cwV 0 hts (gV ml_X6_63 im_X5_room se_X5_room in_X5 co_X5_room) rfl rfl rfl (by decide +kernel) ⟨Nat.le_of_ble_eq_true rfl, Nat.le_of_ble_eq_true rfl⟩) (preV hK hP (pos := 3) (ci := 5) rfl rfl) rfl rfl hl.1 rfl (lv_room (Nat.le_of_ble_eq_true rfl)) dX6_join_56 ⟨Nat.zero_le _, Nat.zero_le _⟩) ?_
            refine lv_iconst (v := 1) hx hb dX6_join_59 (by decide) ?_
            refine lv_icmp_ge (tgt := 66) hx hb dX6_join_60 (by decide) (fun c_60 => ?_) (fun c_60 => ?_)
            · refine lv_aload_n hx hb dX6_join_66 rfl (lv_at hl 0 rfl) ?_
              refine va_get (D := (dC, dI)) (ci := 6) (v := .ref (q 3)) (C := RX6) (T := TX6) (N := 6) hx hb hts inX6 hown hK hP 0 rfl rfl 1 (by decide) (hts _ fl_X6_19) (fun _ h9 => h9) rfl dX6_join_67 ?_
              refine lv_iload hx hb dX6_join_70 (lv_at hl 4 rfl) ?_
              refine lv_iload_n hx hb dX6_join_72 rfl (lv_at hl 3 rfl) ?_
              refine lv_aload_n hx hb dX6_join_73 rfl (lv_at hl 0 rfl) ?_
              refine va_get (D := (dC, dI)) (ci := 6) (v := .int (σ.2.1 0)) (C := RX6) (T := TX6) (N := 6) hx hb hts inX6 hown hK hP 0 rfl rfl 5 (by decide) (hts _ fl_X6_48) (fun _ h9 => h9) rfl dX6_join_74 ?_
              refine xw_c (va_runV (As := [.int p4, .int p3, .int (σ.2.1 0)]) (rest := []) ⟨hx, hb, hml, hown, hts⟩ (c_X5_add l dC dI cI cJ q σ p4 p3 (σ.2.1 0) (by assumption) (by assumption)) (cwV 3 hts (gV ml_X6_67 im_X5_add se_X5_add in_X5 co_X5_add) rfl rfl rfl (by decide +kernel) ⟨Nat.le_of_ble_eq_true rfl, Nat.le_of_ble_eq_true rfl⟩) (preV hK hP (pos := 3) (ci := 5) rfl rfl) rfl rfl hl.1 rfl (lv_room (Nat.le_of_ble_eq_true rfl)) dX6_join_77 ⟨Nat.zero_le _, Nat.zero_le _⟩) hS (fun _ h => h) (fun H locs hP _ _ hS => ?_)
              have hP : va_P (dC, dI) vwCl (wT cI cJ q (fX5_add σ p4 p3 (σ.2.1 0)).2) H := hP
              refine W.eq (g2 := F0 m 80 ls [.int ((fX5_add σ p4 p3 (σ.2.1 0)).1)]) rfl ?_
              refine lv_istore (lv' := [(5, .int ((fX5_add σ p4 p3 (σ.2.1 0)).1)), (0, .ref (q 0)), (1, .int p1), (2, .int p2), (3, .int p3), (4, .int p4)]) hx hb dX6_join_80 hl (by decide) rfl (fun ls hl => ?_)
              refine lv_aload_n hx hb dX6_join_82 rfl (lv_at hl 1 rfl) ?_
              refine va_get (D := (dC, dI)) (ci := 6) (v := .ref (q 3)) (C := RX6) (T := TX6) (N := 6) hx hb hts inX6 hown hK hP 0 rfl rfl 1 (by decide) (hts _ fl_X6_19) (fun _ h9 => h9) rfl dX6_join_83 ?_
              refine lv_iload_n hx hb dX6_join_86 rfl (lv_at hl 2 rfl) ?_
              refine lv_iload_n hx hb dX6_join_87 rfl (lv_at hl 4 rfl) ?_
              refine lv_aload_n hx hb dX6_join_88 rfl (lv_at hl 1 rfl) ?_
              refine va_get (D := (dC, dI)) (ci := 6) (v := .int (((fX5_add σ p4 p3 (σ.2.1 0)).2).2.1 0)) (C := RX6) (T := TX6) (N := 6) hx hb hts inX6 hown hK hP 0 rfl rfl 5 (by decide) (hts _ fl_X6_48) (fun _ h9 => h9) rfl dX6_join_89 ?_
              refine lv_iconst (v := 3) hx hb dX6_join_92 (by decide) ?_
              refine lv_iload hx hb dX6_join_93 (lv_at hl 0 rfl) ?_
              refine xw_c (va_runV (As := [.int p1, .int p3, .int (((fX5_add σ p4 p3 (σ.2.1 0)).2).2.1 0), .int 3, .int ((fX5_add σ p4 p3 (σ.2.1 0)).1)]) (rest := []) ⟨hx, hb, hml, hown, hts⟩ (c_X5_finish l dC dI cI cJ q (fX5_add σ p4 p3 (σ.2.1 0)).2 p1 p3 (((fX5_add σ p4 p3 (σ.2.1 0)).2).2.1 0) 3 ((fX5_add σ p4 p3 (σ.2.1 0)).1) (by assumption) (canEnd_in hI c_11)) (cwV 5 hts (gV ml_X6_75 im_X5_finish se_X5_finish in_X5 co_X5_finish) rfl rfl rfl (by decide +kernel) ⟨Nat.le_of_ble_eq_true rfl, Nat.le_of_ble_eq_true rfl⟩) (preV hK hP (pos := 3) (ci := 5) rfl rfl) rfl rfl hl.1 rfl (lv_room (Nat.le_of_ble_eq_true rfl)) dX6_join_95 ⟨Nat.zero_le _, Nat.zero_le _⟩) hS (fun _ h => h) (fun H locs hP _ _ hS => ?_)
              have hP : va_P (dC, dI) vwCl (wT cI cJ q (fX5_finish (fX5_add σ p4 p3 (σ.2.1 0)).2 p1 p3 (((fX5_add σ p4 p3 (σ.2.1 0)).2).2.1 0) 3 ((fX5_add σ p4 p3 (σ.2.1 0)).1))) H := hP
              refine W.eq (g2 := F0 m 98 ls []) rfl ?_
              refine lv_aload_n hx hb dX6_join_98 rfl (lv_at hl 1 rfl) ?_
              refine va_get (D := (dC, dI)) (ci := 6) (v := .ref (q 3)) (C := RX6) (T := TX6) (N := 6) hx hb hts inX6 hown hK hP 0 rfl rfl 1 (by decide) (hts _ fl_X6_19) (fun _ h9 => h9) rfl dX6_join_99 ?_
              refine lv_iload_n hx hb dX6_join_102 rfl (lv_at hl 3 rfl) ?_
              refine lv_iload_n hx hb dX6_join_103 rfl (lv_at hl 4 rfl) ?_
              refine lv_aload_n hx hb dX6_join_104 rfl (lv_at hl 1 rfl) ?_
              refine va_get (D := (dC, dI)) (ci := 6) (v := .int ((fX5_finish (fX5_add σ p4 p3 (σ.2.1 0)).2 p1 p3 (((fX5_add σ p4 p3 (σ.2.1 0)).2).2.1 0) 3 ((fX5_add σ p4 p3 (σ.2.1 0)).1)).2.1 0)) (C := RX6) (T := TX6) (N := 6) hx hb hts inX6 hown hK hP 0 rfl rfl 5 (by decide) (hts _ fl_X6_48) (fun _ h9 => h9) rfl dX6_join_105 ?_
              refine lv_iconst (v := 3) hx hb dX6_join_108 (by decide) ?_
              refine lv_iload hx hb dX6_join_109 (lv_at hl 0 rfl) ?_
              refine xw_c (va_runV (As := [.int p2, .int p3, .int ((fX5_finish (fX5_add σ p4 p3 (σ.2.1 0)).2 p1 p3 (((fX5_add σ p4 p3 (σ.2.1 0)).2).2.1 0) 3 ((fX5_add σ p4 p3 (σ.2.1 0)).1)).2.1 0), .int 3, .int ((fX5_add σ p4 p3 (σ.2.1 0)).1)]) (rest := []) ⟨hx, hb, hml, hown, hts⟩ (c_X5_finish l dC dI cI cJ q (fX5_finish (fX5_add σ p4 p3 (σ.2.1 0)).2 p1 p3 (((fX5_add σ p4 p3 (σ.2.1 0)).2).2.1 0) 3 ((fX5_add σ p4 p3 (σ.2.1 0)).1)) p2 p3 ((fX5_finish (fX5_add σ p4 p3 (σ.2.1 0)).2 p1 p3 (((fX5_add σ p4 p3 (σ.2.1 0)).2).2.1 0) 3 ((fX5_add σ p4 p3 (σ.2.1 0)).1)).2.1 0) 3 ((fX5_add σ p4 p3 (σ.2.1 0)).1) (by assumption) (canEnd_in hI c_20)) (cwV 5 hts (gV ml_X6_75 im_X5_finish se_X5_finish in_X5 co_X5_finish) rfl rfl rfl (by decide +kernel) ⟨Nat.le_of_ble_eq_true rfl, Nat.le_of_ble_eq_true rfl⟩) (preV hK hP (pos := 3) (ci := 5) rfl rfl) rfl rfl hl.1 rfl (lv_room (Nat.le_of_ble_eq_true rfl)) dX6_join_111 ⟨Nat.zero_le _, Nat.zero_le _⟩) hS (fun _ h => h) (fun H locs hP _ _ hS => ?_)
              have hP : va_P (dC, dI) vwCl (wT cI cJ q (fX5_finish (fX5_finish (fX5_add σ p4 p3 (σ.2.1 0)).2 p1 p3 (((fX5_add σ p4 p3 (σ.2.1 0)).2).2.1 0) 3 ((fX5_add σ p4 p3 (σ.2.1 0)).1)) p2 p3 ((fX5_finish (fX5_add σ p4 p3 (σ.2.1 0)).2 p1 p3 (((fX5_add σ p4 p3 (σ.2.1 0)).2).2.1 0) 3 ((fX5_add σ p4 p3 (σ.2.1 0)).1)).2.1 0) 3 ((fX5_add σ p4 p3 (σ.2.1 0)).1))) H := hP
              refine W.eq (g2 := F0 m 114 ls []) rfl ?_
              refine lv_iload hx hb dX6_join_114 (lv_at hl 0 rfl) ?_
              have hF : fX6_join σ p1 p2 p3 p4 = ((fX5_add σ p4 p3 (σ.2.1 0)).1, (fX5_finish (fX5_finish (fX5_add σ p4 p3 (σ.2.1 0)).2 p1 p3 (((fX5_add σ p4 p3 (σ.2.1 0)).2).2.1 0) 3 ((fX5_add σ p4 p3 (σ.2.1 0)).1)) p2 p3 ((fX5_finish (fX5_add σ p4 p3 (σ.2.1 0)).2 p1 p3 (((fX5_add σ p4 p3 (σ.2.1 0)).2).2.1 0) 3 ((fX5_add σ p4 p3 (σ.2.1 0)).1)).2.1 0) 3 ((fX5_add σ p4 p3 (σ.2.1 0)).1))) := by rw [fX6_join, if_neg c_2, if_neg c_11, if_neg c_20, if_neg c_28, if_pos c_46, if_pos c_60]
              have hP9 : va_P (dC, dI) vwCl (wT cI cJ q (fX6_join σ p1 p2 p3 p4).2) H := by rw [hF]; exact hP
              exact W.iret (v := (fX5_add σ p4 p3 (σ.2.1 0)).1) hx hb hr (fun t ht hW => ⟨(by rw [hF]), by rw [ht]; exact hP9, hS.F ht⟩) hS.2.2 dX6_join_116
            · refine lv_bipush (v := (-4)) hx hb dX6_join_63 (by decide) ?_
              have hF : fX6_join σ p1 p2 p3 p4 = ((-4), σ) := by rw [fX6_join, if_neg c_2, if_neg c_11, if_neg c_20, if_neg c_28, if_pos c_46, if_neg c_60]
              have hP9 : va_P (dC, dI) vwCl (wT cI cJ q (fX6_join σ p1 p2 p3 p4).2) H := by rw [hF]; exact hP
              exact W.iret (v := (-4)) hx hb hr (fun t ht hW => ⟨(by rw [hF]), by rw [ht]; exact hP9, hS.F ht⟩) hS.2.2 dX6_join_65
          · refine lv_bipush (v := (-3)) hx hb dX6_join_49 (by decide) ?_
            have hF : fX6_join σ p1 p2 p3 p4 = ((-3), σ) := by rw [fX6_join, if_neg c_2, if_neg c_11, if_neg c_20, if_neg c_28, if_neg c_46]
            have hP9 : va_P (dC, dI) vwCl (wT cI cJ q (fX6_join σ p1 p2 p3 p4).2) H := by rw [hF]; exact hP
            exact W.iret (v := (-3)) hx hb hr (fun t ht hW => ⟨(by rw [hF]), by rw [ht]; exact hP9, hS.F ht⟩) hS.2.2 dX6_join_51
        · refine lv_bipush (v := (-2)) hx hb dX6_join_31 (by decide) ?_
          have hF : fX6_join σ p1 p2 p3 p4 = ((-2), σ) := by rw [fX6_join, if_neg c_2, if_neg c_11, if_neg c_20, if_pos c_28]
          have hP9 : va_P (dC, dI) vwCl (wT cI cJ q (fX6_join σ p1 p2 p3 p4).2) H := by rw [hF]; exact hP
          exact W.iret (v := (-2)) hx hb hr (fun t ht hW => ⟨(by rw [hF]), by rw [ht]; exact hP9, hS.F ht⟩) hS.2.2 dX6_join_33

def fX6_mark (σ : St) (p1 : Int32) (p2 : Int32) (p3 : Int32) (p4 : Int32) : Int32 × St :=
  (if (fX5_has σ p1) = 0 then (0, σ) else (if (fX6_isMark σ p2) = 0 then (0, σ) else (if (fX6_isDay σ p3) = 0 then (0, σ) else (if p4 < 0 then (0, σ) else (if p4 ≤ 99 then (if (fX3_isFull_T σ) = 0 then (if p2 = 0 then (if (fX6_isFixed σ p1) = 0 then (1, (fX4_add σ p1 p2 p3 p4 (σ.2.1 0))) else (0, σ)) else (1, (fX4_add σ p1 p2 p3 p4 (σ.2.1 0)))) else (0, σ)) else (0, σ))))))
set_option maxHeartbeats 4000000 in
set_option maxRecDepth 100000 in
theorem c_X6_mark (l : Launch) (dC : Nat → ClassId) (dI : Nat → Nat → Nat) (cI cJ : ClassId) (q : Nat → Nat) (σ : St) (p1 : Int32) (p2 : Int32) (p3 : Int32) (p4 : Int32) (hd : dT 30 q) (hI : IB σ) : Met l yX6_mark (.code yX6_mark cX6_mark 5 (some .boolean) :: tb) { frames := 4, cells := 0, slots := 0, locals := 91 } (Pu (dC, dI) (tyC cI cJ) (wT cI cJ q σ) [.ref (q 0), .int p1, .int p2, .int p3, .int p4]) (xw_Q (some (.int (fX6_mark σ p1 p2 p3 p4).1)) (dC, dI) (wT cI cJ q (fX6_mark σ p1 p2 p3 p4).2) (aT 30 q)) 0 0 (aT 30 q) := by
  refine Met.ofW (cc := cX6_mark) (maxL := 5) (ret := (some .boolean)) (by decide) rfl ?_
  intro p e s m args below meth c s₁ B hml hv
  obtain ⟨rfl, hP, hK⟩ := hv
  have hx := B.exec
  have hb := B.bytes
  have hr := B.returns
  have hts0 := atoms_spec (ws := .code yX6_mark cX6_mark 5 (some .boolean) :: tb) B.pre
  have hts : ∀ w ∈ tb, w.before _ s = true := fun w hw => hts0 w (List.mem_cons_of_mem _ hw)
  have hown : s.vm.findClass RX6 = some m.cls := findClass_of_methodNamed B.named
  have hlocks := B.notSynchronized
  have hl := lv_entry ([.ref (q 0), .int p1, .int p2, .int p3, .int p4]) (n := 5) (Nat.le_of_ble_eq_true rfl)
  rw [lg_entry_eq]
  generalize (lg_sl ([.ref (q 0), .int p1, .int p2, .int p3, .int p4]) ++ List.replicate (5 - (lg_sl ([.ref (q 0), .int p1, .int p2, .int p3, .int p4])).length) Slot.unset).toArray = ls at hl ⊢
  have hl : lv_has ls 5 [(0, .ref (q 0)), (1, .int p1), (2, .int p2), (3, .int p3), (4, .int p4)] := hl
  obtain ⟨H, hHe⟩ : ∃ H, s.heap = H := ⟨_, rfl⟩
  rw [hHe] at hP ⊢
  obtain ⟨locs, hLe⟩ : ∃ x : List Loc, ([] : List Loc) = x := ⟨_, rfl⟩
  rw [hLe]
  have hS : va_S (aT 30 q) s.heap H locs := by rw [← hHe, ← hLe]; exact va_S.rf
  refine lv_aload_n hx hb dX6_mark_0 rfl (lv_at hl 0 rfl) ?_
  refine va_get (D := (dC, dI)) (ci := 6) (v := .ref (q 3)) (C := RX6) (T := TX6) (N := 6) hx hb hts inX6 hown hK hP 0 rfl rfl 1 (by decide) (hts _ fl_X6_19) (fun _ h9 => h9) rfl dX6_mark_1 ?_
  refine lv_iload_n hx hb dX6_mark_4 rfl (lv_at hl 1 rfl) ?_
  refine xc_i (va_runV (As := [.int p1]) (rest := []) ⟨hx, hb, hml, hown, hts⟩ (c_X5_has l dC dI cI cJ q σ p1) (cwV 1 hts (gV ml_X6_86 im_X5_has se_X5_has in_X5 co_X5_has) rfl rfl rfl (by decide +kernel) ⟨Nat.le_of_ble_eq_true rfl, Nat.le_of_ble_eq_true rfl⟩) (preV hK hP (pos := 3) (ci := 5) rfl rfl) rfl rfl hl.1 rfl (lv_room (Nat.le_of_ble_eq_true rfl)) dX6_mark_5 ⟨Nat.zero_le _, Nat.zero_le _⟩) ?_
  refine lv_if_eq (tgt := 37) hx hb dX6_mark_8 (by decide) (fun c_8 => ?_) (fun c_8 => ?_)
  · refine lv_iconst (v := 0) hx hb dX6_mark_37 (by decide) ?_
    have hF : fX6_mark σ p1 p2 p3 p4 = (0, σ) := by rw [fX6_mark, if_pos c_8]
    have hP9 : va_P (dC, dI) vwCl (wT cI cJ q (fX6_mark σ p1 p2 p3 p4).2) H := by rw [hF]; exact hP
    exact W.zret (v := 0) hx hb hr narrow_b0 (fun t ht hW => ⟨(by rw [hF]), by rw [ht]; exact hP9, hS.F ht⟩) hS.2.2 dX6_mark_38
  · refine lv_iload_n hx hb dX6_mark_11 rfl (lv_at hl 2 rfl) ?_
    refine xc_i (va_runS (As := [.int p2]) (rest := []) ⟨hx, hb, hml, hown, hts⟩ (c_X6_isMark l dC dI cI cJ q σ p2) (va_cwS 1 hts (gS ml_X6_89 st_X6_isMark in_X6 co_X6_isMark) rfl rfl rfl (by decide +kernel) ⟨Nat.le_of_ble_eq_true rfl, Nat.le_of_ble_eq_true rfl⟩) (preS hK hP) rfl rfl hl.1 rfl (lv_room (Nat.le_of_ble_eq_true rfl)) dX6_mark_12 ⟨Nat.zero_le _, Nat.zero_le _⟩) ?_
    refine lv_if_eq (tgt := 37) hx hb dX6_mark_15 (by decide) (fun c_15 => ?_) (fun c_15 => ?_)
    · refine lv_iconst (v := 0) hx hb dX6_mark_37 (by decide) ?_
      have hF : fX6_mark σ p1 p2 p3 p4 = (0, σ) := by rw [fX6_mark, if_neg c_8, if_pos c_15]
      have hP9 : va_P (dC, dI) vwCl (wT cI cJ q (fX6_mark σ p1 p2 p3 p4).2) H := by rw [hF]; exact hP
      exact W.zret (v := 0) hx hb hr narrow_b0 (fun t ht hW => ⟨(by rw [hF]), by rw [ht]; exact hP9, hS.F ht⟩) hS.2.2 dX6_mark_38
    · refine lv_iload_n hx hb dX6_mark_18 rfl (lv_at hl 3 rfl) ?_
      refine xc_i (va_runS (As := [.int p3]) (rest := []) ⟨hx, hb, hml, hown, hts⟩ (c_X6_isDay l dC dI cI cJ q σ p3) (va_cwS 1 hts (gS ml_X6_56 st_X6_isDay in_X6 co_X6_isDay) rfl rfl rfl (by decide +kernel) ⟨Nat.le_of_ble_eq_true rfl, Nat.le_of_ble_eq_true rfl⟩) (preS hK hP) rfl rfl hl.1 rfl (lv_room (Nat.le_of_ble_eq_true rfl)) dX6_mark_19 ⟨Nat.zero_le _, Nat.zero_le _⟩) ?_
      refine lv_if_eq (tgt := 37) hx hb dX6_mark_22 (by decide) (fun c_22 => ?_) (fun c_22 => ?_)
      · refine lv_iconst (v := 0) hx hb dX6_mark_37 (by decide) ?_
        have hF : fX6_mark σ p1 p2 p3 p4 = (0, σ) := by rw [fX6_mark, if_neg c_8, if_neg c_15, if_pos c_22]
        have hP9 : va_P (dC, dI) vwCl (wT cI cJ q (fX6_mark σ p1 p2 p3 p4).2) H := by rw [hF]; exact hP
        exact W.zret (v := 0) hx hb hr narrow_b0 (fun t ht hW => ⟨(by rw [hF]), by rw [ht]; exact hP9, hS.F ht⟩) hS.2.2 dX6_mark_38
      · refine lv_iload hx hb dX6_mark_25 (lv_at hl 4 rfl) ?_
        refine lv_if_lt (tgt := 37) hx hb dX6_mark_27 (by decide) (fun c_27 => ?_) (fun c_27 => ?_)
        · refine lv_iconst (v := 0) hx hb dX6_mark_37 (by decide) ?_
          have hF : fX6_mark σ p1 p2 p3 p4 = (0, σ) := by rw [fX6_mark, if_neg c_8, if_neg c_15, if_neg c_22, if_pos c_27]
          have hP9 : va_P (dC, dI) vwCl (wT cI cJ q (fX6_mark σ p1 p2 p3 p4).2) H := by rw [hF]; exact hP
          exact W.zret (v := 0) hx hb hr narrow_b0 (fun t ht hW => ⟨(by rw [hF]), by rw [ht]; exact hP9, hS.F ht⟩) hS.2.2 dX6_mark_38
        · refine lv_iload hx hb dX6_mark_30 (lv_at hl 4 rfl) ?_
          refine lv_bipush (v := 99) hx hb dX6_mark_32 (by decide) ?_
          refine lv_icmp_le (tgt := 39) hx hb dX6_mark_34 (by decide) (fun c_34 => ?_) (fun c_34 => ?_)
          · refine lv_aload_n hx hb dX6_mark_39 rfl (lv_at hl 0 rfl) ?_
            refine va_get (D := (dC, dI)) (ci := 6) (v := .ref (q 13)) (C := RX6) (T := TX6) (N := 6) hx hb hts inX6 hown hK hP 0 rfl rfl 2 (by decide) (hts _ fl_X6_28) (fun _ h9 => h9) rfl dX6_mark_40 ?_
            refine xc_i (va_runV (As := []) (rest := []) ⟨hx, hb, hml, hown, hts⟩ (c_X4_isFull l dC dI cI cJ q σ ) (cwV 0 hts (gV ml_X6_92 im_X4_isFull se_X4_isFull in_X4 co_X4_isFull) rfl rfl rfl (by decide +kernel) ⟨Nat.le_of_ble_eq_true rfl, Nat.le_of_ble_eq_true rfl⟩) (preV hK hP (pos := 13) (ci := 4) rfl rfl) rfl rfl hl.1 rfl (lv_room (Nat.le_of_ble_eq_true rfl)) dX6_mark_43 ⟨Nat.zero_le _, Nat.zero_le _⟩) ?_
            refine lv_if_ne (tgt := 61) hx hb dX6_mark_46 (by decide) (fun c_46 => ?_) (fun c_46 => ?_)
            · refine lv_iconst (v := 0) hx hb dX6_mark_61 (by decide) ?_
              have hF : fX6_mark σ p1 p2 p3 p4 = (0, σ) := by rw [fX6_mark, if_neg c_8, if_neg c_15, if_neg c_22, if_neg c_27, if_pos c_34, if_neg c_46]
              have hP9 : va_P (dC, dI) vwCl (wT cI cJ q (fX6_mark σ p1 p2 p3 p4).2) H := by rw [hF]; exact hP
              exact W.zret (v := 0) hx hb hr narrow_b0 (fun t ht hW => ⟨(by rw [hF]), by rw [ht]; exact hP9, hS.F ht⟩) hS.2.2 dX6_mark_62
            · refine lv_iload_n hx hb dX6_mark_49 rfl (lv_at hl 2 rfl) ?_
              refine lv_if_ne (tgt := 63) hx hb dX6_mark_50 (by decide) (fun c_50 => ?_) (fun c_50 => ?_)
              · refine lv_aload_n hx hb dX6_mark_63 rfl (lv_at hl 0 rfl) ?_
                refine va_get (D := (dC, dI)) (ci := 6) (v := .ref (q 13)) (C := RX6) (T := TX6) (N := 6) hx hb hts inX6 hown hK hP 0 rfl rfl 2 (by decide) (hts _ fl_X6_28) (fun _ h9 => h9) rfl dX6_mark_64 ?_
                refine lv_iload_n hx hb dX6_mark_67 rfl (lv_at hl 1 rfl) ?_
                refine lv_iload_n hx hb dX6_mark_68 rfl (lv_at hl 2 rfl) ?_
                refine lv_iload_n hx hb dX6_mark_69 rfl (lv_at hl 3 rfl) ?_
                refine lv_iload hx hb dX6_mark_70 (lv_at hl 4 rfl) ?_
                refine lv_aload_n hx hb dX6_mark_72 rfl (lv_at hl 0 rfl) ?_
                refine va_get (D := (dC, dI)) (ci := 6) (v := .int (σ.2.1 0)) (C := RX6) (T := TX6) (N := 6) hx hb hts inX6 hown hK hP 0 rfl rfl 5 (by decide) (hts _ fl_X6_48) (fun _ h9 => h9) rfl dX6_mark_73 ?_
                refine xw_c (va_runV (As := [.int p1, .int p2, .int p3, .int p4, .int (σ.2.1 0)]) (rest := []) ⟨hx, hb, hml, hown, hts⟩ (c_X4_add l dC dI cI cJ q σ p1 p2 p3 p4 (σ.2.1 0) (by assumption) (by assumption)) (cwV 5 hts (gV ml_X6_99 im_X4_add se_X4_add in_X4 co_X4_add) rfl rfl rfl (by decide +kernel) ⟨Nat.le_of_ble_eq_true rfl, Nat.le_of_ble_eq_true rfl⟩) (preV hK hP (pos := 13) (ci := 4) rfl rfl) rfl rfl hl.1 rfl (lv_room (Nat.le_of_ble_eq_true rfl)) dX6_mark_76 ⟨Nat.zero_le _, Nat.zero_le _⟩) hS (fun _ h => h) (fun H locs hP _ _ hS => ?_)
                have hP : va_P (dC, dI) vwCl (wT cI cJ q (fX4_add σ p1 p2 p3 p4 (σ.2.1 0))) H := hP
                refine W.eq (g2 := F0 m 79 ls []) rfl ?_
                refine lv_iconst (v := 1) hx hb dX6_mark_79 (by decide) ?_
                have hF : fX6_mark σ p1 p2 p3 p4 = (1, (fX4_add σ p1 p2 p3 p4 (σ.2.1 0))) := by rw [fX6_mark, if_neg c_8, if_neg c_15, if_neg c_22, if_neg c_27, if_pos c_34, if_pos c_46, if_neg c_50]
                have hP9 : va_P (dC, dI) vwCl (wT cI cJ q (fX6_mark σ p1 p2 p3 p4).2) H := by rw [hF]; exact hP
                exact W.zret (v := 1) hx hb hr narrow_b1 (fun t ht hW => ⟨(by rw [hF]), by rw [ht]; exact hP9, hS.F ht⟩) hS.2.2 dX6_mark_80
              · refine lv_aload_n hx hb dX6_mark_53 rfl (lv_at hl 0 rfl) ?_
                refine lv_iload_n hx hb dX6_mark_54 rfl (lv_at hl 1 rfl) ?_
                refine xc_i (va_runV (As := [.int p1]) (rest := []) ⟨hx, hb, hml, hown, hts⟩ (c_X6_isFixed l dC dI cI cJ q σ p1 (by assumption)) (cwV 1 hts (gV ml_X6_96 im_X6_isFixed se_X6_isFixed in_X6 co_X6_isFixed) rfl rfl rfl (by decide +kernel) ⟨Nat.le_of_ble_eq_true rfl, Nat.le_of_ble_eq_true rfl⟩) (preV hK hP (pos := 0) (ci := 6) rfl rfl) rfl rfl hl.1 rfl (lv_room (Nat.le_of_ble_eq_true rfl)) dX6_mark_55 ⟨Nat.zero_le _, Nat.zero_le _⟩) ?_
                refine lv_if_eq (tgt := 63) hx hb dX6_mark_58 (by decide) (fun c_58 => ?_) (fun c_58 => ?_)
                · refine lv_aload_n hx hb dX6_mark_63 rfl (lv_at hl 0 rfl) ?_
                  refine va_get (D := (dC, dI)) (ci := 6) (v := .ref (q 13)) (C := RX6) (T := TX6) (N := 6) hx hb hts inX6 hown hK hP 0 rfl rfl 2 (by decide) (hts _ fl_X6_28) (fun _ h9 => h9) rfl dX6_mark_64 ?_
                  refine lv_iload_n hx hb dX6_mark_67 rfl (lv_at hl 1 rfl) ?_
                  refine lv_iload_n hx hb dX6_mark_68 rfl (lv_at hl 2 rfl) ?_
                  refine lv_iload_n hx hb dX6_mark_69 rfl (lv_at hl 3 rfl) ?_
                  refine lv_iload hx hb dX6_mark_70 (lv_at hl 4 rfl) ?_
                  refine lv_aload_n hx hb dX6_mark_72 rfl (lv_at hl 0 rfl) ?_
                  refine va_get (D := (dC, dI)) (ci := 6) (v := .int (σ.2.1 0)) (C := RX6) (T := TX6) (N := 6) hx hb hts inX6 hown hK hP 0 rfl rfl 5 (by decide) (hts _ fl_X6_48) (fun _ h9 => h9) rfl dX6_mark_73 ?_
                  refine xw_c (va_runV (As := [.int p1, .int p2, .int p3, .int p4, .int (σ.2.1 0)]) (rest := []) ⟨hx, hb, hml, hown, hts⟩ (c_X4_add l dC dI cI cJ q σ p1 p2 p3 p4 (σ.2.1 0) (by assumption) (by assumption)) (cwV 5 hts (gV ml_X6_99 im_X4_add se_X4_add in_X4 co_X4_add) rfl rfl rfl (by decide +kernel) ⟨Nat.le_of_ble_eq_true rfl, Nat.le_of_ble_eq_true rfl⟩) (preV hK hP (pos := 13) (ci := 4) rfl rfl) rfl rfl hl.1 rfl (lv_room (Nat.le_of_ble_eq_true rfl)) dX6_mark_76 ⟨Nat.zero_le _, Nat.zero_le _⟩) hS (fun _ h => h) (fun H locs hP _ _ hS => ?_)
                  have hP : va_P (dC, dI) vwCl (wT cI cJ q (fX4_add σ p1 p2 p3 p4 (σ.2.1 0))) H := hP
                  refine W.eq (g2 := F0 m 79 ls []) rfl ?_
                  refine lv_iconst (v := 1) hx hb dX6_mark_79 (by decide) ?_
                  have hF : fX6_mark σ p1 p2 p3 p4 = (1, (fX4_add σ p1 p2 p3 p4 (σ.2.1 0))) := by rw [fX6_mark, if_neg c_8, if_neg c_15, if_neg c_22, if_neg c_27, if_pos c_34, if_pos c_46, if_pos c_50, if_pos c_58]
                  have hP9 : va_P (dC, dI) vwCl (wT cI cJ q (fX6_mark σ p1 p2 p3 p4).2) H := by rw [hF]; exact hP
                  exact W.zret (v := 1) hx hb hr narrow_b1 (fun t ht hW => ⟨(by rw [hF]), by rw [ht]; exact hP9, hS.F ht⟩) hS.2.2 dX6_mark_80
                · refine lv_iconst (v := 0) hx hb dX6_mark_61 (by decide) ?_
                  have hF : fX6_mark σ p1 p2 p3 p4 = (0, σ) := by rw [fX6_mark, if_neg c_8, if_neg c_15, if_neg c_22, if_neg c_27, if_pos c_34, if_pos c_46, if_pos c_50, if_neg c_58]
                  have hP9 : va_P (dC, dI) vwCl (wT cI cJ q (fX6_mark σ p1 p2 p3 p4).2) H := by rw [hF]; exact hP
                  exact W.zret (v := 0) hx hb hr narrow_b0 (fun t ht hW => ⟨(by rw [hF]), by rw [ht]; exact hP9, hS.F ht⟩) hS.2.2 dX6_mark_62
          · refine lv_iconst (v := 0) hx hb dX6_mark_37 (by decide) ?_
            have hF : fX6_mark σ p1 p2 p3 p4 = (0, σ) := by rw [fX6_mark, if_neg c_8, if_neg c_15, if_neg c_22, if_neg c_27, if_neg c_34]
            have hP9 : va_P (dC, dI) vwCl (wT cI cJ q (fX6_mark σ p1 p2 p3 p4).2) H := by rw [hF]; exact hP
            exact W.zret (v := 0) hx hb hr narrow_b0 (fun t ht hW => ⟨(by rw [hF]), by rw [ht]; exact hP9, hS.F ht⟩) hS.2.2 dX6_mark_38

def fX6_fact (σ : St) (p1 : Int32) (p2 : Int32) (p3 : Int32) : Int32 × St :=
  (if (fX6_isCode σ p1) = 0 then ((-1), σ) else (if (fX6_isDay σ p2) = 0 then ((-1), σ) else (if p3 < (-10000) then ((-1), σ) else (if 10000 < p3 then ((-1), σ) else (if (fX3_isFull_F σ) = 0 then ((fX1_add σ p1 p2 p3 (σ.2.1 0)).1, (fX1_add σ p1 p2 p3 (σ.2.1 0)).2) else ((-1), σ))))))
set_option maxHeartbeats 4000000 in
set_option maxRecDepth 100000 in
theorem c_X6_fact (l : Launch) (dC : Nat → ClassId) (dI : Nat → Nat → Nat) (cI cJ : ClassId) (q : Nat → Nat) (σ : St) (p1 : Int32) (p2 : Int32) (p3 : Int32) (hd : dT 30 q) (hI : IB σ) : Met l yX6_fact (.code yX6_fact cX6_fact 4 (some .int) :: tb) { frames := 3, cells := 0, slots := 0, locals := 66 } (Pu (dC, dI) (tyC cI cJ) (wT cI cJ q σ) [.ref (q 0), .int p1, .int p2, .int p3]) (xw_Q (some (.int (fX6_fact σ p1 p2 p3).1)) (dC, dI) (wT cI cJ q (fX6_fact σ p1 p2 p3).2) (aT 30 q)) 0 0 (aT 30 q) := by
  refine Met.ofW (cc := cX6_fact) (maxL := 4) (ret := (some .int)) (by decide) rfl ?_
  intro p e s m args below meth c s₁ B hml hv
  obtain ⟨rfl, hP, hK⟩ := hv
  have hx := B.exec
  have hb := B.bytes
  have hr := B.returns
  have hts0 := atoms_spec (ws := .code yX6_fact cX6_fact 4 (some .int) :: tb) B.pre
  have hts : ∀ w ∈ tb, w.before _ s = true := fun w hw => hts0 w (List.mem_cons_of_mem _ hw)
  have hown : s.vm.findClass RX6 = some m.cls := findClass_of_methodNamed B.named
  have hlocks := B.notSynchronized
  have hl := lv_entry ([.ref (q 0), .int p1, .int p2, .int p3]) (n := 4) (Nat.le_of_ble_eq_true rfl)
  rw [lg_entry_eq]
  generalize (lg_sl ([.ref (q 0), .int p1, .int p2, .int p3]) ++ List.replicate (4 - (lg_sl ([.ref (q 0), .int p1, .int p2, .int p3])).length) Slot.unset).toArray = ls at hl ⊢
  have hl : lv_has ls 4 [(0, .ref (q 0)), (1, .int p1), (2, .int p2), (3, .int p3)] := hl
  obtain ⟨H, hHe⟩ : ∃ H, s.heap = H := ⟨_, rfl⟩
  rw [hHe] at hP ⊢
  obtain ⟨locs, hLe⟩ : ∃ x : List Loc, ([] : List Loc) = x := ⟨_, rfl⟩
  rw [hLe]
  have hS : va_S (aT 30 q) s.heap H locs := by rw [← hHe, ← hLe]; exact va_S.rf
  refine lv_iload_n hx hb dX6_fact_0 rfl (lv_at hl 1 rfl) ?_
  refine xc_i (va_runS (As := [.int p1]) (rest := []) ⟨hx, hb, hml, hown, hts⟩ (c_X6_isCode l dC dI cI cJ q σ p1) (va_cwS 1 hts (gS ml_X6_52 st_X6_isCode in_X6 co_X6_isCode) rfl rfl rfl (by decide +kernel) ⟨Nat.le_of_ble_eq_true rfl, Nat.le_of_ble_eq_true rfl⟩) (preS hK hP) rfl rfl hl.1 rfl (lv_room (Nat.le_of_ble_eq_true rfl)) dX6_fact_1 ⟨Nat.zero_le _, Nat.zero_le _⟩) ?_
  refine lv_if_eq (tgt := 38) hx hb dX6_fact_4 (by decide) (fun c_4 => ?_) (fun c_4 => ?_)
  · refine lv_iconst (v := (-1)) hx hb dX6_fact_38 (by decide) ?_
    have hF : fX6_fact σ p1 p2 p3 = ((-1), σ) := by rw [fX6_fact, if_pos c_4]
    have hP9 : va_P (dC, dI) vwCl (wT cI cJ q (fX6_fact σ p1 p2 p3).2) H := by rw [hF]; exact hP
    exact W.iret (v := (-1)) hx hb hr (fun t ht hW => ⟨(by rw [hF]), by rw [ht]; exact hP9, hS.F ht⟩) hS.2.2 dX6_fact_39
  · refine lv_iload_n hx hb dX6_fact_7 rfl (lv_at hl 2 rfl) ?_
    refine xc_i (va_runS (As := [.int p2]) (rest := []) ⟨hx, hb, hml, hown, hts⟩ (c_X6_isDay l dC dI cI cJ q σ p2) (va_cwS 1 hts (gS ml_X6_56 st_X6_isDay in_X6 co_X6_isDay) rfl rfl rfl (by decide +kernel) ⟨Nat.le_of_ble_eq_true rfl, Nat.le_of_ble_eq_true rfl⟩) (preS hK hP) rfl rfl hl.1 rfl (lv_room (Nat.le_of_ble_eq_true rfl)) dX6_fact_8 ⟨Nat.zero_le _, Nat.zero_le _⟩) ?_
    refine lv_if_eq (tgt := 38) hx hb dX6_fact_11 (by decide) (fun c_11 => ?_) (fun c_11 => ?_)
    · refine lv_iconst (v := (-1)) hx hb dX6_fact_38 (by decide) ?_
      have hF : fX6_fact σ p1 p2 p3 = ((-1), σ) := by rw [fX6_fact, if_neg c_4, if_pos c_11]
      have hP9 : va_P (dC, dI) vwCl (wT cI cJ q (fX6_fact σ p1 p2 p3).2) H := by rw [hF]; exact hP
      exact W.iret (v := (-1)) hx hb hr (fun t ht hW => ⟨(by rw [hF]), by rw [ht]; exact hP9, hS.F ht⟩) hS.2.2 dX6_fact_39
    · refine lv_iload_n hx hb dX6_fact_14 rfl (lv_at hl 3 rfl) ?_
      refine lv_sipush (v := (-10000)) hx hb dX6_fact_15 (by decide) ?_
      refine lv_icmp_lt (tgt := 38) hx hb dX6_fact_18 (by decide) (fun c_18 => ?_) (fun c_18 => ?_)
      · refine lv_iconst (v := (-1)) hx hb dX6_fact_38 (by decide) ?_
        have hF : fX6_fact σ p1 p2 p3 = ((-1), σ) := by rw [fX6_fact, if_neg c_4, if_neg c_11, if_pos c_18]
        have hP9 : va_P (dC, dI) vwCl (wT cI cJ q (fX6_fact σ p1 p2 p3).2) H := by rw [hF]; exact hP
        exact W.iret (v := (-1)) hx hb hr (fun t ht hW => ⟨(by rw [hF]), by rw [ht]; exact hP9, hS.F ht⟩) hS.2.2 dX6_fact_39
      · refine lv_iload_n hx hb dX6_fact_21 rfl (lv_at hl 3 rfl) ?_
        refine lv_sipush (v := 10000) hx hb dX6_fact_22 (by decide) ?_
        refine lv_icmp_gt (tgt := 38) hx hb dX6_fact_25 (by decide) (fun c_25 => ?_) (fun c_25 => ?_)
        · refine lv_iconst (v := (-1)) hx hb dX6_fact_38 (by decide) ?_
          have hF : fX6_fact σ p1 p2 p3 = ((-1), σ) := by rw [fX6_fact, if_neg c_4, if_neg c_11, if_neg c_18, if_pos c_25]
          have hP9 : va_P (dC, dI) vwCl (wT cI cJ q (fX6_fact σ p1 p2 p3).2) H := by rw [hF]; exact hP
          exact W.iret (v := (-1)) hx hb hr (fun t ht hW => ⟨(by rw [hF]), by rw [ht]; exact hP9, hS.F ht⟩) hS.2.2 dX6_fact_39
        · refine lv_aload_n hx hb dX6_fact_28 rfl (lv_at hl 0 rfl) ?_
          refine va_get (D := (dC, dI)) (ci := 6) (v := .ref (q 21)) (C := RX6) (T := TX6) (N := 6) hx hb hts inX6 hown hK hP 0 rfl rfl 3 (by decide) (hts _ fl_X6_35) (fun _ h9 => h9) rfl dX6_fact_29 ?_
          refine xc_i (va_runV (As := []) (rest := []) ⟨hx, hb, hml, hown, hts⟩ (c_X1_isFull l dC dI cI cJ q σ ) (cwV 0 hts (gV ml_X6_101 im_X1_isFull se_X1_isFull in_X1 co_X1_isFull) rfl rfl rfl (by decide +kernel) ⟨Nat.le_of_ble_eq_true rfl, Nat.le_of_ble_eq_true rfl⟩) (preV hK hP (pos := 21) (ci := 1) rfl rfl) rfl rfl hl.1 rfl (lv_room (Nat.le_of_ble_eq_true rfl)) dX6_fact_32 ⟨Nat.zero_le _, Nat.zero_le _⟩) ?_
          refine lv_if_eq (tgt := 40) hx hb dX6_fact_35 (by decide) (fun c_35 => ?_) (fun c_35 => ?_)
          · refine lv_aload_n hx hb dX6_fact_40 rfl (lv_at hl 0 rfl) ?_
            refine va_get (D := (dC, dI)) (ci := 6) (v := .ref (q 21)) (C := RX6) (T := TX6) (N := 6) hx hb hts inX6 hown hK hP 0 rfl rfl 3 (by decide) (hts _ fl_X6_35) (fun _ h9 => h9) rfl dX6_fact_41 ?_
            refine lv_iload_n hx hb dX6_fact_44 rfl (lv_at hl 1 rfl) ?_
            refine lv_iload_n hx hb dX6_fact_45 rfl (lv_at hl 2 rfl) ?_
            refine lv_iload_n hx hb dX6_fact_46 rfl (lv_at hl 3 rfl) ?_
            refine lv_aload_n hx hb dX6_fact_47 rfl (lv_at hl 0 rfl) ?_
            refine va_get (D := (dC, dI)) (ci := 6) (v := .int (σ.2.1 0)) (C := RX6) (T := TX6) (N := 6) hx hb hts inX6 hown hK hP 0 rfl rfl 5 (by decide) (hts _ fl_X6_48) (fun _ h9 => h9) rfl dX6_fact_48 ?_
            refine xw_c (va_runV (As := [.int p1, .int p2, .int p3, .int (σ.2.1 0)]) (rest := []) ⟨hx, hb, hml, hown, hts⟩ (c_X1_add l dC dI cI cJ q σ p1 p2 p3 (σ.2.1 0) (by assumption) (by assumption)) (cwV 4 hts (gV ml_X6_102 im_X1_add se_X1_add in_X1 co_X1_add) rfl rfl rfl (by decide +kernel) ⟨Nat.le_of_ble_eq_true rfl, Nat.le_of_ble_eq_true rfl⟩) (preV hK hP (pos := 21) (ci := 1) rfl rfl) rfl rfl hl.1 rfl (lv_room (Nat.le_of_ble_eq_true rfl)) dX6_fact_51 ⟨Nat.zero_le _, Nat.zero_le _⟩) hS (fun _ h => h) (fun H locs hP _ _ hS => ?_)
            have hP : va_P (dC, dI) vwCl (wT cI cJ q (fX1_add σ p1 p2 p3 (σ.2.1 0)).2) H := hP
            refine W.eq (g2 := F0 m 54 ls [.int ((fX1_add σ p1 p2 p3 (σ.2.1 0)).1)]) rfl ?_
            have hF : fX6_fact σ p1 p2 p3 = ((fX1_add σ p1 p2 p3 (σ.2.1 0)).1, (fX1_add σ p1 p2 p3 (σ.2.1 0)).2) := by rw [fX6_fact, if_neg c_4, if_neg c_11, if_neg c_18, if_neg c_25, if_pos c_35]
            have hP9 : va_P (dC, dI) vwCl (wT cI cJ q (fX6_fact σ p1 p2 p3).2) H := by rw [hF]; exact hP
            exact W.iret (v := (fX1_add σ p1 p2 p3 (σ.2.1 0)).1) hx hb hr (fun t ht hW => ⟨(by rw [hF]), by rw [ht]; exact hP9, hS.F ht⟩) hS.2.2 dX6_fact_54
          · refine lv_iconst (v := (-1)) hx hb dX6_fact_38 (by decide) ?_
            have hF : fX6_fact σ p1 p2 p3 = ((-1), σ) := by rw [fX6_fact, if_neg c_4, if_neg c_11, if_neg c_18, if_neg c_25, if_neg c_35]
            have hP9 : va_P (dC, dI) vwCl (wT cI cJ q (fX6_fact σ p1 p2 p3).2) H := by rw [hF]; exact hP
            exact W.iret (v := (-1)) hx hb hr (fun t ht hW => ⟨(by rw [hF]), by rw [ht]; exact hP9, hS.F ht⟩) hS.2.2 dX6_fact_39

def fX6_load (σ : St) : Int32 × St :=
  ((fX2_openNext σ).1, (fX2_openNext σ).2)
set_option maxHeartbeats 4000000 in
set_option maxRecDepth 100000 in
theorem c_X6_load (l : Launch) (dC : Nat → ClassId) (dI : Nat → Nat → Nat) (cI cJ : ClassId) (q : Nat → Nat) (σ : St) (hd : dT 30 q) (hI : IB σ) : Met l yX6_load (.code yX6_load cX6_load 1 (some .int) :: tb) { frames := 2, cells := 0, slots := 0, locals := 40 } (Pu (dC, dI) (tyC cI cJ) (wT cI cJ q σ) [.ref (q 0)]) (xw_Q (some (.int (fX6_load σ).1)) (dC, dI) (wT cI cJ q (fX6_load σ).2) (aT 30 q)) 0 0 (aT 30 q) := by
  refine Met.ofW (cc := cX6_load) (maxL := 1) (ret := (some .int)) (by decide) rfl ?_
  intro p e s m args below meth c s₁ B hml hv
  obtain ⟨rfl, hP, hK⟩ := hv
  have hx := B.exec
  have hb := B.bytes
  have hr := B.returns
  have hts0 := atoms_spec (ws := .code yX6_load cX6_load 1 (some .int) :: tb) B.pre
  have hts : ∀ w ∈ tb, w.before _ s = true := fun w hw => hts0 w (List.mem_cons_of_mem _ hw)
  have hown : s.vm.findClass RX6 = some m.cls := findClass_of_methodNamed B.named
  have hlocks := B.notSynchronized
  have hl := lv_entry ([.ref (q 0)]) (n := 1) (Nat.le_of_ble_eq_true rfl)
  rw [lg_entry_eq]
  generalize (lg_sl ([.ref (q 0)]) ++ List.replicate (1 - (lg_sl ([.ref (q 0)])).length) Slot.unset).toArray = ls at hl ⊢
  have hl : lv_has ls 1 [(0, .ref (q 0))] := hl
  obtain ⟨H, hHe⟩ : ∃ H, s.heap = H := ⟨_, rfl⟩
  rw [hHe] at hP ⊢
  obtain ⟨locs, hLe⟩ : ∃ x : List Loc, ([] : List Loc) = x := ⟨_, rfl⟩
  rw [hLe]
  have hS : va_S (aT 30 q) s.heap H locs := by rw [← hHe, ← hLe]; exact va_S.rf
  refine lv_aload_n hx hb dX6_load_0 rfl (lv_at hl 0 rfl) ?_
  refine va_get (D := (dC, dI)) (ci := 6) (v := .ref (q 1)) (C := RX6) (T := TX6) (N := 6) hx hb hts inX6 hown hK hP 0 rfl rfl 0 (by decide) (hts _ fl_X6_12) (fun _ h9 => h9) rfl dX6_load_1 ?_
  refine xw_c (va_runV (As := []) (rest := []) ⟨hx, hb, hml, hown, hts⟩ (c_X2_openNext l dC dI cI cJ q σ  (by assumption) (by assumption)) (cwV 0 hts (gV ml_X6_105 im_X2_openNext se_X2_openNext in_X2 co_X2_openNext) rfl rfl rfl (by decide +kernel) ⟨Nat.le_of_ble_eq_true rfl, Nat.le_of_ble_eq_true rfl⟩) (preV hK hP (pos := 1) (ci := 2) rfl rfl) rfl rfl hl.1 rfl (lv_room (Nat.le_of_ble_eq_true rfl)) dX6_load_4 ⟨Nat.zero_le _, Nat.zero_le _⟩) hS (fun _ h => h) (fun H locs hP _ _ hS => ?_)
  have hP : va_P (dC, dI) vwCl (wT cI cJ q (fX2_openNext σ).2) H := hP
  refine W.eq (g2 := F0 m 7 ls [.int ((fX2_openNext σ).1)]) rfl ?_
  have hF : fX6_load σ = ((fX2_openNext σ).1, (fX2_openNext σ).2) := by rw [fX6_load]
  have hP9 : va_P (dC, dI) vwCl (wT cI cJ q (fX6_load σ).2) H := by rw [hF]; exact hP
  exact W.iret (v := (fX2_openNext σ).1) hx hb hr (fun t ht hW => ⟨(by rw [hF]), by rw [ht]; exact hP9, hS.F ht⟩) hS.2.2 dX6_load_7

def fX6_undo (σ : St) (p1 : Int32) : Int32 × St :=
  (if (fX2_canBeUndone σ p1) = 0 then ((-1), σ) else ((fX3_sizeOfLoad_T (fX2_setUndone σ p1 (σ.2.1 0)) p1) + (fX3_sizeOfLoad_F (fX2_setUndone σ p1 (σ.2.1 0)) p1), (fX2_setUndone σ p1 (σ.2.1 0))))
set_option maxHeartbeats 4000000 in
set_option maxRecDepth 100000 in
theorem c_X6_undo (l : Launch) (dC : Nat → ClassId) (dI : Nat → Nat → Nat) (cI cJ : ClassId) (q : Nat → Nat) (σ : St) (p1 : Int32) (hd : dT 30 q) (hI : IB σ) : Met l yX6_undo (.code yX6_undo cX6_undo 2 (some .int) :: tb) { frames := 2, cells := 0, slots := 0, locals := 44 } (Pu (dC, dI) (tyC cI cJ) (wT cI cJ q σ) [.ref (q 0), .int p1]) (xw_Q (some (.int (fX6_undo σ p1).1)) (dC, dI) (wT cI cJ q (fX6_undo σ p1).2) (aT 30 q)) 0 0 (aT 30 q) := by
  refine Met.ofW (cc := cX6_undo) (maxL := 2) (ret := (some .int)) (by decide) rfl ?_
  intro p e s m args below meth c s₁ B hml hv
  obtain ⟨rfl, hP, hK⟩ := hv
  have hx := B.exec
  have hb := B.bytes
  have hr := B.returns
  have hts0 := atoms_spec (ws := .code yX6_undo cX6_undo 2 (some .int) :: tb) B.pre
  have hts : ∀ w ∈ tb, w.before _ s = true := fun w hw => hts0 w (List.mem_cons_of_mem _ hw)
  have hown : s.vm.findClass RX6 = some m.cls := findClass_of_methodNamed B.named
  have hlocks := B.notSynchronized
  have hl := lv_entry ([.ref (q 0), .int p1]) (n := 2) (Nat.le_of_ble_eq_true rfl)
  rw [lg_entry_eq]
  generalize (lg_sl ([.ref (q 0), .int p1]) ++ List.replicate (2 - (lg_sl ([.ref (q 0), .int p1])).length) Slot.unset).toArray = ls at hl ⊢
  have hl : lv_has ls 2 [(0, .ref (q 0)), (1, .int p1)] := hl
  obtain ⟨H, hHe⟩ : ∃ H, s.heap = H := ⟨_, rfl⟩
  rw [hHe] at hP ⊢
  obtain ⟨locs, hLe⟩ : ∃ x : List Loc, ([] : List Loc) = x := ⟨_, rfl⟩
  rw [hLe]
  have hS : va_S (aT 30 q) s.heap H locs := by rw [← hHe, ← hLe]; exact va_S.rf
  refine lv_aload_n hx hb dX6_undo_0 rfl (lv_at hl 0 rfl) ?_
  refine va_get (D := (dC, dI)) (ci := 6) (v := .ref (q 1)) (C := RX6) (T := TX6) (N := 6) hx hb hts inX6 hown hK hP 0 rfl rfl 0 (by decide) (hts _ fl_X6_12) (fun _ h9 => h9) rfl dX6_undo_1 ?_
  refine lv_iload_n hx hb dX6_undo_4 rfl (lv_at hl 1 rfl) ?_
  refine xc_i (va_runV (As := [.int p1]) (rest := []) ⟨hx, hb, hml, hown, hts⟩ (c_X2_canBeUndone l dC dI cI cJ q σ p1 (by assumption)) (cwV 1 hts (gV ml_X6_108 im_X2_canBeUndone se_X2_canBeUndone in_X2 co_X2_canBeUndone) rfl rfl rfl (by decide +kernel) ⟨Nat.le_of_ble_eq_true rfl, Nat.le_of_ble_eq_true rfl⟩) (preV hK hP (pos := 1) (ci := 2) rfl rfl) rfl rfl hl.1 rfl (lv_room (Nat.le_of_ble_eq_true rfl)) dX6_undo_5 ⟨Nat.zero_le _, Nat.zero_le _⟩) ?_
  refine lv_if_ne (tgt := 13) hx hb dX6_undo_8 (by decide) (fun c_8 => ?_) (fun c_8 => ?_)
  · refine lv_aload_n hx hb dX6_undo_13 rfl (lv_at hl 0 rfl) ?_
    refine va_get (D := (dC, dI)) (ci := 6) (v := .ref (q 1)) (C := RX6) (T := TX6) (N := 6) hx hb hts inX6 hown hK hP 0 rfl rfl 0 (by decide) (hts _ fl_X6_12) (fun _ h9 => h9) rfl dX6_undo_14 ?_
    refine lv_iload_n hx hb dX6_undo_17 rfl (lv_at hl 1 rfl) ?_
    refine lv_aload_n hx hb dX6_undo_18 rfl (lv_at hl 0 rfl) ?_
    refine va_get (D := (dC, dI)) (ci := 6) (v := .int (σ.2.1 0)) (C := RX6) (T := TX6) (N := 6) hx hb hts inX6 hown hK hP 0 rfl rfl 5 (by decide) (hts _ fl_X6_48) (fun _ h9 => h9) rfl dX6_undo_19 ?_
    refine xw_c (va_runV (As := [.int p1, .int (σ.2.1 0)]) (rest := []) ⟨hx, hb, hml, hown, hts⟩ (c_X2_setUndone l dC dI cI cJ q σ p1 (σ.2.1 0) (by assumption) (cbu_in hI c_8)) (cwV 2 hts (gV ml_X6_111 im_X2_setUndone se_X2_setUndone in_X2 co_X2_setUndone) rfl rfl rfl (by decide +kernel) ⟨Nat.le_of_ble_eq_true rfl, Nat.le_of_ble_eq_true rfl⟩) (preV hK hP (pos := 1) (ci := 2) rfl rfl) rfl rfl hl.1 rfl (lv_room (Nat.le_of_ble_eq_true rfl)) dX6_undo_22 ⟨Nat.zero_le _, Nat.zero_le _⟩) hS (fun _ h => h) (fun H locs hP _ _ hS => ?_)
    have hP : va_P (dC, dI) vwCl (wT cI cJ q (fX2_setUndone σ p1 (σ.2.1 0))) H := hP
    refine W.eq (g2 := F0 m 25 ls []) rfl ?_
    refine lv_aload_n hx hb dX6_undo_25 rfl (lv_at hl 0 rfl) ?_
    refine va_get (D := (dC, dI)) (ci := 6) (v := .ref (q 13)) (C := RX6) (T := TX6) (N := 6) hx hb hts inX6 hown hK hP 0 rfl rfl 2 (by decide) (hts _ fl_X6_28) (fun _ h9 => h9) rfl dX6_undo_26 ?_
    refine lv_iload_n hx hb dX6_undo_29 rfl (lv_at hl 1 rfl) ?_
    refine xc_i (va_runV (As := [.int p1]) (rest := []) ⟨hx, hb, hml, hown, hts⟩ (c_X4_sizeOfLoad l dC dI cI cJ q (fX2_setUndone σ p1 (σ.2.1 0)) p1 (su_IB hI)) (cwV 1 hts (gV ml_X6_115 im_X4_sizeOfLoad se_X4_sizeOfLoad in_X4 co_X4_sizeOfLoad) rfl rfl rfl (by decide +kernel) ⟨Nat.le_of_ble_eq_true rfl, Nat.le_of_ble_eq_true rfl⟩) (preV hK hP (pos := 13) (ci := 4) rfl rfl) rfl rfl hl.1 rfl (lv_room (Nat.le_of_ble_eq_true rfl)) dX6_undo_30 ⟨Nat.zero_le _, Nat.zero_le _⟩) ?_
    refine lv_aload_n hx hb dX6_undo_33 rfl (lv_at hl 0 rfl) ?_
    refine va_get (D := (dC, dI)) (ci := 6) (v := .ref (q 21)) (C := RX6) (T := TX6) (N := 6) hx hb hts inX6 hown hK hP 0 rfl rfl 3 (by decide) (hts _ fl_X6_35) (fun _ h9 => h9) rfl dX6_undo_34 ?_
    refine lv_iload_n hx hb dX6_undo_37 rfl (lv_at hl 1 rfl) ?_
    refine xc_i (va_runV (As := [.int p1]) (rest := [.int (fX3_sizeOfLoad_T (fX2_setUndone σ p1 (σ.2.1 0)) p1)]) ⟨hx, hb, hml, hown, hts⟩ (c_X1_sizeOfLoad l dC dI cI cJ q (fX2_setUndone σ p1 (σ.2.1 0)) p1 (su_IB hI)) (cwV 1 hts (gV ml_X6_119 im_X1_sizeOfLoad se_X1_sizeOfLoad in_X1 co_X1_sizeOfLoad) rfl rfl rfl (by decide +kernel) ⟨Nat.le_of_ble_eq_true rfl, Nat.le_of_ble_eq_true rfl⟩) (preV hK hP (pos := 21) (ci := 1) rfl rfl) rfl rfl hl.1 rfl (lv_room (Nat.le_of_ble_eq_true rfl)) dX6_undo_38 ⟨Nat.zero_le _, Nat.zero_le _⟩) ?_
    refine lv_iadd hx hb dX6_undo_41 ?_
    have hF : fX6_undo σ p1 = ((fX3_sizeOfLoad_T (fX2_setUndone σ p1 (σ.2.1 0)) p1) + (fX3_sizeOfLoad_F (fX2_setUndone σ p1 (σ.2.1 0)) p1), (fX2_setUndone σ p1 (σ.2.1 0))) := by rw [fX6_undo, if_neg c_8]
    have hP9 : va_P (dC, dI) vwCl (wT cI cJ q (fX6_undo σ p1).2) H := by rw [hF]; exact hP
    exact W.iret (v := (fX3_sizeOfLoad_T (fX2_setUndone σ p1 (σ.2.1 0)) p1) + (fX3_sizeOfLoad_F (fX2_setUndone σ p1 (σ.2.1 0)) p1)) hx hb hr (fun t ht hW => ⟨(by rw [hF]), by rw [ht]; exact hP9, hS.F ht⟩) hS.2.2 dX6_undo_42
  · refine lv_iconst (v := (-1)) hx hb dX6_undo_11 (by decide) ?_
    have hF : fX6_undo σ p1 = ((-1), σ) := by rw [fX6_undo, if_pos c_8]
    have hP9 : va_P (dC, dI) vwCl (wT cI cJ q (fX6_undo σ p1).2) H := by rw [hF]; exact hP
    exact W.iret (v := (-1)) hx hb hr (fun t ht hW => ⟨(by rw [hF]), by rw [ht]; exact hP9, hS.F ht⟩) hS.2.2 dX6_undo_12
end
section
def fX6_told (σ : St) (p1 : Int32) (p2 : Int32) (p3 : Int32) (p4 : Int32) : Int32 :=
  (if (fX6_isMark σ p2) = 0 then (-1) else (if (fX6_isDay σ p3) = 0 then (-1) else (if (fX6_isDay σ p4) = 0 then (-1) else (if (fX5_isKnown σ p1 p4) = 0 then (-1) else fX4_valueOn σ p1 p2 p3 p4))))
set_option maxHeartbeats 4000000 in
set_option maxRecDepth 100000 in
theorem c_X6_told (l : Launch) (dC : Nat → ClassId) (dI : Nat → Nat → Nat) (cI cJ : ClassId) (q : Nat → Nat) (σ : St) (p1 : Int32) (p2 : Int32) (p3 : Int32) (p4 : Int32) (hI : IB σ) : Met l yX6_told (.code yX6_told cX6_told 5 (some .int) :: tb) { frames := 3, cells := 0, slots := 0, locals := 70 } (Pu (dC, dI) (tyC cI cJ) (wT cI cJ q σ) [.ref (q 0), .int p1, .int p2, .int p3, .int p4]) (vp_Si (fun r => r = fX6_told σ p1 p2 p3 p4)) 0 0 (fun _ => False) := by
  refine Met.ofW (cc := cX6_told) (maxL := 5) (ret := (some .int)) (by decide) rfl ?_
  intro p e s m args below meth c s₁ B hml hv
  obtain ⟨rfl, hP, hK⟩ := hv
  have hx := B.exec
  have hb := B.bytes
  have hr := B.returns
  have hts0 := atoms_spec (ws := .code yX6_told cX6_told 5 (some .int) :: tb) B.pre
  have hts : ∀ w ∈ tb, w.before _ s = true := fun w hw => hts0 w (List.mem_cons_of_mem _ hw)
  have hown : s.vm.findClass RX6 = some m.cls := findClass_of_methodNamed B.named
  have hlocks := B.notSynchronized
  have hl := lv_entry ([.ref (q 0), .int p1, .int p2, .int p3, .int p4]) (n := 5) (Nat.le_of_ble_eq_true rfl)
  rw [lg_entry_eq]
  generalize (lg_sl ([.ref (q 0), .int p1, .int p2, .int p3, .int p4]) ++ List.replicate (5 - (lg_sl ([.ref (q 0), .int p1, .int p2, .int p3, .int p4])).length) Slot.unset).toArray = ls at hl ⊢
  have hl : lv_has ls 5 [(0, .ref (q 0)), (1, .int p1), (2, .int p2), (3, .int p3), (4, .int p4)] := hl
  refine lv_iload_n hx hb dX6_told_0 rfl (lv_at hl 2 rfl) ?_
  refine xc_i (va_runS (As := [.int p2]) (rest := []) ⟨hx, hb, hml, hown, hts⟩ (c_X6_isMark l dC dI cI cJ q σ p2) (va_cwS 1 hts (gS ml_X6_89 st_X6_isMark in_X6 co_X6_isMark) rfl rfl rfl (by decide +kernel) ⟨Nat.le_of_ble_eq_true rfl, Nat.le_of_ble_eq_true rfl⟩) (preS hK hP) rfl rfl hl.1 rfl (lv_room (Nat.le_of_ble_eq_true rfl)) dX6_told_1 ⟨Nat.zero_le _, Nat.zero_le _⟩) ?_
  refine lv_if_eq (tgt := 35) hx hb dX6_told_4 (by decide) (fun c_4 => ?_) (fun c_4 => ?_)
  · refine lv_iconst (v := (-1)) hx hb dX6_told_35 (by decide) ?_
    exact W.iret (v := (-1)) hx hb hr (fun t ht hW => ⟨_, rfl, (by rw [fX6_told, if_pos c_4]), ht⟩) (fun _ h => absurd h List.not_mem_nil) dX6_told_36
  · refine lv_iload_n hx hb dX6_told_7 rfl (lv_at hl 3 rfl) ?_
    refine xc_i (va_runS (As := [.int p3]) (rest := []) ⟨hx, hb, hml, hown, hts⟩ (c_X6_isDay l dC dI cI cJ q σ p3) (va_cwS 1 hts (gS ml_X6_56 st_X6_isDay in_X6 co_X6_isDay) rfl rfl rfl (by decide +kernel) ⟨Nat.le_of_ble_eq_true rfl, Nat.le_of_ble_eq_true rfl⟩) (preS hK hP) rfl rfl hl.1 rfl (lv_room (Nat.le_of_ble_eq_true rfl)) dX6_told_8 ⟨Nat.zero_le _, Nat.zero_le _⟩) ?_
    refine lv_if_eq (tgt := 35) hx hb dX6_told_11 (by decide) (fun c_11 => ?_) (fun c_11 => ?_)
    · refine lv_iconst (v := (-1)) hx hb dX6_told_35 (by decide) ?_
      exact W.iret (v := (-1)) hx hb hr (fun t ht hW => ⟨_, rfl, (by rw [fX6_told, if_neg c_4, if_pos c_11]), ht⟩) (fun _ h => absurd h List.not_mem_nil) dX6_told_36
    · refine lv_iload hx hb dX6_told_14 (lv_at hl 4 rfl) ?_
      refine xc_i (va_runS (As := [.int p4]) (rest := []) ⟨hx, hb, hml, hown, hts⟩ (c_X6_isDay l dC dI cI cJ q σ p4) (va_cwS 1 hts (gS ml_X6_56 st_X6_isDay in_X6 co_X6_isDay) rfl rfl rfl (by decide +kernel) ⟨Nat.le_of_ble_eq_true rfl, Nat.le_of_ble_eq_true rfl⟩) (preS hK hP) rfl rfl hl.1 rfl (lv_room (Nat.le_of_ble_eq_true rfl)) dX6_told_16 ⟨Nat.zero_le _, Nat.zero_le _⟩) ?_
      refine lv_if_eq (tgt := 35) hx hb dX6_told_19 (by decide) (fun c_19 => ?_) (fun c_19 => ?_)
      · refine lv_iconst (v := (-1)) hx hb dX6_told_35 (by decide) ?_
        exact W.iret (v := (-1)) hx hb hr (fun t ht hW => ⟨_, rfl, (by rw [fX6_told, if_neg c_4, if_neg c_11, if_pos c_19]), ht⟩) (fun _ h => absurd h List.not_mem_nil) dX6_told_36
      · refine lv_aload_n hx hb dX6_told_22 rfl (lv_at hl 0 rfl) ?_
        refine va_get (D := (dC, dI)) (ci := 6) (v := .ref (q 3)) (C := RX6) (T := TX6) (N := 6) hx hb hts inX6 hown hK hP 0 rfl rfl 1 (by decide) (hts _ fl_X6_19) (fun _ h9 => h9) rfl dX6_told_23 ?_
        refine lv_iload_n hx hb dX6_told_26 rfl (lv_at hl 1 rfl) ?_
        refine lv_iload hx hb dX6_told_27 (lv_at hl 4 rfl) ?_
        refine xc_i (va_runV (As := [.int p1, .int p4]) (rest := []) ⟨hx, hb, hml, hown, hts⟩ (c_X5_isKnown l dC dI cI cJ q σ p1 p4 (by assumption)) (cwV 2 hts (gV ml_X6_120 im_X5_isKnown se_X5_isKnown in_X5 co_X5_isKnown) rfl rfl rfl (by decide +kernel) ⟨Nat.le_of_ble_eq_true rfl, Nat.le_of_ble_eq_true rfl⟩) (preV hK hP (pos := 3) (ci := 5) rfl rfl) rfl rfl hl.1 rfl (lv_room (Nat.le_of_ble_eq_true rfl)) dX6_told_29 ⟨Nat.zero_le _, Nat.zero_le _⟩) ?_
        refine lv_if_ne (tgt := 37) hx hb dX6_told_32 (by decide) (fun c_32 => ?_) (fun c_32 => ?_)
        · refine lv_aload_n hx hb dX6_told_37 rfl (lv_at hl 0 rfl) ?_
          refine va_get (D := (dC, dI)) (ci := 6) (v := .ref (q 13)) (C := RX6) (T := TX6) (N := 6) hx hb hts inX6 hown hK hP 0 rfl rfl 2 (by decide) (hts _ fl_X6_28) (fun _ h9 => h9) rfl dX6_told_38 ?_
          refine lv_iload_n hx hb dX6_told_41 rfl (lv_at hl 1 rfl) ?_
          refine lv_iload_n hx hb dX6_told_42 rfl (lv_at hl 2 rfl) ?_
          refine lv_iload_n hx hb dX6_told_43 rfl (lv_at hl 3 rfl) ?_
          refine lv_iload hx hb dX6_told_44 (lv_at hl 4 rfl) ?_
          refine xc_i (va_runV (As := [.int p1, .int p2, .int p3, .int p4]) (rest := []) ⟨hx, hb, hml, hown, hts⟩ (c_X4_valueOn l dC dI cI cJ q σ p1 p2 p3 p4 (by assumption)) (cwV 4 hts (gV ml_X6_123 im_X4_valueOn se_X4_valueOn in_X4 co_X4_valueOn) rfl rfl rfl (by decide +kernel) ⟨Nat.le_of_ble_eq_true rfl, Nat.le_of_ble_eq_true rfl⟩) (preV hK hP (pos := 13) (ci := 4) rfl rfl) rfl rfl hl.1 rfl (lv_room (Nat.le_of_ble_eq_true rfl)) dX6_told_46 ⟨Nat.zero_le _, Nat.zero_le _⟩) ?_
          exact W.iret (v := fX4_valueOn σ p1 p2 p3 p4) hx hb hr (fun t ht hW => ⟨_, rfl, (by rw [fX6_told, if_neg c_4, if_neg c_11, if_neg c_19, if_neg c_32]), ht⟩) (fun _ h => absurd h List.not_mem_nil) dX6_told_49
        · refine lv_iconst (v := (-1)) hx hb dX6_told_35 (by decide) ?_
          exact W.iret (v := (-1)) hx hb hr (fun t ht hW => ⟨_, rfl, (by rw [fX6_told, if_neg c_4, if_neg c_11, if_neg c_19, if_pos c_32]), ht⟩) (fun _ h => absurd h List.not_mem_nil) dX6_told_36

def fX6_thing (σ : St) (p1 : Int32) (p2 : Int32) (p3 : Int32) : Int32 :=
  (if (fX6_isDay σ p2) = 0 then (-1) else (if (fX5_isKnown σ p1 p2) = 0 then (-1) else (if p3 = 0 then σ.1 0 p1.toNatClampNeg else (if p3 = 1 then σ.1 1 p1.toNatClampNeg else (if p3 = 2 then fX5_endOf σ p1 p2 else (if p3 = 3 then fX5_endingOf σ p1 p2 else (if p3 = 4 then fX5_heirOf σ p1 p2 else (if p3 = 5 then fX4_timesToldOver σ p1 p2 else (-1)))))))))
set_option maxHeartbeats 4000000 in
set_option maxRecDepth 100000 in
theorem c_X6_thing (l : Launch) (dC : Nat → ClassId) (dI : Nat → Nat → Nat) (cI cJ : ClassId) (q : Nat → Nat) (σ : St) (p1 : Int32) (p2 : Int32) (p3 : Int32) (hI : IB σ) : Met l yX6_thing (.code yX6_thing cX6_thing 4 (some .int) :: tb) { frames := 3, cells := 0, slots := 0, locals := 69 } (Pu (dC, dI) (tyC cI cJ) (wT cI cJ q σ) [.ref (q 0), .int p1, .int p2, .int p3]) (vp_Si (fun r => r = fX6_thing σ p1 p2 p3)) 0 0 (fun _ => False) := by
  refine Met.ofW (cc := cX6_thing) (maxL := 4) (ret := (some .int)) (by decide) rfl ?_
  intro p e s m args below meth c s₁ B hml hv
  obtain ⟨rfl, hP, hK⟩ := hv
  have hx := B.exec
  have hb := B.bytes
  have hr := B.returns
  have hts0 := atoms_spec (ws := .code yX6_thing cX6_thing 4 (some .int) :: tb) B.pre
  have hts : ∀ w ∈ tb, w.before _ s = true := fun w hw => hts0 w (List.mem_cons_of_mem _ hw)
  have hown : s.vm.findClass RX6 = some m.cls := findClass_of_methodNamed B.named
  have hlocks := B.notSynchronized
  have hl := lv_entry ([.ref (q 0), .int p1, .int p2, .int p3]) (n := 4) (Nat.le_of_ble_eq_true rfl)
  rw [lg_entry_eq]
  generalize (lg_sl ([.ref (q 0), .int p1, .int p2, .int p3]) ++ List.replicate (4 - (lg_sl ([.ref (q 0), .int p1, .int p2, .int p3])).length) Slot.unset).toArray = ls at hl ⊢
  have hl : lv_has ls 4 [(0, .ref (q 0)), (1, .int p1), (2, .int p2), (3, .int p3)] := hl
  refine lv_iload_n hx hb dX6_thing_0 rfl (lv_at hl 2 rfl) ?_
  refine xc_i (va_runS (As := [.int p2]) (rest := []) ⟨hx, hb, hml, hown, hts⟩ (c_X6_isDay l dC dI cI cJ q σ p2) (va_cwS 1 hts (gS ml_X6_56 st_X6_isDay in_X6 co_X6_isDay) rfl rfl rfl (by decide +kernel) ⟨Nat.le_of_ble_eq_true rfl, Nat.le_of_ble_eq_true rfl⟩) (preS hK hP) rfl rfl hl.1 rfl (lv_room (Nat.le_of_ble_eq_true rfl)) dX6_thing_1 ⟨Nat.zero_le _, Nat.zero_le _⟩) ?_
  refine lv_if_eq (tgt := 19) hx hb dX6_thing_4 (by decide) (fun c_4 => ?_) (fun c_4 => ?_)
  · refine lv_iconst (v := (-1)) hx hb dX6_thing_19 (by decide) ?_
    exact W.iret (v := (-1)) hx hb hr (fun t ht hW => ⟨_, rfl, (by rw [fX6_thing, if_pos c_4]), ht⟩) (fun _ h => absurd h List.not_mem_nil) dX6_thing_20
  · refine lv_aload_n hx hb dX6_thing_7 rfl (lv_at hl 0 rfl) ?_
    refine va_get (D := (dC, dI)) (ci := 6) (v := .ref (q 3)) (C := RX6) (T := TX6) (N := 6) hx hb hts inX6 hown hK hP 0 rfl rfl 1 (by decide) (hts _ fl_X6_19) (fun _ h9 => h9) rfl dX6_thing_8 ?_
    refine lv_iload_n hx hb dX6_thing_11 rfl (lv_at hl 1 rfl) ?_
    refine lv_iload_n hx hb dX6_thing_12 rfl (lv_at hl 2 rfl) ?_
    refine xc_i (va_runV (As := [.int p1, .int p2]) (rest := []) ⟨hx, hb, hml, hown, hts⟩ (c_X5_isKnown l dC dI cI cJ q σ p1 p2 (by assumption)) (cwV 2 hts (gV ml_X6_120 im_X5_isKnown se_X5_isKnown in_X5 co_X5_isKnown) rfl rfl rfl (by decide +kernel) ⟨Nat.le_of_ble_eq_true rfl, Nat.le_of_ble_eq_true rfl⟩) (preV hK hP (pos := 3) (ci := 5) rfl rfl) rfl rfl hl.1 rfl (lv_room (Nat.le_of_ble_eq_true rfl)) dX6_thing_13 ⟨Nat.zero_le _, Nat.zero_le _⟩) ?_
    refine lv_if_ne (tgt := 21) hx hb dX6_thing_16 (by decide) (fun c_16 => ?_) (fun c_16 => ?_)
    · refine lv_iload_n hx hb dX6_thing_21 rfl (lv_at hl 3 rfl) ?_
      by_cases c_22_0 : p3 = 0
      · refine xs_in (tgt := 60) hx hb 0 c_22_0 dX6_thing_22 (by decide) (by decide) rfl (by decide) ?_
        refine lv_aload_n hx hb dX6_thing_60 rfl (lv_at hl 0 rfl) ?_
        refine va_get (D := (dC, dI)) (ci := 6) (v := .ref (q 3)) (C := RX6) (T := TX6) (N := 6) hx hb hts inX6 hown hK hP 0 rfl rfl 1 (by decide) (hts _ fl_X6_19) (fun _ h9 => h9) rfl dX6_thing_61 ?_
        refine lv_iload_n hx hb dX6_thing_64 rfl (lv_at hl 1 rfl) ?_
        refine xc_i (va_runV (As := [.int p1]) (rest := []) ⟨hx, hb, hml, hown, hts⟩ (c_X5_codeOf l dC dI cI cJ q σ p1 (tknown_in hI c_16)) (cwV 1 hts (gV ml_X6_126 im_X5_codeOf se_X5_codeOf in_X5 co_X5_codeOf) rfl rfl rfl (by decide +kernel) ⟨Nat.le_of_ble_eq_true rfl, Nat.le_of_ble_eq_true rfl⟩) (preV hK hP (pos := 3) (ci := 5) rfl rfl) rfl rfl hl.1 rfl (lv_room (Nat.le_of_ble_eq_true rfl)) dX6_thing_65 ⟨Nat.zero_le _, Nat.zero_le _⟩) ?_
        exact W.iret (v := σ.1 0 p1.toNatClampNeg) hx hb hr (fun t ht hW => ⟨_, rfl, (by rw [fX6_thing, if_neg c_4, if_neg c_16, if_pos c_22_0]), ht⟩) (fun _ h => absurd h List.not_mem_nil) dX6_thing_68
      by_cases c_22_1 : p3 = 1
      · refine xs_in (tgt := 69) hx hb 1 c_22_1 dX6_thing_22 (by decide) (by decide) rfl (by decide) ?_
        refine lv_aload_n hx hb dX6_thing_69 rfl (lv_at hl 0 rfl) ?_
        refine va_get (D := (dC, dI)) (ci := 6) (v := .ref (q 3)) (C := RX6) (T := TX6) (N := 6) hx hb hts inX6 hown hK hP 0 rfl rfl 1 (by decide) (hts _ fl_X6_19) (fun _ h9 => h9) rfl dX6_thing_70 ?_
        refine lv_iload_n hx hb dX6_thing_73 rfl (lv_at hl 1 rfl) ?_
        refine xc_i (va_runV (As := [.int p1]) (rest := []) ⟨hx, hb, hml, hown, hts⟩ (c_X5_birthOf l dC dI cI cJ q σ p1 (tknown_in hI c_16)) (cwV 1 hts (gV ml_X6_129 im_X5_birthOf se_X5_birthOf in_X5 co_X5_birthOf) rfl rfl rfl (by decide +kernel) ⟨Nat.le_of_ble_eq_true rfl, Nat.le_of_ble_eq_true rfl⟩) (preV hK hP (pos := 3) (ci := 5) rfl rfl) rfl rfl hl.1 rfl (lv_room (Nat.le_of_ble_eq_true rfl)) dX6_thing_74 ⟨Nat.zero_le _, Nat.zero_le _⟩) ?_
        exact W.iret (v := σ.1 1 p1.toNatClampNeg) hx hb hr (fun t ht hW => ⟨_, rfl, (by rw [fX6_thing, if_neg c_4, if_neg c_16, if_neg c_22_0, if_pos c_22_1]), ht⟩) (fun _ h => absurd h List.not_mem_nil) dX6_thing_77
      by_cases c_22_2 : p3 = 2
      · refine xs_in (tgt := 78) hx hb 2 c_22_2 dX6_thing_22 (by decide) (by decide) rfl (by decide) ?_
        refine lv_aload_n hx hb dX6_thing_78 rfl (lv_at hl 0 rfl) ?_
        refine va_get (D := (dC, dI)) (ci := 6) (v := .ref (q 3)) (C := RX6) (T := TX6) (N := 6) hx hb hts inX6 hown hK hP 0 rfl rfl 1 (by decide) (hts _ fl_X6_19) (fun _ h9 => h9) rfl dX6_thing_79 ?_
        refine lv_iload_n hx hb dX6_thing_82 rfl (lv_at hl 1 rfl) ?_
        refine lv_iload_n hx hb dX6_thing_83 rfl (lv_at hl 2 rfl) ?_
        refine xc_i (va_runV (As := [.int p1, .int p2]) (rest := []) ⟨hx, hb, hml, hown, hts⟩ (c_X5_endOf l dC dI cI cJ q σ p1 p2 (tknown_in hI c_16)) (cwV 2 hts (gV ml_X6_132 im_X5_endOf se_X5_endOf in_X5 co_X5_endOf) rfl rfl rfl (by decide +kernel) ⟨Nat.le_of_ble_eq_true rfl, Nat.le_of_ble_eq_true rfl⟩) (preV hK hP (pos := 3) (ci := 5) rfl rfl) rfl rfl hl.1 rfl (lv_room (Nat.le_of_ble_eq_true rfl)) dX6_thing_84 ⟨Nat.zero_le _, Nat.zero_le _⟩) ?_
        exact W.iret (v := fX5_endOf σ p1 p2) hx hb hr (fun t ht hW => ⟨_, rfl, (by rw [fX6_thing, if_neg c_4, if_neg c_16, if_neg c_22_0, if_neg c_22_1, if_pos c_22_2]), ht⟩) (fun _ h => absurd h List.not_mem_nil) dX6_thing_87
      by_cases c_22_3 : p3 = 3
      · refine xs_in (tgt := 88) hx hb 3 c_22_3 dX6_thing_22 (by decide) (by decide) rfl (by decide) ?_
        refine lv_aload_n hx hb dX6_thing_88 rfl (lv_at hl 0 rfl) ?_
        refine va_get (D := (dC, dI)) (ci := 6) (v := .ref (q 3)) (C := RX6) (T := TX6) (N := 6) hx hb hts inX6 hown hK hP 0 rfl rfl 1 (by decide) (hts _ fl_X6_19) (fun _ h9 => h9) rfl dX6_thing_89 ?_
        refine lv_iload_n hx hb dX6_thing_92 rfl (lv_at hl 1 rfl) ?_
        refine lv_iload_n hx hb dX6_thing_93 rfl (lv_at hl 2 rfl) ?_
        refine xc_i (va_runV (As := [.int p1, .int p2]) (rest := []) ⟨hx, hb, hml, hown, hts⟩ (c_X5_endingOf l dC dI cI cJ q σ p1 p2 (tknown_in hI c_16)) (cwV 2 hts (gV ml_X6_136 im_X5_endingOf se_X5_endingOf in_X5 co_X5_endingOf) rfl rfl rfl (by decide +kernel) ⟨Nat.le_of_ble_eq_true rfl, Nat.le_of_ble_eq_true rfl⟩) (preV hK hP (pos := 3) (ci := 5) rfl rfl) rfl rfl hl.1 rfl (lv_room (Nat.le_of_ble_eq_true rfl)) dX6_thing_94 ⟨Nat.zero_le _, Nat.zero_le _⟩) ?_
        exact W.iret (v := fX5_endingOf σ p1 p2) hx hb hr (fun t ht hW => ⟨_, rfl, (by rw [fX6_thing, if_neg c_4, if_neg c_16, if_neg c_22_0, if_neg c_22_1, if_neg c_22_2, if_pos c_22_3]), ht⟩) (fun _ h => absurd h List.not_mem_nil) dX6_thing_97
      by_cases c_22_4 : p3 = 4
      · refine xs_in (tgt := 98) hx hb 4 c_22_4 dX6_thing_22 (by decide) (by decide) rfl (by decide) ?_
        refine lv_aload_n hx hb dX6_thing_98 rfl (lv_at hl 0 rfl) ?_
        refine va_get (D := (dC, dI)) (ci := 6) (v := .ref (q 3)) (C := RX6) (T := TX6) (N := 6) hx hb hts inX6 hown hK hP 0 rfl rfl 1 (by decide) (hts _ fl_X6_19) (fun _ h9 => h9) rfl dX6_thing_99 ?_
        refine lv_iload_n hx hb dX6_thing_102 rfl (lv_at hl 1 rfl) ?_
        refine lv_iload_n hx hb dX6_thing_103 rfl (lv_at hl 2 rfl) ?_
        refine xc_i (va_runV (As := [.int p1, .int p2]) (rest := []) ⟨hx, hb, hml, hown, hts⟩ (c_X5_heirOf l dC dI cI cJ q σ p1 p2 (tknown_in hI c_16)) (cwV 2 hts (gV ml_X6_139 im_X5_heirOf se_X5_heirOf in_X5 co_X5_heirOf) rfl rfl rfl (by decide +kernel) ⟨Nat.le_of_ble_eq_true rfl, Nat.le_of_ble_eq_true rfl⟩) (preV hK hP (pos := 3) (ci := 5) rfl rfl) rfl rfl hl.1 rfl (lv_room (Nat.le_of_ble_eq_true rfl)) dX6_thing_104 ⟨Nat.zero_le _, Nat.zero_le _⟩) ?_
        exact W.iret (v := fX5_heirOf σ p1 p2) hx hb hr (fun t ht hW => ⟨_, rfl, (by rw [fX6_thing, if_neg c_4, if_neg c_16, if_neg c_22_0, if_neg c_22_1, if_neg c_22_2, if_neg c_22_3, if_pos c_22_4]), ht⟩) (fun _ h => absurd h List.not_mem_nil) dX6_thing_107
      by_cases c_22_5 : p3 = 5
      · refine xs_in (tgt := 108) hx hb 5 c_22_5 dX6_thing_22 (by decide) (by decide) rfl (by decide) ?_
        refine lv_aload_n hx hb dX6_thing_108 rfl (lv_at hl 0 rfl) ?_
        refine va_get (D := (dC, dI)) (ci := 6) (v := .ref (q 13)) (C := RX6) (T := TX6) (N := 6) hx hb hts inX6 hown hK hP 0 rfl rfl 2 (by decide) (hts _ fl_X6_28) (fun _ h9 => h9) rfl dX6_thing_109 ?_
        refine lv_iload_n hx hb dX6_thing_112 rfl (lv_at hl 1 rfl) ?_
        refine lv_iload_n hx hb dX6_thing_113 rfl (lv_at hl 2 rfl) ?_
        refine xc_i (va_runV (As := [.int p1, .int p2]) (rest := []) ⟨hx, hb, hml, hown, hts⟩ (c_X4_timesToldOver l dC dI cI cJ q σ p1 p2 (by assumption)) (cwV 2 hts (gV ml_X6_142 im_X4_timesToldOver se_X4_timesToldOver in_X4 co_X4_timesToldOver) rfl rfl rfl (by decide +kernel) ⟨Nat.le_of_ble_eq_true rfl, Nat.le_of_ble_eq_true rfl⟩) (preV hK hP (pos := 13) (ci := 4) rfl rfl) rfl rfl hl.1 rfl (lv_room (Nat.le_of_ble_eq_true rfl)) dX6_thing_114 ⟨Nat.zero_le _, Nat.zero_le _⟩) ?_
        exact W.iret (v := fX4_timesToldOver σ p1 p2) hx hb hr (fun t ht hW => ⟨_, rfl, (by rw [fX6_thing, if_neg c_4, if_neg c_16, if_neg c_22_0, if_neg c_22_1, if_neg c_22_2, if_neg c_22_3, if_neg c_22_4, if_pos c_22_5]), ht⟩) (fun _ h => absurd h List.not_mem_nil) dX6_thing_117
      refine lv_tableOut (tgt := 118) hx hb dX6_thing_22 (xs_out (n := 6) (by decide) (fun k hk => by
          match k, hk with
          | 0, _ => exact c_22_0
          | 1, _ => exact c_22_1
          | 2, _ => exact c_22_2
          | 3, _ => exact c_22_3
          | 4, _ => exact c_22_4
          | 5, _ => exact c_22_5
          | k + 6, h => exact absurd h (by omega))) (by decide) ?_
      refine lv_iconst (v := (-1)) hx hb dX6_thing_118 (by decide) ?_
      exact W.iret (v := (-1)) hx hb hr (fun t ht hW => ⟨_, rfl, (by rw [fX6_thing, if_neg c_4, if_neg c_16, if_neg c_22_0, if_neg c_22_1, if_neg c_22_2, if_neg c_22_3, if_neg c_22_4, if_neg c_22_5]), ht⟩) (fun _ h => absurd h List.not_mem_nil) dX6_thing_119
    · refine lv_iconst (v := (-1)) hx hb dX6_thing_19 (by decide) ?_
      exact W.iret (v := (-1)) hx hb hr (fun t ht hW => ⟨_, rfl, (by rw [fX6_thing, if_neg c_4, if_pos c_16]), ht⟩) (fun _ h => absurd h List.not_mem_nil) dX6_thing_20

def fX6_hangs (σ : St) (p1 : Int32) (p2 : Int32) : Int32 :=
  (if (fX6_isDay σ p2) = 0 then (-2) else (if (fX3_isKnown_F σ p1 p2) = 0 then (-2) else fX5_livingOn σ (σ.1 15 p1.toNatClampNeg) (σ.1 16 p1.toNatClampNeg) p2))
set_option maxHeartbeats 4000000 in
set_option maxRecDepth 100000 in
theorem c_X6_hangs (l : Launch) (dC : Nat → ClassId) (dI : Nat → Nat → Nat) (cI cJ : ClassId) (q : Nat → Nat) (σ : St) (p1 : Int32) (p2 : Int32) (hI : IB σ) : Met l yX6_hangs (.code yX6_hangs cX6_hangs 3 (some .int) :: tb) { frames := 5, cells := 0, slots := 0, locals := 113 } (Pu (dC, dI) (tyC cI cJ) (wT cI cJ q σ) [.ref (q 0), .int p1, .int p2]) (vp_Si (fun r => r = fX6_hangs σ p1 p2)) 0 0 (fun _ => False) := by
  refine Met.ofW (cc := cX6_hangs) (maxL := 3) (ret := (some .int)) (by decide) rfl ?_
  intro p e s m args below meth c s₁ B hml hv
  obtain ⟨rfl, hP, hK⟩ := hv
  have hx := B.exec
  have hb := B.bytes
  have hr := B.returns
  have hts0 := atoms_spec (ws := .code yX6_hangs cX6_hangs 3 (some .int) :: tb) B.pre
  have hts : ∀ w ∈ tb, w.before _ s = true := fun w hw => hts0 w (List.mem_cons_of_mem _ hw)
  have hown : s.vm.findClass RX6 = some m.cls := findClass_of_methodNamed B.named
  have hlocks := B.notSynchronized
  have hl := lv_entry ([.ref (q 0), .int p1, .int p2]) (n := 3) (Nat.le_of_ble_eq_true rfl)
  rw [lg_entry_eq]
  generalize (lg_sl ([.ref (q 0), .int p1, .int p2]) ++ List.replicate (3 - (lg_sl ([.ref (q 0), .int p1, .int p2])).length) Slot.unset).toArray = ls at hl ⊢
  have hl : lv_has ls 3 [(0, .ref (q 0)), (1, .int p1), (2, .int p2)] := hl
  refine lv_iload_n hx hb dX6_hangs_0 rfl (lv_at hl 2 rfl) ?_
  refine xc_i (va_runS (As := [.int p2]) (rest := []) ⟨hx, hb, hml, hown, hts⟩ (c_X6_isDay l dC dI cI cJ q σ p2) (va_cwS 1 hts (gS ml_X6_56 st_X6_isDay in_X6 co_X6_isDay) rfl rfl rfl (by decide +kernel) ⟨Nat.le_of_ble_eq_true rfl, Nat.le_of_ble_eq_true rfl⟩) (preS hK hP) rfl rfl hl.1 rfl (lv_room (Nat.le_of_ble_eq_true rfl)) dX6_hangs_1 ⟨Nat.zero_le _, Nat.zero_le _⟩) ?_
  refine lv_if_eq (tgt := 19) hx hb dX6_hangs_4 (by decide) (fun c_4 => ?_) (fun c_4 => ?_)
  · refine lv_bipush (v := (-2)) hx hb dX6_hangs_19 (by decide) ?_
    exact W.iret (v := (-2)) hx hb hr (fun t ht hW => ⟨_, rfl, (by rw [fX6_hangs, if_pos c_4]), ht⟩) (fun _ h => absurd h List.not_mem_nil) dX6_hangs_21
  · refine lv_aload_n hx hb dX6_hangs_7 rfl (lv_at hl 0 rfl) ?_
    refine va_get (D := (dC, dI)) (ci := 6) (v := .ref (q 21)) (C := RX6) (T := TX6) (N := 6) hx hb hts inX6 hown hK hP 0 rfl rfl 3 (by decide) (hts _ fl_X6_35) (fun _ h9 => h9) rfl dX6_hangs_8 ?_
    refine lv_iload_n hx hb dX6_hangs_11 rfl (lv_at hl 1 rfl) ?_
    refine lv_iload_n hx hb dX6_hangs_12 rfl (lv_at hl 2 rfl) ?_
    refine xc_i (va_runV (As := [.int p1, .int p2]) (rest := []) ⟨hx, hb, hml, hown, hts⟩ (c_X1_isKnown l dC dI cI cJ q σ p1 p2 (by assumption)) (cwV 2 hts (gV ml_X6_145 im_X1_isKnown se_X1_isKnown in_X1 co_X1_isKnown) rfl rfl rfl (by decide +kernel) ⟨Nat.le_of_ble_eq_true rfl, Nat.le_of_ble_eq_true rfl⟩) (preV hK hP (pos := 21) (ci := 1) rfl rfl) rfl rfl hl.1 rfl (lv_room (Nat.le_of_ble_eq_true rfl)) dX6_hangs_13 ⟨Nat.zero_le _, Nat.zero_le _⟩) ?_
    refine lv_if_ne (tgt := 22) hx hb dX6_hangs_16 (by decide) (fun c_16 => ?_) (fun c_16 => ?_)
    · refine lv_aload_n hx hb dX6_hangs_22 rfl (lv_at hl 0 rfl) ?_
      refine lv_iload_n hx hb dX6_hangs_23 rfl (lv_at hl 1 rfl) ?_
      refine lv_iload_n hx hb dX6_hangs_24 rfl (lv_at hl 2 rfl) ?_
      refine xc_i (va_runV (As := [.int p1, .int p2]) (rest := []) ⟨hx, hb, hml, hown, hts⟩ (c_X6_thingOfFact l dC dI cI cJ q σ p1 p2 (by assumption) (vp_in_mono (known_in_F hI c_16) hI.2.1.2)) (cwV 2 hts (gV ml_X6_146 im_X6_thingOfFact se_X6_thingOfFact in_X6 co_X6_thingOfFact) rfl rfl rfl (by decide +kernel) ⟨Nat.le_of_ble_eq_true rfl, Nat.le_of_ble_eq_true rfl⟩) (preV hK hP (pos := 0) (ci := 6) rfl rfl) rfl rfl hl.1 rfl (lv_room (Nat.le_of_ble_eq_true rfl)) dX6_hangs_25 ⟨Nat.zero_le _, Nat.zero_le _⟩) ?_
      exact W.iret (v := fX5_livingOn σ (σ.1 15 p1.toNatClampNeg) (σ.1 16 p1.toNatClampNeg) p2) hx hb hr (fun t ht hW => ⟨_, rfl, (by rw [fX6_hangs, if_neg c_4, if_neg c_16]), ht⟩) (fun _ h => absurd h List.not_mem_nil) dX6_hangs_28
    · refine lv_bipush (v := (-2)) hx hb dX6_hangs_19 (by decide) ?_
      exact W.iret (v := (-2)) hx hb hr (fun t ht hW => ⟨_, rfl, (by rw [fX6_hangs, if_neg c_4, if_pos c_16]), ht⟩) (fun _ h => absurd h List.not_mem_nil) dX6_hangs_21

def fX6_find (σ : St) (p1 : Int32) (p2 : Int32) (p3 : Int32) : Int32 :=
  (if (fX6_isCode σ p1) = 0 then (-1) else (if (fX6_isDay σ p2) = 0 then (-1) else (if (fX6_isDay σ p3) = 0 then (-1) else fX5_livingOn σ p1 p2 p3)))
set_option maxHeartbeats 4000000 in
set_option maxRecDepth 100000 in
theorem c_X6_find (l : Launch) (dC : Nat → ClassId) (dI : Nat → Nat → Nat) (cI cJ : ClassId) (q : Nat → Nat) (σ : St) (p1 : Int32) (p2 : Int32) (p3 : Int32) (hI : IB σ) : Met l yX6_find (.code yX6_find cX6_find 4 (some .int) :: tb) { frames := 4, cells := 0, slots := 0, locals := 91 } (Pu (dC, dI) (tyC cI cJ) (wT cI cJ q σ) [.ref (q 0), .int p1, .int p2, .int p3]) (vp_Si (fun r => r = fX6_find σ p1 p2 p3)) 0 0 (fun _ => False) := by
  refine Met.ofW (cc := cX6_find) (maxL := 4) (ret := (some .int)) (by decide) rfl ?_
  intro p e s m args below meth c s₁ B hml hv
  obtain ⟨rfl, hP, hK⟩ := hv
  have hx := B.exec
  have hb := B.bytes
  have hr := B.returns
  have hts0 := atoms_spec (ws := .code yX6_find cX6_find 4 (some .int) :: tb) B.pre
  have hts : ∀ w ∈ tb, w.before _ s = true := fun w hw => hts0 w (List.mem_cons_of_mem _ hw)
  have hown : s.vm.findClass RX6 = some m.cls := findClass_of_methodNamed B.named
  have hlocks := B.notSynchronized
  have hl := lv_entry ([.ref (q 0), .int p1, .int p2, .int p3]) (n := 4) (Nat.le_of_ble_eq_true rfl)
  rw [lg_entry_eq]
  generalize (lg_sl ([.ref (q 0), .int p1, .int p2, .int p3]) ++ List.replicate (4 - (lg_sl ([.ref (q 0), .int p1, .int p2, .int p3])).length) Slot.unset).toArray = ls at hl ⊢
  have hl : lv_has ls 4 [(0, .ref (q 0)), (1, .int p1), (2, .int p2), (3, .int p3)] := hl
  refine lv_iload_n hx hb dX6_find_0 rfl (lv_at hl 1 rfl) ?_
  refine xc_i (va_runS (As := [.int p1]) (rest := []) ⟨hx, hb, hml, hown, hts⟩ (c_X6_isCode l dC dI cI cJ q σ p1) (va_cwS 1 hts (gS ml_X6_52 st_X6_isCode in_X6 co_X6_isCode) rfl rfl rfl (by decide +kernel) ⟨Nat.le_of_ble_eq_true rfl, Nat.le_of_ble_eq_true rfl⟩) (preS hK hP) rfl rfl hl.1 rfl (lv_room (Nat.le_of_ble_eq_true rfl)) dX6_find_1 ⟨Nat.zero_le _, Nat.zero_le _⟩) ?_
  refine lv_if_eq (tgt := 21) hx hb dX6_find_4 (by decide) (fun c_4 => ?_) (fun c_4 => ?_)
  · refine lv_iconst (v := (-1)) hx hb dX6_find_21 (by decide) ?_
    exact W.iret (v := (-1)) hx hb hr (fun t ht hW => ⟨_, rfl, (by rw [fX6_find, if_pos c_4]), ht⟩) (fun _ h => absurd h List.not_mem_nil) dX6_find_22
  · refine lv_iload_n hx hb dX6_find_7 rfl (lv_at hl 2 rfl) ?_
    refine xc_i (va_runS (As := [.int p2]) (rest := []) ⟨hx, hb, hml, hown, hts⟩ (c_X6_isDay l dC dI cI cJ q σ p2) (va_cwS 1 hts (gS ml_X6_56 st_X6_isDay in_X6 co_X6_isDay) rfl rfl rfl (by decide +kernel) ⟨Nat.le_of_ble_eq_true rfl, Nat.le_of_ble_eq_true rfl⟩) (preS hK hP) rfl rfl hl.1 rfl (lv_room (Nat.le_of_ble_eq_true rfl)) dX6_find_8 ⟨Nat.zero_le _, Nat.zero_le _⟩) ?_
    refine lv_if_eq (tgt := 21) hx hb dX6_find_11 (by decide) (fun c_11 => ?_) (fun c_11 => ?_)
    · refine lv_iconst (v := (-1)) hx hb dX6_find_21 (by decide) ?_
      exact W.iret (v := (-1)) hx hb hr (fun t ht hW => ⟨_, rfl, (by rw [fX6_find, if_neg c_4, if_pos c_11]), ht⟩) (fun _ h => absurd h List.not_mem_nil) dX6_find_22
    · refine lv_iload_n hx hb dX6_find_14 rfl (lv_at hl 3 rfl) ?_
      refine xc_i (va_runS (As := [.int p3]) (rest := []) ⟨hx, hb, hml, hown, hts⟩ (c_X6_isDay l dC dI cI cJ q σ p3) (va_cwS 1 hts (gS ml_X6_56 st_X6_isDay in_X6 co_X6_isDay) rfl rfl rfl (by decide +kernel) ⟨Nat.le_of_ble_eq_true rfl, Nat.le_of_ble_eq_true rfl⟩) (preS hK hP) rfl rfl hl.1 rfl (lv_room (Nat.le_of_ble_eq_true rfl)) dX6_find_15 ⟨Nat.zero_le _, Nat.zero_le _⟩) ?_
      refine lv_if_ne (tgt := 23) hx hb dX6_find_18 (by decide) (fun c_18 => ?_) (fun c_18 => ?_)
      · refine lv_aload_n hx hb dX6_find_23 rfl (lv_at hl 0 rfl) ?_
        refine va_get (D := (dC, dI)) (ci := 6) (v := .ref (q 3)) (C := RX6) (T := TX6) (N := 6) hx hb hts inX6 hown hK hP 0 rfl rfl 1 (by decide) (hts _ fl_X6_19) (fun _ h9 => h9) rfl dX6_find_24 ?_
        refine lv_iload_n hx hb dX6_find_27 rfl (lv_at hl 1 rfl) ?_
        refine lv_iload_n hx hb dX6_find_28 rfl (lv_at hl 2 rfl) ?_
        refine lv_iload_n hx hb dX6_find_29 rfl (lv_at hl 3 rfl) ?_
        refine xc_i (va_runV (As := [.int p1, .int p2, .int p3]) (rest := []) ⟨hx, hb, hml, hown, hts⟩ (c_X5_livingOn l dC dI cI cJ q σ p1 p2 p3 (by assumption)) (cwV 3 hts (gV ml_X6_149 im_X5_livingOn se_X5_livingOn in_X5 co_X5_livingOn) rfl rfl rfl (by decide +kernel) ⟨Nat.le_of_ble_eq_true rfl, Nat.le_of_ble_eq_true rfl⟩) (preV hK hP (pos := 3) (ci := 5) rfl rfl) rfl rfl hl.1 rfl (lv_room (Nat.le_of_ble_eq_true rfl)) dX6_find_30 ⟨Nat.zero_le _, Nat.zero_le _⟩) ?_
        exact W.iret (v := fX5_livingOn σ p1 p2 p3) hx hb hr (fun t ht hW => ⟨_, rfl, (by rw [fX6_find, if_neg c_4, if_neg c_11, if_neg c_18]), ht⟩) (fun _ h => absurd h List.not_mem_nil) dX6_find_33
      · refine lv_iconst (v := (-1)) hx hb dX6_find_21 (by decide) ?_
        exact W.iret (v := (-1)) hx hb hr (fun t ht hW => ⟨_, rfl, (by rw [fX6_find, if_neg c_4, if_neg c_11, if_pos c_18]), ht⟩) (fun _ h => absurd h List.not_mem_nil) dX6_find_22

def flX6_then_29 (σ : St) (p1 : Int32) (p2 : Int32) (p3 : Int32) : Nat → Nat → Int64 → Int64
  | 0, i, tot => tot
  | k + 1, i, tot => (if (fX3_isKnown_F σ (nI i) p3) = 0 then flX6_then_29 σ p1 p2 p3 k (i + 1) tot else (if (fX6_isMarkedThen σ (nI i) p1 p2 p3) = 0 then flX6_then_29 σ p1 p2 p3 k (i + 1) tot else flX6_then_29 σ p1 p2 p3 k (i + 1) (tot + ((σ.1 17 ((nI i).toNatClampNeg)).toInt64))))
def fX6_then (σ : St) (p1 : Int32) (p2 : Int32) (p3 : Int32) : Int64 :=
  (if (fX6_isMark σ p1) = 0 then 0 else (if (fX6_isAnswer σ p2) = 0 then 0 else (if (fX6_isDay σ p3) = 0 then 0 else flX6_then_29 σ p1 p2 p3 ((σ.2.1 2).toNatClampNeg) 0 0)))
set_option maxHeartbeats 4000000 in
set_option maxRecDepth 100000 in
theorem c_X6_then (l : Launch) (dC : Nat → ClassId) (dI : Nat → Nat → Nat) (cI cJ : ClassId) (q : Nat → Nat) (σ : St) (p1 : Int32) (p2 : Int32) (p3 : Int32) (hI : IB σ) : Met l yX6_then (.code yX6_then cX6_then 7 (some .long) :: tb) { frames := 6, cells := 0, slots := 0, locals := 138 } (Pu (dC, dI) (tyC cI cJ) (wT cI cJ q σ) [.ref (q 0), .int p1, .int p2, .int p3]) (vp_Sl (fun r => r = fX6_then σ p1 p2 p3)) 0 0 (fun _ => False) := by
  refine Met.ofW (cc := cX6_then) (maxL := 7) (ret := (some .long)) (by decide) rfl ?_
  intro p e s m args below meth c s₁ B hml hv
  obtain ⟨rfl, hP, hK⟩ := hv
  have hx := B.exec
  have hb := B.bytes
  have hr := B.returns
  have hts0 := atoms_spec (ws := .code yX6_then cX6_then 7 (some .long) :: tb) B.pre
  have hts : ∀ w ∈ tb, w.before _ s = true := fun w hw => hts0 w (List.mem_cons_of_mem _ hw)
  have hown : s.vm.findClass RX6 = some m.cls := findClass_of_methodNamed B.named
  have hlocks := B.notSynchronized
  have hl := lv_entry ([.ref (q 0), .int p1, .int p2, .int p3]) (n := 7) (Nat.le_of_ble_eq_true rfl)
  rw [lg_entry_eq]
  generalize (lg_sl ([.ref (q 0), .int p1, .int p2, .int p3]) ++ List.replicate (7 - (lg_sl ([.ref (q 0), .int p1, .int p2, .int p3])).length) Slot.unset).toArray = ls at hl ⊢
  have hl : lv_has ls 7 [(0, .ref (q 0)), (1, .int p1), (2, .int p2), (3, .int p3)] := hl
  refine lv_iload_n hx hb dX6_then_0 rfl (lv_at hl 1 rfl) ?_
  refine xc_i (va_runS (As := [.int p1]) (rest := []) ⟨hx, hb, hml, hown, hts⟩ (c_X6_isMark l dC dI cI cJ q σ p1) (va_cwS 1 hts (gS ml_X6_89 st_X6_isMark in_X6 co_X6_isMark) rfl rfl rfl (by decide +kernel) ⟨Nat.le_of_ble_eq_true rfl, Nat.le_of_ble_eq_true rfl⟩) (preS hK hP) rfl rfl hl.1 rfl (lv_room (Nat.le_of_ble_eq_true rfl)) dX6_then_1 ⟨Nat.zero_le _, Nat.zero_le _⟩) ?_
  refine lv_if_eq (tgt := 21) hx hb dX6_then_4 (by decide) (fun c_4 => ?_) (fun c_4 => ?_)
  · refine lv_lconst (v := 0) hx hb dX6_then_21 (by decide) ?_
    exact W.lret (v := 0) hx hb hr (fun t ht hW => ⟨_, rfl, (by rw [fX6_then, if_pos c_4]), ht⟩) (fun _ h => absurd h List.not_mem_nil) dX6_then_22
  · refine lv_iload_n hx hb dX6_then_7 rfl (lv_at hl 2 rfl) ?_
    refine xc_i (va_runS (As := [.int p2]) (rest := []) ⟨hx, hb, hml, hown, hts⟩ (c_X6_isAnswer l dC dI cI cJ q σ p2) (va_cwS 1 hts (gS ml_X6_152 st_X6_isAnswer in_X6 co_X6_isAnswer) rfl rfl rfl (by decide +kernel) ⟨Nat.le_of_ble_eq_true rfl, Nat.le_of_ble_eq_true rfl⟩) (preS hK hP) rfl rfl hl.1 rfl (lv_room (Nat.le_of_ble_eq_true rfl)) dX6_then_8 ⟨Nat.zero_le _, Nat.zero_le _⟩) ?_
    refine lv_if_eq (tgt := 21) hx hb dX6_then_11 (by decide) (fun c_11 => ?_) (fun c_11 => ?_)
    · refine lv_lconst (v := 0) hx hb dX6_then_21 (by decide) ?_
      exact W.lret (v := 0) hx hb hr (fun t ht hW => ⟨_, rfl, (by rw [fX6_then, if_neg c_4, if_pos c_11]), ht⟩) (fun _ h => absurd h List.not_mem_nil) dX6_then_22
    · refine lv_iload_n hx hb dX6_then_14 rfl (lv_at hl 3 rfl) ?_
      refine xc_i (va_runS (As := [.int p3]) (rest := []) ⟨hx, hb, hml, hown, hts⟩ (c_X6_isDay l dC dI cI cJ q σ p3) (va_cwS 1 hts (gS ml_X6_56 st_X6_isDay in_X6 co_X6_isDay) rfl rfl rfl (by decide +kernel) ⟨Nat.le_of_ble_eq_true rfl, Nat.le_of_ble_eq_true rfl⟩) (preS hK hP) rfl rfl hl.1 rfl (lv_room (Nat.le_of_ble_eq_true rfl)) dX6_then_15 ⟨Nat.zero_le _, Nat.zero_le _⟩) ?_
      refine lv_if_ne (tgt := 23) hx hb dX6_then_18 (by decide) (fun c_18 => ?_) (fun c_18 => ?_)
      · refine lv_lconst (v := 0) hx hb dX6_then_23 (by decide) ?_
        refine lv_lstore (lv' := [(4, .long 0), (0, .ref (q 0)), (1, .int p1), (2, .int p2), (3, .int p3)]) hx hb dX6_then_24 hl (by decide) rfl (fun ls hl => ?_)
        refine lv_iconst (v := 0) hx hb dX6_then_26 (by decide) ?_
        refine lv_istore (lv' := [(6, .int 0), (4, .long 0), (0, .ref (q 0)), (1, .int p1), (2, .int p2), (3, .int p3)]) hx hb dX6_then_27 hl (by decide) rfl (fun ls hl => ?_)
        have hz : szI (σ.2.1 2) 200 := hI.2.1
        have hz2 := hz.2
        have loop_29 : ∀ (k i : Nat) (tot : Int64), i + k = (σ.2.1 2).toNatClampNeg → fX6_then σ p1 p2 p3 = flX6_then_29 σ p1 p2 p3 k i tot → ∀ (ls : Array Slot), lv_has ls 7 [(0, .ref (q 0)), (1, .int p1), (2, .int p2), (3, .int p3), (6, .int (nI i)), (4, .long tot)] → W p l e (headSpec (.code yX6_then cX6_then 7 (some .long) :: tb) { frames := 6, cells := 0, slots := 0, locals := 138 }).room s m (List.toArray [.ref (q 0), .int p1, .int p2, .int p3]) below meth c s.heap [] 0 0 (MQ below (vp_Sl (fun r => r = fX6_then σ p1 p2 p3)) (List.toArray [.ref (q 0), .int p1, .int p2, .int p3]) s 0 0 (fun _ => False)) (F0 m 29 ls []) := by
          intro k
          induction k with
          | zero =>
            intro i tot hik hE ls hl
            refine lv_iload hx hb dX6_then_29 (lv_at hl 4 rfl) ?_
            refine lv_aload_n hx hb dX6_then_31 rfl (lv_at hl 0 rfl) ?_
            refine va_get (D := (dC, dI)) (ci := 6) (v := .ref (q 21)) (C := RX6) (T := TX6) (N := 6) hx hb hts inX6 hown hK hP 0 rfl rfl 3 (by decide) (hts _ fl_X6_35) (fun _ h9 => h9) rfl dX6_then_32 ?_
            refine xc_i (va_runV (As := []) (rest := [.int (nI i)]) ⟨hx, hb, hml, hown, hts⟩ (c_X1_size l dC dI cI cJ q σ ) (cwV 0 hts (gV ml_X6_155 im_X1_size se_X1_size in_X1 co_X1_size) rfl rfl rfl (by decide +kernel) ⟨Nat.le_of_ble_eq_true rfl, Nat.le_of_ble_eq_true rfl⟩) (preV hK hP (pos := 21) (ci := 1) rfl rfl) rfl rfl hl.1 rfl (lv_room (Nat.le_of_ble_eq_true rfl)) dX6_then_35 ⟨Nat.zero_le _, Nat.zero_le _⟩) ?_
            refine lv_icmp_ge (tgt := 87) hx hb dX6_then_38 (by decide) (fun c_38 => ?_) (fun c_38 => ?_)
            · refine lv_lload hx hb dX6_then_87 (lv_at hl 5 rfl) ?_
              exact W.lret (v := tot) hx hb hr (fun t ht hW => ⟨_, rfl, (by rw [hE, flX6_then_29]), ht⟩) (fun _ h => absurd h List.not_mem_nil) dX6_then_89
            · exact absurd (by rw [hz.1]; exact nI_le (by omega) (by omega)) c_38
          | succ k ih =>
            intro i tot hik hE ls hl
            refine lv_iload hx hb dX6_then_29 (lv_at hl 4 rfl) ?_
            refine lv_aload_n hx hb dX6_then_31 rfl (lv_at hl 0 rfl) ?_
            refine va_get (D := (dC, dI)) (ci := 6) (v := .ref (q 21)) (C := RX6) (T := TX6) (N := 6) hx hb hts inX6 hown hK hP 0 rfl rfl 3 (by decide) (hts _ fl_X6_35) (fun _ h9 => h9) rfl dX6_then_32 ?_
            refine xc_i (va_runV (As := []) (rest := [.int (nI i)]) ⟨hx, hb, hml, hown, hts⟩ (c_X1_size l dC dI cI cJ q σ ) (cwV 0 hts (gV ml_X6_155 im_X1_size se_X1_size in_X1 co_X1_size) rfl rfl rfl (by decide +kernel) ⟨Nat.le_of_ble_eq_true rfl, Nat.le_of_ble_eq_true rfl⟩) (preV hK hP (pos := 21) (ci := 1) rfl rfl) rfl rfl hl.1 rfl (lv_room (Nat.le_of_ble_eq_true rfl)) dX6_then_35 ⟨Nat.zero_le _, Nat.zero_le _⟩) ?_
            refine lv_icmp_ge (tgt := 87) hx hb dX6_then_38 (by decide) (fun c_38 => ?_) (fun c_38 => ?_)
            · exact absurd c_38 (by rw [hz.1]; exact nI_ge (by omega) (by omega))
            · refine lv_aload_n hx hb dX6_then_41 rfl (lv_at hl 0 rfl) ?_
              refine va_get (D := (dC, dI)) (ci := 6) (v := .ref (q 21)) (C := RX6) (T := TX6) (N := 6) hx hb hts inX6 hown hK hP 0 rfl rfl 3 (by decide) (hts _ fl_X6_35) (fun _ h9 => h9) rfl dX6_then_42 ?_
              refine lv_iload hx hb dX6_then_45 (lv_at hl 4 rfl) ?_
              refine lv_iload_n hx hb dX6_then_47 rfl (lv_at hl 3 rfl) ?_
              refine xc_i (va_runV (As := [.int (nI i), .int p3]) (rest := []) ⟨hx, hb, hml, hown, hts⟩ (c_X1_isKnown l dC dI cI cJ q σ (nI i) p3 (by assumption)) (cwV 2 hts (gV ml_X6_145 im_X1_isKnown se_X1_isKnown in_X1 co_X1_isKnown) rfl rfl rfl (by decide +kernel) ⟨Nat.le_of_ble_eq_true rfl, Nat.le_of_ble_eq_true rfl⟩) (preV hK hP (pos := 21) (ci := 1) rfl rfl) rfl rfl hl.1 rfl (lv_room (Nat.le_of_ble_eq_true rfl)) dX6_then_48 ⟨Nat.zero_le _, Nat.zero_le _⟩) ?_
              refine lv_if_eq (tgt := 81) hx hb dX6_then_51 (by decide) (fun c_51 => ?_) (fun c_51 => ?_)
              · refine lv_iinc (v := nI (i + 1)) (lv' := [(6, .int (nI (i + 1))), (0, .ref (q 0)), (1, .int p1), (2, .int p2), (3, .int p3), (4, .long tot)]) hx hb dX6_then_81 hl (k := 4) rfl (nI_1 i) (by decide) rfl (fun ls hl => ?_)
                refine lv_goto (tgt := 29) hx hb dX6_then_84 (by decide) ?_
                exact ih (i + 1) tot (by omega) (by rw [hE, flX6_then_29, if_pos c_51]) ls (lv_sub hl [1, 2, 3, 4, 0, 5] rfl)
              · refine lv_aload_n hx hb dX6_then_54 rfl (lv_at hl 0 rfl) ?_
                refine lv_iload hx hb dX6_then_55 (lv_at hl 4 rfl) ?_
                refine lv_iload_n hx hb dX6_then_57 rfl (lv_at hl 1 rfl) ?_
                refine lv_iload_n hx hb dX6_then_58 rfl (lv_at hl 2 rfl) ?_
                refine lv_iload_n hx hb dX6_then_59 rfl (lv_at hl 3 rfl) ?_
                refine xc_i (va_runV (As := [.int (nI i), .int p1, .int p2, .int p3]) (rest := []) ⟨hx, hb, hml, hown, hts⟩ (c_X6_isMarkedThen l dC dI cI cJ q σ (nI i) p1 p2 p3 (by assumption) (vp_in_nI (by omega) (by decide))) (cwV 4 hts (gV ml_X6_158 im_X6_isMarkedThen se_X6_isMarkedThen in_X6 co_X6_isMarkedThen) rfl rfl rfl (by decide +kernel) ⟨Nat.le_of_ble_eq_true rfl, Nat.le_of_ble_eq_true rfl⟩) (preV hK hP (pos := 0) (ci := 6) rfl rfl) rfl rfl hl.1 rfl (lv_room (Nat.le_of_ble_eq_true rfl)) dX6_then_60 ⟨Nat.zero_le _, Nat.zero_le _⟩) ?_
                refine lv_if_eq (tgt := 81) hx hb dX6_then_63 (by decide) (fun c_63 => ?_) (fun c_63 => ?_)
                · refine lv_iinc (v := nI (i + 1)) (lv' := [(6, .int (nI (i + 1))), (0, .ref (q 0)), (1, .int p1), (2, .int p2), (3, .int p3), (4, .long tot)]) hx hb dX6_then_81 hl (k := 4) rfl (nI_1 i) (by decide) rfl (fun ls hl => ?_)
                  refine lv_goto (tgt := 29) hx hb dX6_then_84 (by decide) ?_
                  exact ih (i + 1) tot (by omega) (by rw [hE, flX6_then_29, if_neg c_51, if_pos c_63]) ls (lv_sub hl [1, 2, 3, 4, 0, 5] rfl)
                · refine lv_lload hx hb dX6_then_66 (lv_at hl 5 rfl) ?_
                  refine lv_aload_n hx hb dX6_then_68 rfl (lv_at hl 0 rfl) ?_
                  refine va_get (D := (dC, dI)) (ci := 6) (v := .ref (q 21)) (C := RX6) (T := TX6) (N := 6) hx hb hts inX6 hown hK hP 0 rfl rfl 3 (by decide) (hts _ fl_X6_35) (fun _ h9 => h9) rfl dX6_then_69 ?_
                  refine lv_iload hx hb dX6_then_72 (lv_at hl 4 rfl) ?_
                  refine xc_i (va_runV (As := [.int (nI i)]) (rest := [.long tot]) ⟨hx, hb, hml, hown, hts⟩ (c_X1_amountOf l dC dI cI cJ q σ (nI i) (vp_in_nI (by omega) (by decide))) (cwV 1 hts (gV ml_X6_161 im_X1_amountOf se_X1_amountOf in_X1 co_X1_amountOf) rfl rfl rfl (by decide +kernel) ⟨Nat.le_of_ble_eq_true rfl, Nat.le_of_ble_eq_true rfl⟩) (preV hK hP (pos := 21) (ci := 1) rfl rfl) rfl rfl hl.1 rfl (lv_room (Nat.le_of_ble_eq_true rfl)) dX6_then_74 ⟨Nat.zero_le _, Nat.zero_le _⟩) ?_
                  refine lv_i2l (v := (σ.1 17 ((nI i).toNatClampNeg)).toInt64) hx hb dX6_then_77 rfl ?_
                  refine lv_ladd hx hb dX6_then_78 ?_
                  refine lv_lstore (lv' := [(4, .long (tot + ((σ.1 17 ((nI i).toNatClampNeg)).toInt64))), (0, .ref (q 0)), (1, .int p1), (2, .int p2), (3, .int p3), (6, .int (nI i))]) hx hb dX6_then_79 hl (by decide) rfl (fun ls hl => ?_)
                  refine lv_iinc (v := nI (i + 1)) (lv' := [(6, .int (nI (i + 1))), (4, .long (tot + ((σ.1 17 ((nI i).toNatClampNeg)).toInt64))), (0, .ref (q 0)), (1, .int p1), (2, .int p2), (3, .int p3)]) hx hb dX6_then_81 hl (k := 5) rfl (nI_1 i) (by decide) rfl (fun ls hl => ?_)
                  refine lv_goto (tgt := 29) hx hb dX6_then_84 (by decide) ?_
                  exact ih (i + 1) (tot + ((σ.1 17 ((nI i).toNatClampNeg)).toInt64)) (by omega) (by rw [hE, flX6_then_29, if_neg c_51, if_neg c_63]) ls (lv_sub hl [2, 3, 4, 5, 0, 1] rfl)
        exact loop_29 ((σ.2.1 2).toNatClampNeg) 0 0 (by rw [Nat.zero_add]) (by rw [fX6_then, if_neg c_4, if_neg c_11, if_neg c_18]) ls (lv_sub hl [2, 3, 4, 5, 0, 1] rfl)
      · refine lv_lconst (v := 0) hx hb dX6_then_21 (by decide) ?_
        exact W.lret (v := 0) hx hb hr (fun t ht hW => ⟨_, rfl, (by rw [fX6_then, if_neg c_4, if_neg c_11, if_pos c_18]), ht⟩) (fun _ h => absurd h List.not_mem_nil) dX6_then_22

def flX6_sumOfFacts_5 (σ : St) (p1 : Int32) (p2 : Int32) : Nat → Nat → Int64 → Int64
  | 0, i, tot => tot
  | k + 1, i, tot => (if (fX3_isKnown_F σ (nI i) p1) = 0 then flX6_sumOfFacts_5 σ p1 p2 k (i + 1) tot else (if p2 = 0 then flX6_sumOfFacts_5 σ p1 p2 k (i + 1) (tot + ((σ.1 17 ((nI i).toNatClampNeg)).toInt64)) else (if (fX5_livingOn σ (σ.1 15 ((nI i).toNatClampNeg)) (σ.1 16 ((nI i).toNatClampNeg)) p1) = (-1) then flX6_sumOfFacts_5 σ p1 p2 k (i + 1) (tot + ((σ.1 17 ((nI i).toNatClampNeg)).toInt64)) else flX6_sumOfFacts_5 σ p1 p2 k (i + 1) tot)))
def fX6_sumOfFacts (σ : St) (p1 : Int32) (p2 : Int32) : Int64 :=
  flX6_sumOfFacts_5 σ p1 p2 ((σ.2.1 2).toNatClampNeg) 0 0
set_option maxHeartbeats 4000000 in
set_option maxRecDepth 100000 in
theorem c_X6_sumOfFacts (l : Launch) (dC : Nat → ClassId) (dI : Nat → Nat → Nat) (cI cJ : ClassId) (q : Nat → Nat) (σ : St) (p1 : Int32) (p2 : Int32) (hI : IB σ) : Met l yX6_sumOfFacts (.code yX6_sumOfFacts cX6_sumOfFacts 6 (some .long) :: tb) { frames := 5, cells := 0, slots := 0, locals := 113 } (Pu (dC, dI) (tyC cI cJ) (wT cI cJ q σ) [.ref (q 0), .int p1, .int p2]) (vp_Sl (fun r => r = fX6_sumOfFacts σ p1 p2)) 0 0 (fun _ => False) := by
  refine Met.ofW (cc := cX6_sumOfFacts) (maxL := 6) (ret := (some .long)) (by decide) rfl ?_
  intro p e s m args below meth c s₁ B hml hv
  obtain ⟨rfl, hP, hK⟩ := hv
  have hx := B.exec
  have hb := B.bytes
  have hr := B.returns
  have hts0 := atoms_spec (ws := .code yX6_sumOfFacts cX6_sumOfFacts 6 (some .long) :: tb) B.pre
  have hts : ∀ w ∈ tb, w.before _ s = true := fun w hw => hts0 w (List.mem_cons_of_mem _ hw)
  have hown : s.vm.findClass RX6 = some m.cls := findClass_of_methodNamed B.named
  have hlocks := B.notSynchronized
  have hl := lv_entry ([.ref (q 0), .int p1, .int p2]) (n := 6) (Nat.le_of_ble_eq_true rfl)
  rw [lg_entry_eq]
  generalize (lg_sl ([.ref (q 0), .int p1, .int p2]) ++ List.replicate (6 - (lg_sl ([.ref (q 0), .int p1, .int p2])).length) Slot.unset).toArray = ls at hl ⊢
  have hl : lv_has ls 6 [(0, .ref (q 0)), (1, .int p1), (2, .int p2)] := hl
  refine lv_lconst (v := 0) hx hb dX6_sumOfFacts_0 (by decide) ?_
  refine lv_lstore_n (lv' := [(3, .long 0), (0, .ref (q 0)), (1, .int p1), (2, .int p2)]) hx hb dX6_sumOfFacts_1 rfl hl (by decide) rfl (fun ls hl => ?_)
  refine lv_iconst (v := 0) hx hb dX6_sumOfFacts_2 (by decide) ?_
  refine lv_istore (lv' := [(5, .int 0), (3, .long 0), (0, .ref (q 0)), (1, .int p1), (2, .int p2)]) hx hb dX6_sumOfFacts_3 hl (by decide) rfl (fun ls hl => ?_)
  have hz : szI (σ.2.1 2) 200 := hI.2.1
  have hz2 := hz.2
  have loop_5 : ∀ (k i : Nat) (tot : Int64), i + k = (σ.2.1 2).toNatClampNeg → fX6_sumOfFacts σ p1 p2 = flX6_sumOfFacts_5 σ p1 p2 k i tot → ∀ (ls : Array Slot), lv_has ls 6 [(0, .ref (q 0)), (1, .int p1), (2, .int p2), (5, .int (nI i)), (3, .long tot)] → W p l e (headSpec (.code yX6_sumOfFacts cX6_sumOfFacts 6 (some .long) :: tb) { frames := 5, cells := 0, slots := 0, locals := 113 }).room s m (List.toArray [.ref (q 0), .int p1, .int p2]) below meth c s.heap [] 0 0 (MQ below (vp_Sl (fun r => r = fX6_sumOfFacts σ p1 p2)) (List.toArray [.ref (q 0), .int p1, .int p2]) s 0 0 (fun _ => False)) (F0 m 5 ls []) := by
    intro k
    induction k with
    | zero =>
      intro i tot hik hE ls hl
      refine lv_iload hx hb dX6_sumOfFacts_5 (lv_at hl 3 rfl) ?_
      refine lv_aload_n hx hb dX6_sumOfFacts_7 rfl (lv_at hl 0 rfl) ?_
      refine va_get (D := (dC, dI)) (ci := 6) (v := .ref (q 21)) (C := RX6) (T := TX6) (N := 6) hx hb hts inX6 hown hK hP 0 rfl rfl 3 (by decide) (hts _ fl_X6_35) (fun _ h9 => h9) rfl dX6_sumOfFacts_8 ?_
      refine xc_i (va_runV (As := []) (rest := [.int (nI i)]) ⟨hx, hb, hml, hown, hts⟩ (c_X1_size l dC dI cI cJ q σ ) (cwV 0 hts (gV ml_X6_155 im_X1_size se_X1_size in_X1 co_X1_size) rfl rfl rfl (by decide +kernel) ⟨Nat.le_of_ble_eq_true rfl, Nat.le_of_ble_eq_true rfl⟩) (preV hK hP (pos := 21) (ci := 1) rfl rfl) rfl rfl hl.1 rfl (lv_room (Nat.le_of_ble_eq_true rfl)) dX6_sumOfFacts_11 ⟨Nat.zero_le _, Nat.zero_le _⟩) ?_
      refine lv_icmp_ge (tgt := 64) hx hb dX6_sumOfFacts_14 (by decide) (fun c_14 => ?_) (fun c_14 => ?_)
      · refine lv_lload_n hx hb dX6_sumOfFacts_64 rfl (lv_at hl 4 rfl) ?_
        exact W.lret (v := tot) hx hb hr (fun t ht hW => ⟨_, rfl, (by rw [hE, flX6_sumOfFacts_5]), ht⟩) (fun _ h => absurd h List.not_mem_nil) dX6_sumOfFacts_65
      · exact absurd (by rw [hz.1]; exact nI_le (by omega) (by omega)) c_14
    | succ k ih =>
      intro i tot hik hE ls hl
      refine lv_iload hx hb dX6_sumOfFacts_5 (lv_at hl 3 rfl) ?_
      refine lv_aload_n hx hb dX6_sumOfFacts_7 rfl (lv_at hl 0 rfl) ?_
      refine va_get (D := (dC, dI)) (ci := 6) (v := .ref (q 21)) (C := RX6) (T := TX6) (N := 6) hx hb hts inX6 hown hK hP 0 rfl rfl 3 (by decide) (hts _ fl_X6_35) (fun _ h9 => h9) rfl dX6_sumOfFacts_8 ?_
      refine xc_i (va_runV (As := []) (rest := [.int (nI i)]) ⟨hx, hb, hml, hown, hts⟩ (c_X1_size l dC dI cI cJ q σ ) (cwV 0 hts (gV ml_X6_155 im_X1_size se_X1_size in_X1 co_X1_size) rfl rfl rfl (by decide +kernel) ⟨Nat.le_of_ble_eq_true rfl, Nat.le_of_ble_eq_true rfl⟩) (preV hK hP (pos := 21) (ci := 1) rfl rfl) rfl rfl hl.1 rfl (lv_room (Nat.le_of_ble_eq_true rfl)) dX6_sumOfFacts_11 ⟨Nat.zero_le _, Nat.zero_le _⟩) ?_
      refine lv_icmp_ge (tgt := 64) hx hb dX6_sumOfFacts_14 (by decide) (fun c_14 => ?_) (fun c_14 => ?_)
      · exact absurd c_14 (by rw [hz.1]; exact nI_ge (by omega) (by omega))
      · refine lv_aload_n hx hb dX6_sumOfFacts_17 rfl (lv_at hl 0 rfl) ?_
        refine va_get (D := (dC, dI)) (ci := 6) (v := .ref (q 21)) (C := RX6) (T := TX6) (N := 6) hx hb hts inX6 hown hK hP 0 rfl rfl 3 (by decide) (hts _ fl_X6_35) (fun _ h9 => h9) rfl dX6_sumOfFacts_18 ?_
        refine lv_iload hx hb dX6_sumOfFacts_21 (lv_at hl 3 rfl) ?_
        refine lv_iload_n hx hb dX6_sumOfFacts_23 rfl (lv_at hl 1 rfl) ?_
        refine xc_i (va_runV (As := [.int (nI i), .int p1]) (rest := []) ⟨hx, hb, hml, hown, hts⟩ (c_X1_isKnown l dC dI cI cJ q σ (nI i) p1 (by assumption)) (cwV 2 hts (gV ml_X6_145 im_X1_isKnown se_X1_isKnown in_X1 co_X1_isKnown) rfl rfl rfl (by decide +kernel) ⟨Nat.le_of_ble_eq_true rfl, Nat.le_of_ble_eq_true rfl⟩) (preV hK hP (pos := 21) (ci := 1) rfl rfl) rfl rfl hl.1 rfl (lv_room (Nat.le_of_ble_eq_true rfl)) dX6_sumOfFacts_24 ⟨Nat.zero_le _, Nat.zero_le _⟩) ?_
        refine lv_if_eq (tgt := 58) hx hb dX6_sumOfFacts_27 (by decide) (fun c_27 => ?_) (fun c_27 => ?_)
        · refine lv_iinc (v := nI (i + 1)) (lv' := [(5, .int (nI (i + 1))), (0, .ref (q 0)), (1, .int p1), (2, .int p2), (3, .long tot)]) hx hb dX6_sumOfFacts_58 hl (k := 3) rfl (nI_1 i) (by decide) rfl (fun ls hl => ?_)
          refine lv_goto (tgt := 5) hx hb dX6_sumOfFacts_61 (by decide) ?_
          exact ih (i + 1) tot (by omega) (by rw [hE, flX6_sumOfFacts_5, if_pos c_27]) ls (lv_sub hl [1, 2, 3, 0, 4] rfl)
        · refine lv_iload_n hx hb dX6_sumOfFacts_30 rfl (lv_at hl 2 rfl) ?_
          refine lv_if_eq (tgt := 45) hx hb dX6_sumOfFacts_31 (by decide) (fun c_31 => ?_) (fun c_31 => ?_)
          · refine lv_lload_n hx hb dX6_sumOfFacts_45 rfl (lv_at hl 4 rfl) ?_
            refine lv_aload_n hx hb dX6_sumOfFacts_46 rfl (lv_at hl 0 rfl) ?_
            refine va_get (D := (dC, dI)) (ci := 6) (v := .ref (q 21)) (C := RX6) (T := TX6) (N := 6) hx hb hts inX6 hown hK hP 0 rfl rfl 3 (by decide) (hts _ fl_X6_35) (fun _ h9 => h9) rfl dX6_sumOfFacts_47 ?_
            refine lv_iload hx hb dX6_sumOfFacts_50 (lv_at hl 3 rfl) ?_
            refine xc_i (va_runV (As := [.int (nI i)]) (rest := [.long tot]) ⟨hx, hb, hml, hown, hts⟩ (c_X1_amountOf l dC dI cI cJ q σ (nI i) (vp_in_nI (by omega) (by decide))) (cwV 1 hts (gV ml_X6_161 im_X1_amountOf se_X1_amountOf in_X1 co_X1_amountOf) rfl rfl rfl (by decide +kernel) ⟨Nat.le_of_ble_eq_true rfl, Nat.le_of_ble_eq_true rfl⟩) (preV hK hP (pos := 21) (ci := 1) rfl rfl) rfl rfl hl.1 rfl (lv_room (Nat.le_of_ble_eq_true rfl)) dX6_sumOfFacts_52 ⟨Nat.zero_le _, Nat.zero_le _⟩) ?_
            refine lv_i2l (v := (σ.1 17 ((nI i).toNatClampNeg)).toInt64) hx hb dX6_sumOfFacts_55 rfl ?_
            refine lv_ladd hx hb dX6_sumOfFacts_56 ?_
            refine lv_lstore_n (lv' := [(3, .long (tot + ((σ.1 17 ((nI i).toNatClampNeg)).toInt64))), (0, .ref (q 0)), (1, .int p1), (2, .int p2), (5, .int (nI i))]) hx hb dX6_sumOfFacts_57 rfl hl (by decide) rfl (fun ls hl => ?_)
            refine lv_iinc (v := nI (i + 1)) (lv' := [(5, .int (nI (i + 1))), (3, .long (tot + ((σ.1 17 ((nI i).toNatClampNeg)).toInt64))), (0, .ref (q 0)), (1, .int p1), (2, .int p2)]) hx hb dX6_sumOfFacts_58 hl (k := 4) rfl (nI_1 i) (by decide) rfl (fun ls hl => ?_)
            refine lv_goto (tgt := 5) hx hb dX6_sumOfFacts_61 (by decide) ?_
            exact ih (i + 1) (tot + ((σ.1 17 ((nI i).toNatClampNeg)).toInt64)) (by omega) (by rw [hE, flX6_sumOfFacts_5, if_neg c_27, if_pos c_31]) ls (lv_sub hl [2, 3, 4, 0, 1] rfl)
          · refine lv_aload_n hx hb dX6_sumOfFacts_34 rfl (lv_at hl 0 rfl) ?_
            refine lv_iload hx hb dX6_sumOfFacts_35 (lv_at hl 3 rfl) ?_
            refine lv_iload_n hx hb dX6_sumOfFacts_37 rfl (lv_at hl 1 rfl) ?_
            refine xc_i (va_runV (As := [.int (nI i), .int p1]) (rest := []) ⟨hx, hb, hml, hown, hts⟩ (c_X6_thingOfFact l dC dI cI cJ q σ (nI i) p1 (by assumption) (vp_in_nI (by omega) (by decide))) (cwV 2 hts (gV ml_X6_146 im_X6_thingOfFact se_X6_thingOfFact in_X6 co_X6_thingOfFact) rfl rfl rfl (by decide +kernel) ⟨Nat.le_of_ble_eq_true rfl, Nat.le_of_ble_eq_true rfl⟩) (preV hK hP (pos := 0) (ci := 6) rfl rfl) rfl rfl hl.1 rfl (lv_room (Nat.le_of_ble_eq_true rfl)) dX6_sumOfFacts_38 ⟨Nat.zero_le _, Nat.zero_le _⟩) ?_
            refine lv_iconst (v := (-1)) hx hb dX6_sumOfFacts_41 (by decide) ?_
            refine lv_icmp_ne (tgt := 58) hx hb dX6_sumOfFacts_42 (by decide) (fun c_42 => ?_) (fun c_42 => ?_)
            · refine lv_iinc (v := nI (i + 1)) (lv' := [(5, .int (nI (i + 1))), (0, .ref (q 0)), (1, .int p1), (2, .int p2), (3, .long tot)]) hx hb dX6_sumOfFacts_58 hl (k := 3) rfl (nI_1 i) (by decide) rfl (fun ls hl => ?_)
              refine lv_goto (tgt := 5) hx hb dX6_sumOfFacts_61 (by decide) ?_
              exact ih (i + 1) tot (by omega) (by rw [hE, flX6_sumOfFacts_5, if_neg c_27, if_neg c_31, if_neg c_42]) ls (lv_sub hl [1, 2, 3, 0, 4] rfl)
            · refine lv_lload_n hx hb dX6_sumOfFacts_45 rfl (lv_at hl 4 rfl) ?_
              refine lv_aload_n hx hb dX6_sumOfFacts_46 rfl (lv_at hl 0 rfl) ?_
              refine va_get (D := (dC, dI)) (ci := 6) (v := .ref (q 21)) (C := RX6) (T := TX6) (N := 6) hx hb hts inX6 hown hK hP 0 rfl rfl 3 (by decide) (hts _ fl_X6_35) (fun _ h9 => h9) rfl dX6_sumOfFacts_47 ?_
              refine lv_iload hx hb dX6_sumOfFacts_50 (lv_at hl 3 rfl) ?_
              refine xc_i (va_runV (As := [.int (nI i)]) (rest := [.long tot]) ⟨hx, hb, hml, hown, hts⟩ (c_X1_amountOf l dC dI cI cJ q σ (nI i) (vp_in_nI (by omega) (by decide))) (cwV 1 hts (gV ml_X6_161 im_X1_amountOf se_X1_amountOf in_X1 co_X1_amountOf) rfl rfl rfl (by decide +kernel) ⟨Nat.le_of_ble_eq_true rfl, Nat.le_of_ble_eq_true rfl⟩) (preV hK hP (pos := 21) (ci := 1) rfl rfl) rfl rfl hl.1 rfl (lv_room (Nat.le_of_ble_eq_true rfl)) dX6_sumOfFacts_52 ⟨Nat.zero_le _, Nat.zero_le _⟩) ?_
              refine lv_i2l (v := (σ.1 17 ((nI i).toNatClampNeg)).toInt64) hx hb dX6_sumOfFacts_55 rfl ?_
              refine lv_ladd hx hb dX6_sumOfFacts_56 ?_
              refine lv_lstore_n (lv' := [(3, .long (tot + ((σ.1 17 ((nI i).toNatClampNeg)).toInt64))), (0, .ref (q 0)), (1, .int p1), (2, .int p2), (5, .int (nI i))]) hx hb dX6_sumOfFacts_57 rfl hl (by decide) rfl (fun ls hl => ?_)
              refine lv_iinc (v := nI (i + 1)) (lv' := [(5, .int (nI (i + 1))), (3, .long (tot + ((σ.1 17 ((nI i).toNatClampNeg)).toInt64))), (0, .ref (q 0)), (1, .int p1), (2, .int p2)]) hx hb dX6_sumOfFacts_58 hl (k := 4) rfl (nI_1 i) (by decide) rfl (fun ls hl => ?_)
              refine lv_goto (tgt := 5) hx hb dX6_sumOfFacts_61 (by decide) ?_
              exact ih (i + 1) (tot + ((σ.1 17 ((nI i).toNatClampNeg)).toInt64)) (by omega) (by rw [hE, flX6_sumOfFacts_5, if_neg c_27, if_neg c_31, if_pos c_42]) ls (lv_sub hl [2, 3, 4, 0, 1] rfl)
  exact loop_5 ((σ.2.1 2).toNatClampNeg) 0 0 (by rw [Nat.zero_add]) (by rw [fX6_sumOfFacts]) ls (lv_sub hl [2, 3, 4, 0, 1] rfl)

def flX6_countLiving_6 (σ : St) (p1 : Int32) (p2 : Int32) (p3 : Int32) (p4 : Int32) (p5 : Int32) : Nat → Nat → Int32 → Int32
  | 0, i, n => n
  | k + 1, i, n => (if (fX5_livesOn σ (nI i) p1 p5) = p2 then (if (fX5_livesOn σ (nI i) p3 p5) = p4 then flX6_countLiving_6 σ p1 p2 p3 p4 p5 k (i + 1) (n + 1) else flX6_countLiving_6 σ p1 p2 p3 p4 p5 k (i + 1) n) else flX6_countLiving_6 σ p1 p2 p3 p4 p5 k (i + 1) n)
def fX6_countLiving (σ : St) (p1 : Int32) (p2 : Int32) (p3 : Int32) (p4 : Int32) (p5 : Int32) : Int32 :=
  flX6_countLiving_6 σ p1 p2 p3 p4 p5 ((σ.2.1 1).toNatClampNeg) 0 0
set_option maxHeartbeats 4000000 in
set_option maxRecDepth 100000 in
theorem c_X6_countLiving (l : Launch) (dC : Nat → ClassId) (dI : Nat → Nat → Nat) (cI cJ : ClassId) (q : Nat → Nat) (σ : St) (p1 : Int32) (p2 : Int32) (p3 : Int32) (p4 : Int32) (p5 : Int32) (hI : IB σ) : Met l yX6_countLiving (.code yX6_countLiving cX6_countLiving 8 (some .int) :: tb) { frames := 3, cells := 0, slots := 0, locals := 67 } (Pu (dC, dI) (tyC cI cJ) (wT cI cJ q σ) [.ref (q 0), .int p1, .int p2, .int p3, .int p4, .int p5]) (vp_Si (fun r => r = fX6_countLiving σ p1 p2 p3 p4 p5)) 0 0 (fun _ => False) := by
  refine Met.ofW (cc := cX6_countLiving) (maxL := 8) (ret := (some .int)) (by decide) rfl ?_
  intro p e s m args below meth c s₁ B hml hv
  obtain ⟨rfl, hP, hK⟩ := hv
  have hx := B.exec
  have hb := B.bytes
  have hr := B.returns
  have hts0 := atoms_spec (ws := .code yX6_countLiving cX6_countLiving 8 (some .int) :: tb) B.pre
  have hts : ∀ w ∈ tb, w.before _ s = true := fun w hw => hts0 w (List.mem_cons_of_mem _ hw)
  have hown : s.vm.findClass RX6 = some m.cls := findClass_of_methodNamed B.named
  have hlocks := B.notSynchronized
  have hl := lv_entry ([.ref (q 0), .int p1, .int p2, .int p3, .int p4, .int p5]) (n := 8) (Nat.le_of_ble_eq_true rfl)
  rw [lg_entry_eq]
  generalize (lg_sl ([.ref (q 0), .int p1, .int p2, .int p3, .int p4, .int p5]) ++ List.replicate (8 - (lg_sl ([.ref (q 0), .int p1, .int p2, .int p3, .int p4, .int p5])).length) Slot.unset).toArray = ls at hl ⊢
  have hl : lv_has ls 8 [(0, .ref (q 0)), (1, .int p1), (2, .int p2), (3, .int p3), (4, .int p4), (5, .int p5)] := hl
  refine lv_iconst (v := 0) hx hb dX6_countLiving_0 (by decide) ?_
  refine lv_istore (lv' := [(6, .int 0), (0, .ref (q 0)), (1, .int p1), (2, .int p2), (3, .int p3), (4, .int p4), (5, .int p5)]) hx hb dX6_countLiving_1 hl (by decide) rfl (fun ls hl => ?_)
  refine lv_iconst (v := 0) hx hb dX6_countLiving_3 (by decide) ?_
  refine lv_istore (lv' := [(7, .int 0), (6, .int 0), (0, .ref (q 0)), (1, .int p1), (2, .int p2), (3, .int p3), (4, .int p4), (5, .int p5)]) hx hb dX6_countLiving_4 hl (by decide) rfl (fun ls hl => ?_)
  have hz : szI (σ.2.1 1) 40 := hI.1
  have hz2 := hz.2
  have loop_6 : ∀ (k i : Nat) (n : Int32), i + k = (σ.2.1 1).toNatClampNeg → fX6_countLiving σ p1 p2 p3 p4 p5 = flX6_countLiving_6 σ p1 p2 p3 p4 p5 k i n → ∀ (ls : Array Slot), lv_has ls 8 [(0, .ref (q 0)), (1, .int p1), (2, .int p2), (3, .int p3), (4, .int p4), (5, .int p5), (7, .int (nI i)), (6, .int n)] → W p l e (headSpec (.code yX6_countLiving cX6_countLiving 8 (some .int) :: tb) { frames := 3, cells := 0, slots := 0, locals := 67 }).room s m (List.toArray [.ref (q 0), .int p1, .int p2, .int p3, .int p4, .int p5]) below meth c s.heap [] 0 0 (MQ below (vp_Si (fun r => r = fX6_countLiving σ p1 p2 p3 p4 p5)) (List.toArray [.ref (q 0), .int p1, .int p2, .int p3, .int p4, .int p5]) s 0 0 (fun _ => False)) (F0 m 6 ls []) := by
    intro k
    induction k with
    | zero =>
      intro i n hik hE ls hl
      refine lv_iload hx hb dX6_countLiving_6 (lv_at hl 6 rfl) ?_
      refine lv_aload_n hx hb dX6_countLiving_8 rfl (lv_at hl 0 rfl) ?_
      refine va_get (D := (dC, dI)) (ci := 6) (v := .ref (q 3)) (C := RX6) (T := TX6) (N := 6) hx hb hts inX6 hown hK hP 0 rfl rfl 1 (by decide) (hts _ fl_X6_19) (fun _ h9 => h9) rfl dX6_countLiving_9 ?_
      refine xc_i (va_runV (As := []) (rest := [.int (nI i)]) ⟨hx, hb, hml, hown, hts⟩ (c_X5_size l dC dI cI cJ q σ ) (cwV 0 hts (gV ml_X6_167 im_X5_size se_X5_size in_X5 co_X5_size) rfl rfl rfl (by decide +kernel) ⟨Nat.le_of_ble_eq_true rfl, Nat.le_of_ble_eq_true rfl⟩) (preV hK hP (pos := 3) (ci := 5) rfl rfl) rfl rfl hl.1 rfl (lv_room (Nat.le_of_ble_eq_true rfl)) dX6_countLiving_12 ⟨Nat.zero_le _, Nat.zero_le _⟩) ?_
      refine lv_icmp_ge (tgt := 60) hx hb dX6_countLiving_15 (by decide) (fun c_15 => ?_) (fun c_15 => ?_)
      · refine lv_iload hx hb dX6_countLiving_60 (lv_at hl 7 rfl) ?_
        exact W.iret (v := n) hx hb hr (fun t ht hW => ⟨_, rfl, (by rw [hE, flX6_countLiving_6]), ht⟩) (fun _ h => absurd h List.not_mem_nil) dX6_countLiving_62
      · exact absurd (by rw [hz.1]; exact nI_le (by omega) (by omega)) c_15
    | succ k ih =>
      intro i n hik hE ls hl
      refine lv_iload hx hb dX6_countLiving_6 (lv_at hl 6 rfl) ?_
      refine lv_aload_n hx hb dX6_countLiving_8 rfl (lv_at hl 0 rfl) ?_
      refine va_get (D := (dC, dI)) (ci := 6) (v := .ref (q 3)) (C := RX6) (T := TX6) (N := 6) hx hb hts inX6 hown hK hP 0 rfl rfl 1 (by decide) (hts _ fl_X6_19) (fun _ h9 => h9) rfl dX6_countLiving_9 ?_
      refine xc_i (va_runV (As := []) (rest := [.int (nI i)]) ⟨hx, hb, hml, hown, hts⟩ (c_X5_size l dC dI cI cJ q σ ) (cwV 0 hts (gV ml_X6_167 im_X5_size se_X5_size in_X5 co_X5_size) rfl rfl rfl (by decide +kernel) ⟨Nat.le_of_ble_eq_true rfl, Nat.le_of_ble_eq_true rfl⟩) (preV hK hP (pos := 3) (ci := 5) rfl rfl) rfl rfl hl.1 rfl (lv_room (Nat.le_of_ble_eq_true rfl)) dX6_countLiving_12 ⟨Nat.zero_le _, Nat.zero_le _⟩) ?_
      refine lv_icmp_ge (tgt := 60) hx hb dX6_countLiving_15 (by decide) (fun c_15 => ?_) (fun c_15 => ?_)
      · exact absurd c_15 (by rw [hz.1]; exact nI_ge (by omega) (by omega))
      · refine lv_aload_n hx hb dX6_countLiving_18 rfl (lv_at hl 0 rfl) ?_
        refine va_get (D := (dC, dI)) (ci := 6) (v := .ref (q 3)) (C := RX6) (T := TX6) (N := 6) hx hb hts inX6 hown hK hP 0 rfl rfl 1 (by decide) (hts _ fl_X6_19) (fun _ h9 => h9) rfl dX6_countLiving_19 ?_
        refine lv_iload hx hb dX6_countLiving_22 (lv_at hl 6 rfl) ?_
        refine lv_iload_n hx hb dX6_countLiving_24 rfl (lv_at hl 1 rfl) ?_
        refine lv_iload hx hb dX6_countLiving_25 (lv_at hl 5 rfl) ?_
        refine xc_i (va_runV (As := [.int (nI i), .int p1, .int p5]) (rest := []) ⟨hx, hb, hml, hown, hts⟩ (c_X5_livesOn l dC dI cI cJ q σ (nI i) p1 p5 (by assumption)) (cwV 3 hts (gV ml_X6_206 im_X5_livesOn se_X5_livesOn in_X5 co_X5_livesOn) rfl rfl rfl (by decide +kernel) ⟨Nat.le_of_ble_eq_true rfl, Nat.le_of_ble_eq_true rfl⟩) (preV hK hP (pos := 3) (ci := 5) rfl rfl) rfl rfl hl.1 rfl (lv_room (Nat.le_of_ble_eq_true rfl)) dX6_countLiving_27 ⟨Nat.zero_le _, Nat.zero_le _⟩) ?_
        refine lv_iload_n hx hb dX6_countLiving_30 rfl (lv_at hl 2 rfl) ?_
        refine lv_icmp_ne (tgt := 54) hx hb dX6_countLiving_31 (by decide) (fun c_31 => ?_) (fun c_31 => ?_)
        · refine lv_iinc (v := nI (i + 1)) (lv' := [(7, .int (nI (i + 1))), (0, .ref (q 0)), (1, .int p1), (2, .int p2), (3, .int p3), (4, .int p4), (5, .int p5), (6, .int n)]) hx hb dX6_countLiving_54 hl (k := 6) rfl (nI_1 i) (by decide) rfl (fun ls hl => ?_)
          refine lv_goto (tgt := 6) hx hb dX6_countLiving_57 (by decide) ?_
          exact ih (i + 1) n (by omega) (by rw [hE, flX6_countLiving_6, if_neg c_31]) ls (lv_sub hl [1, 2, 3, 4, 5, 6, 0, 7] rfl)
        · refine lv_aload_n hx hb dX6_countLiving_34 rfl (lv_at hl 0 rfl) ?_
          refine va_get (D := (dC, dI)) (ci := 6) (v := .ref (q 3)) (C := RX6) (T := TX6) (N := 6) hx hb hts inX6 hown hK hP 0 rfl rfl 1 (by decide) (hts _ fl_X6_19) (fun _ h9 => h9) rfl dX6_countLiving_35 ?_
          refine lv_iload hx hb dX6_countLiving_38 (lv_at hl 6 rfl) ?_
          refine lv_iload_n hx hb dX6_countLiving_40 rfl (lv_at hl 3 rfl) ?_
          refine lv_iload hx hb dX6_countLiving_41 (lv_at hl 5 rfl) ?_
          refine xc_i (va_runV (As := [.int (nI i), .int p3, .int p5]) (rest := []) ⟨hx, hb, hml, hown, hts⟩ (c_X5_livesOn l dC dI cI cJ q σ (nI i) p3 p5 (by assumption)) (cwV 3 hts (gV ml_X6_206 im_X5_livesOn se_X5_livesOn in_X5 co_X5_livesOn) rfl rfl rfl (by decide +kernel) ⟨Nat.le_of_ble_eq_true rfl, Nat.le_of_ble_eq_true rfl⟩) (preV hK hP (pos := 3) (ci := 5) rfl rfl) rfl rfl hl.1 rfl (lv_room (Nat.le_of_ble_eq_true rfl)) dX6_countLiving_43 ⟨Nat.zero_le _, Nat.zero_le _⟩) ?_
          refine lv_iload hx hb dX6_countLiving_46 (lv_at hl 4 rfl) ?_
          refine lv_icmp_ne (tgt := 54) hx hb dX6_countLiving_48 (by decide) (fun c_48 => ?_) (fun c_48 => ?_)
          · refine lv_iinc (v := nI (i + 1)) (lv' := [(7, .int (nI (i + 1))), (0, .ref (q 0)), (1, .int p1), (2, .int p2), (3, .int p3), (4, .int p4), (5, .int p5), (6, .int n)]) hx hb dX6_countLiving_54 hl (k := 6) rfl (nI_1 i) (by decide) rfl (fun ls hl => ?_)
            refine lv_goto (tgt := 6) hx hb dX6_countLiving_57 (by decide) ?_
            exact ih (i + 1) n (by omega) (by rw [hE, flX6_countLiving_6, if_pos c_31, if_neg c_48]) ls (lv_sub hl [1, 2, 3, 4, 5, 6, 0, 7] rfl)
          · refine lv_iinc (v := n + 1) (lv' := [(6, .int (n + 1)), (0, .ref (q 0)), (1, .int p1), (2, .int p2), (3, .int p3), (4, .int p4), (5, .int p5), (7, .int (nI i))]) hx hb dX6_countLiving_51 hl (k := 7) rfl rfl (by decide) rfl (fun ls hl => ?_)
            refine lv_iinc (v := nI (i + 1)) (lv' := [(7, .int (nI (i + 1))), (6, .int (n + 1)), (0, .ref (q 0)), (1, .int p1), (2, .int p2), (3, .int p3), (4, .int p4), (5, .int p5)]) hx hb dX6_countLiving_54 hl (k := 7) rfl (nI_1 i) (by decide) rfl (fun ls hl => ?_)
            refine lv_goto (tgt := 6) hx hb dX6_countLiving_57 (by decide) ?_
            exact ih (i + 1) (n + 1) (by omega) (by rw [hE, flX6_countLiving_6, if_pos c_31, if_pos c_48]) ls (lv_sub hl [2, 3, 4, 5, 6, 7, 0, 1] rfl)
  exact loop_6 ((σ.2.1 1).toNatClampNeg) 0 0 (by rw [Nat.zero_add]) (by rw [fX6_countLiving]) ls (lv_sub hl [2, 3, 4, 5, 6, 7, 0, 1] rfl)

def flX6_countMoved_6 (σ : St) (p1 : Int32) (p2 : Int32) (p3 : Int32) (p4 : Int32) : Nat → Nat → Int32 → Int32
  | 0, i, n => n
  | k + 1, i, n => (if (fX5_livesOn σ (nI i) p2 p4) = 0 then flX6_countMoved_6 σ p1 p2 p3 p4 k (i + 1) n else (if (fX5_livesOn σ (nI i) p3 p4) = 0 then flX6_countMoved_6 σ p1 p2 p3 p4 k (i + 1) n else (if (fX4_valueOn σ (nI i) p1 p2 p4) = (fX4_valueOn σ (nI i) p1 p3 p4) then flX6_countMoved_6 σ p1 p2 p3 p4 k (i + 1) n else flX6_countMoved_6 σ p1 p2 p3 p4 k (i + 1) (n + 1))))
def fX6_countMoved (σ : St) (p1 : Int32) (p2 : Int32) (p3 : Int32) (p4 : Int32) : Int32 :=
  flX6_countMoved_6 σ p1 p2 p3 p4 ((σ.2.1 1).toNatClampNeg) 0 0
set_option maxHeartbeats 4000000 in
set_option maxRecDepth 100000 in
theorem c_X6_countMoved (l : Launch) (dC : Nat → ClassId) (dI : Nat → Nat → Nat) (cI cJ : ClassId) (q : Nat → Nat) (σ : St) (p1 : Int32) (p2 : Int32) (p3 : Int32) (p4 : Int32) (hI : IB σ) : Met l yX6_countMoved (.code yX6_countMoved cX6_countMoved 7 (some .int) :: tb) { frames := 3, cells := 0, slots := 0, locals := 70 } (Pu (dC, dI) (tyC cI cJ) (wT cI cJ q σ) [.ref (q 0), .int p1, .int p2, .int p3, .int p4]) (vp_Si (fun r => r = fX6_countMoved σ p1 p2 p3 p4)) 0 0 (fun _ => False) := by
  refine Met.ofW (cc := cX6_countMoved) (maxL := 7) (ret := (some .int)) (by decide) rfl ?_
  intro p e s m args below meth c s₁ B hml hv
  obtain ⟨rfl, hP, hK⟩ := hv
  have hx := B.exec
  have hb := B.bytes
  have hr := B.returns
  have hts0 := atoms_spec (ws := .code yX6_countMoved cX6_countMoved 7 (some .int) :: tb) B.pre
  have hts : ∀ w ∈ tb, w.before _ s = true := fun w hw => hts0 w (List.mem_cons_of_mem _ hw)
  have hown : s.vm.findClass RX6 = some m.cls := findClass_of_methodNamed B.named
  have hlocks := B.notSynchronized
  have hl := lv_entry ([.ref (q 0), .int p1, .int p2, .int p3, .int p4]) (n := 7) (Nat.le_of_ble_eq_true rfl)
  rw [lg_entry_eq]
  generalize (lg_sl ([.ref (q 0), .int p1, .int p2, .int p3, .int p4]) ++ List.replicate (7 - (lg_sl ([.ref (q 0), .int p1, .int p2, .int p3, .int p4])).length) Slot.unset).toArray = ls at hl ⊢
  have hl : lv_has ls 7 [(0, .ref (q 0)), (1, .int p1), (2, .int p2), (3, .int p3), (4, .int p4)] := hl
  refine lv_iconst (v := 0) hx hb dX6_countMoved_0 (by decide) ?_
  refine lv_istore (lv' := [(5, .int 0), (0, .ref (q 0)), (1, .int p1), (2, .int p2), (3, .int p3), (4, .int p4)]) hx hb dX6_countMoved_1 hl (by decide) rfl (fun ls hl => ?_)
  refine lv_iconst (v := 0) hx hb dX6_countMoved_3 (by decide) ?_
  refine lv_istore (lv' := [(6, .int 0), (5, .int 0), (0, .ref (q 0)), (1, .int p1), (2, .int p2), (3, .int p3), (4, .int p4)]) hx hb dX6_countMoved_4 hl (by decide) rfl (fun ls hl => ?_)
  have hz : szI (σ.2.1 1) 40 := hI.1
  have hz2 := hz.2
  have loop_6 : ∀ (k i : Nat) (n : Int32), i + k = (σ.2.1 1).toNatClampNeg → fX6_countMoved σ p1 p2 p3 p4 = flX6_countMoved_6 σ p1 p2 p3 p4 k i n → ∀ (ls : Array Slot), lv_has ls 7 [(0, .ref (q 0)), (1, .int p1), (2, .int p2), (3, .int p3), (4, .int p4), (6, .int (nI i)), (5, .int n)] → W p l e (headSpec (.code yX6_countMoved cX6_countMoved 7 (some .int) :: tb) { frames := 3, cells := 0, slots := 0, locals := 70 }).room s m (List.toArray [.ref (q 0), .int p1, .int p2, .int p3, .int p4]) below meth c s.heap [] 0 0 (MQ below (vp_Si (fun r => r = fX6_countMoved σ p1 p2 p3 p4)) (List.toArray [.ref (q 0), .int p1, .int p2, .int p3, .int p4]) s 0 0 (fun _ => False)) (F0 m 6 ls []) := by
    intro k
    induction k with
    | zero =>
      intro i n hik hE ls hl
      refine lv_iload hx hb dX6_countMoved_6 (lv_at hl 5 rfl) ?_
      refine lv_aload_n hx hb dX6_countMoved_8 rfl (lv_at hl 0 rfl) ?_
      refine va_get (D := (dC, dI)) (ci := 6) (v := .ref (q 3)) (C := RX6) (T := TX6) (N := 6) hx hb hts inX6 hown hK hP 0 rfl rfl 1 (by decide) (hts _ fl_X6_19) (fun _ h9 => h9) rfl dX6_countMoved_9 ?_
      refine xc_i (va_runV (As := []) (rest := [.int (nI i)]) ⟨hx, hb, hml, hown, hts⟩ (c_X5_size l dC dI cI cJ q σ ) (cwV 0 hts (gV ml_X6_167 im_X5_size se_X5_size in_X5 co_X5_size) rfl rfl rfl (by decide +kernel) ⟨Nat.le_of_ble_eq_true rfl, Nat.le_of_ble_eq_true rfl⟩) (preV hK hP (pos := 3) (ci := 5) rfl rfl) rfl rfl hl.1 rfl (lv_room (Nat.le_of_ble_eq_true rfl)) dX6_countMoved_12 ⟨Nat.zero_le _, Nat.zero_le _⟩) ?_
      refine lv_icmp_ge (tgt := 86) hx hb dX6_countMoved_15 (by decide) (fun c_15 => ?_) (fun c_15 => ?_)
      · refine lv_iload hx hb dX6_countMoved_86 (lv_at hl 6 rfl) ?_
        exact W.iret (v := n) hx hb hr (fun t ht hW => ⟨_, rfl, (by rw [hE, flX6_countMoved_6]), ht⟩) (fun _ h => absurd h List.not_mem_nil) dX6_countMoved_88
      · exact absurd (by rw [hz.1]; exact nI_le (by omega) (by omega)) c_15
    | succ k ih =>
      intro i n hik hE ls hl
      refine lv_iload hx hb dX6_countMoved_6 (lv_at hl 5 rfl) ?_
      refine lv_aload_n hx hb dX6_countMoved_8 rfl (lv_at hl 0 rfl) ?_
      refine va_get (D := (dC, dI)) (ci := 6) (v := .ref (q 3)) (C := RX6) (T := TX6) (N := 6) hx hb hts inX6 hown hK hP 0 rfl rfl 1 (by decide) (hts _ fl_X6_19) (fun _ h9 => h9) rfl dX6_countMoved_9 ?_
      refine xc_i (va_runV (As := []) (rest := [.int (nI i)]) ⟨hx, hb, hml, hown, hts⟩ (c_X5_size l dC dI cI cJ q σ ) (cwV 0 hts (gV ml_X6_167 im_X5_size se_X5_size in_X5 co_X5_size) rfl rfl rfl (by decide +kernel) ⟨Nat.le_of_ble_eq_true rfl, Nat.le_of_ble_eq_true rfl⟩) (preV hK hP (pos := 3) (ci := 5) rfl rfl) rfl rfl hl.1 rfl (lv_room (Nat.le_of_ble_eq_true rfl)) dX6_countMoved_12 ⟨Nat.zero_le _, Nat.zero_le _⟩) ?_
      refine lv_icmp_ge (tgt := 86) hx hb dX6_countMoved_15 (by decide) (fun c_15 => ?_) (fun c_15 => ?_)
      · exact absurd c_15 (by rw [hz.1]; exact nI_ge (by omega) (by omega))
      · refine lv_aload_n hx hb dX6_countMoved_18 rfl (lv_at hl 0 rfl) ?_
        refine va_get (D := (dC, dI)) (ci := 6) (v := .ref (q 3)) (C := RX6) (T := TX6) (N := 6) hx hb hts inX6 hown hK hP 0 rfl rfl 1 (by decide) (hts _ fl_X6_19) (fun _ h9 => h9) rfl dX6_countMoved_19 ?_
        refine lv_iload hx hb dX6_countMoved_22 (lv_at hl 5 rfl) ?_
        refine lv_iload_n hx hb dX6_countMoved_24 rfl (lv_at hl 2 rfl) ?_
        refine lv_iload hx hb dX6_countMoved_25 (lv_at hl 4 rfl) ?_
        refine xc_i (va_runV (As := [.int (nI i), .int p2, .int p4]) (rest := []) ⟨hx, hb, hml, hown, hts⟩ (c_X5_livesOn l dC dI cI cJ q σ (nI i) p2 p4 (by assumption)) (cwV 3 hts (gV ml_X6_206 im_X5_livesOn se_X5_livesOn in_X5 co_X5_livesOn) rfl rfl rfl (by decide +kernel) ⟨Nat.le_of_ble_eq_true rfl, Nat.le_of_ble_eq_true rfl⟩) (preV hK hP (pos := 3) (ci := 5) rfl rfl) rfl rfl hl.1 rfl (lv_room (Nat.le_of_ble_eq_true rfl)) dX6_countMoved_27 ⟨Nat.zero_le _, Nat.zero_le _⟩) ?_
        refine lv_if_eq (tgt := 80) hx hb dX6_countMoved_30 (by decide) (fun c_30 => ?_) (fun c_30 => ?_)
        · refine lv_iinc (v := nI (i + 1)) (lv' := [(6, .int (nI (i + 1))), (0, .ref (q 0)), (1, .int p1), (2, .int p2), (3, .int p3), (4, .int p4), (5, .int n)]) hx hb dX6_countMoved_80 hl (k := 5) rfl (nI_1 i) (by decide) rfl (fun ls hl => ?_)
          refine lv_goto (tgt := 6) hx hb dX6_countMoved_83 (by decide) ?_
          exact ih (i + 1) n (by omega) (by rw [hE, flX6_countMoved_6, if_pos c_30]) ls (lv_sub hl [1, 2, 3, 4, 5, 0, 6] rfl)
        · refine lv_aload_n hx hb dX6_countMoved_33 rfl (lv_at hl 0 rfl) ?_
          refine va_get (D := (dC, dI)) (ci := 6) (v := .ref (q 3)) (C := RX6) (T := TX6) (N := 6) hx hb hts inX6 hown hK hP 0 rfl rfl 1 (by decide) (hts _ fl_X6_19) (fun _ h9 => h9) rfl dX6_countMoved_34 ?_
          refine lv_iload hx hb dX6_countMoved_37 (lv_at hl 5 rfl) ?_
          refine lv_iload_n hx hb dX6_countMoved_39 rfl (lv_at hl 3 rfl) ?_
          refine lv_iload hx hb dX6_countMoved_40 (lv_at hl 4 rfl) ?_
          refine xc_i (va_runV (As := [.int (nI i), .int p3, .int p4]) (rest := []) ⟨hx, hb, hml, hown, hts⟩ (c_X5_livesOn l dC dI cI cJ q σ (nI i) p3 p4 (by assumption)) (cwV 3 hts (gV ml_X6_206 im_X5_livesOn se_X5_livesOn in_X5 co_X5_livesOn) rfl rfl rfl (by decide +kernel) ⟨Nat.le_of_ble_eq_true rfl, Nat.le_of_ble_eq_true rfl⟩) (preV hK hP (pos := 3) (ci := 5) rfl rfl) rfl rfl hl.1 rfl (lv_room (Nat.le_of_ble_eq_true rfl)) dX6_countMoved_42 ⟨Nat.zero_le _, Nat.zero_le _⟩) ?_
          refine lv_if_eq (tgt := 80) hx hb dX6_countMoved_45 (by decide) (fun c_45 => ?_) (fun c_45 => ?_)
          · refine lv_iinc (v := nI (i + 1)) (lv' := [(6, .int (nI (i + 1))), (0, .ref (q 0)), (1, .int p1), (2, .int p2), (3, .int p3), (4, .int p4), (5, .int n)]) hx hb dX6_countMoved_80 hl (k := 5) rfl (nI_1 i) (by decide) rfl (fun ls hl => ?_)
            refine lv_goto (tgt := 6) hx hb dX6_countMoved_83 (by decide) ?_
            exact ih (i + 1) n (by omega) (by rw [hE, flX6_countMoved_6, if_neg c_30, if_pos c_45]) ls (lv_sub hl [1, 2, 3, 4, 5, 0, 6] rfl)
          · refine lv_aload_n hx hb dX6_countMoved_48 rfl (lv_at hl 0 rfl) ?_
            refine va_get (D := (dC, dI)) (ci := 6) (v := .ref (q 13)) (C := RX6) (T := TX6) (N := 6) hx hb hts inX6 hown hK hP 0 rfl rfl 2 (by decide) (hts _ fl_X6_28) (fun _ h9 => h9) rfl dX6_countMoved_49 ?_
            refine lv_iload hx hb dX6_countMoved_52 (lv_at hl 5 rfl) ?_
            refine lv_iload_n hx hb dX6_countMoved_54 rfl (lv_at hl 1 rfl) ?_
            refine lv_iload_n hx hb dX6_countMoved_55 rfl (lv_at hl 2 rfl) ?_
            refine lv_iload hx hb dX6_countMoved_56 (lv_at hl 4 rfl) ?_
            refine xc_i (va_runV (As := [.int (nI i), .int p1, .int p2, .int p4]) (rest := []) ⟨hx, hb, hml, hown, hts⟩ (c_X4_valueOn l dC dI cI cJ q σ (nI i) p1 p2 p4 (by assumption)) (cwV 4 hts (gV ml_X6_123 im_X4_valueOn se_X4_valueOn in_X4 co_X4_valueOn) rfl rfl rfl (by decide +kernel) ⟨Nat.le_of_ble_eq_true rfl, Nat.le_of_ble_eq_true rfl⟩) (preV hK hP (pos := 13) (ci := 4) rfl rfl) rfl rfl hl.1 rfl (lv_room (Nat.le_of_ble_eq_true rfl)) dX6_countMoved_58 ⟨Nat.zero_le _, Nat.zero_le _⟩) ?_
            refine lv_aload_n hx hb dX6_countMoved_61 rfl (lv_at hl 0 rfl) ?_
            refine va_get (D := (dC, dI)) (ci := 6) (v := .ref (q 13)) (C := RX6) (T := TX6) (N := 6) hx hb hts inX6 hown hK hP 0 rfl rfl 2 (by decide) (hts _ fl_X6_28) (fun _ h9 => h9) rfl dX6_countMoved_62 ?_
            refine lv_iload hx hb dX6_countMoved_65 (lv_at hl 5 rfl) ?_
            refine lv_iload_n hx hb dX6_countMoved_67 rfl (lv_at hl 1 rfl) ?_
            refine lv_iload_n hx hb dX6_countMoved_68 rfl (lv_at hl 3 rfl) ?_
            refine lv_iload hx hb dX6_countMoved_69 (lv_at hl 4 rfl) ?_
            refine xc_i (va_runV (As := [.int (nI i), .int p1, .int p3, .int p4]) (rest := [.int (fX4_valueOn σ (nI i) p1 p2 p4)]) ⟨hx, hb, hml, hown, hts⟩ (c_X4_valueOn l dC dI cI cJ q σ (nI i) p1 p3 p4 (by assumption)) (cwV 4 hts (gV ml_X6_123 im_X4_valueOn se_X4_valueOn in_X4 co_X4_valueOn) rfl rfl rfl (by decide +kernel) ⟨Nat.le_of_ble_eq_true rfl, Nat.le_of_ble_eq_true rfl⟩) (preV hK hP (pos := 13) (ci := 4) rfl rfl) rfl rfl hl.1 rfl (lv_room (Nat.le_of_ble_eq_true rfl)) dX6_countMoved_71 ⟨Nat.zero_le _, Nat.zero_le _⟩) ?_
            refine lv_icmp_eq (tgt := 80) hx hb dX6_countMoved_74 (by decide) (fun c_74 => ?_) (fun c_74 => ?_)
            · refine lv_iinc (v := nI (i + 1)) (lv' := [(6, .int (nI (i + 1))), (0, .ref (q 0)), (1, .int p1), (2, .int p2), (3, .int p3), (4, .int p4), (5, .int n)]) hx hb dX6_countMoved_80 hl (k := 5) rfl (nI_1 i) (by decide) rfl (fun ls hl => ?_)
              refine lv_goto (tgt := 6) hx hb dX6_countMoved_83 (by decide) ?_
              exact ih (i + 1) n (by omega) (by rw [hE, flX6_countMoved_6, if_neg c_30, if_neg c_45, if_pos c_74]) ls (lv_sub hl [1, 2, 3, 4, 5, 0, 6] rfl)
            · refine lv_iinc (v := n + 1) (lv' := [(5, .int (n + 1)), (0, .ref (q 0)), (1, .int p1), (2, .int p2), (3, .int p3), (4, .int p4), (6, .int (nI i))]) hx hb dX6_countMoved_77 hl (k := 6) rfl rfl (by decide) rfl (fun ls hl => ?_)
              refine lv_iinc (v := nI (i + 1)) (lv' := [(6, .int (nI (i + 1))), (5, .int (n + 1)), (0, .ref (q 0)), (1, .int p1), (2, .int p2), (3, .int p3), (4, .int p4)]) hx hb dX6_countMoved_80 hl (k := 6) rfl (nI_1 i) (by decide) rfl (fun ls hl => ?_)
              refine lv_goto (tgt := 6) hx hb dX6_countMoved_83 (by decide) ?_
              exact ih (i + 1) (n + 1) (by omega) (by rw [hE, flX6_countMoved_6, if_neg c_30, if_neg c_45, if_neg c_74]) ls (lv_sub hl [2, 3, 4, 5, 6, 0, 1] rfl)
  exact loop_6 ((σ.2.1 1).toNatClampNeg) 0 0 (by rw [Nat.zero_add]) (by rw [fX6_countMoved]) ls (lv_sub hl [2, 3, 4, 5, 6, 0, 1] rfl)

def fX6_compare (σ : St) (p1 : Int32) (p2 : Int32) (p3 : Int32) (p4 : Int32) (p5 : Int32) : Int32 :=
  (if (fX6_isMark σ p1) = 0 then (-1) else (if (fX6_isDay σ p2) = 0 then (-1) else (if (fX6_isDay σ p3) = 0 then (-1) else (if (fX6_isDay σ p4) = 0 then (-1) else (if p5 = 0 then fX6_countLiving σ p2 1 p3 1 p4 else (if p5 = 1 then fX6_countLiving σ p2 0 p3 1 p4 else (if p5 = 2 then fX6_countLiving σ p2 1 p3 0 p4 else (if p5 = 3 then fX6_countMoved σ p1 p2 p3 p4 else (-1)))))))))
set_option maxHeartbeats 4000000 in
set_option maxRecDepth 100000 in
theorem c_X6_compare (l : Launch) (dC : Nat → ClassId) (dI : Nat → Nat → Nat) (cI cJ : ClassId) (q : Nat → Nat) (σ : St) (p1 : Int32) (p2 : Int32) (p3 : Int32) (p4 : Int32) (p5 : Int32) (hI : IB σ) : Met l yX6_compare (.code yX6_compare cX6_compare 6 (some .int) :: tb) { frames := 4, cells := 0, slots := 0, locals := 96 } (Pu (dC, dI) (tyC cI cJ) (wT cI cJ q σ) [.ref (q 0), .int p1, .int p2, .int p3, .int p4, .int p5]) (vp_Si (fun r => r = fX6_compare σ p1 p2 p3 p4 p5)) 0 0 (fun _ => False) := by
  refine Met.ofW (cc := cX6_compare) (maxL := 6) (ret := (some .int)) (by decide) rfl ?_
  intro p e s m args below meth c s₁ B hml hv
  obtain ⟨rfl, hP, hK⟩ := hv
  have hx := B.exec
  have hb := B.bytes
  have hr := B.returns
  have hts0 := atoms_spec (ws := .code yX6_compare cX6_compare 6 (some .int) :: tb) B.pre
  have hts : ∀ w ∈ tb, w.before _ s = true := fun w hw => hts0 w (List.mem_cons_of_mem _ hw)
  have hown : s.vm.findClass RX6 = some m.cls := findClass_of_methodNamed B.named
  have hlocks := B.notSynchronized
  have hl := lv_entry ([.ref (q 0), .int p1, .int p2, .int p3, .int p4, .int p5]) (n := 6) (Nat.le_of_ble_eq_true rfl)
  rw [lg_entry_eq]
  generalize (lg_sl ([.ref (q 0), .int p1, .int p2, .int p3, .int p4, .int p5]) ++ List.replicate (6 - (lg_sl ([.ref (q 0), .int p1, .int p2, .int p3, .int p4, .int p5])).length) Slot.unset).toArray = ls at hl ⊢
  have hl : lv_has ls 6 [(0, .ref (q 0)), (1, .int p1), (2, .int p2), (3, .int p3), (4, .int p4), (5, .int p5)] := hl
  refine lv_iload_n hx hb dX6_compare_0 rfl (lv_at hl 1 rfl) ?_
  refine xc_i (va_runS (As := [.int p1]) (rest := []) ⟨hx, hb, hml, hown, hts⟩ (c_X6_isMark l dC dI cI cJ q σ p1) (va_cwS 1 hts (gS ml_X6_89 st_X6_isMark in_X6 co_X6_isMark) rfl rfl rfl (by decide +kernel) ⟨Nat.le_of_ble_eq_true rfl, Nat.le_of_ble_eq_true rfl⟩) (preS hK hP) rfl rfl hl.1 rfl (lv_room (Nat.le_of_ble_eq_true rfl)) dX6_compare_1 ⟨Nat.zero_le _, Nat.zero_le _⟩) ?_
  refine lv_if_eq (tgt := 29) hx hb dX6_compare_4 (by decide) (fun c_4 => ?_) (fun c_4 => ?_)
  · refine lv_iconst (v := (-1)) hx hb dX6_compare_29 (by decide) ?_
    exact W.iret (v := (-1)) hx hb hr (fun t ht hW => ⟨_, rfl, (by rw [fX6_compare, if_pos c_4]), ht⟩) (fun _ h => absurd h List.not_mem_nil) dX6_compare_30
  · refine lv_iload_n hx hb dX6_compare_7 rfl (lv_at hl 2 rfl) ?_
    refine xc_i (va_runS (As := [.int p2]) (rest := []) ⟨hx, hb, hml, hown, hts⟩ (c_X6_isDay l dC dI cI cJ q σ p2) (va_cwS 1 hts (gS ml_X6_56 st_X6_isDay in_X6 co_X6_isDay) rfl rfl rfl (by decide +kernel) ⟨Nat.le_of_ble_eq_true rfl, Nat.le_of_ble_eq_true rfl⟩) (preS hK hP) rfl rfl hl.1 rfl (lv_room (Nat.le_of_ble_eq_true rfl)) dX6_compare_8 ⟨Nat.zero_le _, Nat.zero_le _⟩) ?_
    refine lv_if_eq (tgt := 29) hx hb dX6_compare_11 (by decide) (fun c_11 => ?_) (fun c_11 => ?_)
    · refine lv_iconst (v := (-1)) hx hb dX6_compare_29 (by decide) ?_
      exact W.iret (v := (-1)) hx hb hr (fun t ht hW => ⟨_, rfl, (by rw [fX6_compare, if_neg c_4, if_pos c_11]), ht⟩) (fun _ h => absurd h List.not_mem_nil) dX6_compare_30
    · refine lv_iload_n hx hb dX6_compare_14 rfl (lv_at hl 3 rfl) ?_
      refine xc_i (va_runS (As := [.int p3]) (rest := []) ⟨hx, hb, hml, hown, hts⟩ (c_X6_isDay l dC dI cI cJ q σ p3) (va_cwS 1 hts (gS ml_X6_56 st_X6_isDay in_X6 co_X6_isDay) rfl rfl rfl (by decide +kernel) ⟨Nat.le_of_ble_eq_true rfl, Nat.le_of_ble_eq_true rfl⟩) (preS hK hP) rfl rfl hl.1 rfl (lv_room (Nat.le_of_ble_eq_true rfl)) dX6_compare_15 ⟨Nat.zero_le _, Nat.zero_le _⟩) ?_
      refine lv_if_eq (tgt := 29) hx hb dX6_compare_18 (by decide) (fun c_18 => ?_) (fun c_18 => ?_)
      · refine lv_iconst (v := (-1)) hx hb dX6_compare_29 (by decide) ?_
        exact W.iret (v := (-1)) hx hb hr (fun t ht hW => ⟨_, rfl, (by rw [fX6_compare, if_neg c_4, if_neg c_11, if_pos c_18]), ht⟩) (fun _ h => absurd h List.not_mem_nil) dX6_compare_30
      · refine lv_iload hx hb dX6_compare_21 (lv_at hl 4 rfl) ?_
        refine xc_i (va_runS (As := [.int p4]) (rest := []) ⟨hx, hb, hml, hown, hts⟩ (c_X6_isDay l dC dI cI cJ q σ p4) (va_cwS 1 hts (gS ml_X6_56 st_X6_isDay in_X6 co_X6_isDay) rfl rfl rfl (by decide +kernel) ⟨Nat.le_of_ble_eq_true rfl, Nat.le_of_ble_eq_true rfl⟩) (preS hK hP) rfl rfl hl.1 rfl (lv_room (Nat.le_of_ble_eq_true rfl)) dX6_compare_23 ⟨Nat.zero_le _, Nat.zero_le _⟩) ?_
        refine lv_if_ne (tgt := 31) hx hb dX6_compare_26 (by decide) (fun c_26 => ?_) (fun c_26 => ?_)
        · refine lv_iload hx hb dX6_compare_31 (lv_at hl 5 rfl) ?_
          by_cases c_33_0 : p5 = 0
          · refine xs_in (tgt := 64) hx hb 0 c_33_0 dX6_compare_33 (by decide) (by decide) rfl (by decide) ?_
            refine lv_aload_n hx hb dX6_compare_64 rfl (lv_at hl 0 rfl) ?_
            refine lv_iload_n hx hb dX6_compare_65 rfl (lv_at hl 2 rfl) ?_
            refine lv_iconst (v := 1) hx hb dX6_compare_66 (by decide) ?_
            refine lv_iload_n hx hb dX6_compare_67 rfl (lv_at hl 3 rfl) ?_
            refine lv_iconst (v := 1) hx hb dX6_compare_68 (by decide) ?_
            refine lv_iload hx hb dX6_compare_69 (lv_at hl 4 rfl) ?_
            refine xc_i (va_runV (As := [.int p2, .int 1, .int p3, .int 1, .int p4]) (rest := []) ⟨hx, hb, hml, hown, hts⟩ (c_X6_countLiving l dC dI cI cJ q σ p2 1 p3 1 p4 (by assumption)) (cwV 5 hts (gV ml_X6_180 im_X6_countLiving se_X6_countLiving in_X6 co_X6_countLiving) rfl rfl rfl (by decide +kernel) ⟨Nat.le_of_ble_eq_true rfl, Nat.le_of_ble_eq_true rfl⟩) (preV hK hP (pos := 0) (ci := 6) rfl rfl) rfl rfl hl.1 rfl (lv_room (Nat.le_of_ble_eq_true rfl)) dX6_compare_71 ⟨Nat.zero_le _, Nat.zero_le _⟩) ?_
            exact W.iret (v := fX6_countLiving σ p2 1 p3 1 p4) hx hb hr (fun t ht hW => ⟨_, rfl, (by rw [fX6_compare, if_neg c_4, if_neg c_11, if_neg c_18, if_neg c_26, if_pos c_33_0]), ht⟩) (fun _ h => absurd h List.not_mem_nil) dX6_compare_74
          by_cases c_33_1 : p5 = 1
          · refine xs_in (tgt := 75) hx hb 1 c_33_1 dX6_compare_33 (by decide) (by decide) rfl (by decide) ?_
            refine lv_aload_n hx hb dX6_compare_75 rfl (lv_at hl 0 rfl) ?_
            refine lv_iload_n hx hb dX6_compare_76 rfl (lv_at hl 2 rfl) ?_
            refine lv_iconst (v := 0) hx hb dX6_compare_77 (by decide) ?_
            refine lv_iload_n hx hb dX6_compare_78 rfl (lv_at hl 3 rfl) ?_
            refine lv_iconst (v := 1) hx hb dX6_compare_79 (by decide) ?_
            refine lv_iload hx hb dX6_compare_80 (lv_at hl 4 rfl) ?_
            refine xc_i (va_runV (As := [.int p2, .int 0, .int p3, .int 1, .int p4]) (rest := []) ⟨hx, hb, hml, hown, hts⟩ (c_X6_countLiving l dC dI cI cJ q σ p2 0 p3 1 p4 (by assumption)) (cwV 5 hts (gV ml_X6_180 im_X6_countLiving se_X6_countLiving in_X6 co_X6_countLiving) rfl rfl rfl (by decide +kernel) ⟨Nat.le_of_ble_eq_true rfl, Nat.le_of_ble_eq_true rfl⟩) (preV hK hP (pos := 0) (ci := 6) rfl rfl) rfl rfl hl.1 rfl (lv_room (Nat.le_of_ble_eq_true rfl)) dX6_compare_82 ⟨Nat.zero_le _, Nat.zero_le _⟩) ?_
            exact W.iret (v := fX6_countLiving σ p2 0 p3 1 p4) hx hb hr (fun t ht hW => ⟨_, rfl, (by rw [fX6_compare, if_neg c_4, if_neg c_11, if_neg c_18, if_neg c_26, if_neg c_33_0, if_pos c_33_1]), ht⟩) (fun _ h => absurd h List.not_mem_nil) dX6_compare_85
          by_cases c_33_2 : p5 = 2
          · refine xs_in (tgt := 86) hx hb 2 c_33_2 dX6_compare_33 (by decide) (by decide) rfl (by decide) ?_
            refine lv_aload_n hx hb dX6_compare_86 rfl (lv_at hl 0 rfl) ?_
            refine lv_iload_n hx hb dX6_compare_87 rfl (lv_at hl 2 rfl) ?_
            refine lv_iconst (v := 1) hx hb dX6_compare_88 (by decide) ?_
            refine lv_iload_n hx hb dX6_compare_89 rfl (lv_at hl 3 rfl) ?_
            refine lv_iconst (v := 0) hx hb dX6_compare_90 (by decide) ?_
            refine lv_iload hx hb dX6_compare_91 (lv_at hl 4 rfl) ?_
            refine xc_i (va_runV (As := [.int p2, .int 1, .int p3, .int 0, .int p4]) (rest := []) ⟨hx, hb, hml, hown, hts⟩ (c_X6_countLiving l dC dI cI cJ q σ p2 1 p3 0 p4 (by assumption)) (cwV 5 hts (gV ml_X6_180 im_X6_countLiving se_X6_countLiving in_X6 co_X6_countLiving) rfl rfl rfl (by decide +kernel) ⟨Nat.le_of_ble_eq_true rfl, Nat.le_of_ble_eq_true rfl⟩) (preV hK hP (pos := 0) (ci := 6) rfl rfl) rfl rfl hl.1 rfl (lv_room (Nat.le_of_ble_eq_true rfl)) dX6_compare_93 ⟨Nat.zero_le _, Nat.zero_le _⟩) ?_
            exact W.iret (v := fX6_countLiving σ p2 1 p3 0 p4) hx hb hr (fun t ht hW => ⟨_, rfl, (by rw [fX6_compare, if_neg c_4, if_neg c_11, if_neg c_18, if_neg c_26, if_neg c_33_0, if_neg c_33_1, if_pos c_33_2]), ht⟩) (fun _ h => absurd h List.not_mem_nil) dX6_compare_96
          by_cases c_33_3 : p5 = 3
          · refine xs_in (tgt := 97) hx hb 3 c_33_3 dX6_compare_33 (by decide) (by decide) rfl (by decide) ?_
            refine lv_aload_n hx hb dX6_compare_97 rfl (lv_at hl 0 rfl) ?_
            refine lv_iload_n hx hb dX6_compare_98 rfl (lv_at hl 1 rfl) ?_
            refine lv_iload_n hx hb dX6_compare_99 rfl (lv_at hl 2 rfl) ?_
            refine lv_iload_n hx hb dX6_compare_100 rfl (lv_at hl 3 rfl) ?_
            refine lv_iload hx hb dX6_compare_101 (lv_at hl 4 rfl) ?_
            refine xc_i (va_runV (As := [.int p1, .int p2, .int p3, .int p4]) (rest := []) ⟨hx, hb, hml, hown, hts⟩ (c_X6_countMoved l dC dI cI cJ q σ p1 p2 p3 p4 (by assumption)) (cwV 4 hts (gV ml_X6_184 im_X6_countMoved se_X6_countMoved in_X6 co_X6_countMoved) rfl rfl rfl (by decide +kernel) ⟨Nat.le_of_ble_eq_true rfl, Nat.le_of_ble_eq_true rfl⟩) (preV hK hP (pos := 0) (ci := 6) rfl rfl) rfl rfl hl.1 rfl (lv_room (Nat.le_of_ble_eq_true rfl)) dX6_compare_103 ⟨Nat.zero_le _, Nat.zero_le _⟩) ?_
            exact W.iret (v := fX6_countMoved σ p1 p2 p3 p4) hx hb hr (fun t ht hW => ⟨_, rfl, (by rw [fX6_compare, if_neg c_4, if_neg c_11, if_neg c_18, if_neg c_26, if_neg c_33_0, if_neg c_33_1, if_neg c_33_2, if_pos c_33_3]), ht⟩) (fun _ h => absurd h List.not_mem_nil) dX6_compare_106
          refine lv_tableOut (tgt := 107) hx hb dX6_compare_33 (xs_out (n := 4) (by decide) (fun k hk => by
              match k, hk with
              | 0, _ => exact c_33_0
              | 1, _ => exact c_33_1
              | 2, _ => exact c_33_2
              | 3, _ => exact c_33_3
              | k + 4, h => exact absurd h (by omega))) (by decide) ?_
          refine lv_iconst (v := (-1)) hx hb dX6_compare_107 (by decide) ?_
          exact W.iret (v := (-1)) hx hb hr (fun t ht hW => ⟨_, rfl, (by rw [fX6_compare, if_neg c_4, if_neg c_11, if_neg c_18, if_neg c_26, if_neg c_33_0, if_neg c_33_1, if_neg c_33_2, if_neg c_33_3]), ht⟩) (fun _ h => absurd h List.not_mem_nil) dX6_compare_108
        · refine lv_iconst (v := (-1)) hx hb dX6_compare_29 (by decide) ?_
          exact W.iret (v := (-1)) hx hb hr (fun t ht hW => ⟨_, rfl, (by rw [fX6_compare, if_neg c_4, if_neg c_11, if_neg c_18, if_pos c_26]), ht⟩) (fun _ h => absurd h List.not_mem_nil) dX6_compare_30

def fX6_count (σ : St) (p1 : Int32) : Int32 :=
  (if p1 = 0 then σ.2.1 0 else (if p1 = 1 then σ.2.1 1 else (if p1 = 2 then σ.2.1 2 else (if p1 = 3 then σ.2.1 3 else (if p1 = 4 then (σ.2.1 4) - 1 else (if p1 = 5 then σ.2.1 5 else (-1)))))))
set_option maxHeartbeats 4000000 in
set_option maxRecDepth 100000 in
theorem c_X6_count (l : Launch) (dC : Nat → ClassId) (dI : Nat → Nat → Nat) (cI cJ : ClassId) (q : Nat → Nat) (σ : St) (p1 : Int32) : Met l yX6_count (.code yX6_count cX6_count 2 (some .int) :: tb) { frames := 2, cells := 0, slots := 0, locals := 40 } (Pu (dC, dI) (tyC cI cJ) (wT cI cJ q σ) [.ref (q 0), .int p1]) (vp_Si (fun r => r = fX6_count σ p1)) 0 0 (fun _ => False) := by
  refine Met.ofW (cc := cX6_count) (maxL := 2) (ret := (some .int)) (by decide) rfl ?_
  intro p e s m args below meth c s₁ B hml hv
  obtain ⟨rfl, hP, hK⟩ := hv
  have hx := B.exec
  have hb := B.bytes
  have hr := B.returns
  have hts0 := atoms_spec (ws := .code yX6_count cX6_count 2 (some .int) :: tb) B.pre
  have hts : ∀ w ∈ tb, w.before _ s = true := fun w hw => hts0 w (List.mem_cons_of_mem _ hw)
  have hown : s.vm.findClass RX6 = some m.cls := findClass_of_methodNamed B.named
  have hlocks := B.notSynchronized
  have hl := lv_entry ([.ref (q 0), .int p1]) (n := 2) (Nat.le_of_ble_eq_true rfl)
  rw [lg_entry_eq]
  generalize (lg_sl ([.ref (q 0), .int p1]) ++ List.replicate (2 - (lg_sl ([.ref (q 0), .int p1])).length) Slot.unset).toArray = ls at hl ⊢
  have hl : lv_has ls 2 [(0, .ref (q 0)), (1, .int p1)] := hl
  refine lv_iload_n hx hb dX6_count_0 rfl (lv_at hl 1 rfl) ?_
  by_cases c_1_0 : p1 = 0
  · refine xs_in (tgt := 40) hx hb 0 c_1_0 dX6_count_1 (by decide) (by decide) rfl (by decide) ?_
    refine lv_aload_n hx hb dX6_count_40 rfl (lv_at hl 0 rfl) ?_
    refine va_get (D := (dC, dI)) (ci := 6) (v := .int (σ.2.1 0)) (C := RX6) (T := TX6) (N := 6) hx hb hts inX6 hown hK hP 0 rfl rfl 5 (by decide) (hts _ fl_X6_48) (fun _ h9 => h9) rfl dX6_count_41 ?_
    exact W.iret (v := σ.2.1 0) hx hb hr (fun t ht hW => ⟨_, rfl, (by rw [fX6_count, if_pos c_1_0]), ht⟩) (fun _ h => absurd h List.not_mem_nil) dX6_count_44
  by_cases c_1_1 : p1 = 1
  · refine xs_in (tgt := 45) hx hb 1 c_1_1 dX6_count_1 (by decide) (by decide) rfl (by decide) ?_
    refine lv_aload_n hx hb dX6_count_45 rfl (lv_at hl 0 rfl) ?_
    refine va_get (D := (dC, dI)) (ci := 6) (v := .ref (q 3)) (C := RX6) (T := TX6) (N := 6) hx hb hts inX6 hown hK hP 0 rfl rfl 1 (by decide) (hts _ fl_X6_19) (fun _ h9 => h9) rfl dX6_count_46 ?_
    refine xc_i (va_runV (As := []) (rest := []) ⟨hx, hb, hml, hown, hts⟩ (c_X5_size l dC dI cI cJ q σ ) (cwV 0 hts (gV ml_X6_167 im_X5_size se_X5_size in_X5 co_X5_size) rfl rfl rfl (by decide +kernel) ⟨Nat.le_of_ble_eq_true rfl, Nat.le_of_ble_eq_true rfl⟩) (preV hK hP (pos := 3) (ci := 5) rfl rfl) rfl rfl hl.1 rfl (lv_room (Nat.le_of_ble_eq_true rfl)) dX6_count_49 ⟨Nat.zero_le _, Nat.zero_le _⟩) ?_
    exact W.iret (v := σ.2.1 1) hx hb hr (fun t ht hW => ⟨_, rfl, (by rw [fX6_count, if_neg c_1_0, if_pos c_1_1]), ht⟩) (fun _ h => absurd h List.not_mem_nil) dX6_count_52
  by_cases c_1_2 : p1 = 2
  · refine xs_in (tgt := 53) hx hb 2 c_1_2 dX6_count_1 (by decide) (by decide) rfl (by decide) ?_
    refine lv_aload_n hx hb dX6_count_53 rfl (lv_at hl 0 rfl) ?_
    refine va_get (D := (dC, dI)) (ci := 6) (v := .ref (q 21)) (C := RX6) (T := TX6) (N := 6) hx hb hts inX6 hown hK hP 0 rfl rfl 3 (by decide) (hts _ fl_X6_35) (fun _ h9 => h9) rfl dX6_count_54 ?_
    refine xc_i (va_runV (As := []) (rest := []) ⟨hx, hb, hml, hown, hts⟩ (c_X1_size l dC dI cI cJ q σ ) (cwV 0 hts (gV ml_X6_155 im_X1_size se_X1_size in_X1 co_X1_size) rfl rfl rfl (by decide +kernel) ⟨Nat.le_of_ble_eq_true rfl, Nat.le_of_ble_eq_true rfl⟩) (preV hK hP (pos := 21) (ci := 1) rfl rfl) rfl rfl hl.1 rfl (lv_room (Nat.le_of_ble_eq_true rfl)) dX6_count_57 ⟨Nat.zero_le _, Nat.zero_le _⟩) ?_
    exact W.iret (v := σ.2.1 2) hx hb hr (fun t ht hW => ⟨_, rfl, (by rw [fX6_count, if_neg c_1_0, if_neg c_1_1, if_pos c_1_2]), ht⟩) (fun _ h => absurd h List.not_mem_nil) dX6_count_60
  by_cases c_1_3 : p1 = 3
  · refine xs_in (tgt := 61) hx hb 3 c_1_3 dX6_count_1 (by decide) (by decide) rfl (by decide) ?_
    refine lv_aload_n hx hb dX6_count_61 rfl (lv_at hl 0 rfl) ?_
    refine va_get (D := (dC, dI)) (ci := 6) (v := .ref (q 13)) (C := RX6) (T := TX6) (N := 6) hx hb hts inX6 hown hK hP 0 rfl rfl 2 (by decide) (hts _ fl_X6_28) (fun _ h9 => h9) rfl dX6_count_62 ?_
    refine xc_i (va_runV (As := []) (rest := []) ⟨hx, hb, hml, hown, hts⟩ (c_X4_size l dC dI cI cJ q σ ) (cwV 0 hts (gV ml_X6_187 im_X4_size se_X4_size in_X4 co_X4_size) rfl rfl rfl (by decide +kernel) ⟨Nat.le_of_ble_eq_true rfl, Nat.le_of_ble_eq_true rfl⟩) (preV hK hP (pos := 13) (ci := 4) rfl rfl) rfl rfl hl.1 rfl (lv_room (Nat.le_of_ble_eq_true rfl)) dX6_count_65 ⟨Nat.zero_le _, Nat.zero_le _⟩) ?_
    exact W.iret (v := σ.2.1 3) hx hb hr (fun t ht hW => ⟨_, rfl, (by rw [fX6_count, if_neg c_1_0, if_neg c_1_1, if_neg c_1_2, if_pos c_1_3]), ht⟩) (fun _ h => absurd h List.not_mem_nil) dX6_count_68
  by_cases c_1_4 : p1 = 4
  · refine xs_in (tgt := 69) hx hb 4 c_1_4 dX6_count_1 (by decide) (by decide) rfl (by decide) ?_
    refine lv_aload_n hx hb dX6_count_69 rfl (lv_at hl 0 rfl) ?_
    refine va_get (D := (dC, dI)) (ci := 6) (v := .ref (q 1)) (C := RX6) (T := TX6) (N := 6) hx hb hts inX6 hown hK hP 0 rfl rfl 0 (by decide) (hts _ fl_X6_12) (fun _ h9 => h9) rfl dX6_count_70 ?_
    refine xc_i (va_runV (As := []) (rest := []) ⟨hx, hb, hml, hown, hts⟩ (c_X2_open l dC dI cI cJ q σ ) (cwV 0 hts (gV ml_X6_188 im_X2_open se_X2_open in_X2 co_X2_open) rfl rfl rfl (by decide +kernel) ⟨Nat.le_of_ble_eq_true rfl, Nat.le_of_ble_eq_true rfl⟩) (preV hK hP (pos := 1) (ci := 2) rfl rfl) rfl rfl hl.1 rfl (lv_room (Nat.le_of_ble_eq_true rfl)) dX6_count_73 ⟨Nat.zero_le _, Nat.zero_le _⟩) ?_
    exact W.iret (v := (σ.2.1 4) - 1) hx hb hr (fun t ht hW => ⟨_, rfl, (by rw [fX6_count, if_neg c_1_0, if_neg c_1_1, if_neg c_1_2, if_neg c_1_3, if_pos c_1_4]), ht⟩) (fun _ h => absurd h List.not_mem_nil) dX6_count_76
  by_cases c_1_5 : p1 = 5
  · refine xs_in (tgt := 77) hx hb 5 c_1_5 dX6_count_1 (by decide) (by decide) rfl (by decide) ?_
    refine lv_aload_n hx hb dX6_count_77 rfl (lv_at hl 0 rfl) ?_
    refine va_get (D := (dC, dI)) (ci := 6) (v := .ref (q 1)) (C := RX6) (T := TX6) (N := 6) hx hb hts inX6 hown hK hP 0 rfl rfl 0 (by decide) (hts _ fl_X6_12) (fun _ h9 => h9) rfl dX6_count_78 ?_
    refine xc_i (va_runV (As := []) (rest := []) ⟨hx, hb, hml, hown, hts⟩ (c_X2_undoneCount l dC dI cI cJ q σ ) (cwV 0 hts (gV ml_X6_191 im_X2_undoneCount se_X2_undoneCount in_X2 co_X2_undoneCount) rfl rfl rfl (by decide +kernel) ⟨Nat.le_of_ble_eq_true rfl, Nat.le_of_ble_eq_true rfl⟩) (preV hK hP (pos := 1) (ci := 2) rfl rfl) rfl rfl hl.1 rfl (lv_room (Nat.le_of_ble_eq_true rfl)) dX6_count_81 ⟨Nat.zero_le _, Nat.zero_le _⟩) ?_
    exact W.iret (v := σ.2.1 5) hx hb hr (fun t ht hW => ⟨_, rfl, (by rw [fX6_count, if_neg c_1_0, if_neg c_1_1, if_neg c_1_2, if_neg c_1_3, if_neg c_1_4, if_pos c_1_5]), ht⟩) (fun _ h => absurd h List.not_mem_nil) dX6_count_84
  refine lv_tableOut (tgt := 85) hx hb dX6_count_1 (xs_out (n := 6) (by decide) (fun k hk => by
      match k, hk with
      | 0, _ => exact c_1_0
      | 1, _ => exact c_1_1
      | 2, _ => exact c_1_2
      | 3, _ => exact c_1_3
      | 4, _ => exact c_1_4
      | 5, _ => exact c_1_5
      | k + 6, h => exact absurd h (by omega))) (by decide) ?_
  refine lv_iconst (v := (-1)) hx hb dX6_count_85 (by decide) ?_
  exact W.iret (v := (-1)) hx hb hr (fun t ht hW => ⟨_, rfl, (by rw [fX6_count, if_neg c_1_0, if_neg c_1_1, if_neg c_1_2, if_neg c_1_3, if_neg c_1_4, if_neg c_1_5]), ht⟩) (fun _ h => absurd h List.not_mem_nil) dX6_count_86
end
section
def flX6_carryAll_11 (σ : St) (p1 : Int32) (p2 : Int32) : Nat → Nat → St → St
  | 0, i, σ1 => σ1
  | k + 1, i, σ1 => (if (fX3_isKnown_F σ1 (nI i) p2) = 0 then flX6_carryAll_11 σ p1 p2 k (i + 1) σ1 else flX6_carryAll_11 σ p1 p2 k (i + 1) (fX0_add σ1 (fX5_livingOn σ1 (σ1.1 15 ((nI i).toNatClampNeg)) (σ1.1 16 ((nI i).toNatClampNeg)) p2) (σ1.1 17 ((nI i).toNatClampNeg))))
def fX6_carryAll (σ : St) (p1 : Int32) (p2 : Int32) : St :=
  flX6_carryAll_11 σ p1 p2 (((fX0_start σ p1 p2).2.1 2).toNatClampNeg) 0 (fX0_start σ p1 p2)
set_option maxHeartbeats 4000000 in
set_option maxRecDepth 100000 in
theorem c_X6_carryAll (l : Launch) (dC : Nat → ClassId) (dI : Nat → Nat → Nat) (cI cJ : ClassId) (q : Nat → Nat) (σ : St) (p1 : Int32) (p2 : Int32) (hd : dT 30 q) (hI : IB σ) : Met l yX6_carryAll (.code yX6_carryAll cX6_carryAll 4 none :: tb) { frames := 45, cells := 0, slots := 0, locals := 1196 } (Pu (dC, dI) (tyC cI cJ) (wT cI cJ q σ) [.ref (q 0), .int p1, .int p2]) (xw_Q none (dC, dI) (wT cI cJ q (fX6_carryAll σ p1 p2)) (aT 30 q)) 0 0 (aT 30 q) := by
  refine Met.ofW (cc := cX6_carryAll) (maxL := 4) (ret := none) (by decide) rfl ?_
  intro p e s m args below meth c s₁ B hml hv
  obtain ⟨rfl, hP, hK⟩ := hv
  have hx := B.exec
  have hb := B.bytes
  have hr := B.returns
  have hts0 := atoms_spec (ws := .code yX6_carryAll cX6_carryAll 4 none :: tb) B.pre
  have hts : ∀ w ∈ tb, w.before _ s = true := fun w hw => hts0 w (List.mem_cons_of_mem _ hw)
  have hown : s.vm.findClass RX6 = some m.cls := findClass_of_methodNamed B.named
  have hlocks := B.notSynchronized
  have hl := lv_entry ([.ref (q 0), .int p1, .int p2]) (n := 4) (Nat.le_of_ble_eq_true rfl)
  rw [lg_entry_eq]
  generalize (lg_sl ([.ref (q 0), .int p1, .int p2]) ++ List.replicate (4 - (lg_sl ([.ref (q 0), .int p1, .int p2])).length) Slot.unset).toArray = ls at hl ⊢
  have hl : lv_has ls 4 [(0, .ref (q 0)), (1, .int p1), (2, .int p2)] := hl
  obtain ⟨H, hHe⟩ : ∃ H, s.heap = H := ⟨_, rfl⟩
  rw [hHe] at hP ⊢
  obtain ⟨locs, hLe⟩ : ∃ x : List Loc, ([] : List Loc) = x := ⟨_, rfl⟩
  rw [hLe]
  have hS : va_S (aT 30 q) s.heap H locs := by rw [← hHe, ← hLe]; exact va_S.rf
  refine lv_aload_n hx hb dX6_carryAll_0 rfl (lv_at hl 0 rfl) ?_
  refine va_get (D := (dC, dI)) (ci := 6) (v := .ref (q 28)) (C := RX6) (T := TX6) (N := 6) hx hb hts inX6 hown hK hP 0 rfl rfl 4 (by decide) (hts _ fl_X6_44) (fun _ h9 => h9) rfl dX6_carryAll_1 ?_
  refine lv_iload_n hx hb dX6_carryAll_4 rfl (lv_at hl 1 rfl) ?_
  refine lv_iload_n hx hb dX6_carryAll_5 rfl (lv_at hl 2 rfl) ?_
  refine xw_c (va_runV (As := [.int p1, .int p2]) (rest := []) ⟨hx, hb, hml, hown, hts⟩ (c_X0_start l dC dI cI cJ q σ p1 p2 (by assumption)) (cwV 2 hts (gV ml_X6_201 im_X0_start se_X0_start in_X0 co_X0_start) rfl rfl rfl (by decide +kernel) ⟨Nat.le_of_ble_eq_true rfl, Nat.le_of_ble_eq_true rfl⟩) (preV hK hP (pos := 28) (ci := 0) rfl rfl) rfl rfl hl.1 rfl (lv_room (Nat.le_of_ble_eq_true rfl)) dX6_carryAll_6 ⟨Nat.zero_le _, Nat.zero_le _⟩) hS (fun _ h => h) (fun H locs hP _ _ hS => ?_)
  have hP : va_P (dC, dI) vwCl (wT cI cJ q (fX0_start σ p1 p2)) H := hP
  refine W.eq (g2 := F0 m 9 ls []) rfl ?_
  refine lv_iconst (v := 0) hx hb dX6_carryAll_9 (by decide) ?_
  refine lv_istore_n (lv' := [(3, .int 0), (0, .ref (q 0)), (1, .int p1), (2, .int p2)]) hx hb dX6_carryAll_10 rfl hl (by decide) rfl (fun ls hl => ?_)
  have loop_11 : ∀ (k i : Nat) (σ1 : St) (H : Heap) (locs : List Loc), i + k = (σ1.2.1 2).toNatClampNeg → szI (σ1.2.1 2) 200 → IB σ1 → fX6_carryAll σ p1 p2 = flX6_carryAll_11 σ p1 p2 k i σ1 → ∀ (ls : Array Slot), lv_has ls 4 [(0, .ref (q 0)), (1, .int p1), (2, .int p2), (3, .int (nI i))] → va_P (dC, dI) vwCl (wT cI cJ q σ1) H → va_S (aT 30 q) s.heap H locs → W p l e (headSpec (.code yX6_carryAll cX6_carryAll 4 none :: tb) { frames := 45, cells := 0, slots := 0, locals := 1196 }).room s m (List.toArray [.ref (q 0), .int p1, .int p2]) below meth c H locs 0 0 (MQ below (xw_Q none (dC, dI) (wT cI cJ q (fX6_carryAll σ p1 p2)) (aT 30 q)) (List.toArray [.ref (q 0), .int p1, .int p2]) s 0 0 (aT 30 q)) (F0 m 11 ls []) := by
    intro k
    induction k with
    | zero =>
      intro i σ1 H locs hik hz hv hE ls hl hP hS
      have hz2 := hz.2
      refine lv_iload_n hx hb dX6_carryAll_11 rfl (lv_at hl 3 rfl) ?_
      refine lv_aload_n hx hb dX6_carryAll_12 rfl (lv_at hl 0 rfl) ?_
      refine va_get (D := (dC, dI)) (ci := 6) (v := .ref (q 21)) (C := RX6) (T := TX6) (N := 6) hx hb hts inX6 hown hK hP 0 rfl rfl 3 (by decide) (hts _ fl_X6_35) (fun _ h9 => h9) rfl dX6_carryAll_13 ?_
      refine xc_i (va_runV (As := []) (rest := [.int (nI i)]) ⟨hx, hb, hml, hown, hts⟩ (c_X1_size l dC dI cI cJ q σ1 ) (cwV 0 hts (gV ml_X6_155 im_X1_size se_X1_size in_X1 co_X1_size) rfl rfl rfl (by decide +kernel) ⟨Nat.le_of_ble_eq_true rfl, Nat.le_of_ble_eq_true rfl⟩) (preV hK hP (pos := 21) (ci := 1) rfl rfl) rfl rfl hl.1 rfl (lv_room (Nat.le_of_ble_eq_true rfl)) dX6_carryAll_16 ⟨Nat.zero_le _, Nat.zero_le _⟩) ?_
      refine lv_icmp_ge (tgt := 61) hx hb dX6_carryAll_19 (by decide) (fun c_19 => ?_) (fun c_19 => ?_)
      · have hF : fX6_carryAll σ p1 p2 = σ1 := by rw [hE, flX6_carryAll_11]
        have hP9 : va_P (dC, dI) vwCl (wT cI cJ q (fX6_carryAll σ p1 p2)) H := by rw [hF]; exact hP
        exact W.vret hx hb hr (fun t ht hW => ⟨rfl, by rw [ht]; exact hP9, hS.F ht⟩) hS.2.2 dX6_carryAll_61
      · exact absurd (by rw [hz.1]; exact nI_le (by omega) (by omega)) c_19
    | succ k ih =>
      intro i σ1 H locs hik hz hv hE ls hl hP hS
      have hz2 := hz.2
      refine lv_iload_n hx hb dX6_carryAll_11 rfl (lv_at hl 3 rfl) ?_
      refine lv_aload_n hx hb dX6_carryAll_12 rfl (lv_at hl 0 rfl) ?_
      refine va_get (D := (dC, dI)) (ci := 6) (v := .ref (q 21)) (C := RX6) (T := TX6) (N := 6) hx hb hts inX6 hown hK hP 0 rfl rfl 3 (by decide) (hts _ fl_X6_35) (fun _ h9 => h9) rfl dX6_carryAll_13 ?_
      refine xc_i (va_runV (As := []) (rest := [.int (nI i)]) ⟨hx, hb, hml, hown, hts⟩ (c_X1_size l dC dI cI cJ q σ1 ) (cwV 0 hts (gV ml_X6_155 im_X1_size se_X1_size in_X1 co_X1_size) rfl rfl rfl (by decide +kernel) ⟨Nat.le_of_ble_eq_true rfl, Nat.le_of_ble_eq_true rfl⟩) (preV hK hP (pos := 21) (ci := 1) rfl rfl) rfl rfl hl.1 rfl (lv_room (Nat.le_of_ble_eq_true rfl)) dX6_carryAll_16 ⟨Nat.zero_le _, Nat.zero_le _⟩) ?_
      refine lv_icmp_ge (tgt := 61) hx hb dX6_carryAll_19 (by decide) (fun c_19 => ?_) (fun c_19 => ?_)
      · exact absurd c_19 (by rw [hz.1]; exact nI_ge (by omega) (by omega))
      · refine lv_aload_n hx hb dX6_carryAll_22 rfl (lv_at hl 0 rfl) ?_
        refine va_get (D := (dC, dI)) (ci := 6) (v := .ref (q 21)) (C := RX6) (T := TX6) (N := 6) hx hb hts inX6 hown hK hP 0 rfl rfl 3 (by decide) (hts _ fl_X6_35) (fun _ h9 => h9) rfl dX6_carryAll_23 ?_
        refine lv_iload_n hx hb dX6_carryAll_26 rfl (lv_at hl 3 rfl) ?_
        refine lv_iload_n hx hb dX6_carryAll_27 rfl (lv_at hl 2 rfl) ?_
        refine xc_i (va_runV (As := [.int (nI i), .int p2]) (rest := []) ⟨hx, hb, hml, hown, hts⟩ (c_X1_isKnown l dC dI cI cJ q σ1 (nI i) p2 hv) (cwV 2 hts (gV ml_X6_145 im_X1_isKnown se_X1_isKnown in_X1 co_X1_isKnown) rfl rfl rfl (by decide +kernel) ⟨Nat.le_of_ble_eq_true rfl, Nat.le_of_ble_eq_true rfl⟩) (preV hK hP (pos := 21) (ci := 1) rfl rfl) rfl rfl hl.1 rfl (lv_room (Nat.le_of_ble_eq_true rfl)) dX6_carryAll_28 ⟨Nat.zero_le _, Nat.zero_le _⟩) ?_
        refine lv_if_eq (tgt := 55) hx hb dX6_carryAll_31 (by decide) (fun c_31 => ?_) (fun c_31 => ?_)
        · refine lv_iinc (v := nI (i + 1)) (lv' := [(3, .int (nI (i + 1))), (0, .ref (q 0)), (1, .int p1), (2, .int p2)]) hx hb dX6_carryAll_55 hl (k := 3) rfl (nI_1 i) (by decide) rfl (fun ls hl => ?_)
          refine lv_goto (tgt := 11) hx hb dX6_carryAll_58 (by decide) ?_
          exact ih (i + 1) _ H locs (by first | omega | (rw [cadd_V]; omega)) (by first | exact hz | (rw [cadd_V]; exact hz)) (by first | exact hv | exact cadd_IB hv) (by rw [hE, flX6_carryAll_11, if_pos c_31]) ls (lv_sub hl [1, 2, 3, 0] rfl) hP hS
        · refine lv_aload_n hx hb dX6_carryAll_34 rfl (lv_at hl 0 rfl) ?_
          refine va_get (D := (dC, dI)) (ci := 6) (v := .ref (q 28)) (C := RX6) (T := TX6) (N := 6) hx hb hts inX6 hown hK hP 0 rfl rfl 4 (by decide) (hts _ fl_X6_44) (fun _ h9 => h9) rfl dX6_carryAll_35 ?_
          refine lv_aload_n hx hb dX6_carryAll_38 rfl (lv_at hl 0 rfl) ?_
          refine lv_iload_n hx hb dX6_carryAll_39 rfl (lv_at hl 3 rfl) ?_
          refine lv_iload_n hx hb dX6_carryAll_40 rfl (lv_at hl 2 rfl) ?_
          refine xc_i (va_runV (As := [.int (nI i), .int p2]) (rest := [.ref (q 28)]) ⟨hx, hb, hml, hown, hts⟩ (c_X6_thingOfFact l dC dI cI cJ q σ1 (nI i) p2 hv (vp_in_nI (by omega) (by decide))) (cwV 2 hts (gV ml_X6_146 im_X6_thingOfFact se_X6_thingOfFact in_X6 co_X6_thingOfFact) rfl rfl rfl (by decide +kernel) ⟨Nat.le_of_ble_eq_true rfl, Nat.le_of_ble_eq_true rfl⟩) (preV hK hP (pos := 0) (ci := 6) rfl rfl) rfl rfl hl.1 rfl (lv_room (Nat.le_of_ble_eq_true rfl)) dX6_carryAll_41 ⟨Nat.zero_le _, Nat.zero_le _⟩) ?_
          refine lv_aload_n hx hb dX6_carryAll_44 rfl (lv_at hl 0 rfl) ?_
          refine va_get (D := (dC, dI)) (ci := 6) (v := .ref (q 21)) (C := RX6) (T := TX6) (N := 6) hx hb hts inX6 hown hK hP 0 rfl rfl 3 (by decide) (hts _ fl_X6_35) (fun _ h9 => h9) rfl dX6_carryAll_45 ?_
          refine lv_iload_n hx hb dX6_carryAll_48 rfl (lv_at hl 3 rfl) ?_
          refine xc_i (va_runV (As := [.int (nI i)]) (rest := [.int (fX5_livingOn σ1 (σ1.1 15 ((nI i).toNatClampNeg)) (σ1.1 16 ((nI i).toNatClampNeg)) p2), .ref (q 28)]) ⟨hx, hb, hml, hown, hts⟩ (c_X1_amountOf l dC dI cI cJ q σ1 (nI i) (vp_in_nI (by omega) (by decide))) (cwV 1 hts (gV ml_X6_161 im_X1_amountOf se_X1_amountOf in_X1 co_X1_amountOf) rfl rfl rfl (by decide +kernel) ⟨Nat.le_of_ble_eq_true rfl, Nat.le_of_ble_eq_true rfl⟩) (preV hK hP (pos := 21) (ci := 1) rfl rfl) rfl rfl hl.1 rfl (lv_room (Nat.le_of_ble_eq_true rfl)) dX6_carryAll_49 ⟨Nat.zero_le _, Nat.zero_le _⟩) ?_
          refine xw_c (va_runV (As := [.int (fX5_livingOn σ1 (σ1.1 15 ((nI i).toNatClampNeg)) (σ1.1 16 ((nI i).toNatClampNeg)) p2), .int (σ1.1 17 ((nI i).toNatClampNeg))]) (rest := []) ⟨hx, hb, hml, hown, hts⟩ (c_X0_add l dC dI cI cJ q σ1 (fX5_livingOn σ1 (σ1.1 15 ((nI i).toNatClampNeg)) (σ1.1 16 ((nI i).toNatClampNeg)) p2) (σ1.1 17 ((nI i).toNatClampNeg)) (by assumption) hv) (cwV 2 hts (gV ml_X6_204 im_X0_add se_X0_add in_X0 co_X0_add) rfl rfl rfl (by decide +kernel) ⟨Nat.le_of_ble_eq_true rfl, Nat.le_of_ble_eq_true rfl⟩) (preV hK hP (pos := 28) (ci := 0) rfl rfl) rfl rfl hl.1 rfl (lv_room (Nat.le_of_ble_eq_true rfl)) dX6_carryAll_52 ⟨Nat.zero_le _, Nat.zero_le _⟩) hS (fun _ h => h) (fun H locs hP _ _ hS => ?_)
          have hP : va_P (dC, dI) vwCl (wT cI cJ q (fX0_add σ1 (fX5_livingOn σ1 (σ1.1 15 ((nI i).toNatClampNeg)) (σ1.1 16 ((nI i).toNatClampNeg)) p2) (σ1.1 17 ((nI i).toNatClampNeg)))) H := hP
          refine W.eq (g2 := F0 m 55 ls []) rfl ?_
          refine lv_iinc (v := nI (i + 1)) (lv' := [(3, .int (nI (i + 1))), (0, .ref (q 0)), (1, .int p1), (2, .int p2)]) hx hb dX6_carryAll_55 hl (k := 3) rfl (nI_1 i) (by decide) rfl (fun ls hl => ?_)
          refine lv_goto (tgt := 11) hx hb dX6_carryAll_58 (by decide) ?_
          exact ih (i + 1) _ H locs (by first | omega | (rw [cadd_V]; omega)) (by first | exact hz | (rw [cadd_V]; exact hz)) (by first | exact hv | exact cadd_IB hv) (by rw [hE, flX6_carryAll_11, if_neg c_31]) ls (lv_sub hl [1, 2, 3, 0] rfl) hP hS
  exact loop_11 (((fX0_start σ p1 p2).2.1 2).toNatClampNeg) 0 _ H locs (by rw [Nat.zero_add]) (start_IB hI).2.1 (start_IB hI) (by rw [fX6_carryAll]) ls (lv_sub hl [1, 2, 3, 0] rfl) hP hS

theorem cAl_keep (σ : St) (d k : Int32) : ∀ (n i : Nat) (σ1 : St), (flX6_carryAll_11 σ d k n i σ1).1 = σ1.1 ∧ (flX6_carryAll_11 σ d k n i σ1).2.1 = σ1.2.1 := by
  intro n
  induction n with
  | zero => intro i σ1; exact ⟨rfl, rfl⟩
  | succ n ih =>
    intro i σ1
    rw [flX6_carryAll_11]
    split
    · exact ih _ _
    · exact ⟨(ih _ _).1.trans cadd_A, (ih _ _).2.trans cadd_V⟩
theorem cA_A (σ : St) (d k : Int32) : (fX6_carryAll σ d k).1 = σ.1 := by
  unfold fX6_carryAll
  exact (cAl_keep _ _ _ _ _ _).1.trans (start_keep _ _ _ _ _ _).1
theorem cA_V (σ : St) (d k : Int32) : (fX6_carryAll σ d k).2.1 = va_up (va_up σ.2.1 6 d) 7 k := by
  unfold fX6_carryAll
  exact (cAl_keep _ _ _ _ _ _).2.trans (start_keep _ _ _ _ _ _).2
theorem cA_IB {σ : St} {d k : Int32} (h : IB σ) : IB (fX6_carryAll σ d k) := by
  have e : IB (sV (sV σ 6 d) 7 k) := h
  exact IB_congr (σ := sV (sV σ 6 d) 7 k) (cA_A σ d k) (cA_V σ d k) e

def flX6_by_44 (σ : St) (p1 : Int32) (p2 : Int32) (p3 : Int32) (p4 : Int32) : Nat → Nat → Int64 → Int64 × St
  | 0, i, tot => (tot, (fX6_carryAll σ p3 p4))
  | k + 1, i, tot => (if (fX4_valueOn (fX6_carryAll σ p3 p4) (nI i) p1 p3 p4) = p2 then flX6_by_44 σ p1 p2 p3 p4 k (i + 1) (tot + ((fX6_carryAll σ p3 p4).2.2.1 ((nI i).toNatClampNeg))) else flX6_by_44 σ p1 p2 p3 p4 k (i + 1) tot)
def fX6_by (σ : St) (p1 : Int32) (p2 : Int32) (p3 : Int32) (p4 : Int32) : Int64 × St :=
  (if (fX6_isMark σ p1) = 0 then (0, σ) else (if (fX6_isAnswer σ p2) = 0 then (0, σ) else (if (fX6_isDay σ p3) = 0 then (0, σ) else (if (fX6_isDay σ p4) = 0 then (0, σ) else flX6_by_44 σ p1 p2 p3 p4 (((fX6_carryAll σ p3 p4).2.1 1).toNatClampNeg) 0 0))))
set_option maxHeartbeats 4000000 in
set_option maxRecDepth 100000 in
theorem c_X6_by (l : Launch) (dC : Nat → ClassId) (dI : Nat → Nat → Nat) (cI cJ : ClassId) (q : Nat → Nat) (σ : St) (p1 : Int32) (p2 : Int32) (p3 : Int32) (p4 : Int32) (hd : dT 30 q) (hI : IB σ) : Met l yX6_by (.code yX6_by cX6_by 8 (some .long) :: tb) { frames := 46, cells := 0, slots := 0, locals := 1219 } (Pu (dC, dI) (tyC cI cJ) (wT cI cJ q σ) [.ref (q 0), .int p1, .int p2, .int p3, .int p4]) (xw_Q (some (.long (fX6_by σ p1 p2 p3 p4).1)) (dC, dI) (wT cI cJ q (fX6_by σ p1 p2 p3 p4).2) (aT 30 q)) 0 0 (aT 30 q) := by
  refine Met.ofW (cc := cX6_by) (maxL := 8) (ret := (some .long)) (by decide) rfl ?_
  intro p e s m args below meth c s₁ B hml hv
  obtain ⟨rfl, hP, hK⟩ := hv
  have hx := B.exec
  have hb := B.bytes
  have hr := B.returns
  have hts0 := atoms_spec (ws := .code yX6_by cX6_by 8 (some .long) :: tb) B.pre
  have hts : ∀ w ∈ tb, w.before _ s = true := fun w hw => hts0 w (List.mem_cons_of_mem _ hw)
  have hown : s.vm.findClass RX6 = some m.cls := findClass_of_methodNamed B.named
  have hlocks := B.notSynchronized
  have hl := lv_entry ([.ref (q 0), .int p1, .int p2, .int p3, .int p4]) (n := 8) (Nat.le_of_ble_eq_true rfl)
  rw [lg_entry_eq]
  generalize (lg_sl ([.ref (q 0), .int p1, .int p2, .int p3, .int p4]) ++ List.replicate (8 - (lg_sl ([.ref (q 0), .int p1, .int p2, .int p3, .int p4])).length) Slot.unset).toArray = ls at hl ⊢
  have hl : lv_has ls 8 [(0, .ref (q 0)), (1, .int p1), (2, .int p2), (3, .int p3), (4, .int p4)] := hl
  obtain ⟨H, hHe⟩ : ∃ H, s.heap = H := ⟨_, rfl⟩
  rw [hHe] at hP ⊢
  obtain ⟨locs, hLe⟩ : ∃ x : List Loc, ([] : List Loc) = x := ⟨_, rfl⟩
  rw [hLe]
  have hS : va_S (aT 30 q) s.heap H locs := by rw [← hHe, ← hLe]; exact va_S.rf
  refine lv_iload_n hx hb dX6_by_0 rfl (lv_at hl 1 rfl) ?_
  refine xc_i (va_runS (As := [.int p1]) (rest := []) ⟨hx, hb, hml, hown, hts⟩ (c_X6_isMark l dC dI cI cJ q σ p1) (va_cwS 1 hts (gS ml_X6_89 st_X6_isMark in_X6 co_X6_isMark) rfl rfl rfl (by decide +kernel) ⟨Nat.le_of_ble_eq_true rfl, Nat.le_of_ble_eq_true rfl⟩) (preS hK hP) rfl rfl hl.1 rfl (lv_room (Nat.le_of_ble_eq_true rfl)) dX6_by_1 ⟨Nat.zero_le _, Nat.zero_le _⟩) ?_
  refine lv_if_eq (tgt := 29) hx hb dX6_by_4 (by decide) (fun c_4 => ?_) (fun c_4 => ?_)
  · refine lv_lconst (v := 0) hx hb dX6_by_29 (by decide) ?_
    have hF : fX6_by σ p1 p2 p3 p4 = (0, σ) := by rw [fX6_by, if_pos c_4]
    have hP9 : va_P (dC, dI) vwCl (wT cI cJ q (fX6_by σ p1 p2 p3 p4).2) H := by rw [hF]; exact hP
    exact W.lret (v := 0) hx hb hr (fun t ht hW => ⟨(by rw [hF]), by rw [ht]; exact hP9, hS.F ht⟩) hS.2.2 dX6_by_30
  · refine lv_iload_n hx hb dX6_by_7 rfl (lv_at hl 2 rfl) ?_
    refine xc_i (va_runS (As := [.int p2]) (rest := []) ⟨hx, hb, hml, hown, hts⟩ (c_X6_isAnswer l dC dI cI cJ q σ p2) (va_cwS 1 hts (gS ml_X6_152 st_X6_isAnswer in_X6 co_X6_isAnswer) rfl rfl rfl (by decide +kernel) ⟨Nat.le_of_ble_eq_true rfl, Nat.le_of_ble_eq_true rfl⟩) (preS hK hP) rfl rfl hl.1 rfl (lv_room (Nat.le_of_ble_eq_true rfl)) dX6_by_8 ⟨Nat.zero_le _, Nat.zero_le _⟩) ?_
    refine lv_if_eq (tgt := 29) hx hb dX6_by_11 (by decide) (fun c_11 => ?_) (fun c_11 => ?_)
    · refine lv_lconst (v := 0) hx hb dX6_by_29 (by decide) ?_
      have hF : fX6_by σ p1 p2 p3 p4 = (0, σ) := by rw [fX6_by, if_neg c_4, if_pos c_11]
      have hP9 : va_P (dC, dI) vwCl (wT cI cJ q (fX6_by σ p1 p2 p3 p4).2) H := by rw [hF]; exact hP
      exact W.lret (v := 0) hx hb hr (fun t ht hW => ⟨(by rw [hF]), by rw [ht]; exact hP9, hS.F ht⟩) hS.2.2 dX6_by_30
    · refine lv_iload_n hx hb dX6_by_14 rfl (lv_at hl 3 rfl) ?_
      refine xc_i (va_runS (As := [.int p3]) (rest := []) ⟨hx, hb, hml, hown, hts⟩ (c_X6_isDay l dC dI cI cJ q σ p3) (va_cwS 1 hts (gS ml_X6_56 st_X6_isDay in_X6 co_X6_isDay) rfl rfl rfl (by decide +kernel) ⟨Nat.le_of_ble_eq_true rfl, Nat.le_of_ble_eq_true rfl⟩) (preS hK hP) rfl rfl hl.1 rfl (lv_room (Nat.le_of_ble_eq_true rfl)) dX6_by_15 ⟨Nat.zero_le _, Nat.zero_le _⟩) ?_
      refine lv_if_eq (tgt := 29) hx hb dX6_by_18 (by decide) (fun c_18 => ?_) (fun c_18 => ?_)
      · refine lv_lconst (v := 0) hx hb dX6_by_29 (by decide) ?_
        have hF : fX6_by σ p1 p2 p3 p4 = (0, σ) := by rw [fX6_by, if_neg c_4, if_neg c_11, if_pos c_18]
        have hP9 : va_P (dC, dI) vwCl (wT cI cJ q (fX6_by σ p1 p2 p3 p4).2) H := by rw [hF]; exact hP
        exact W.lret (v := 0) hx hb hr (fun t ht hW => ⟨(by rw [hF]), by rw [ht]; exact hP9, hS.F ht⟩) hS.2.2 dX6_by_30
      · refine lv_iload hx hb dX6_by_21 (lv_at hl 4 rfl) ?_
        refine xc_i (va_runS (As := [.int p4]) (rest := []) ⟨hx, hb, hml, hown, hts⟩ (c_X6_isDay l dC dI cI cJ q σ p4) (va_cwS 1 hts (gS ml_X6_56 st_X6_isDay in_X6 co_X6_isDay) rfl rfl rfl (by decide +kernel) ⟨Nat.le_of_ble_eq_true rfl, Nat.le_of_ble_eq_true rfl⟩) (preS hK hP) rfl rfl hl.1 rfl (lv_room (Nat.le_of_ble_eq_true rfl)) dX6_by_23 ⟨Nat.zero_le _, Nat.zero_le _⟩) ?_
        refine lv_if_ne (tgt := 31) hx hb dX6_by_26 (by decide) (fun c_26 => ?_) (fun c_26 => ?_)
        · refine lv_aload_n hx hb dX6_by_31 rfl (lv_at hl 0 rfl) ?_
          refine lv_iload_n hx hb dX6_by_32 rfl (lv_at hl 3 rfl) ?_
          refine lv_iload hx hb dX6_by_33 (lv_at hl 4 rfl) ?_
          refine xw_c (va_runV (As := [.int p3, .int p4]) (rest := []) ⟨hx, hb, hml, hown, hts⟩ (c_X6_carryAll l dC dI cI cJ q σ p3 p4 (by assumption) (by assumption)) (cwV 2 hts (gV ml_X6_164 im_X6_carryAll se_X6_carryAll in_X6 co_X6_carryAll) rfl rfl rfl (by decide +kernel) ⟨Nat.le_of_ble_eq_true rfl, Nat.le_of_ble_eq_true rfl⟩) (preV hK hP (pos := 0) (ci := 6) rfl rfl) rfl rfl hl.1 rfl (lv_room (Nat.le_of_ble_eq_true rfl)) dX6_by_35 ⟨Nat.zero_le _, Nat.zero_le _⟩) hS (fun _ h => h) (fun H locs hP _ _ hS => ?_)
          have hP : va_P (dC, dI) vwCl (wT cI cJ q (fX6_carryAll σ p3 p4)) H := hP
          refine W.eq (g2 := F0 m 38 ls []) rfl ?_
          refine lv_lconst (v := 0) hx hb dX6_by_38 (by decide) ?_
          refine lv_lstore (lv' := [(5, .long 0), (0, .ref (q 0)), (1, .int p1), (2, .int p2), (3, .int p3), (4, .int p4)]) hx hb dX6_by_39 hl (by decide) rfl (fun ls hl => ?_)
          refine lv_iconst (v := 0) hx hb dX6_by_41 (by decide) ?_
          refine lv_istore (lv' := [(7, .int 0), (5, .long 0), (0, .ref (q 0)), (1, .int p1), (2, .int p2), (3, .int p3), (4, .int p4)]) hx hb dX6_by_42 hl (by decide) rfl (fun ls hl => ?_)
          have hz : szI ((fX6_carryAll σ p3 p4).2.1 1) 40 := (cA_IB hI).1
          have hz2 := hz.2
          have loop_44 : ∀ (k i : Nat) (tot : Int64), i + k = ((fX6_carryAll σ p3 p4).2.1 1).toNatClampNeg → fX6_by σ p1 p2 p3 p4 = flX6_by_44 σ p1 p2 p3 p4 k i tot → ∀ (ls : Array Slot), lv_has ls 8 [(0, .ref (q 0)), (1, .int p1), (2, .int p2), (3, .int p3), (4, .int p4), (7, .int (nI i)), (5, .long tot)] → W p l e (headSpec (.code yX6_by cX6_by 8 (some .long) :: tb) { frames := 46, cells := 0, slots := 0, locals := 1219 }).room s m (List.toArray [.ref (q 0), .int p1, .int p2, .int p3, .int p4]) below meth c H locs 0 0 (MQ below (xw_Q (some (.long (fX6_by σ p1 p2 p3 p4).1)) (dC, dI) (wT cI cJ q (fX6_by σ p1 p2 p3 p4).2) (aT 30 q)) (List.toArray [.ref (q 0), .int p1, .int p2, .int p3, .int p4]) s 0 0 (aT 30 q)) (F0 m 44 ls []) := by
            intro k
            induction k with
            | zero =>
              intro i tot hik hE ls hl
              refine lv_iload hx hb dX6_by_44 (lv_at hl 5 rfl) ?_
              refine lv_aload_n hx hb dX6_by_46 rfl (lv_at hl 0 rfl) ?_
              refine va_get (D := (dC, dI)) (ci := 6) (v := .ref (q 3)) (C := RX6) (T := TX6) (N := 6) hx hb hts inX6 hown hK hP 0 rfl rfl 1 (by decide) (hts _ fl_X6_19) (fun _ h9 => h9) rfl dX6_by_47 ?_
              refine xc_i (va_runV (As := []) (rest := [.int (nI i)]) ⟨hx, hb, hml, hown, hts⟩ (c_X5_size l dC dI cI cJ q (fX6_carryAll σ p3 p4) ) (cwV 0 hts (gV ml_X6_167 im_X5_size se_X5_size in_X5 co_X5_size) rfl rfl rfl (by decide +kernel) ⟨Nat.le_of_ble_eq_true rfl, Nat.le_of_ble_eq_true rfl⟩) (preV hK hP (pos := 3) (ci := 5) rfl rfl) rfl rfl hl.1 rfl (lv_room (Nat.le_of_ble_eq_true rfl)) dX6_by_50 ⟨Nat.zero_le _, Nat.zero_le _⟩) ?_
              refine lv_icmp_ge (tgt := 93) hx hb dX6_by_53 (by decide) (fun c_53 => ?_) (fun c_53 => ?_)
              · refine lv_lload hx hb dX6_by_93 (lv_at hl 6 rfl) ?_
                have hF : fX6_by σ p1 p2 p3 p4 = (tot, (fX6_carryAll σ p3 p4)) := by rw [hE, flX6_by_44]
                have hP9 : va_P (dC, dI) vwCl (wT cI cJ q (fX6_by σ p1 p2 p3 p4).2) H := by rw [hF]; exact hP
                exact W.lret (v := tot) hx hb hr (fun t ht hW => ⟨(by rw [hF]), by rw [ht]; exact hP9, hS.F ht⟩) hS.2.2 dX6_by_95
              · exact absurd (by rw [hz.1]; exact nI_le (by omega) (by omega)) c_53
            | succ k ih =>
              intro i tot hik hE ls hl
              refine lv_iload hx hb dX6_by_44 (lv_at hl 5 rfl) ?_
              refine lv_aload_n hx hb dX6_by_46 rfl (lv_at hl 0 rfl) ?_
              refine va_get (D := (dC, dI)) (ci := 6) (v := .ref (q 3)) (C := RX6) (T := TX6) (N := 6) hx hb hts inX6 hown hK hP 0 rfl rfl 1 (by decide) (hts _ fl_X6_19) (fun _ h9 => h9) rfl dX6_by_47 ?_
              refine xc_i (va_runV (As := []) (rest := [.int (nI i)]) ⟨hx, hb, hml, hown, hts⟩ (c_X5_size l dC dI cI cJ q (fX6_carryAll σ p3 p4) ) (cwV 0 hts (gV ml_X6_167 im_X5_size se_X5_size in_X5 co_X5_size) rfl rfl rfl (by decide +kernel) ⟨Nat.le_of_ble_eq_true rfl, Nat.le_of_ble_eq_true rfl⟩) (preV hK hP (pos := 3) (ci := 5) rfl rfl) rfl rfl hl.1 rfl (lv_room (Nat.le_of_ble_eq_true rfl)) dX6_by_50 ⟨Nat.zero_le _, Nat.zero_le _⟩) ?_
              refine lv_icmp_ge (tgt := 93) hx hb dX6_by_53 (by decide) (fun c_53 => ?_) (fun c_53 => ?_)
              · exact absurd c_53 (by rw [hz.1]; exact nI_ge (by omega) (by omega))
              · refine lv_aload_n hx hb dX6_by_56 rfl (lv_at hl 0 rfl) ?_
                refine va_get (D := (dC, dI)) (ci := 6) (v := .ref (q 13)) (C := RX6) (T := TX6) (N := 6) hx hb hts inX6 hown hK hP 0 rfl rfl 2 (by decide) (hts _ fl_X6_28) (fun _ h9 => h9) rfl dX6_by_57 ?_
                refine lv_iload hx hb dX6_by_60 (lv_at hl 5 rfl) ?_
                refine lv_iload_n hx hb dX6_by_62 rfl (lv_at hl 1 rfl) ?_
                refine lv_iload_n hx hb dX6_by_63 rfl (lv_at hl 3 rfl) ?_
                refine lv_iload hx hb dX6_by_64 (lv_at hl 4 rfl) ?_
                refine xc_i (va_runV (As := [.int (nI i), .int p1, .int p3, .int p4]) (rest := []) ⟨hx, hb, hml, hown, hts⟩ (c_X4_valueOn l dC dI cI cJ q (fX6_carryAll σ p3 p4) (nI i) p1 p3 p4 (cA_IB hI)) (cwV 4 hts (gV ml_X6_123 im_X4_valueOn se_X4_valueOn in_X4 co_X4_valueOn) rfl rfl rfl (by decide +kernel) ⟨Nat.le_of_ble_eq_true rfl, Nat.le_of_ble_eq_true rfl⟩) (preV hK hP (pos := 13) (ci := 4) rfl rfl) rfl rfl hl.1 rfl (lv_room (Nat.le_of_ble_eq_true rfl)) dX6_by_66 ⟨Nat.zero_le _, Nat.zero_le _⟩) ?_
                refine lv_iload_n hx hb dX6_by_69 rfl (lv_at hl 2 rfl) ?_
                refine lv_icmp_ne (tgt := 87) hx hb dX6_by_70 (by decide) (fun c_70 => ?_) (fun c_70 => ?_)
                · refine lv_iinc (v := nI (i + 1)) (lv' := [(7, .int (nI (i + 1))), (0, .ref (q 0)), (1, .int p1), (2, .int p2), (3, .int p3), (4, .int p4), (5, .long tot)]) hx hb dX6_by_87 hl (k := 5) rfl (nI_1 i) (by decide) rfl (fun ls hl => ?_)
                  refine lv_goto (tgt := 44) hx hb dX6_by_90 (by decide) ?_
                  exact ih (i + 1) tot (by omega) (by rw [hE, flX6_by_44, if_neg c_70]) ls (lv_sub hl [1, 2, 3, 4, 5, 0, 6] rfl)
                · refine lv_lload hx hb dX6_by_73 (lv_at hl 6 rfl) ?_
                  refine lv_aload_n hx hb dX6_by_75 rfl (lv_at hl 0 rfl) ?_
                  refine va_get (D := (dC, dI)) (ci := 6) (v := .ref (q 28)) (C := RX6) (T := TX6) (N := 6) hx hb hts inX6 hown hK hP 0 rfl rfl 4 (by decide) (hts _ fl_X6_44) (fun _ h9 => h9) rfl dX6_by_76 ?_
                  refine lv_iload hx hb dX6_by_79 (lv_at hl 5 rfl) ?_
                  refine xc_l (va_runV (As := [.int (nI i)]) (rest := [.long tot]) ⟨hx, hb, hml, hown, hts⟩ (c_X0_stayingOn l dC dI cI cJ q (fX6_carryAll σ p3 p4) (nI i) (vp_in_nI (by omega) (by decide))) (cwV 1 hts (gV ml_X6_168 im_X0_stayingOn se_X0_stayingOn in_X0 co_X0_stayingOn) rfl rfl rfl (by decide +kernel) ⟨Nat.le_of_ble_eq_true rfl, Nat.le_of_ble_eq_true rfl⟩) (preV hK hP (pos := 28) (ci := 0) rfl rfl) rfl rfl hl.1 rfl (lv_room (Nat.le_of_ble_eq_true rfl)) dX6_by_81 ⟨Nat.zero_le _, Nat.zero_le _⟩) ?_
                  refine lv_ladd hx hb dX6_by_84 ?_
                  refine lv_lstore (lv' := [(5, .long (tot + ((fX6_carryAll σ p3 p4).2.2.1 ((nI i).toNatClampNeg)))), (0, .ref (q 0)), (1, .int p1), (2, .int p2), (3, .int p3), (4, .int p4), (7, .int (nI i))]) hx hb dX6_by_85 hl (by decide) rfl (fun ls hl => ?_)
                  refine lv_iinc (v := nI (i + 1)) (lv' := [(7, .int (nI (i + 1))), (5, .long (tot + ((fX6_carryAll σ p3 p4).2.2.1 ((nI i).toNatClampNeg)))), (0, .ref (q 0)), (1, .int p1), (2, .int p2), (3, .int p3), (4, .int p4)]) hx hb dX6_by_87 hl (k := 6) rfl (nI_1 i) (by decide) rfl (fun ls hl => ?_)
                  refine lv_goto (tgt := 44) hx hb dX6_by_90 (by decide) ?_
                  exact ih (i + 1) (tot + ((fX6_carryAll σ p3 p4).2.2.1 ((nI i).toNatClampNeg))) (by omega) (by rw [hE, flX6_by_44, if_pos c_70]) ls (lv_sub hl [2, 3, 4, 5, 6, 0, 1] rfl)
          exact loop_44 (((fX6_carryAll σ p3 p4).2.1 1).toNatClampNeg) 0 0 (by rw [Nat.zero_add]) (by rw [fX6_by, if_neg c_4, if_neg c_11, if_neg c_18, if_neg c_26]) ls (lv_sub hl [2, 3, 4, 5, 6, 0, 1] rfl)
        · refine lv_lconst (v := 0) hx hb dX6_by_29 (by decide) ?_
          have hF : fX6_by σ p1 p2 p3 p4 = (0, σ) := by rw [fX6_by, if_neg c_4, if_neg c_11, if_neg c_18, if_pos c_26]
          have hP9 : va_P (dC, dI) vwCl (wT cI cJ q (fX6_by σ p1 p2 p3 p4).2) H := by rw [hF]; exact hP
          exact W.lret (v := 0) hx hb hr (fun t ht hW => ⟨(by rw [hF]), by rw [ht]; exact hP9, hS.F ht⟩) hS.2.2 dX6_by_30

def fX6_sum (σ : St) (p1 : Int32) (p2 : Int32) (p3 : Int32) : Int64 × St :=
  (if (fX6_isDay σ p2) = 0 then (0, σ) else (if (fX6_isDay σ p3) = 0 then (0, σ) else (if p1 = 0 then (fX6_sumOfFacts σ p3 0, σ) else (if p1 = 1 then (fX6_sumOfFacts σ p3 1, σ) else (if p1 = 2 then ((fX6_carryAll σ p2 p3).2.2.2, (fX6_carryAll σ p2 p3)) else (0, σ))))))
set_option maxHeartbeats 4000000 in
set_option maxRecDepth 100000 in
theorem c_X6_sum (l : Launch) (dC : Nat → ClassId) (dI : Nat → Nat → Nat) (cI cJ : ClassId) (q : Nat → Nat) (σ : St) (p1 : Int32) (p2 : Int32) (p3 : Int32) (hd : dT 30 q) (hI : IB σ) : Met l yX6_sum (.code yX6_sum cX6_sum 4 (some .long) :: tb) { frames := 46, cells := 0, slots := 0, locals := 1219 } (Pu (dC, dI) (tyC cI cJ) (wT cI cJ q σ) [.ref (q 0), .int p1, .int p2, .int p3]) (xw_Q (some (.long (fX6_sum σ p1 p2 p3).1)) (dC, dI) (wT cI cJ q (fX6_sum σ p1 p2 p3).2) (aT 30 q)) 0 0 (aT 30 q) := by
  refine Met.ofW (cc := cX6_sum) (maxL := 4) (ret := (some .long)) (by decide) rfl ?_
  intro p e s m args below meth c s₁ B hml hv
  obtain ⟨rfl, hP, hK⟩ := hv
  have hx := B.exec
  have hb := B.bytes
  have hr := B.returns
  have hts0 := atoms_spec (ws := .code yX6_sum cX6_sum 4 (some .long) :: tb) B.pre
  have hts : ∀ w ∈ tb, w.before _ s = true := fun w hw => hts0 w (List.mem_cons_of_mem _ hw)
  have hown : s.vm.findClass RX6 = some m.cls := findClass_of_methodNamed B.named
  have hlocks := B.notSynchronized
  have hl := lv_entry ([.ref (q 0), .int p1, .int p2, .int p3]) (n := 4) (Nat.le_of_ble_eq_true rfl)
  rw [lg_entry_eq]
  generalize (lg_sl ([.ref (q 0), .int p1, .int p2, .int p3]) ++ List.replicate (4 - (lg_sl ([.ref (q 0), .int p1, .int p2, .int p3])).length) Slot.unset).toArray = ls at hl ⊢
  have hl : lv_has ls 4 [(0, .ref (q 0)), (1, .int p1), (2, .int p2), (3, .int p3)] := hl
  obtain ⟨H, hHe⟩ : ∃ H, s.heap = H := ⟨_, rfl⟩
  rw [hHe] at hP ⊢
  obtain ⟨locs, hLe⟩ : ∃ x : List Loc, ([] : List Loc) = x := ⟨_, rfl⟩
  rw [hLe]
  have hS : va_S (aT 30 q) s.heap H locs := by rw [← hHe, ← hLe]; exact va_S.rf
  refine lv_iload_n hx hb dX6_sum_0 rfl (lv_at hl 2 rfl) ?_
  refine xc_i (va_runS (As := [.int p2]) (rest := []) ⟨hx, hb, hml, hown, hts⟩ (c_X6_isDay l dC dI cI cJ q σ p2) (va_cwS 1 hts (gS ml_X6_56 st_X6_isDay in_X6 co_X6_isDay) rfl rfl rfl (by decide +kernel) ⟨Nat.le_of_ble_eq_true rfl, Nat.le_of_ble_eq_true rfl⟩) (preS hK hP) rfl rfl hl.1 rfl (lv_room (Nat.le_of_ble_eq_true rfl)) dX6_sum_1 ⟨Nat.zero_le _, Nat.zero_le _⟩) ?_
  refine lv_if_eq (tgt := 14) hx hb dX6_sum_4 (by decide) (fun c_4 => ?_) (fun c_4 => ?_)
  · refine lv_lconst (v := 0) hx hb dX6_sum_14 (by decide) ?_
    have hF : fX6_sum σ p1 p2 p3 = (0, σ) := by rw [fX6_sum, if_pos c_4]
    have hP9 : va_P (dC, dI) vwCl (wT cI cJ q (fX6_sum σ p1 p2 p3).2) H := by rw [hF]; exact hP
    exact W.lret (v := 0) hx hb hr (fun t ht hW => ⟨(by rw [hF]), by rw [ht]; exact hP9, hS.F ht⟩) hS.2.2 dX6_sum_15
  · refine lv_iload_n hx hb dX6_sum_7 rfl (lv_at hl 3 rfl) ?_
    refine xc_i (va_runS (As := [.int p3]) (rest := []) ⟨hx, hb, hml, hown, hts⟩ (c_X6_isDay l dC dI cI cJ q σ p3) (va_cwS 1 hts (gS ml_X6_56 st_X6_isDay in_X6 co_X6_isDay) rfl rfl rfl (by decide +kernel) ⟨Nat.le_of_ble_eq_true rfl, Nat.le_of_ble_eq_true rfl⟩) (preS hK hP) rfl rfl hl.1 rfl (lv_room (Nat.le_of_ble_eq_true rfl)) dX6_sum_8 ⟨Nat.zero_le _, Nat.zero_le _⟩) ?_
    refine lv_if_ne (tgt := 16) hx hb dX6_sum_11 (by decide) (fun c_11 => ?_) (fun c_11 => ?_)
    · refine lv_iload_n hx hb dX6_sum_16 rfl (lv_at hl 1 rfl) ?_
      by_cases c_17_0 : p1 = 0
      · refine xs_in (tgt := 44) hx hb 0 c_17_0 dX6_sum_17 (by decide) (by decide) rfl (by decide) ?_
        refine lv_aload_n hx hb dX6_sum_44 rfl (lv_at hl 0 rfl) ?_
        refine lv_iload_n hx hb dX6_sum_45 rfl (lv_at hl 3 rfl) ?_
        refine lv_iconst (v := 0) hx hb dX6_sum_46 (by decide) ?_
        refine xc_l (va_runV (As := [.int p3, .int 0]) (rest := []) ⟨hx, hb, hml, hown, hts⟩ (c_X6_sumOfFacts l dC dI cI cJ q σ p3 0 (by assumption)) (cwV 2 hts (gV ml_X6_172 im_X6_sumOfFacts se_X6_sumOfFacts in_X6 co_X6_sumOfFacts) rfl rfl rfl (by decide +kernel) ⟨Nat.le_of_ble_eq_true rfl, Nat.le_of_ble_eq_true rfl⟩) (preV hK hP (pos := 0) (ci := 6) rfl rfl) rfl rfl hl.1 rfl (lv_room (Nat.le_of_ble_eq_true rfl)) dX6_sum_47 ⟨Nat.zero_le _, Nat.zero_le _⟩) ?_
        have hF : fX6_sum σ p1 p2 p3 = (fX6_sumOfFacts σ p3 0, σ) := by rw [fX6_sum, if_neg c_4, if_neg c_11, if_pos c_17_0]
        have hP9 : va_P (dC, dI) vwCl (wT cI cJ q (fX6_sum σ p1 p2 p3).2) H := by rw [hF]; exact hP
        exact W.lret (v := fX6_sumOfFacts σ p3 0) hx hb hr (fun t ht hW => ⟨(by rw [hF]), by rw [ht]; exact hP9, hS.F ht⟩) hS.2.2 dX6_sum_50
      by_cases c_17_1 : p1 = 1
      · refine xs_in (tgt := 51) hx hb 1 c_17_1 dX6_sum_17 (by decide) (by decide) rfl (by decide) ?_
        refine lv_aload_n hx hb dX6_sum_51 rfl (lv_at hl 0 rfl) ?_
        refine lv_iload_n hx hb dX6_sum_52 rfl (lv_at hl 3 rfl) ?_
        refine lv_iconst (v := 1) hx hb dX6_sum_53 (by decide) ?_
        refine xc_l (va_runV (As := [.int p3, .int 1]) (rest := []) ⟨hx, hb, hml, hown, hts⟩ (c_X6_sumOfFacts l dC dI cI cJ q σ p3 1 (by assumption)) (cwV 2 hts (gV ml_X6_172 im_X6_sumOfFacts se_X6_sumOfFacts in_X6 co_X6_sumOfFacts) rfl rfl rfl (by decide +kernel) ⟨Nat.le_of_ble_eq_true rfl, Nat.le_of_ble_eq_true rfl⟩) (preV hK hP (pos := 0) (ci := 6) rfl rfl) rfl rfl hl.1 rfl (lv_room (Nat.le_of_ble_eq_true rfl)) dX6_sum_54 ⟨Nat.zero_le _, Nat.zero_le _⟩) ?_
        have hF : fX6_sum σ p1 p2 p3 = (fX6_sumOfFacts σ p3 1, σ) := by rw [fX6_sum, if_neg c_4, if_neg c_11, if_neg c_17_0, if_pos c_17_1]
        have hP9 : va_P (dC, dI) vwCl (wT cI cJ q (fX6_sum σ p1 p2 p3).2) H := by rw [hF]; exact hP
        exact W.lret (v := fX6_sumOfFacts σ p3 1) hx hb hr (fun t ht hW => ⟨(by rw [hF]), by rw [ht]; exact hP9, hS.F ht⟩) hS.2.2 dX6_sum_57
      by_cases c_17_2 : p1 = 2
      · refine xs_in (tgt := 58) hx hb 2 c_17_2 dX6_sum_17 (by decide) (by decide) rfl (by decide) ?_
        refine lv_aload_n hx hb dX6_sum_58 rfl (lv_at hl 0 rfl) ?_
        refine lv_iload_n hx hb dX6_sum_59 rfl (lv_at hl 2 rfl) ?_
        refine lv_iload_n hx hb dX6_sum_60 rfl (lv_at hl 3 rfl) ?_
        refine xw_c (va_runV (As := [.int p2, .int p3]) (rest := []) ⟨hx, hb, hml, hown, hts⟩ (c_X6_carryAll l dC dI cI cJ q σ p2 p3 (by assumption) (by assumption)) (cwV 2 hts (gV ml_X6_164 im_X6_carryAll se_X6_carryAll in_X6 co_X6_carryAll) rfl rfl rfl (by decide +kernel) ⟨Nat.le_of_ble_eq_true rfl, Nat.le_of_ble_eq_true rfl⟩) (preV hK hP (pos := 0) (ci := 6) rfl rfl) rfl rfl hl.1 rfl (lv_room (Nat.le_of_ble_eq_true rfl)) dX6_sum_61 ⟨Nat.zero_le _, Nat.zero_le _⟩) hS (fun _ h => h) (fun H locs hP _ _ hS => ?_)
        have hP : va_P (dC, dI) vwCl (wT cI cJ q (fX6_carryAll σ p2 p3)) H := hP
        refine W.eq (g2 := F0 m 64 ls []) rfl ?_
        refine lv_aload_n hx hb dX6_sum_64 rfl (lv_at hl 0 rfl) ?_
        refine va_get (D := (dC, dI)) (ci := 6) (v := .ref (q 28)) (C := RX6) (T := TX6) (N := 6) hx hb hts inX6 hown hK hP 0 rfl rfl 4 (by decide) (hts _ fl_X6_44) (fun _ h9 => h9) rfl dX6_sum_65 ?_
        refine xc_l (va_runV (As := []) (rest := []) ⟨hx, hb, hml, hown, hts⟩ (c_X0_nowhere l dC dI cI cJ q (fX6_carryAll σ p2 p3) ) (cwV 0 hts (gV ml_X6_176 im_X0_nowhere se_X0_nowhere in_X0 co_X0_nowhere) rfl rfl rfl (by decide +kernel) ⟨Nat.le_of_ble_eq_true rfl, Nat.le_of_ble_eq_true rfl⟩) (preV hK hP (pos := 28) (ci := 0) rfl rfl) rfl rfl hl.1 rfl (lv_room (Nat.le_of_ble_eq_true rfl)) dX6_sum_68 ⟨Nat.zero_le _, Nat.zero_le _⟩) ?_
        have hF : fX6_sum σ p1 p2 p3 = ((fX6_carryAll σ p2 p3).2.2.2, (fX6_carryAll σ p2 p3)) := by rw [fX6_sum, if_neg c_4, if_neg c_11, if_neg c_17_0, if_neg c_17_1, if_pos c_17_2]
        have hP9 : va_P (dC, dI) vwCl (wT cI cJ q (fX6_sum σ p1 p2 p3).2) H := by rw [hF]; exact hP
        exact W.lret (v := (fX6_carryAll σ p2 p3).2.2.2) hx hb hr (fun t ht hW => ⟨(by rw [hF]), by rw [ht]; exact hP9, hS.F ht⟩) hS.2.2 dX6_sum_71
      refine lv_tableOut (tgt := 72) hx hb dX6_sum_17 (xs_out (n := 3) (by decide) (fun k hk => by
          match k, hk with
          | 0, _ => exact c_17_0
          | 1, _ => exact c_17_1
          | 2, _ => exact c_17_2
          | k + 3, h => exact absurd h (by omega))) (by decide) ?_
      refine lv_lconst (v := 0) hx hb dX6_sum_72 (by decide) ?_
      have hF : fX6_sum σ p1 p2 p3 = (0, σ) := by rw [fX6_sum, if_neg c_4, if_neg c_11, if_neg c_17_0, if_neg c_17_1, if_neg c_17_2]
      have hP9 : va_P (dC, dI) vwCl (wT cI cJ q (fX6_sum σ p1 p2 p3).2) H := by rw [hF]; exact hP
      exact W.lret (v := 0) hx hb hr (fun t ht hW => ⟨(by rw [hF]), by rw [ht]; exact hP9, hS.F ht⟩) hS.2.2 dX6_sum_73
    · refine lv_lconst (v := 0) hx hb dX6_sum_14 (by decide) ?_
      have hF : fX6_sum σ p1 p2 p3 = (0, σ) := by rw [fX6_sum, if_neg c_4, if_pos c_11]
      have hP9 : va_P (dC, dI) vwCl (wT cI cJ q (fX6_sum σ p1 p2 p3).2) H := by rw [hF]; exact hP
      exact W.lret (v := 0) hx hb hr (fun t ht hW => ⟨(by rw [hF]), by rw [ht]; exact hP9, hS.F ht⟩) hS.2.2 dX6_sum_15
end
