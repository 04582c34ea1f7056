-- ===== PART A: goes FIRST, ahead of the names: the tables' words, and 'selects' of the private methods out of them =====
/-- a private method of a class that the tables say can be made, by its rows of tables_1 -/
def lw_okq (q : MethodName × Nat) : Prop := (q.1.cls ≠ "java/lang/invoke/MethodHandle" ∧ q.1.cls ≠ "java/lang/invoke/VarHandle") ∧ Cond.instantiable q.1.cls q.2 ∈ tables_1 ∧ Cond.privateMethod q.1 ∈ tables_1 ∧ Cond.instanceMethod q.1 ∈ tables_1
theorem lw_p0 : lw_okq (⟨"java/util/ArrayList", "add", "(Ljava/lang/Object;[Ljava/lang/Object;I)V"⟩, 3) := ⟨⟨by decide +kernel, by decide +kernel⟩, List.mem_of_getElem? (i := 26) (by decide +kernel), List.mem_of_getElem? (i := 159) (by decide +kernel), List.mem_of_getElem? (i := 160) (by decide +kernel)⟩
theorem lw_p1 : lw_okq (⟨"java/util/ArrayList", "grow", "()[Ljava/lang/Object;"⟩, 3) := ⟨⟨by decide +kernel, by decide +kernel⟩, List.mem_of_getElem? (i := 26) (by decide +kernel), List.mem_of_getElem? (i := 163) (by decide +kernel), List.mem_of_getElem? (i := 164) (by decide +kernel)⟩
theorem lw_p2 : lw_okq (⟨"java/util/ArrayList", "grow", "(I)[Ljava/lang/Object;"⟩, 3) := ⟨⟨by decide +kernel, by decide +kernel⟩, List.mem_of_getElem? (i := 26) (by decide +kernel), List.mem_of_getElem? (i := 167) (by decide +kernel), List.mem_of_getElem? (i := 168) (by decide +kernel)⟩
theorem lw_p3 : lw_okq (⟨"EscapeRooms", "isRoom", "(I)Z"⟩, 10) := ⟨⟨by decide +kernel, by decide +kernel⟩, List.mem_of_getElem? (i := 18) (by decide +kernel), List.mem_of_getElem? (i := 213) (by decide +kernel), List.mem_of_getElem? (i := 214) (by decide +kernel)⟩
theorem lw_p4 : lw_okq (⟨"EscapeRooms", "exitNumber", "()I"⟩, 10) := ⟨⟨by decide +kernel, by decide +kernel⟩, List.mem_of_getElem? (i := 18) (by decide +kernel), List.mem_of_getElem? (i := 217) (by decide +kernel), List.mem_of_getElem? (i := 218) (by decide +kernel)⟩
theorem lw_p5 : lw_okq (⟨"EscapeRooms", "lowerRoom", "(II)LEscapeRooms$Room;"⟩, 10) := ⟨⟨by decide +kernel, by decide +kernel⟩, List.mem_of_getElem? (i := 18) (by decide +kernel), List.mem_of_getElem? (i := 244) (by decide +kernel), List.mem_of_getElem? (i := 245) (by decide +kernel)⟩
theorem lw_p6 : lw_okq (⟨"EscapeRooms", "higherRoom", "(II)LEscapeRooms$Room;"⟩, 10) := ⟨⟨by decide +kernel, by decide +kernel⟩, List.mem_of_getElem? (i := 18) (by decide +kernel), List.mem_of_getElem? (i := 249) (by decide +kernel), List.mem_of_getElem? (i := 250) (by decide +kernel)⟩
theorem lw_p7 : lw_okq (⟨"EscapeRooms", "playersThat", "(I)I"⟩, 10) := ⟨⟨by decide +kernel, by decide +kernel⟩, List.mem_of_getElem? (i := 18) (by decide +kernel), List.mem_of_getElem? (i := 355) (by decide +kernel), List.mem_of_getElem? (i := 356) (by decide +kernel)⟩
theorem lw_p8 : lw_okq (⟨"EscapeRooms", "isGroup", "(I)Z"⟩, 10) := ⟨⟨by decide +kernel, by decide +kernel⟩, List.mem_of_getElem? (i := 18) (by decide +kernel), List.mem_of_getElem? (i := 398) (by decide +kernel), List.mem_of_getElem? (i := 399) (by decide +kernel)⟩
theorem lw_p9 : lw_okq (⟨"EscapeRooms", "keysHeldBy", "(LEscapeRooms$Group;)I"⟩, 10) := ⟨⟨by decide +kernel, by decide +kernel⟩, List.mem_of_getElem? (i := 18) (by decide +kernel), List.mem_of_getElem? (i := 415) (by decide +kernel), List.mem_of_getElem? (i := 416) (by decide +kernel)⟩
theorem lw_p10 : lw_okq (⟨"EscapeRooms", "closedLocksOf", "(I)I"⟩, 10) := ⟨⟨by decide +kernel, by decide +kernel⟩, List.mem_of_getElem? (i := 18) (by decide +kernel), List.mem_of_getElem? (i := 423) (by decide +kernel), List.mem_of_getElem? (i := 424) (by decide +kernel)⟩
theorem lw_p11 : lw_okq (⟨"EscapeRooms", "keysLeftOf", "(I)I"⟩, 10) := ⟨⟨by decide +kernel, by decide +kernel⟩, List.mem_of_getElem? (i := 18) (by decide +kernel), List.mem_of_getElem? (i := 427) (by decide +kernel), List.mem_of_getElem? (i := 428) (by decide +kernel)⟩
theorem lw_p12 : lw_okq (⟨"EscapeRooms", "latestEscape", "()I"⟩, 10) := ⟨⟨by decide +kernel, by decide +kernel⟩, List.mem_of_getElem? (i := 18) (by decide +kernel), List.mem_of_getElem? (i := 448) (by decide +kernel), List.mem_of_getElem? (i := 449) (by decide +kernel)⟩
theorem lw_p13 : lw_okq (⟨"EscapeRooms", "groupsInDeadEnd", "()I"⟩, 10) := ⟨⟨by decide +kernel, by decide +kernel⟩, List.mem_of_getElem? (i := 18) (by decide +kernel), List.mem_of_getElem? (i := 452) (by decide +kernel), List.mem_of_getElem? (i := 453) (by decide +kernel)⟩
theorem lw_p14 : lw_okq (⟨"EscapeRooms$PlanSearch", "comeTo", "(IIJ)V"⟩, 10) := ⟨⟨by decide +kernel, by decide +kernel⟩, List.mem_of_getElem? (i := 52) (by decide +kernel), List.mem_of_getElem? (i := 462) (by decide +kernel), List.mem_of_getElem? (i := 463) (by decide +kernel)⟩
theorem lw_p15 : lw_okq (⟨"EscapeRooms$PlanSearch", "keepIfBetter", "(IJ)V"⟩, 10) := ⟨⟨by decide +kernel, by decide +kernel⟩, List.mem_of_getElem? (i := 52) (by decide +kernel), List.mem_of_getElem? (i := 477) (by decide +kernel), List.mem_of_getElem? (i := 478) (by decide +kernel)⟩
def lw_privs_1 : List (MethodName × Nat) := [(⟨"java/util/ArrayList", "add", "(Ljava/lang/Object;[Ljava/lang/Object;I)V"⟩, 3), (⟨"java/util/ArrayList", "grow", "()[Ljava/lang/Object;"⟩, 3), (⟨"java/util/ArrayList", "grow", "(I)[Ljava/lang/Object;"⟩, 3), (⟨"EscapeRooms", "isRoom", "(I)Z"⟩, 10), (⟨"EscapeRooms", "exitNumber", "()I"⟩, 10), (⟨"EscapeRooms", "lowerRoom", "(II)LEscapeRooms$Room;"⟩, 10), (⟨"EscapeRooms", "higherRoom", "(II)LEscapeRooms$Room;"⟩, 10), (⟨"EscapeRooms", "playersThat", "(I)I"⟩, 10), (⟨"EscapeRooms", "isGroup", "(I)Z"⟩, 10), (⟨"EscapeRooms", "keysHeldBy", "(LEscapeRooms$Group;)I"⟩, 10), (⟨"EscapeRooms", "closedLocksOf", "(I)I"⟩, 10), (⟨"EscapeRooms", "keysLeftOf", "(I)I"⟩, 10), (⟨"EscapeRooms", "latestEscape", "()I"⟩, 10), (⟨"EscapeRooms", "groupsInDeadEnd", "()I"⟩, 10), (⟨"EscapeRooms$PlanSearch", "comeTo", "(IIJ)V"⟩, 10), (⟨"EscapeRooms$PlanSearch", "keepIfBetter", "(IJ)V"⟩, 10)]
theorem lw_r1 : ∀ q ∈ lw_privs_1, lw_okq q := List.forall_mem_cons.mpr ⟨lw_p0, List.forall_mem_cons.mpr ⟨lw_p1, List.forall_mem_cons.mpr ⟨lw_p2, List.forall_mem_cons.mpr ⟨lw_p3, List.forall_mem_cons.mpr ⟨lw_p4, List.forall_mem_cons.mpr ⟨lw_p5, List.forall_mem_cons.mpr ⟨lw_p6, List.forall_mem_cons.mpr ⟨lw_p7, List.forall_mem_cons.mpr ⟨lw_p8, List.forall_mem_cons.mpr ⟨lw_p9, List.forall_mem_cons.mpr ⟨lw_p10, List.forall_mem_cons.mpr ⟨lw_p11, List.forall_mem_cons.mpr ⟨lw_p12, List.forall_mem_cons.mpr ⟨lw_p13, List.forall_mem_cons.mpr ⟨lw_p14, List.forall_mem_cons.mpr ⟨lw_p15, fun _ h => absurd h List.not_mem_nil⟩⟩⟩⟩⟩⟩⟩⟩⟩⟩⟩⟩⟩⟩⟩⟩
theorem lw_p16 : lw_okq (⟨"EscapeRooms$PlanSearch", "costOf", "(I)I"⟩, 10) := ⟨⟨by decide +kernel, by decide +kernel⟩, List.mem_of_getElem? (i := 52) (by decide +kernel), List.mem_of_getElem? (i := 481) (by decide +kernel), List.mem_of_getElem? (i := 482) (by decide +kernel)⟩
theorem lw_p17 : lw_okq (⟨"EscapeRooms$PlanSearch", "isOpenedByPlan", "(LEscapeRooms$Door;I)Z"⟩, 10) := ⟨⟨by decide +kernel, by decide +kernel⟩, List.mem_of_getElem? (i := 52) (by decide +kernel), List.mem_of_getElem? (i := 488) (by decide +kernel), List.mem_of_getElem? (i := 489) (by decide +kernel)⟩
theorem lw_p18 : lw_okq (⟨"EscapeRooms$PlanSearch", "isBetter", "(IIJ)Z"⟩, 10) := ⟨⟨by decide +kernel, by decide +kernel⟩, List.mem_of_getElem? (i := 52) (by decide +kernel), List.mem_of_getElem? (i := 493) (by decide +kernel), List.mem_of_getElem? (i := 494) (by decide +kernel)⟩
theorem lw_p19 : lw_okq (⟨"EscapeRooms$PlanSearch", "goOnFrom", "(IIJ)V"⟩, 10) := ⟨⟨by decide +kernel, by decide +kernel⟩, List.mem_of_getElem? (i := 52) (by decide +kernel), List.mem_of_getElem? (i := 497) (by decide +kernel), List.mem_of_getElem? (i := 498) (by decide +kernel)⟩
theorem lw_p20 : lw_okq (⟨"EscapeRooms$PlanSearch", "keysLeft", "(II)I"⟩, 10) := ⟨⟨by decide +kernel, by decide +kernel⟩, List.mem_of_getElem? (i := 52) (by decide +kernel), List.mem_of_getElem? (i := 501) (by decide +kernel), List.mem_of_getElem? (i := 502) (by decide +kernel)⟩
theorem lw_p21 : lw_okq (⟨"EscapeRooms", "isKey", "(I)Z"⟩, 10) := ⟨⟨by decide +kernel, by decide +kernel⟩, List.mem_of_getElem? (i := 18) (by decide +kernel), List.mem_of_getElem? (i := 530) (by decide +kernel), List.mem_of_getElem? (i := 531) (by decide +kernel)⟩
theorem lw_p22 : lw_okq (⟨"EscapeRooms", "isDoor", "(I)Z"⟩, 10) := ⟨⟨by decide +kernel, by decide +kernel⟩, List.mem_of_getElem? (i := 18) (by decide +kernel), List.mem_of_getElem? (i := 549) (by decide +kernel), List.mem_of_getElem? (i := 550) (by decide +kernel)⟩
theorem lw_p23 : lw_okq (⟨"EscapeRooms", "findArrivals", "(LEscapeRooms$Group;)V"⟩, 10) := ⟨⟨by decide +kernel, by decide +kernel⟩, List.mem_of_getElem? (i := 18) (by decide +kernel), List.mem_of_getElem? (i := 573) (by decide +kernel), List.mem_of_getElem? (i := 574) (by decide +kernel)⟩
theorem lw_p24 : lw_okq (⟨"EscapeRooms", "lowestHeldKey", "(LEscapeRooms$Group;I)LEscapeRooms$Key;"⟩, 10) := ⟨⟨by decide +kernel, by decide +kernel⟩, List.mem_of_getElem? (i := 18) (by decide +kernel), List.mem_of_getElem? (i := 611) (by decide +kernel), List.mem_of_getElem? (i := 612) (by decide +kernel)⟩
theorem lw_p25 : lw_okq (⟨"EscapeRooms", "handOverKeys", "(LEscapeRooms$Group;LEscapeRooms$Group;)V"⟩, 10) := ⟨⟨by decide +kernel, by decide +kernel⟩, List.mem_of_getElem? (i := 18) (by decide +kernel), List.mem_of_getElem? (i := 653) (by decide +kernel), List.mem_of_getElem? (i := 654) (by decide +kernel)⟩
def lw_privs_2 : List (MethodName × Nat) := [(⟨"EscapeRooms$PlanSearch", "costOf", "(I)I"⟩, 10), (⟨"EscapeRooms$PlanSearch", "isOpenedByPlan", "(LEscapeRooms$Door;I)Z"⟩, 10), (⟨"EscapeRooms$PlanSearch", "isBetter", "(IIJ)Z"⟩, 10), (⟨"EscapeRooms$PlanSearch", "goOnFrom", "(IIJ)V"⟩, 10), (⟨"EscapeRooms$PlanSearch", "keysLeft", "(II)I"⟩, 10), (⟨"EscapeRooms", "isKey", "(I)Z"⟩, 10), (⟨"EscapeRooms", "isDoor", "(I)Z"⟩, 10), (⟨"EscapeRooms", "findArrivals", "(LEscapeRooms$Group;)V"⟩, 10), (⟨"EscapeRooms", "lowestHeldKey", "(LEscapeRooms$Group;I)LEscapeRooms$Key;"⟩, 10), (⟨"EscapeRooms", "handOverKeys", "(LEscapeRooms$Group;LEscapeRooms$Group;)V"⟩, 10)]
theorem lw_r2 : ∀ q ∈ lw_privs_2, lw_okq q := List.forall_mem_cons.mpr ⟨lw_p16, List.forall_mem_cons.mpr ⟨lw_p17, List.forall_mem_cons.mpr ⟨lw_p18, List.forall_mem_cons.mpr ⟨lw_p19, List.forall_mem_cons.mpr ⟨lw_p20, List.forall_mem_cons.mpr ⟨lw_p21, List.forall_mem_cons.mpr ⟨lw_p22, List.forall_mem_cons.mpr ⟨lw_p23, List.forall_mem_cons.mpr ⟨lw_p24, List.forall_mem_cons.mpr ⟨lw_p25, fun _ h => absurd h List.not_mem_nil⟩⟩⟩⟩⟩⟩⟩⟩⟩⟩
def lw_privs : List (MethodName × Nat) := lw_privs_1 ++ (lw_privs_2)
def lw_tbl : List Cond := k2_sels lw_privs ++ tables_1
theorem lw_privs_ok : ∀ q ∈ lw_privs, lw_okq q := by
  show ∀ q ∈ lw_privs_1 ++ (lw_privs_2), lw_okq q
  exact List.forall_mem_append.mpr ⟨lw_r1, lw_r2⟩
/-! ===== BEGIN words of one list among another's, by their places ===== -/
/-! ===== END ===== -/

/-! ===== BEGIN printed: names, fields, word lists, decode rows ===== -/
def RX0 : String := "EscapeRooms$Door"
def TX0 : u_T := fun k => match k with
  | 0 => ("EscapeRooms$Door", "number", "I", true)
  | 1 => ("EscapeRooms$Door", "low", "LEscapeRooms$Room;", true)
  | 2 => ("EscapeRooms$Door", "high", "LEscapeRooms$Room;", true)
  | 3 => ("EscapeRooms$Door", "walkTime", "I", true)
  | 4 => ("EscapeRooms$Door", "roomBits", "I", true)
  | 5 => ("EscapeRooms$Door", "color", "I", false)
  | 6 => ("EscapeRooms$Door", "unlockTime", "I", false)
  | 7 => ("EscapeRooms$Door", "lockBit", "I", false)
  | 8 => ("EscapeRooms$Door", "isOpen", "Z", false)
  | _ => ("EscapeRooms$Door", "openTime", "I", false)
def tyX0 : Nat → FieldType := fun k => match k with
  | 0 => .int
  | 1 => .object "EscapeRooms$Room"
  | 2 => .object "EscapeRooms$Room"
  | 3 => .int
  | 4 => .int
  | 5 => .int
  | 6 => .int
  | 7 => .int
  | 8 => .boolean
  | _ => .int
theorem nmX0 : ∀ a, a < 10 → ∀ b, b < 10 → a ≠ b → (TX0 a).2.1 ≠ (TX0 b).2.1 := by decide +kernel
theorem tyX0_ok : ∀ k, k < 10 → parseFieldDescriptor (TX0 k).2.2.1 = some (tyX0 k) := by decide +kernel
abbrev cX0_init : ByteArray := prog_2_method_1_code
def yX0_init : MethodName := ⟨RX0, "<init>", "(ILEscapeRooms$Room;LEscapeRooms$Room;I)V"⟩
abbrev cX0_putLock : ByteArray := prog_2_method_2_code
def yX0_putLock : MethodName := ⟨RX0, "putLock", "(III)V"⟩
abbrev cX0_openFrom : ByteArray := prog_2_method_3_code
def yX0_openFrom : MethodName := ⟨RX0, "openFrom", "(I)V"⟩
abbrev cX0_isAt : ByteArray := prog_2_method_4_code
def yX0_isAt : MethodName := ⟨RX0, "isAt", "(LEscapeRooms$Room;)Z"⟩
abbrev cX0_otherRoom : ByteArray := prog_2_method_5_code
def yX0_otherRoom : MethodName := ⟨RX0, "otherRoom", "(LEscapeRooms$Room;)LEscapeRooms$Room;"⟩
abbrev cX0_timeBehind : ByteArray := prog_2_method_6_code
def yX0_timeBehind : MethodName := ⟨RX0, "timeBehind", "(I)I"⟩
abbrev cX0_isPassable : ByteArray := prog_2_method_7_code
def yX0_isPassable : MethodName := ⟨RX0, "isPassable", "(I)Z"⟩
abbrev cX0_leadsOutOf : ByteArray := prog_2_method_8_code
def yX0_leadsOutOf : MethodName := ⟨RX0, "leadsOutOf", "(I)Z"⟩
abbrev cX0_speedsUp : ByteArray := prog_2_method_9_code
def yX0_speedsUp : MethodName := ⟨RX0, "speedsUp", "(LEscapeRooms$Room;LEscapeRooms$Room;)Z"⟩
def RX1 : String := "EscapeRooms$Group"
def TX1 : u_T := fun k => match k with
  | 0 => ("EscapeRooms$Group", "number", "I", true)
  | 1 => ("EscapeRooms$Group", "size", "I", false)
  | 2 => ("EscapeRooms$Group", "room", "LEscapeRooms$Room;", false)
  | 3 => ("EscapeRooms$Group", "time", "I", false)
  | 4 => ("EscapeRooms$Group", "hints", "I", false)
  | _ => ("EscapeRooms$Group", "state", "I", false)
def tyX1 : Nat → FieldType := fun k => match k with
  | 0 => .int
  | 1 => .int
  | 2 => .object "EscapeRooms$Room"
  | 3 => .int
  | 4 => .int
  | _ => .int
theorem nmX1 : ∀ a, a < 6 → ∀ b, b < 6 → a ≠ b → (TX1 a).2.1 ≠ (TX1 b).2.1 := by decide +kernel
theorem tyX1_ok : ∀ k, k < 6 → parseFieldDescriptor (TX1 k).2.2.1 = some (tyX1 k) := by decide +kernel
abbrev cX1_init : ByteArray := prog_3_method_1_code
def yX1_init : MethodName := ⟨RX1, "<init>", "(IILEscapeRooms$Room;I)V"⟩
abbrev cX1_isInPlay : ByteArray := prog_3_method_2_code
def yX1_isInPlay : MethodName := ⟨RX1, "isInPlay", "()Z"⟩
def RX2 : String := "EscapeRooms$Key"
def TX2 : u_T := fun k => match k with
  | 0 => ("EscapeRooms$Key", "number", "I", true)
  | 1 => ("EscapeRooms$Key", "color", "I", true)
  | 2 => ("EscapeRooms$Key", "room", "LEscapeRooms$Room;", false)
  | 3 => ("EscapeRooms$Key", "liesFrom", "I", false)
  | 4 => ("EscapeRooms$Key", "holder", "LEscapeRooms$Group;", false)
  | _ => ("EscapeRooms$Key", "unlocked", "LEscapeRooms$Door;", false)
def tyX2 : Nat → FieldType := fun k => match k with
  | 0 => .int
  | 1 => .int
  | 2 => .object "EscapeRooms$Room"
  | 3 => .int
  | 4 => .object "EscapeRooms$Group"
  | _ => .object "EscapeRooms$Door"
theorem nmX2 : ∀ a, a < 6 → ∀ b, b < 6 → a ≠ b → (TX2 a).2.1 ≠ (TX2 b).2.1 := by decide +kernel
theorem tyX2_ok : ∀ k, k < 6 → parseFieldDescriptor (TX2 k).2.2.1 = some (tyX2 k) := by decide +kernel
abbrev cX2_init : ByteArray := prog_4_method_1_code
def yX2_init : MethodName := ⟨RX2, "<init>", "(IILEscapeRooms$Room;)V"⟩
abbrev cX2_state : ByteArray := prog_4_method_2_code
def yX2_state : MethodName := ⟨RX2, "state", "()I"⟩
abbrev cX2_layDown : ByteArray := prog_4_method_3_code
def yX2_layDown : MethodName := ⟨RX2, "layDown", "(LEscapeRooms$Room;I)V"⟩
abbrev cX2_giveTo : ByteArray := prog_4_method_4_code
def yX2_giveTo : MethodName := ⟨RX2, "giveTo", "(LEscapeRooms$Group;)V"⟩
abbrev cX2_useUp : ByteArray := prog_4_method_5_code
def yX2_useUp : MethodName := ⟨RX2, "useUp", "(LEscapeRooms$Door;)V"⟩
abbrev cX2_isWithin : ByteArray := prog_4_method_6_code
def yX2_isWithin : MethodName := ⟨RX2, "isWithin", "(LEscapeRooms$Group;I)Z"⟩
def RX3 : String := "EscapeRooms$PlanSearch"
def TX3 : u_T := fun k => match k with
  | 0 => ("EscapeRooms$PlanSearch", "reached", "[I", true)
  | 1 => ("EscapeRooms$PlanSearch", "sequences", "[J", true)
  | 2 => ("EscapeRooms$PlanSearch", "group", "LEscapeRooms$Group;", false)
  | 3 => ("EscapeRooms$PlanSearch", "doors", "Ljava/util/ArrayList;", false)
  | 4 => ("EscapeRooms$PlanSearch", "keys", "Ljava/util/ArrayList;", false)
  | 5 => ("EscapeRooms$PlanSearch", "openAtFirst", "I", false)
  | 6 => ("EscapeRooms$PlanSearch", "isFound", "Z", false)
  | 7 => ("EscapeRooms$PlanSearch", "cost", "I", false)
  | 8 => ("EscapeRooms$PlanSearch", "doorCount", "I", false)
  | _ => ("EscapeRooms$PlanSearch", "sequence", "J", false)
def tyX3 : Nat → FieldType := fun k => match k with
  | 0 => .array .int
  | 1 => .array .long
  | 2 => .object "EscapeRooms$Group"
  | 3 => .object "java/util/ArrayList"
  | 4 => .object "java/util/ArrayList"
  | 5 => .int
  | 6 => .boolean
  | 7 => .int
  | 8 => .int
  | _ => .long
theorem nmX3 : ∀ a, a < 10 → ∀ b, b < 10 → a ≠ b → (TX3 a).2.1 ≠ (TX3 b).2.1 := by decide +kernel
theorem tyX3_ok : ∀ k, k < 10 → parseFieldDescriptor (TX3 k).2.2.1 = some (tyX3 k) := by decide +kernel
abbrev cX3_init : ByteArray := prog_5_method_1_code
def yX3_init : MethodName := ⟨RX3, "<init>", "()V"⟩
abbrev cX3_find : ByteArray := prog_5_method_2_code
def yX3_find : MethodName := ⟨RX3, "find", "(LEscapeRooms$Group;LEscapeRooms$Room;Ljava/util/ArrayList;Ljava/util/ArrayList;I)V"⟩
abbrev cX3_doorAt : ByteArray := prog_5_method_3_code
def yX3_doorAt : MethodName := ⟨RX3, "doorAt", "(I)I"⟩
abbrev cX3_comeTo : ByteArray := prog_5_method_4_code
def yX3_comeTo : MethodName := ⟨RX3, "comeTo", "(IIJ)V"⟩
abbrev cX3_goOnFrom : ByteArray := prog_5_method_5_code
def yX3_goOnFrom : MethodName := ⟨RX3, "goOnFrom", "(IIJ)V"⟩
abbrev cX3_keysLeft : ByteArray := prog_5_method_6_code
def yX3_keysLeft : MethodName := ⟨RX3, "keysLeft", "(II)I"⟩
abbrev cX3_hasOne : ByteArray := prog_5_method_7_code
def yX3_hasOne : MethodName := ⟨RX3, "hasOne", "(II)Z"⟩
abbrev cX3_isOpenedByPlan : ByteArray := prog_5_method_8_code
def yX3_isOpenedByPlan : MethodName := ⟨RX3, "isOpenedByPlan", "(LEscapeRooms$Door;I)Z"⟩
abbrev cX3_keepIfBetter : ByteArray := prog_5_method_9_code
def yX3_keepIfBetter : MethodName := ⟨RX3, "keepIfBetter", "(IJ)V"⟩
abbrev cX3_isBetter : ByteArray := prog_5_method_10_code
def yX3_isBetter : MethodName := ⟨RX3, "isBetter", "(IIJ)Z"⟩
abbrev cX3_costOf : ByteArray := prog_5_method_11_code
def yX3_costOf : MethodName := ⟨RX3, "costOf", "(I)I"⟩
def RX4 : String := "EscapeRooms$Room"
def TX4 : u_T := fun k => match k with
  | 0 => ("EscapeRooms$Room", "number", "I", true)
  | 1 => ("EscapeRooms$Room", "bit", "I", true)
  | _ => ("EscapeRooms$Room", "arrival", "I", false)
def tyX4 : Nat → FieldType := fun k => match k with
  | 0 => .int
  | 1 => .int
  | _ => .int
theorem nmX4 : ∀ a, a < 3 → ∀ b, b < 3 → a ≠ b → (TX4 a).2.1 ≠ (TX4 b).2.1 := by decide +kernel
theorem tyX4_ok : ∀ k, k < 3 → parseFieldDescriptor (TX4 k).2.2.1 = some (tyX4 k) := by decide +kernel
abbrev cX4_init : ByteArray := prog_6_method_1_code
def yX4_init : MethodName := ⟨RX4, "<init>", "(I)V"⟩
def RX5 : String := "EscapeRooms"
def TX5 : u_T := fun k => match k with
  | 0 => ("EscapeRooms", "rooms", "Ljava/util/ArrayList;", true)
  | 1 => ("EscapeRooms", "doors", "Ljava/util/ArrayList;", true)
  | 2 => ("EscapeRooms", "keys", "Ljava/util/ArrayList;", true)
  | 3 => ("EscapeRooms", "groups", "Ljava/util/ArrayList;", true)
  | 4 => ("EscapeRooms", "search", "LEscapeRooms$PlanSearch;", true)
  | 5 => ("EscapeRooms", "exit", "LEscapeRooms$Room;", false)
  | 6 => ("EscapeRooms", "lockCount", "I", false)
  | 7 => ("EscapeRooms", "hintBase", "I", false)
  | 8 => ("EscapeRooms", "hintStep", "I", false)
  | _ => ("EscapeRooms", "hintsTaken", "I", false)
def tyX5 : Nat → FieldType := fun k => match k with
  | 0 => .object "java/util/ArrayList"
  | 1 => .object "java/util/ArrayList"
  | 2 => .object "java/util/ArrayList"
  | 3 => .object "java/util/ArrayList"
  | 4 => .object "EscapeRooms$PlanSearch"
  | 5 => .object "EscapeRooms$Room"
  | 6 => .int
  | 7 => .int
  | 8 => .int
  | _ => .int
theorem nmX5 : ∀ a, a < 10 → ∀ b, b < 10 → a ≠ b → (TX5 a).2.1 ≠ (TX5 b).2.1 := by decide +kernel
theorem tyX5_ok : ∀ k, k < 10 → parseFieldDescriptor (TX5 k).2.2.1 = some (tyX5 k) := by decide +kernel
abbrev cX5_init : ByteArray := prog_1_method_1_code
def yX5_init : MethodName := ⟨RX5, "<init>", "()V"⟩
abbrev cX5_addRoom : ByteArray := prog_1_method_2_code
def yX5_addRoom : MethodName := ⟨RX5, "addRoom", "()I"⟩
abbrev cX5_setExit : ByteArray := prog_1_method_3_code
def yX5_setExit : MethodName := ⟨RX5, "setExit", "(I)I"⟩
abbrev cX5_addDoor : ByteArray := prog_1_method_4_code
def yX5_addDoor : MethodName := ⟨RX5, "addDoor", "(III)I"⟩
abbrev cX5_addLock : ByteArray := prog_1_method_5_code
def yX5_addLock : MethodName := ⟨RX5, "addLock", "(IIIII)I"⟩
abbrev cX5_addKey : ByteArray := prog_1_method_6_code
def yX5_addKey : MethodName := ⟨RX5, "addKey", "(II)I"⟩
abbrev cX5_addGroup : ByteArray := prog_1_method_7_code
def yX5_addGroup : MethodName := ⟨RX5, "addGroup", "(II)I"⟩
abbrev cX5_setHints : ByteArray := prog_1_method_8_code
def yX5_setHints : MethodName := ⟨RX5, "setHints", "(II)I"⟩
abbrev cX5_walk : ByteArray := prog_1_method_9_code
def yX5_walk : MethodName := ⟨RX5, "walk", "(II)I"⟩
abbrev cX5_unlock : ByteArray := prog_1_method_10_code
def yX5_unlock : MethodName := ⟨RX5, "unlock", "(II)I"⟩
abbrev cX5_take : ByteArray := prog_1_method_11_code
def yX5_take : MethodName := ⟨RX5, "take", "(II)I"⟩
abbrev cX5_drop : ByteArray := prog_1_method_12_code
def yX5_drop : MethodName := ⟨RX5, "drop", "(II)I"⟩
abbrev cX5_idle : ByteArray := prog_1_method_13_code
def yX5_idle : MethodName := ⟨RX5, "idle", "(II)I"⟩
abbrev cX5_part : ByteArray := prog_1_method_14_code
def yX5_part : MethodName := ⟨RX5, "part", "(II)I"⟩
abbrev cX5_join : ByteArray := prog_1_method_15_code
def yX5_join : MethodName := ⟨RX5, "join", "(II)I"⟩
abbrev cX5_leave : ByteArray := prog_1_method_16_code
def yX5_leave : MethodName := ⟨RX5, "leave", "(I)I"⟩
abbrev cX5_hint : ByteArray := prog_1_method_17_code
def yX5_hint : MethodName := ⟨RX5, "hint", "(I)I"⟩
abbrev cX5_plan : ByteArray := prog_1_method_18_code
def yX5_plan : MethodName := ⟨RX5, "plan", "(II)I"⟩
abbrev cX5_planned : ByteArray := prog_1_method_19_code
def yX5_planned : MethodName := ⟨RX5, "planned", "(II)I"⟩
abbrev cX5_way : ByteArray := prog_1_method_20_code
def yX5_way : MethodName := ⟨RX5, "way", "(II)I"⟩
abbrev cX5_reach : ByteArray := prog_1_method_21_code
def yX5_reach : MethodName := ⟨RX5, "reach", "(I)I"⟩
abbrev cX5_door : ByteArray := prog_1_method_22_code
def yX5_door : MethodName := ⟨RX5, "door", "(II)I"⟩
abbrev cX5_key : ByteArray := prog_1_method_23_code
def yX5_key : MethodName := ⟨RX5, "key", "(II)I"⟩
abbrev cX5_group : ByteArray := prog_1_method_24_code
def yX5_group : MethodName := ⟨RX5, "group", "(II)I"⟩
abbrev cX5_color : ByteArray := prog_1_method_25_code
def yX5_color : MethodName := ⟨RX5, "color", "(II)I"⟩
abbrev cX5_count : ByteArray := prog_1_method_26_code
def yX5_count : MethodName := ⟨RX5, "count", "(I)I"⟩
abbrev cX5_isBetween : ByteArray := prog_1_method_27_code
def yX5_isBetween : MethodName := ⟨RX5, "isBetween", "(III)Z"⟩
abbrev cX5_isColor : ByteArray := prog_1_method_28_code
def yX5_isColor : MethodName := ⟨RX5, "isColor", "(I)Z"⟩
abbrev cX5_isRoom : ByteArray := prog_1_method_29_code
def yX5_isRoom : MethodName := ⟨RX5, "isRoom", "(I)Z"⟩
abbrev cX5_isDoor : ByteArray := prog_1_method_30_code
def yX5_isDoor : MethodName := ⟨RX5, "isDoor", "(I)Z"⟩
abbrev cX5_isKey : ByteArray := prog_1_method_31_code
def yX5_isKey : MethodName := ⟨RX5, "isKey", "(I)Z"⟩
abbrev cX5_isGroup : ByteArray := prog_1_method_32_code
def yX5_isGroup : MethodName := ⟨RX5, "isGroup", "(I)Z"⟩
abbrev cX5_lowerRoom : ByteArray := prog_1_method_33_code
def yX5_lowerRoom : MethodName := ⟨RX5, "lowerRoom", "(II)LEscapeRooms$Room;"⟩
abbrev cX5_higherRoom : ByteArray := prog_1_method_34_code
def yX5_higherRoom : MethodName := ⟨RX5, "higherRoom", "(II)LEscapeRooms$Room;"⟩
abbrev cX5_exitNumber : ByteArray := prog_1_method_35_code
def yX5_exitNumber : MethodName := ⟨RX5, "exitNumber", "()I"⟩
abbrev cX5_playersThat : ByteArray := prog_1_method_36_code
def yX5_playersThat : MethodName := ⟨RX5, "playersThat", "(I)I"⟩
abbrev cX5_latestEscape : ByteArray := prog_1_method_37_code
def yX5_latestEscape : MethodName := ⟨RX5, "latestEscape", "()I"⟩
abbrev cX5_groupsInDeadEnd : ByteArray := prog_1_method_38_code
def yX5_groupsInDeadEnd : MethodName := ⟨RX5, "groupsInDeadEnd", "()I"⟩
abbrev cX5_keysHeldBy : ByteArray := prog_1_method_39_code
def yX5_keysHeldBy : MethodName := ⟨RX5, "keysHeldBy", "(LEscapeRooms$Group;)I"⟩
abbrev cX5_lowestHeldKey : ByteArray := prog_1_method_40_code
def yX5_lowestHeldKey : MethodName := ⟨RX5, "lowestHeldKey", "(LEscapeRooms$Group;I)LEscapeRooms$Key;"⟩
abbrev cX5_handOverKeys : ByteArray := prog_1_method_41_code
def yX5_handOverKeys : MethodName := ⟨RX5, "handOverKeys", "(LEscapeRooms$Group;LEscapeRooms$Group;)V"⟩
abbrev cX5_closedLocksOf : ByteArray := prog_1_method_42_code
def yX5_closedLocksOf : MethodName := ⟨RX5, "closedLocksOf", "(I)I"⟩
abbrev cX5_keysLeftOf : ByteArray := prog_1_method_43_code
def yX5_keysLeftOf : MethodName := ⟨RX5, "keysLeftOf", "(I)I"⟩
abbrev cX5_openLocks : ByteArray := prog_1_method_44_code
def yX5_openLocks : MethodName := ⟨RX5, "openLocks", "(Ljava/util/ArrayList;)I"⟩
abbrev cX5_spread : ByteArray := prog_1_method_45_code
def yX5_spread : MethodName := ⟨RX5, "spread", "(Ljava/util/ArrayList;II)I"⟩
abbrev cX5_findArrivals : ByteArray := prog_1_method_46_code
def yX5_findArrivals : MethodName := ⟨RX5, "findArrivals", "(LEscapeRooms$Group;)V"⟩
def RX6 : String := "EscapeRoomsModel"
def TX6 : u_T := fun k => match k with
  | _ => ("", "", "", false)
def tyX6 : Nat → FieldType := fun k => match k with
  | _ => .int
theorem nmX6 : ∀ a, a < 0 → ∀ b, b < 0 → a ≠ b → (TX6 a).2.1 ≠ (TX6 b).2.1 := by decide +kernel
theorem tyX6_ok : ∀ k, k < 0 → parseFieldDescriptor (TX6 k).2.2.1 = some (tyX6 k) := by decide +kernel
def RJx145de : String := "java/io/Serializable"
def TJx145de : u_T := fun k => match k with
  | _ => ("", "", "", false)
def tyJx145de : Nat → FieldType := fun k => match k with
  | _ => .int
theorem nmJx145de : ∀ a, a < 0 → ∀ b, b < 0 → a ≠ b → (TJx145de a).2.1 ≠ (TJx145de b).2.1 := by decide +kernel
theorem tyJx145de_ok : ∀ k, k < 0 → parseFieldDescriptor (TJx145de k).2.2.1 = some (tyJx145de k) := by decide +kernel
def RJx8e188 : String := "java/lang/Cloneable"
def TJx8e188 : u_T := fun k => match k with
  | _ => ("", "", "", false)
def tyJx8e188 : Nat → FieldType := fun k => match k with
  | _ => .int
theorem nmJx8e188 : ∀ a, a < 0 → ∀ b, b < 0 → a ≠ b → (TJx8e188 a).2.1 ≠ (TJx8e188 b).2.1 := by decide +kernel
theorem tyJx8e188_ok : ∀ k, k < 0 → parseFieldDescriptor (TJx8e188 k).2.2.1 = some (tyJx8e188 k) := by decide +kernel
def RJ6 : String := "java/lang/Integer"
def TJ6 : u_T := fun k => match k with
  | _ => ("", "", "", false)
def tyJ6 : Nat → FieldType := fun k => match k with
  | _ => .int
theorem nmJ6 : ∀ a, a < 0 → ∀ b, b < 0 → a ≠ b → (TJ6 a).2.1 ≠ (TJ6 b).2.1 := by decide +kernel
theorem tyJ6_ok : ∀ k, k < 0 → parseFieldDescriptor (TJ6 k).2.2.1 = some (tyJ6 k) := by decide +kernel
abbrev cJ6_bitCount_0f7a4 : ByteArray := prog_11_method_49_code
def yJ6_bitCount_0f7a4 : MethodName := ⟨RJ6, "bitCount", "(I)I"⟩
def RJxab1ab : String := "java/lang/Iterable"
def TJxab1ab : u_T := fun k => match k with
  | _ => ("", "", "", false)
def tyJxab1ab : Nat → FieldType := fun k => match k with
  | _ => .int
theorem nmJxab1ab : ∀ a, a < 0 → ∀ b, b < 0 → a ≠ b → (TJxab1ab a).2.1 ≠ (TJxab1ab b).2.1 := by decide +kernel
theorem tyJxab1ab_ok : ∀ k, k < 0 → parseFieldDescriptor (TJxab1ab k).2.2.1 = some (tyJxab1ab k) := by decide +kernel
def RJ9 : String := "java/lang/Math"
def TJ9 : u_T := fun k => match k with
  | _ => ("", "", "", false)
def tyJ9 : Nat → FieldType := fun k => match k with
  | _ => .int
theorem nmJ9 : ∀ a, a < 0 → ∀ b, b < 0 → a ≠ b → (TJ9 a).2.1 ≠ (TJ9 b).2.1 := by decide +kernel
theorem tyJ9_ok : ∀ k, k < 0 → parseFieldDescriptor (TJ9 k).2.2.1 = some (tyJ9 k) := by decide +kernel
abbrev cJ9_max_7cf53 : ByteArray := prog_13_method_65_code
def yJ9_max_7cf53 : MethodName := ⟨RJ9, "max", "(II)I"⟩
abbrev cJ9_min_7cf53 : ByteArray := prog_13_method_69_code
def yJ9_min_7cf53 : MethodName := ⟨RJ9, "min", "(II)I"⟩
def RJ10 : String := "java/lang/System"
def TJ10 : u_T := fun k => match k with
  | _ => ("", "", "", false)
def tyJ10 : Nat → FieldType := fun k => match k with
  | _ => .int
theorem nmJ10 : ∀ a, a < 0 → ∀ b, b < 0 → a ≠ b → (TJ10 a).2.1 ≠ (TJ10 b).2.1 := by decide +kernel
theorem tyJ10_ok : ∀ k, k < 0 → parseFieldDescriptor (TJ10 k).2.2.1 = some (tyJ10 k) := by decide +kernel
def RJxa1e45 : String := "java/util/AbstractCollection"
def TJxa1e45 : u_T := fun k => match k with
  | _ => ("", "", "", false)
def tyJxa1e45 : Nat → FieldType := fun k => match k with
  | _ => .int
theorem nmJxa1e45 : ∀ a, a < 0 → ∀ b, b < 0 → a ≠ b → (TJxa1e45 a).2.1 ≠ (TJxa1e45 b).2.1 := by decide +kernel
theorem tyJxa1e45_ok : ∀ k, k < 0 → parseFieldDescriptor (TJxa1e45 k).2.2.1 = some (tyJxa1e45 k) := by decide +kernel
abbrev cJxa1e45_init_da8c8 : ByteArray := prog_15_method_1_code
def yJxa1e45_init_da8c8 : MethodName := ⟨RJxa1e45, "<init>", "()V"⟩
def RJxc12de : String := "java/util/AbstractList"
def TJxc12de : u_T := fun k => match k with
  | _ => ("", "", "", false)
def tyJxc12de : Nat → FieldType := fun k => match k with
  | _ => .int
theorem nmJxc12de : ∀ a, a < 0 → ∀ b, b < 0 → a ≠ b → (TJxc12de a).2.1 ≠ (TJxc12de b).2.1 := by decide +kernel
theorem tyJxc12de_ok : ∀ k, k < 0 → parseFieldDescriptor (TJxc12de k).2.2.1 = some (tyJxc12de k) := by decide +kernel
abbrev cJxc12de_init_da8c8 : ByteArray := prog_16_method_1_code
def yJxc12de_init_da8c8 : MethodName := ⟨RJxc12de, "<init>", "()V"⟩
def RJx4a65c : String := "java/util/ArrayList"
def TJx4a65c : u_T := fun k => match k with
  | 0 => ("java/util/AbstractList", "modCount", "I", false)
  | 1 => ("java/util/ArrayList", "elementData", "[Ljava/lang/Object;", false)
  | _ => ("java/util/ArrayList", "size", "I", false)
def tyJx4a65c : Nat → FieldType := fun k => match k with
  | 0 => .int
  | 1 => .array (.object "java/lang/Object")
  | _ => .int
theorem nmJx4a65c : ∀ a, a < 3 → ∀ b, b < 3 → a ≠ b → (TJx4a65c a).2.1 ≠ (TJx4a65c b).2.1 := by decide +kernel
theorem tyJx4a65c_ok : ∀ k, k < 3 → parseFieldDescriptor (TJx4a65c k).2.2.1 = some (tyJx4a65c k) := by decide +kernel
abbrev cJx4a65c_init_da8c8 : ByteArray := prog_17_method_2_code
def yJx4a65c_init_da8c8 : MethodName := ⟨RJx4a65c, "<init>", "()V"⟩
abbrev cJx4a65c_grow_92f84 : ByteArray := prog_17_method_6_code
def yJx4a65c_grow_92f84 : MethodName := ⟨RJx4a65c, "grow", "(I)[Ljava/lang/Object;"⟩
abbrev cJx4a65c_grow_d5877 : ByteArray := prog_17_method_7_code
def yJx4a65c_grow_d5877 : MethodName := ⟨RJx4a65c, "grow", "()[Ljava/lang/Object;"⟩
abbrev cJx4a65c_size_8abf5 : ByteArray := prog_17_method_8_code
def yJx4a65c_size_8abf5 : MethodName := ⟨RJx4a65c, "size", "()I"⟩
abbrev cJx4a65c_elementData_915e3 : ByteArray := prog_17_method_18_code
def yJx4a65c_elementData_915e3 : MethodName := ⟨RJx4a65c, "elementData", "(I)Ljava/lang/Object;"⟩
abbrev cJx4a65c_get_915e3 : ByteArray := prog_17_method_20_code
def yJx4a65c_get_915e3 : MethodName := ⟨RJx4a65c, "get", "(I)Ljava/lang/Object;"⟩
abbrev cJx4a65c_add_72be8 : ByteArray := prog_17_method_24_code
def yJx4a65c_add_72be8 : MethodName := ⟨RJx4a65c, "add", "(Ljava/lang/Object;[Ljava/lang/Object;I)V"⟩
abbrev cJx4a65c_add_9ea2d : ByteArray := prog_17_method_25_code
def yJx4a65c_add_9ea2d : MethodName := ⟨RJx4a65c, "add", "(Ljava/lang/Object;)Z"⟩
def RJ7 : String := "java/util/Arrays"
def TJ7 : u_T := fun k => match k with
  | _ => ("", "", "", false)
def tyJ7 : Nat → FieldType := fun k => match k with
  | _ => .int
theorem nmJ7 : ∀ a, a < 0 → ∀ b, b < 0 → a ≠ b → (TJ7 a).2.1 ≠ (TJ7 b).2.1 := by decide +kernel
theorem tyJ7_ok : ∀ k, k < 0 → parseFieldDescriptor (TJ7 k).2.2.1 = some (tyJ7 k) := by decide +kernel
abbrev cJ7_copyOf_1904c : ByteArray := prog_18_method_119_code
def yJ7_copyOf_1904c : MethodName := ⟨RJ7, "copyOf", "([Ljava/lang/Object;I)[Ljava/lang/Object;"⟩
abbrev cJ7_copyOf_6403c : ByteArray := prog_18_method_120_code
def yJ7_copyOf_6403c : MethodName := ⟨RJ7, "copyOf", "([Ljava/lang/Object;ILjava/lang/Class;)[Ljava/lang/Object;"⟩
def RJx5ef63 : String := "java/util/Collection"
def TJx5ef63 : u_T := fun k => match k with
  | _ => ("", "", "", false)
def tyJx5ef63 : Nat → FieldType := fun k => match k with
  | _ => .int
theorem nmJx5ef63 : ∀ a, a < 0 → ∀ b, b < 0 → a ≠ b → (TJx5ef63 a).2.1 ≠ (TJx5ef63 b).2.1 := by decide +kernel
theorem tyJx5ef63_ok : ∀ k, k < 0 → parseFieldDescriptor (TJx5ef63 k).2.2.1 = some (tyJx5ef63 k) := by decide +kernel
def RJxbd725 : String := "java/util/List"
def TJxbd725 : u_T := fun k => match k with
  | _ => ("", "", "", false)
def tyJxbd725 : Nat → FieldType := fun k => match k with
  | _ => .int
theorem nmJxbd725 : ∀ a, a < 0 → ∀ b, b < 0 → a ≠ b → (TJxbd725 a).2.1 ≠ (TJxbd725 b).2.1 := by decide +kernel
theorem tyJxbd725_ok : ∀ k, k < 0 → parseFieldDescriptor (TJxbd725 k).2.2.1 = some (tyJxbd725 k) := by decide +kernel
def RJ15 : String := "java/util/Objects"
def TJ15 : u_T := fun k => match k with
  | _ => ("", "", "", false)
def tyJ15 : Nat → FieldType := fun k => match k with
  | _ => .int
theorem nmJ15 : ∀ a, a < 0 → ∀ b, b < 0 → a ≠ b → (TJ15 a).2.1 ≠ (TJ15 b).2.1 := by decide +kernel
theorem tyJ15_ok : ∀ k, k < 0 → parseFieldDescriptor (TJ15 k).2.2.1 = some (tyJ15 k) := by decide +kernel
abbrev cJ15_checkIndex_7cf53 : ByteArray := prog_21_method_17_code
def yJ15_checkIndex_7cf53 : MethodName := ⟨RJ15, "checkIndex", "(II)I"⟩
def RJxf0a74 : String := "java/util/RandomAccess"
def TJxf0a74 : u_T := fun k => match k with
  | _ => ("", "", "", false)
def tyJxf0a74 : Nat → FieldType := fun k => match k with
  | _ => .int
theorem nmJxf0a74 : ∀ a, a < 0 → ∀ b, b < 0 → a ≠ b → (TJxf0a74 a).2.1 ≠ (TJxf0a74 b).2.1 := by decide +kernel
theorem tyJxf0a74_ok : ∀ k, k < 0 → parseFieldDescriptor (TJxf0a74 k).2.2.1 = some (tyJxf0a74 k) := by decide +kernel
def RJxa66e6 : String := "java/util/SequencedCollection"
def TJxa66e6 : u_T := fun k => match k with
  | _ => ("", "", "", false)
def tyJxa66e6 : Nat → FieldType := fun k => match k with
  | _ => .int
theorem nmJxa66e6 : ∀ a, a < 0 → ∀ b, b < 0 → a ≠ b → (TJxa66e6 a).2.1 ≠ (TJxa66e6 b).2.1 := by decide +kernel
theorem tyJxa66e6_ok : ∀ k, k < 0 → parseFieldDescriptor (TJxa66e6 k).2.2.1 = some (tyJxa66e6 k) := by decide +kernel
def RJ8 : String := "jdk/internal/util/ArraysSupport"
def TJ8 : u_T := fun k => match k with
  | _ => ("", "", "", false)
def tyJ8 : Nat → FieldType := fun k => match k with
  | _ => .int
theorem nmJ8 : ∀ a, a < 0 → ∀ b, b < 0 → a ≠ b → (TJ8 a).2.1 ≠ (TJ8 b).2.1 := by decide +kernel
theorem tyJ8_ok : ∀ k, k < 0 → parseFieldDescriptor (TJ8 k).2.2.1 = some (tyJ8 k) := by decide +kernel
abbrev cJ8_newLength_cabcc : ByteArray := prog_24_method_27_code
def yJ8_newLength_cabcc : MethodName := ⟨RJ8, "newLength", "(III)I"⟩
abbrev cJ8_hugeLength_7cf53 : ByteArray := prog_24_method_28_code
def yJ8_hugeLength_7cf53 : MethodName := ⟨RJ8, "hugeLength", "(II)I"⟩
def RJ3 : String := "jdk/internal/util/Preconditions"
def TJ3 : u_T := fun k => match k with
  | _ => ("", "", "", false)
def tyJ3 : Nat → FieldType := fun k => match k with
  | _ => .int
theorem nmJ3 : ∀ a, a < 0 → ∀ b, b < 0 → a ≠ b → (TJ3 a).2.1 ≠ (TJ3 b).2.1 := by decide +kernel
theorem tyJ3_ok : ∀ k, k < 0 → parseFieldDescriptor (TJ3 k).2.2.1 = some (tyJ3 k) := by decide +kernel
abbrev cJ3_checkIndex_8e157 : ByteArray := prog_25_method_11_code
def yJ3_checkIndex_8e157 : MethodName := ⟨RJ3, "checkIndex", "(IILjava/util/function/BiFunction;)I"⟩
def RL : String := "EscapeRoomsLaw"
abbrev cL_cell : ByteArray := method_2_code
def yL_cell : MethodName := ⟨RL, "cell", "([II)I"⟩
abbrev cL_low : ByteArray := method_3_code
def yL_low : MethodName := ⟨RL, "low", "(II)I"⟩
abbrev cL_reach : ByteArray := method_4_code
def yL_reach : MethodName := ⟨RL, "reach", "(LEscapeRooms;II)I"⟩
abbrev cL_plans : ByteArray := method_5_code
def yL_plans : MethodName := ⟨RL, "plans", "(LEscapeRooms;I)Z"⟩
abbrev cL_ways : ByteArray := method_6_code
def yL_ways : MethodName := ⟨RL, "ways", "(LEscapeRooms;I)Z"⟩
abbrev cL_agrees : ByteArray := method_7_code
def yL_agrees : MethodName := ⟨RL, "agrees", "(LEscapeRooms;)Z"⟩
abbrev cL_walks : ByteArray := method_8_code
def yL_walks : MethodName := ⟨RL, "walks", "(LEscapeRooms;II)Z"⟩
abbrev cL_unlocks : ByteArray := method_9_code
def yL_unlocks : MethodName := ⟨RL, "unlocks", "(LEscapeRooms;II)Z"⟩
abbrev cL_keys : ByteArray := method_10_code
def yL_keys : MethodName := ⟨RL, "keys", "(LEscapeRooms;IIZ)Z"⟩
abbrev cL_parts : ByteArray := method_11_code
def yL_parts : MethodName := ⟨RL, "parts", "(LEscapeRooms;II)Z"⟩
abbrev cL_hints : ByteArray := method_12_code
def yL_hints : MethodName := ⟨RL, "hints", "(LEscapeRooms;III)Z"⟩
abbrev cL_errors : ByteArray := method_13_code
def yL_errors : MethodName := ⟨RL, "errors", "(LEscapeRooms;)Z"⟩
abbrev cL_law : ByteArray := code
def yL_law : MethodName := ⟨RL, "law", "([I)Z"⟩
abbrev vwCl : List vw_C := [(RJx4a65c, TJx4a65c, 3), (RX0, TX0, 10), (RX1, TX1, 6), (RX2, TX2, 6), (RX3, TX3, 10), (RX4, TX4, 3), (RX5, TX5, 10)]
