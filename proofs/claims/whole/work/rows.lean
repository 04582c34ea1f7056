section
-- ===== PART A: goes FIRST, ahead of the names: the tables' words, and 'selects' of the private methods out of them =====
/-- a private method of a class that the tables say can be made, by its rows of tables_1 -/
def lw_okq (q : MethodName × Nat) : Prop := (q.1.cls ≠ "java/lang/invoke/MethodHandle" ∧ q.1.cls ≠ "java/lang/invoke/VarHandle") ∧ Cond.instantiable q.1.cls q.2 ∈ tables_1 ∧ Cond.privateMethod q.1 ∈ tables_1 ∧ Cond.instanceMethod q.1 ∈ tables_1
theorem lw_p0 : lw_okq (⟨"java/util/ArrayList", "add", "(Ljava/lang/Object;[Ljava/lang/Object;I)V"⟩, 3) := ⟨⟨by decide +kernel, by decide +kernel⟩, List.mem_of_getElem? (i := 27) (by decide +kernel), List.mem_of_getElem? (i := 160) (by decide +kernel), List.mem_of_getElem? (i := 161) (by decide +kernel)⟩
theorem lw_p1 : lw_okq (⟨"java/util/ArrayList", "grow", "()[Ljava/lang/Object;"⟩, 3) := ⟨⟨by decide +kernel, by decide +kernel⟩, List.mem_of_getElem? (i := 27) (by decide +kernel), List.mem_of_getElem? (i := 164) (by decide +kernel), List.mem_of_getElem? (i := 165) (by decide +kernel)⟩
theorem lw_p2 : lw_okq (⟨"java/util/ArrayList", "grow", "(I)[Ljava/lang/Object;"⟩, 3) := ⟨⟨by decide +kernel, by decide +kernel⟩, List.mem_of_getElem? (i := 27) (by decide +kernel), List.mem_of_getElem? (i := 168) (by decide +kernel), List.mem_of_getElem? (i := 169) (by decide +kernel)⟩
theorem lw_p3 : lw_okq (⟨"EscapeRooms", "isRoom", "(I)Z"⟩, 10) := ⟨⟨by decide +kernel, by decide +kernel⟩, List.mem_of_getElem? (i := 19) (by decide +kernel), List.mem_of_getElem? (i := 215) (by decide +kernel), List.mem_of_getElem? (i := 216) (by decide +kernel)⟩
theorem lw_p4 : lw_okq (⟨"EscapeRooms", "exitNumber", "()I"⟩, 10) := ⟨⟨by decide +kernel, by decide +kernel⟩, List.mem_of_getElem? (i := 19) (by decide +kernel), List.mem_of_getElem? (i := 219) (by decide +kernel), List.mem_of_getElem? (i := 220) (by decide +kernel)⟩
theorem lw_p5 : lw_okq (⟨"EscapeRooms", "lowerRoom", "(II)LEscapeRooms$Room;"⟩, 10) := ⟨⟨by decide +kernel, by decide +kernel⟩, List.mem_of_getElem? (i := 19) (by decide +kernel), List.mem_of_getElem? (i := 246) (by decide +kernel), List.mem_of_getElem? (i := 247) (by decide +kernel)⟩
theorem lw_p6 : lw_okq (⟨"EscapeRooms", "higherRoom", "(II)LEscapeRooms$Room;"⟩, 10) := ⟨⟨by decide +kernel, by decide +kernel⟩, List.mem_of_getElem? (i := 19) (by decide +kernel), List.mem_of_getElem? (i := 251) (by decide +kernel), List.mem_of_getElem? (i := 252) (by decide +kernel)⟩
theorem lw_p7 : lw_okq (⟨"EscapeRooms", "playersThat", "(I)I"⟩, 10) := ⟨⟨by decide +kernel, by decide +kernel⟩, List.mem_of_getElem? (i := 19) (by decide +kernel), List.mem_of_getElem? (i := 357) (by decide +kernel), List.mem_of_getElem? (i := 358) (by decide +kernel)⟩
theorem lw_p8 : lw_okq (⟨"EscapeRooms", "isGroup", "(I)Z"⟩, 10) := ⟨⟨by decide +kernel, by decide +kernel⟩, List.mem_of_getElem? (i := 19) (by decide +kernel), List.mem_of_getElem? (i := 400) (by decide +kernel), List.mem_of_getElem? (i := 401) (by decide +kernel)⟩
theorem lw_p9 : lw_okq (⟨"EscapeRooms", "isDoor", "(I)Z"⟩, 10) := ⟨⟨by decide +kernel, by decide +kernel⟩, List.mem_of_getElem? (i := 19) (by decide +kernel), List.mem_of_getElem? (i := 404) (by decide +kernel), List.mem_of_getElem? (i := 405) (by decide +kernel)⟩
theorem lw_p10 : lw_okq (⟨"EscapeRooms", "lowestHeldKey", "(LEscapeRooms$Group;I)LEscapeRooms$Key;"⟩, 10) := ⟨⟨by decide +kernel, by decide +kernel⟩, List.mem_of_getElem? (i := 19) (by decide +kernel), List.mem_of_getElem? (i := 430) (by decide +kernel), List.mem_of_getElem? (i := 431) (by decide +kernel)⟩
theorem lw_p11 : lw_okq (⟨"EscapeRooms", "isKey", "(I)Z"⟩, 10) := ⟨⟨by decide +kernel, by decide +kernel⟩, List.mem_of_getElem? (i := 19) (by decide +kernel), List.mem_of_getElem? (i := 446) (by decide +kernel), List.mem_of_getElem? (i := 447) (by decide +kernel)⟩
theorem lw_p12 : lw_okq (⟨"EscapeRooms", "keysHeldBy", "(LEscapeRooms$Group;)I"⟩, 10) := ⟨⟨by decide +kernel, by decide +kernel⟩, List.mem_of_getElem? (i := 19) (by decide +kernel), List.mem_of_getElem? (i := 454) (by decide +kernel), List.mem_of_getElem? (i := 455) (by decide +kernel)⟩
theorem lw_p13 : lw_okq (⟨"EscapeRooms", "handOverKeys", "(LEscapeRooms$Group;LEscapeRooms$Group;)V"⟩, 10) := ⟨⟨by decide +kernel, by decide +kernel⟩, List.mem_of_getElem? (i := 19) (by decide +kernel), List.mem_of_getElem? (i := 478) (by decide +kernel), List.mem_of_getElem? (i := 479) (by decide +kernel)⟩
theorem lw_p14 : lw_okq (⟨"EscapeRooms$PlanSearch", "comeTo", "(IIJ)V"⟩, 10) := ⟨⟨by decide +kernel, by decide +kernel⟩, List.mem_of_getElem? (i := 53) (by decide +kernel), List.mem_of_getElem? (i := 498) (by decide +kernel), List.mem_of_getElem? (i := 499) (by decide +kernel)⟩
theorem lw_p15 : lw_okq (⟨"EscapeRooms$PlanSearch", "keepIfBetter", "(IJ)V"⟩, 10) := ⟨⟨by decide +kernel, by decide +kernel⟩, List.mem_of_getElem? (i := 53) (by decide +kernel), List.mem_of_getElem? (i := 513) (by decide +kernel), List.mem_of_getElem? (i := 514) (by decide +kernel)⟩
def lw_privs_1 : List (MethodName × Nat) := [(⟨"java/util/ArrayList", "add", "(Ljava/lang/Object;[Ljava/lang/Object;I)V"⟩, 3), (⟨"java/util/ArrayList", "grow", "()[Ljava/lang/Object;"⟩, 3), (⟨"java/util/ArrayList", "grow", "(I)[Ljava/lang/Object;"⟩, 3), (⟨"EscapeRooms", "isRoom", "(I)Z"⟩, 10), (⟨"EscapeRooms", "exitNumber", "()I"⟩, 10), (⟨"EscapeRooms", "lowerRoom", "(II)LEscapeRooms$Room;"⟩, 10), (⟨"EscapeRooms", "higherRoom", "(II)LEscapeRooms$Room;"⟩, 10), (⟨"EscapeRooms", "playersThat", "(I)I"⟩, 10), (⟨"EscapeRooms", "isGroup", "(I)Z"⟩, 10), (⟨"EscapeRooms", "isDoor", "(I)Z"⟩, 10), (⟨"EscapeRooms", "lowestHeldKey", "(LEscapeRooms$Group;I)LEscapeRooms$Key;"⟩, 10), (⟨"EscapeRooms", "isKey", "(I)Z"⟩, 10), (⟨"EscapeRooms", "keysHeldBy", "(LEscapeRooms$Group;)I"⟩, 10), (⟨"EscapeRooms", "handOverKeys", "(LEscapeRooms$Group;LEscapeRooms$Group;)V"⟩, 10), (⟨"EscapeRooms$PlanSearch", "comeTo", "(IIJ)V"⟩, 10), (⟨"EscapeRooms$PlanSearch", "keepIfBetter", "(IJ)V"⟩, 10)]
theorem lw_r1 : ∀ q ∈ lw_privs_1, lw_okq q := List.forall_mem_cons.mpr ⟨lw_p0, List.forall_mem_cons.mpr ⟨lw_p1, List.forall_mem_cons.mpr ⟨lw_p2, List.forall_mem_cons.mpr ⟨lw_p3, List.forall_mem_cons.mpr ⟨lw_p4, List.forall_mem_cons.mpr ⟨lw_p5, List.forall_mem_cons.mpr ⟨lw_p6, List.forall_mem_cons.mpr ⟨lw_p7, List.forall_mem_cons.mpr ⟨lw_p8, List.forall_mem_cons.mpr ⟨lw_p9, List.forall_mem_cons.mpr ⟨lw_p10, List.forall_mem_cons.mpr ⟨lw_p11, List.forall_mem_cons.mpr ⟨lw_p12, List.forall_mem_cons.mpr ⟨lw_p13, List.forall_mem_cons.mpr ⟨lw_p14, List.forall_mem_cons.mpr ⟨lw_p15, fun _ h => absurd h List.not_mem_nil⟩⟩⟩⟩⟩⟩⟩⟩⟩⟩⟩⟩⟩⟩⟩⟩
theorem lw_p16 : lw_okq (⟨"EscapeRooms$PlanSearch", "costOf", "(I)I"⟩, 10) := ⟨⟨by decide +kernel, by decide +kernel⟩, List.mem_of_getElem? (i := 53) (by decide +kernel), List.mem_of_getElem? (i := 517) (by decide +kernel), List.mem_of_getElem? (i := 518) (by decide +kernel)⟩
theorem lw_p17 : lw_okq (⟨"EscapeRooms$PlanSearch", "isOpenedByPlan", "(LEscapeRooms$Door;I)Z"⟩, 10) := ⟨⟨by decide +kernel, by decide +kernel⟩, List.mem_of_getElem? (i := 53) (by decide +kernel), List.mem_of_getElem? (i := 524) (by decide +kernel), List.mem_of_getElem? (i := 525) (by decide +kernel)⟩
theorem lw_p18 : lw_okq (⟨"EscapeRooms$PlanSearch", "isBetter", "(IIJ)Z"⟩, 10) := ⟨⟨by decide +kernel, by decide +kernel⟩, List.mem_of_getElem? (i := 53) (by decide +kernel), List.mem_of_getElem? (i := 534) (by decide +kernel), List.mem_of_getElem? (i := 535) (by decide +kernel)⟩
theorem lw_p19 : lw_okq (⟨"EscapeRooms$PlanSearch", "goOnFrom", "(IIJ)V"⟩, 10) := ⟨⟨by decide +kernel, by decide +kernel⟩, List.mem_of_getElem? (i := 53) (by decide +kernel), List.mem_of_getElem? (i := 538) (by decide +kernel), List.mem_of_getElem? (i := 539) (by decide +kernel)⟩
theorem lw_p20 : lw_okq (⟨"EscapeRooms$PlanSearch", "keysLeft", "(II)I"⟩, 10) := ⟨⟨by decide +kernel, by decide +kernel⟩, List.mem_of_getElem? (i := 53) (by decide +kernel), List.mem_of_getElem? (i := 542) (by decide +kernel), List.mem_of_getElem? (i := 543) (by decide +kernel)⟩
theorem lw_p21 : lw_okq (⟨"EscapeRooms", "findArrivals", "(LEscapeRooms$Group;)V"⟩, 10) := ⟨⟨by decide +kernel, by decide +kernel⟩, List.mem_of_getElem? (i := 19) (by decide +kernel), List.mem_of_getElem? (i := 572) (by decide +kernel), List.mem_of_getElem? (i := 573) (by decide +kernel)⟩
theorem lw_p22 : lw_okq (⟨"EscapeRooms", "closedLocksOf", "(I)I"⟩, 10) := ⟨⟨by decide +kernel, by decide +kernel⟩, List.mem_of_getElem? (i := 19) (by decide +kernel), List.mem_of_getElem? (i := 609) (by decide +kernel), List.mem_of_getElem? (i := 610) (by decide +kernel)⟩
theorem lw_p23 : lw_okq (⟨"EscapeRooms", "keysLeftOf", "(I)I"⟩, 10) := ⟨⟨by decide +kernel, by decide +kernel⟩, List.mem_of_getElem? (i := 19) (by decide +kernel), List.mem_of_getElem? (i := 613) (by decide +kernel), List.mem_of_getElem? (i := 614) (by decide +kernel)⟩
theorem lw_p24 : lw_okq (⟨"EscapeRooms", "latestEscape", "()I"⟩, 10) := ⟨⟨by decide +kernel, by decide +kernel⟩, List.mem_of_getElem? (i := 19) (by decide +kernel), List.mem_of_getElem? (i := 622) (by decide +kernel), List.mem_of_getElem? (i := 623) (by decide +kernel)⟩
theorem lw_p25 : lw_okq (⟨"EscapeRooms", "groupsInDeadEnd", "()I"⟩, 10) := ⟨⟨by decide +kernel, by decide +kernel⟩, List.mem_of_getElem? (i := 19) (by decide +kernel), List.mem_of_getElem? (i := 626) (by decide +kernel), List.mem_of_getElem? (i := 627) (by decide +kernel)⟩
theorem lw_p26 : lw_okq (⟨"EscapeRoomsModel", "noRoom", "(I)Z"⟩, 32) := ⟨⟨by decide +kernel, by decide +kernel⟩, List.mem_of_getElem? (i := 630) (by decide +kernel), List.mem_of_getElem? (i := 742) (by decide +kernel), List.mem_of_getElem? (i := 743) (by decide +kernel)⟩
theorem lw_p27 : lw_okq (⟨"EscapeRoomsModel", "putDoor", "(IIIII)I"⟩, 32) := ⟨⟨by decide +kernel, by decide +kernel⟩, List.mem_of_getElem? (i := 630) (by decide +kernel), List.mem_of_getElem? (i := 753) (by decide +kernel), List.mem_of_getElem? (i := 754) (by decide +kernel)⟩
theorem lw_p28 : lw_okq (⟨"EscapeRoomsModel", "locks", "()I"⟩, 32) := ⟨⟨by decide +kernel, by decide +kernel⟩, List.mem_of_getElem? (i := 630) (by decide +kernel), List.mem_of_getElem? (i := 761) (by decide +kernel), List.mem_of_getElem? (i := 762) (by decide +kernel)⟩
theorem lw_p29 : lw_okq (⟨"EscapeRoomsModel", "players", "()I"⟩, 32) := ⟨⟨by decide +kernel, by decide +kernel⟩, List.mem_of_getElem? (i := 630) (by decide +kernel), List.mem_of_getElem? (i := 773) (by decide +kernel), List.mem_of_getElem? (i := 774) (by decide +kernel)⟩
theorem lw_p30 : lw_okq (⟨"EscapeRoomsModel", "putGroup", "(III)I"⟩, 32) := ⟨⟨by decide +kernel, by decide +kernel⟩, List.mem_of_getElem? (i := 630) (by decide +kernel), List.mem_of_getElem? (i := 777) (by decide +kernel), List.mem_of_getElem? (i := 778) (by decide +kernel)⟩
theorem lw_p31 : lw_okq (⟨"EscapeRoomsModel", "noGroup", "(I)Z"⟩, 32) := ⟨⟨by decide +kernel, by decide +kernel⟩, List.mem_of_getElem? (i := 630) (by decide +kernel), List.mem_of_getElem? (i := 789) (by decide +kernel), List.mem_of_getElem? (i := 790) (by decide +kernel)⟩
def lw_privs_2 : List (MethodName × Nat) := [(⟨"EscapeRooms$PlanSearch", "costOf", "(I)I"⟩, 10), (⟨"EscapeRooms$PlanSearch", "isOpenedByPlan", "(LEscapeRooms$Door;I)Z"⟩, 10), (⟨"EscapeRooms$PlanSearch", "isBetter", "(IIJ)Z"⟩, 10), (⟨"EscapeRooms$PlanSearch", "goOnFrom", "(IIJ)V"⟩, 10), (⟨"EscapeRooms$PlanSearch", "keysLeft", "(II)I"⟩, 10), (⟨"EscapeRooms", "findArrivals", "(LEscapeRooms$Group;)V"⟩, 10), (⟨"EscapeRooms", "closedLocksOf", "(I)I"⟩, 10), (⟨"EscapeRooms", "keysLeftOf", "(I)I"⟩, 10), (⟨"EscapeRooms", "latestEscape", "()I"⟩, 10), (⟨"EscapeRooms", "groupsInDeadEnd", "()I"⟩, 10), (⟨"EscapeRoomsModel", "noRoom", "(I)Z"⟩, 32), (⟨"EscapeRoomsModel", "putDoor", "(IIIII)I"⟩, 32), (⟨"EscapeRoomsModel", "locks", "()I"⟩, 32), (⟨"EscapeRoomsModel", "players", "()I"⟩, 32), (⟨"EscapeRoomsModel", "putGroup", "(III)I"⟩, 32), (⟨"EscapeRoomsModel", "noGroup", "(I)Z"⟩, 32)]
theorem lw_r2 : ∀ q ∈ lw_privs_2, lw_okq q := List.forall_mem_cons.mpr ⟨lw_p16, List.forall_mem_cons.mpr ⟨lw_p17, List.forall_mem_cons.mpr ⟨lw_p18, List.forall_mem_cons.mpr ⟨lw_p19, List.forall_mem_cons.mpr ⟨lw_p20, List.forall_mem_cons.mpr ⟨lw_p21, List.forall_mem_cons.mpr ⟨lw_p22, List.forall_mem_cons.mpr ⟨lw_p23, List.forall_mem_cons.mpr ⟨lw_p24, List.forall_mem_cons.mpr ⟨lw_p25, List.forall_mem_cons.mpr ⟨lw_p26, List.forall_mem_cons.mpr ⟨lw_p27, List.forall_mem_cons.mpr ⟨lw_p28, List.forall_mem_cons.mpr ⟨lw_p29, List.forall_mem_cons.mpr ⟨lw_p30, List.forall_mem_cons.mpr ⟨lw_p31, fun _ h => absurd h List.not_mem_nil⟩⟩⟩⟩⟩⟩⟩⟩⟩⟩⟩⟩⟩⟩⟩⟩
theorem lw_p32 : lw_okq (⟨"EscapeRoomsModel", "noDoor", "(I)Z"⟩, 32) := ⟨⟨by decide +kernel, by decide +kernel⟩, List.mem_of_getElem? (i := 630) (by decide +kernel), List.mem_of_getElem? (i := 793) (by decide +kernel), List.mem_of_getElem? (i := 794) (by decide +kernel)⟩
theorem lw_p33 : lw_okq (⟨"EscapeRoomsModel", "plays", "(I)Z"⟩, 32) := ⟨⟨by decide +kernel, by decide +kernel⟩, List.mem_of_getElem? (i := 630) (by decide +kernel), List.mem_of_getElem? (i := 797) (by decide +kernel), List.mem_of_getElem? (i := 798) (by decide +kernel)⟩
theorem lw_p34 : lw_okq (⟨"EscapeRoomsModel", "isAt", "(II)Z"⟩, 32) := ⟨⟨by decide +kernel, by decide +kernel⟩, List.mem_of_getElem? (i := 630) (by decide +kernel), List.mem_of_getElem? (i := 801) (by decide +kernel), List.mem_of_getElem? (i := 802) (by decide +kernel)⟩
theorem lw_p35 : lw_okq (⟨"EscapeRoomsModel", "keyFor", "(II)I"⟩, 32) := ⟨⟨by decide +kernel, by decide +kernel⟩, List.mem_of_getElem? (i := 630) (by decide +kernel), List.mem_of_getElem? (i := 810) (by decide +kernel), List.mem_of_getElem? (i := 811) (by decide +kernel)⟩
theorem lw_p36 : lw_okq (⟨"EscapeRoomsModel", "holds", "(II)Z"⟩, 32) := ⟨⟨by decide +kernel, by decide +kernel⟩, List.mem_of_getElem? (i := 630) (by decide +kernel), List.mem_of_getElem? (i := 814) (by decide +kernel), List.mem_of_getElem? (i := 815) (by decide +kernel)⟩
theorem lw_p37 : lw_okq (⟨"EscapeRoomsModel", "noKey", "(I)Z"⟩, 32) := ⟨⟨by decide +kernel, by decide +kernel⟩, List.mem_of_getElem? (i := 630) (by decide +kernel), List.mem_of_getElem? (i := 822) (by decide +kernel), List.mem_of_getElem? (i := 823) (by decide +kernel)⟩
theorem lw_p38 : lw_okq (⟨"EscapeRoomsModel", "held", "(I)I"⟩, 32) := ⟨⟨by decide +kernel, by decide +kernel⟩, List.mem_of_getElem? (i := 630) (by decide +kernel), List.mem_of_getElem? (i := 826) (by decide +kernel), List.mem_of_getElem? (i := 827) (by decide +kernel)⟩
theorem lw_p39 : lw_okq (⟨"EscapeRoomsModel", "findPlan", "(I)V"⟩, 32) := ⟨⟨by decide +kernel, by decide +kernel⟩, List.mem_of_getElem? (i := 630) (by decide +kernel), List.mem_of_getElem? (i := 854) (by decide +kernel), List.mem_of_getElem? (i := 855) (by decide +kernel)⟩
theorem lw_p40 : lw_okq (⟨"EscapeRoomsModel", "layLocks", "()V"⟩, 32) := ⟨⟨by decide +kernel, by decide +kernel⟩, List.mem_of_getElem? (i := 630) (by decide +kernel), List.mem_of_getElem? (i := 858) (by decide +kernel), List.mem_of_getElem? (i := 859) (by decide +kernel)⟩
theorem lw_p41 : lw_okq (⟨"EscapeRoomsModel", "reachable", "(II)I"⟩, 32) := ⟨⟨by decide +kernel, by decide +kernel⟩, List.mem_of_getElem? (i := 630) (by decide +kernel), List.mem_of_getElem? (i := 865) (by decide +kernel), List.mem_of_getElem? (i := 866) (by decide +kernel)⟩
theorem lw_p42 : lw_okq (⟨"EscapeRoomsModel", "canAdd", "(III)Z"⟩, 32) := ⟨⟨by decide +kernel, by decide +kernel⟩, List.mem_of_getElem? (i := 630) (by decide +kernel), List.mem_of_getElem? (i := 869) (by decide +kernel), List.mem_of_getElem? (i := 870) (by decide +kernel)⟩
theorem lw_p43 : lw_okq (⟨"EscapeRoomsModel", "costOf", "(I)I"⟩, 32) := ⟨⟨by decide +kernel, by decide +kernel⟩, List.mem_of_getElem? (i := 630) (by decide +kernel), List.mem_of_getElem? (i := 873) (by decide +kernel), List.mem_of_getElem? (i := 874) (by decide +kernel)⟩
theorem lw_p44 : lw_okq (⟨"EscapeRoomsModel", "sizeOfSet", "(I)I"⟩, 32) := ⟨⟨by decide +kernel, by decide +kernel⟩, List.mem_of_getElem? (i := 630) (by decide +kernel), List.mem_of_getElem? (i := 877) (by decide +kernel), List.mem_of_getElem? (i := 878) (by decide +kernel)⟩
theorem lw_p45 : lw_okq (⟨"EscapeRoomsModel", "escapes", "(I)Z"⟩, 32) := ⟨⟨by decide +kernel, by decide +kernel⟩, List.mem_of_getElem? (i := 630) (by decide +kernel), List.mem_of_getElem? (i := 881) (by decide +kernel), List.mem_of_getElem? (i := 882) (by decide +kernel)⟩
theorem lw_p46 : lw_okq (⟨"EscapeRoomsModel", "findDoors", "(II)V"⟩, 32) := ⟨⟨by decide +kernel, by decide +kernel⟩, List.mem_of_getElem? (i := 630) (by decide +kernel), List.mem_of_getElem? (i := 885) (by decide +kernel), List.mem_of_getElem? (i := 886) (by decide +kernel)⟩
theorem lw_p47 : lw_okq (⟨"EscapeRoomsModel", "passes", "(III)Z"⟩, 32) := ⟨⟨by decide +kernel, by decide +kernel⟩, List.mem_of_getElem? (i := 630) (by decide +kernel), List.mem_of_getElem? (i := 902) (by decide +kernel), List.mem_of_getElem? (i := 903) (by decide +kernel)⟩
def lw_privs_3 : List (MethodName × Nat) := [(⟨"EscapeRoomsModel", "noDoor", "(I)Z"⟩, 32), (⟨"EscapeRoomsModel", "plays", "(I)Z"⟩, 32), (⟨"EscapeRoomsModel", "isAt", "(II)Z"⟩, 32), (⟨"EscapeRoomsModel", "keyFor", "(II)I"⟩, 32), (⟨"EscapeRoomsModel", "holds", "(II)Z"⟩, 32), (⟨"EscapeRoomsModel", "noKey", "(I)Z"⟩, 32), (⟨"EscapeRoomsModel", "held", "(I)I"⟩, 32), (⟨"EscapeRoomsModel", "findPlan", "(I)V"⟩, 32), (⟨"EscapeRoomsModel", "layLocks", "()V"⟩, 32), (⟨"EscapeRoomsModel", "reachable", "(II)I"⟩, 32), (⟨"EscapeRoomsModel", "canAdd", "(III)Z"⟩, 32), (⟨"EscapeRoomsModel", "costOf", "(I)I"⟩, 32), (⟨"EscapeRoomsModel", "sizeOfSet", "(I)I"⟩, 32), (⟨"EscapeRoomsModel", "escapes", "(I)Z"⟩, 32), (⟨"EscapeRoomsModel", "findDoors", "(II)V"⟩, 32), (⟨"EscapeRoomsModel", "passes", "(III)Z"⟩, 32)]
theorem lw_r3 : ∀ q ∈ lw_privs_3, lw_okq q := List.forall_mem_cons.mpr ⟨lw_p32, List.forall_mem_cons.mpr ⟨lw_p33, List.forall_mem_cons.mpr ⟨lw_p34, List.forall_mem_cons.mpr ⟨lw_p35, List.forall_mem_cons.mpr ⟨lw_p36, List.forall_mem_cons.mpr ⟨lw_p37, List.forall_mem_cons.mpr ⟨lw_p38, List.forall_mem_cons.mpr ⟨lw_p39, List.forall_mem_cons.mpr ⟨lw_p40, List.forall_mem_cons.mpr ⟨lw_p41, List.forall_mem_cons.mpr ⟨lw_p42, List.forall_mem_cons.mpr ⟨lw_p43, List.forall_mem_cons.mpr ⟨lw_p44, List.forall_mem_cons.mpr ⟨lw_p45, List.forall_mem_cons.mpr ⟨lw_p46, List.forall_mem_cons.mpr ⟨lw_p47, fun _ h => absurd h List.not_mem_nil⟩⟩⟩⟩⟩⟩⟩⟩⟩⟩⟩⟩⟩⟩⟩⟩
theorem lw_p48 : lw_okq (⟨"EscapeRoomsModel", "unlocked", "()I"⟩, 32) := ⟨⟨by decide +kernel, by decide +kernel⟩, List.mem_of_getElem? (i := 630) (by decide +kernel), List.mem_of_getElem? (i := 930) (by decide +kernel), List.mem_of_getElem? (i := 931) (by decide +kernel)⟩
theorem lw_p49 : lw_okq (⟨"EscapeRoomsModel", "sizes", "(I)I"⟩, 32) := ⟨⟨by decide +kernel, by decide +kernel⟩, List.mem_of_getElem? (i := 630) (by decide +kernel), List.mem_of_getElem? (i := 934) (by decide +kernel), List.mem_of_getElem? (i := 935) (by decide +kernel)⟩
theorem lw_p50 : lw_okq (⟨"EscapeRoomsModel", "latest", "()I"⟩, 32) := ⟨⟨by decide +kernel, by decide +kernel⟩, List.mem_of_getElem? (i := 630) (by decide +kernel), List.mem_of_getElem? (i := 938) (by decide +kernel), List.mem_of_getElem? (i := 939) (by decide +kernel)⟩
theorem lw_p51 : lw_okq (⟨"EscapeRoomsModel", "hints", "()I"⟩, 32) := ⟨⟨by decide +kernel, by decide +kernel⟩, List.mem_of_getElem? (i := 630) (by decide +kernel), List.mem_of_getElem? (i := 942) (by decide +kernel), List.mem_of_getElem? (i := 943) (by decide +kernel)⟩
theorem lw_p52 : lw_okq (⟨"EscapeRoomsModel", "deadEnds", "()I"⟩, 32) := ⟨⟨by decide +kernel, by decide +kernel⟩, List.mem_of_getElem? (i := 630) (by decide +kernel), List.mem_of_getElem? (i := 946) (by decide +kernel), List.mem_of_getElem? (i := 947) (by decide +kernel)⟩
def lw_privs_4 : List (MethodName × Nat) := [(⟨"EscapeRoomsModel", "unlocked", "()I"⟩, 32), (⟨"EscapeRoomsModel", "sizes", "(I)I"⟩, 32), (⟨"EscapeRoomsModel", "latest", "()I"⟩, 32), (⟨"EscapeRoomsModel", "hints", "()I"⟩, 32), (⟨"EscapeRoomsModel", "deadEnds", "()I"⟩, 32)]
theorem lw_r4 : ∀ q ∈ lw_privs_4, lw_okq q := List.forall_mem_cons.mpr ⟨lw_p48, List.forall_mem_cons.mpr ⟨lw_p49, List.forall_mem_cons.mpr ⟨lw_p50, List.forall_mem_cons.mpr ⟨lw_p51, List.forall_mem_cons.mpr ⟨lw_p52, fun _ h => absurd h List.not_mem_nil⟩⟩⟩⟩⟩
def lw_privs : List (MethodName × Nat) := lw_privs_1 ++ (lw_privs_2 ++ (lw_privs_3 ++ (lw_privs_4)))
def lw_tbl : List Cond := k2_sels lw_privs ++ tables_1
theorem lw_privs_ok : ∀ q ∈ lw_privs, lw_okq q := by
  show ∀ q ∈ lw_privs_1 ++ (lw_privs_2 ++ (lw_privs_3 ++ (lw_privs_4))), lw_okq q
  exact List.forall_mem_append.mpr ⟨lw_r1, List.forall_mem_append.mpr ⟨lw_r2, List.forall_mem_append.mpr ⟨lw_r3, lw_r4⟩⟩⟩
/-! ===== BEGIN words of one list among another's, by their places ===== -/
/-! ===== END ===== -/

/-! ===== BEGIN printed: names, fields, word lists, decode rows ===== -/
def RX0 : String := "EscapeRooms$Door"
def TX0 : u_T := fun k => match k with
  | 0 => ("EscapeRooms$Door", "number", "I", true)
  | 1 => ("EscapeRooms$Door", "low", "LEscapeRooms$Room;", true)
  | 2 => ("EscapeRooms$Door", "high", "LEscapeRooms$Room;", true)
  | 3 => ("EscapeRooms$Door", "walkTime", "I", true)
  | 4 => ("EscapeRooms$Door", "roomBits", "I", true)
  | 5 => ("EscapeRooms$Door", "color", "I", false)
  | 6 => ("EscapeRooms$Door", "unlockTime", "I", false)
  | 7 => ("EscapeRooms$Door", "lockBit", "I", false)
  | 8 => ("EscapeRooms$Door", "isOpen", "Z", false)
  | _ => ("EscapeRooms$Door", "openTime", "I", false)
def tyX0 : Nat → FieldType := fun k => match k with
  | 0 => .int
  | 1 => .object "EscapeRooms$Room"
  | 2 => .object "EscapeRooms$Room"
  | 3 => .int
  | 4 => .int
  | 5 => .int
  | 6 => .int
  | 7 => .int
  | 8 => .boolean
  | _ => .int
theorem nmX0 : ∀ a, a < 10 → ∀ b, b < 10 → a ≠ b → (TX0 a).2.1 ≠ (TX0 b).2.1 := by decide +kernel
theorem tyX0_ok : ∀ k, k < 10 → parseFieldDescriptor (TX0 k).2.2.1 = some (tyX0 k) := by decide +kernel
abbrev cX0_init : ByteArray := prog_2_method_1_code
def yX0_init : MethodName := ⟨RX0, "<init>", "(ILEscapeRooms$Room;LEscapeRooms$Room;I)V"⟩
abbrev cX0_putLock : ByteArray := prog_2_method_2_code
def yX0_putLock : MethodName := ⟨RX0, "putLock", "(III)V"⟩
abbrev cX0_openFrom : ByteArray := prog_2_method_3_code
def yX0_openFrom : MethodName := ⟨RX0, "openFrom", "(I)V"⟩
abbrev cX0_isAt : ByteArray := prog_2_method_4_code
def yX0_isAt : MethodName := ⟨RX0, "isAt", "(LEscapeRooms$Room;)Z"⟩
abbrev cX0_otherRoom : ByteArray := prog_2_method_5_code
def yX0_otherRoom : MethodName := ⟨RX0, "otherRoom", "(LEscapeRooms$Room;)LEscapeRooms$Room;"⟩
abbrev cX0_timeBehind : ByteArray := prog_2_method_6_code
def yX0_timeBehind : MethodName := ⟨RX0, "timeBehind", "(I)I"⟩
abbrev cX0_isPassable : ByteArray := prog_2_method_7_code
def yX0_isPassable : MethodName := ⟨RX0, "isPassable", "(I)Z"⟩
abbrev cX0_leadsOutOf : ByteArray := prog_2_method_8_code
def yX0_leadsOutOf : MethodName := ⟨RX0, "leadsOutOf", "(I)Z"⟩
abbrev cX0_speedsUp : ByteArray := prog_2_method_9_code
def yX0_speedsUp : MethodName := ⟨RX0, "speedsUp", "(LEscapeRooms$Room;LEscapeRooms$Room;)Z"⟩
def RX1 : String := "EscapeRooms$Group"
def TX1 : u_T := fun k => match k with
  | 0 => ("EscapeRooms$Group", "number", "I", true)
  | 1 => ("EscapeRooms$Group", "size", "I", false)
  | 2 => ("EscapeRooms$Group", "room", "LEscapeRooms$Room;", false)
  | 3 => ("EscapeRooms$Group", "time", "I", false)
  | 4 => ("EscapeRooms$Group", "hints", "I", false)
  | _ => ("EscapeRooms$Group", "state", "I", false)
def tyX1 : Nat → FieldType := fun k => match k with
  | 0 => .int
  | 1 => .int
  | 2 => .object "EscapeRooms$Room"
  | 3 => .int
  | 4 => .int
  | _ => .int
theorem nmX1 : ∀ a, a < 6 → ∀ b, b < 6 → a ≠ b → (TX1 a).2.1 ≠ (TX1 b).2.1 := by decide +kernel
theorem tyX1_ok : ∀ k, k < 6 → parseFieldDescriptor (TX1 k).2.2.1 = some (tyX1 k) := by decide +kernel
abbrev cX1_init : ByteArray := prog_3_method_1_code
def yX1_init : MethodName := ⟨RX1, "<init>", "(IILEscapeRooms$Room;I)V"⟩
abbrev cX1_isInPlay : ByteArray := prog_3_method_2_code
def yX1_isInPlay : MethodName := ⟨RX1, "isInPlay", "()Z"⟩
def RX2 : String := "EscapeRooms$Key"
def TX2 : u_T := fun k => match k with
  | 0 => ("EscapeRooms$Key", "number", "I", true)
  | 1 => ("EscapeRooms$Key", "color", "I", true)
  | 2 => ("EscapeRooms$Key", "room", "LEscapeRooms$Room;", false)
  | 3 => ("EscapeRooms$Key", "liesFrom", "I", false)
  | 4 => ("EscapeRooms$Key", "holder", "LEscapeRooms$Group;", false)
  | _ => ("EscapeRooms$Key", "unlocked", "LEscapeRooms$Door;", false)
def tyX2 : Nat → FieldType := fun k => match k with
  | 0 => .int
  | 1 => .int
  | 2 => .object "EscapeRooms$Room"
  | 3 => .int
  | 4 => .object "EscapeRooms$Group"
  | _ => .object "EscapeRooms$Door"
theorem nmX2 : ∀ a, a < 6 → ∀ b, b < 6 → a ≠ b → (TX2 a).2.1 ≠ (TX2 b).2.1 := by decide +kernel
theorem tyX2_ok : ∀ k, k < 6 → parseFieldDescriptor (TX2 k).2.2.1 = some (tyX2 k) := by decide +kernel
abbrev cX2_init : ByteArray := prog_4_method_1_code
def yX2_init : MethodName := ⟨RX2, "<init>", "(IILEscapeRooms$Room;)V"⟩
abbrev cX2_state : ByteArray := prog_4_method_2_code
def yX2_state : MethodName := ⟨RX2, "state", "()I"⟩
abbrev cX2_layDown : ByteArray := prog_4_method_3_code
def yX2_layDown : MethodName := ⟨RX2, "layDown", "(LEscapeRooms$Room;I)V"⟩
abbrev cX2_giveTo : ByteArray := prog_4_method_4_code
def yX2_giveTo : MethodName := ⟨RX2, "giveTo", "(LEscapeRooms$Group;)V"⟩
abbrev cX2_useUp : ByteArray := prog_4_method_5_code
def yX2_useUp : MethodName := ⟨RX2, "useUp", "(LEscapeRooms$Door;)V"⟩
abbrev cX2_isWithin : ByteArray := prog_4_method_6_code
def yX2_isWithin : MethodName := ⟨RX2, "isWithin", "(LEscapeRooms$Group;I)Z"⟩
def RX3 : String := "EscapeRooms$PlanSearch"
def TX3 : u_T := fun k => match k with
  | 0 => ("EscapeRooms$PlanSearch", "reached", "[I", true)
  | 1 => ("EscapeRooms$PlanSearch", "sequences", "[J", true)
  | 2 => ("EscapeRooms$PlanSearch", "group", "LEscapeRooms$Group;", false)
  | 3 => ("EscapeRooms$PlanSearch", "doors", "Ljava/util/ArrayList;", false)
  | 4 => ("EscapeRooms$PlanSearch", "keys", "Ljava/util/ArrayList;", false)
  | 5 => ("EscapeRooms$PlanSearch", "openAtFirst", "I", false)
  | 6 => ("EscapeRooms$PlanSearch", "isFound", "Z", false)
  | 7 => ("EscapeRooms$PlanSearch", "cost", "I", false)
  | 8 => ("EscapeRooms$PlanSearch", "doorCount", "I", false)
  | _ => ("EscapeRooms$PlanSearch", "sequence", "J", false)
def tyX3 : Nat → FieldType := fun k => match k with
  | 0 => .array .int
  | 1 => .array .long
  | 2 => .object "EscapeRooms$Group"
  | 3 => .object "java/util/ArrayList"
  | 4 => .object "java/util/ArrayList"
  | 5 => .int
  | 6 => .boolean
  | 7 => .int
  | 8 => .int
  | _ => .long
theorem nmX3 : ∀ a, a < 10 → ∀ b, b < 10 → a ≠ b → (TX3 a).2.1 ≠ (TX3 b).2.1 := by decide +kernel
theorem tyX3_ok : ∀ k, k < 10 → parseFieldDescriptor (TX3 k).2.2.1 = some (tyX3 k) := by decide +kernel
abbrev cX3_init : ByteArray := prog_5_method_1_code
def yX3_init : MethodName := ⟨RX3, "<init>", "()V"⟩
abbrev cX3_find : ByteArray := prog_5_method_2_code
def yX3_find : MethodName := ⟨RX3, "find", "(LEscapeRooms$Group;LEscapeRooms$Room;Ljava/util/ArrayList;Ljava/util/ArrayList;I)V"⟩
abbrev cX3_doorAt : ByteArray := prog_5_method_3_code
def yX3_doorAt : MethodName := ⟨RX3, "doorAt", "(I)I"⟩
abbrev cX3_comeTo : ByteArray := prog_5_method_4_code
def yX3_comeTo : MethodName := ⟨RX3, "comeTo", "(IIJ)V"⟩
abbrev cX3_goOnFrom : ByteArray := prog_5_method_5_code
def yX3_goOnFrom : MethodName := ⟨RX3, "goOnFrom", "(IIJ)V"⟩
abbrev cX3_keysLeft : ByteArray := prog_5_method_6_code
def yX3_keysLeft : MethodName := ⟨RX3, "keysLeft", "(II)I"⟩
abbrev cX3_hasOne : ByteArray := prog_5_method_7_code
def yX3_hasOne : MethodName := ⟨RX3, "hasOne", "(II)Z"⟩
abbrev cX3_isOpenedByPlan : ByteArray := prog_5_method_8_code
def yX3_isOpenedByPlan : MethodName := ⟨RX3, "isOpenedByPlan", "(LEscapeRooms$Door;I)Z"⟩
abbrev cX3_keepIfBetter : ByteArray := prog_5_method_9_code
def yX3_keepIfBetter : MethodName := ⟨RX3, "keepIfBetter", "(IJ)V"⟩
abbrev cX3_isBetter : ByteArray := prog_5_method_10_code
def yX3_isBetter : MethodName := ⟨RX3, "isBetter", "(IIJ)Z"⟩
abbrev cX3_costOf : ByteArray := prog_5_method_11_code
def yX3_costOf : MethodName := ⟨RX3, "costOf", "(I)I"⟩
def RX4 : String := "EscapeRooms$Room"
def TX4 : u_T := fun k => match k with
  | 0 => ("EscapeRooms$Room", "number", "I", true)
  | 1 => ("EscapeRooms$Room", "bit", "I", true)
  | _ => ("EscapeRooms$Room", "arrival", "I", false)
def tyX4 : Nat → FieldType := fun k => match k with
  | 0 => .int
  | 1 => .int
  | _ => .int
theorem nmX4 : ∀ a, a < 3 → ∀ b, b < 3 → a ≠ b → (TX4 a).2.1 ≠ (TX4 b).2.1 := by decide +kernel
theorem tyX4_ok : ∀ k, k < 3 → parseFieldDescriptor (TX4 k).2.2.1 = some (tyX4 k) := by decide +kernel
abbrev cX4_init : ByteArray := prog_6_method_1_code
def yX4_init : MethodName := ⟨RX4, "<init>", "(I)V"⟩
def RX5 : String := "EscapeRooms"
def TX5 : u_T := fun k => match k with
  | 0 => ("EscapeRooms", "rooms", "Ljava/util/ArrayList;", true)
  | 1 => ("EscapeRooms", "doors", "Ljava/util/ArrayList;", true)
  | 2 => ("EscapeRooms", "keys", "Ljava/util/ArrayList;", true)
  | 3 => ("EscapeRooms", "groups", "Ljava/util/ArrayList;", true)
  | 4 => ("EscapeRooms", "search", "LEscapeRooms$PlanSearch;", true)
  | 5 => ("EscapeRooms", "exit", "LEscapeRooms$Room;", false)
  | 6 => ("EscapeRooms", "lockCount", "I", false)
  | 7 => ("EscapeRooms", "hintBase", "I", false)
  | 8 => ("EscapeRooms", "hintStep", "I", false)
  | _ => ("EscapeRooms", "hintsTaken", "I", false)
def tyX5 : Nat → FieldType := fun k => match k with
  | 0 => .object "java/util/ArrayList"
  | 1 => .object "java/util/ArrayList"
  | 2 => .object "java/util/ArrayList"
  | 3 => .object "java/util/ArrayList"
  | 4 => .object "EscapeRooms$PlanSearch"
  | 5 => .object "EscapeRooms$Room"
  | 6 => .int
  | 7 => .int
  | 8 => .int
  | _ => .int
theorem nmX5 : ∀ a, a < 10 → ∀ b, b < 10 → a ≠ b → (TX5 a).2.1 ≠ (TX5 b).2.1 := by decide +kernel
theorem tyX5_ok : ∀ k, k < 10 → parseFieldDescriptor (TX5 k).2.2.1 = some (tyX5 k) := by decide +kernel
abbrev cX5_init : ByteArray := prog_1_method_1_code
def yX5_init : MethodName := ⟨RX5, "<init>", "()V"⟩
abbrev cX5_addRoom : ByteArray := prog_1_method_2_code
def yX5_addRoom : MethodName := ⟨RX5, "addRoom", "()I"⟩
abbrev cX5_setExit : ByteArray := prog_1_method_3_code
def yX5_setExit : MethodName := ⟨RX5, "setExit", "(I)I"⟩
abbrev cX5_addDoor : ByteArray := prog_1_method_4_code
def yX5_addDoor : MethodName := ⟨RX5, "addDoor", "(III)I"⟩
abbrev cX5_addLock : ByteArray := prog_1_method_5_code
def yX5_addLock : MethodName := ⟨RX5, "addLock", "(IIIII)I"⟩
abbrev cX5_addKey : ByteArray := prog_1_method_6_code
def yX5_addKey : MethodName := ⟨RX5, "addKey", "(II)I"⟩
abbrev cX5_addGroup : ByteArray := prog_1_method_7_code
def yX5_addGroup : MethodName := ⟨RX5, "addGroup", "(II)I"⟩
abbrev cX5_setHints : ByteArray := prog_1_method_8_code
def yX5_setHints : MethodName := ⟨RX5, "setHints", "(II)I"⟩
abbrev cX5_walk : ByteArray := prog_1_method_9_code
def yX5_walk : MethodName := ⟨RX5, "walk", "(II)I"⟩
abbrev cX5_unlock : ByteArray := prog_1_method_10_code
def yX5_unlock : MethodName := ⟨RX5, "unlock", "(II)I"⟩
abbrev cX5_take : ByteArray := prog_1_method_11_code
def yX5_take : MethodName := ⟨RX5, "take", "(II)I"⟩
abbrev cX5_drop : ByteArray := prog_1_method_12_code
def yX5_drop : MethodName := ⟨RX5, "drop", "(II)I"⟩
abbrev cX5_idle : ByteArray := prog_1_method_13_code
def yX5_idle : MethodName := ⟨RX5, "idle", "(II)I"⟩
abbrev cX5_part : ByteArray := prog_1_method_14_code
def yX5_part : MethodName := ⟨RX5, "part", "(II)I"⟩
abbrev cX5_join : ByteArray := prog_1_method_15_code
def yX5_join : MethodName := ⟨RX5, "join", "(II)I"⟩
abbrev cX5_leave : ByteArray := prog_1_method_16_code
def yX5_leave : MethodName := ⟨RX5, "leave", "(I)I"⟩
abbrev cX5_hint : ByteArray := prog_1_method_17_code
def yX5_hint : MethodName := ⟨RX5, "hint", "(I)I"⟩
abbrev cX5_plan : ByteArray := prog_1_method_18_code
def yX5_plan : MethodName := ⟨RX5, "plan", "(II)I"⟩
abbrev cX5_planned : ByteArray := prog_1_method_19_code
def yX5_planned : MethodName := ⟨RX5, "planned", "(II)I"⟩
abbrev cX5_way : ByteArray := prog_1_method_20_code
def yX5_way : MethodName := ⟨RX5, "way", "(II)I"⟩
abbrev cX5_reach : ByteArray := prog_1_method_21_code
def yX5_reach : MethodName := ⟨RX5, "reach", "(I)I"⟩
abbrev cX5_door : ByteArray := prog_1_method_22_code
def yX5_door : MethodName := ⟨RX5, "door", "(II)I"⟩
abbrev cX5_key : ByteArray := prog_1_method_23_code
def yX5_key : MethodName := ⟨RX5, "key", "(II)I"⟩
abbrev cX5_group : ByteArray := prog_1_method_24_code
def yX5_group : MethodName := ⟨RX5, "group", "(II)I"⟩
abbrev cX5_color : ByteArray := prog_1_method_25_code
def yX5_color : MethodName := ⟨RX5, "color", "(II)I"⟩
abbrev cX5_count : ByteArray := prog_1_method_26_code
def yX5_count : MethodName := ⟨RX5, "count", "(I)I"⟩
abbrev cX5_isBetween : ByteArray := prog_1_method_27_code
def yX5_isBetween : MethodName := ⟨RX5, "isBetween", "(III)Z"⟩
abbrev cX5_isColor : ByteArray := prog_1_method_28_code
def yX5_isColor : MethodName := ⟨RX5, "isColor", "(I)Z"⟩
abbrev cX5_isRoom : ByteArray := prog_1_method_29_code
def yX5_isRoom : MethodName := ⟨RX5, "isRoom", "(I)Z"⟩
abbrev cX5_isDoor : ByteArray := prog_1_method_30_code
def yX5_isDoor : MethodName := ⟨RX5, "isDoor", "(I)Z"⟩
abbrev cX5_isKey : ByteArray := prog_1_method_31_code
def yX5_isKey : MethodName := ⟨RX5, "isKey", "(I)Z"⟩
abbrev cX5_isGroup : ByteArray := prog_1_method_32_code
def yX5_isGroup : MethodName := ⟨RX5, "isGroup", "(I)Z"⟩
abbrev cX5_lowerRoom : ByteArray := prog_1_method_33_code
def yX5_lowerRoom : MethodName := ⟨RX5, "lowerRoom", "(II)LEscapeRooms$Room;"⟩
abbrev cX5_higherRoom : ByteArray := prog_1_method_34_code
def yX5_higherRoom : MethodName := ⟨RX5, "higherRoom", "(II)LEscapeRooms$Room;"⟩
abbrev cX5_exitNumber : ByteArray := prog_1_method_35_code
def yX5_exitNumber : MethodName := ⟨RX5, "exitNumber", "()I"⟩
abbrev cX5_playersThat : ByteArray := prog_1_method_36_code
def yX5_playersThat : MethodName := ⟨RX5, "playersThat", "(I)I"⟩
abbrev cX5_latestEscape : ByteArray := prog_1_method_37_code
def yX5_latestEscape : MethodName := ⟨RX5, "latestEscape", "()I"⟩
abbrev cX5_groupsInDeadEnd : ByteArray := prog_1_method_38_code
def yX5_groupsInDeadEnd : MethodName := ⟨RX5, "groupsInDeadEnd", "()I"⟩
abbrev cX5_keysHeldBy : ByteArray := prog_1_method_39_code
def yX5_keysHeldBy : MethodName := ⟨RX5, "keysHeldBy", "(LEscapeRooms$Group;)I"⟩
abbrev cX5_lowestHeldKey : ByteArray := prog_1_method_40_code
def yX5_lowestHeldKey : MethodName := ⟨RX5, "lowestHeldKey", "(LEscapeRooms$Group;I)LEscapeRooms$Key;"⟩
abbrev cX5_handOverKeys : ByteArray := prog_1_method_41_code
def yX5_handOverKeys : MethodName := ⟨RX5, "handOverKeys", "(LEscapeRooms$Group;LEscapeRooms$Group;)V"⟩
abbrev cX5_closedLocksOf : ByteArray := prog_1_method_42_code
def yX5_closedLocksOf : MethodName := ⟨RX5, "closedLocksOf", "(I)I"⟩
abbrev cX5_keysLeftOf : ByteArray := prog_1_method_43_code
def yX5_keysLeftOf : MethodName := ⟨RX5, "keysLeftOf", "(I)I"⟩
abbrev cX5_openLocks : ByteArray := prog_1_method_44_code
def yX5_openLocks : MethodName := ⟨RX5, "openLocks", "(Ljava/util/ArrayList;)I"⟩
abbrev cX5_spread : ByteArray := prog_1_method_45_code
def yX5_spread : MethodName := ⟨RX5, "spread", "(Ljava/util/ArrayList;II)I"⟩
abbrev cX5_findArrivals : ByteArray := prog_1_method_46_code
def yX5_findArrivals : MethodName := ⟨RX5, "findArrivals", "(LEscapeRooms$Group;)V"⟩
def RX6 : String := "EscapeRoomsModel"
def TX6 : u_T := fun k => match k with
  | 0 => ("EscapeRoomsModel", "rooms", "I", false)
  | 1 => ("EscapeRoomsModel", "exit", "I", false)
  | 2 => ("EscapeRoomsModel", "doors", "I", false)
  | 3 => ("EscapeRoomsModel", "lowOf", "[I", true)
  | 4 => ("EscapeRoomsModel", "highOf", "[I", true)
  | 5 => ("EscapeRoomsModel", "walkOf", "[I", true)
  | 6 => ("EscapeRoomsModel", "colorOf", "[I", true)
  | 7 => ("EscapeRoomsModel", "unlockOf", "[I", true)
  | 8 => ("EscapeRoomsModel", "openFrom", "[I", true)
  | 9 => ("EscapeRoomsModel", "keys", "I", false)
  | 10 => ("EscapeRoomsModel", "keyColor", "[I", true)
  | 11 => ("EscapeRoomsModel", "keyState", "[I", true)
  | 12 => ("EscapeRoomsModel", "keyAt", "[I", true)
  | 13 => ("EscapeRoomsModel", "keyFrom", "[I", true)
  | 14 => ("EscapeRoomsModel", "groups", "I", false)
  | 15 => ("EscapeRoomsModel", "sizeOf", "[I", true)
  | 16 => ("EscapeRoomsModel", "roomOf", "[I", true)
  | 17 => ("EscapeRoomsModel", "timeOf", "[I", true)
  | 18 => ("EscapeRoomsModel", "hintsOf", "[I", true)
  | 19 => ("EscapeRoomsModel", "stateOf", "[I", true)
  | 20 => ("EscapeRoomsModel", "base", "I", false)
  | 21 => ("EscapeRoomsModel", "step", "I", false)
  | 22 => ("EscapeRoomsModel", "open", "I", false)
  | 23 => ("EscapeRoomsModel", "lockAt", "[I", true)
  | 24 => ("EscapeRoomsModel", "doorsIn", "[I", true)
  | 25 => ("EscapeRoomsModel", "reachOf", "[I", true)
  | 26 => ("EscapeRoomsModel", "isMet", "[Z", true)
  | 27 => ("EscapeRoomsModel", "leads", "[Z", true)
  | 28 => ("EscapeRoomsModel", "cost", "I", false)
  | 29 => ("EscapeRoomsModel", "many", "I", false)
  | 30 => ("EscapeRoomsModel", "planOf", "[I", true)
  | _ => ("EscapeRoomsModel", "arriving", "[I", true)
def tyX6 : Nat → FieldType := fun k => match k with
  | 0 => .int
  | 1 => .int
  | 2 => .int
  | 3 => .array .int
  | 4 => .array .int
  | 5 => .array .int
  | 6 => .array .int
  | 7 => .array .int
  | 8 => .array .int
  | 9 => .int
  | 10 => .array .int
  | 11 => .array .int
  | 12 => .array .int
  | 13 => .array .int
  | 14 => .int
  | 15 => .array .int
  | 16 => .array .int
  | 17 => .array .int
  | 18 => .array .int
  | 19 => .array .int
  | 20 => .int
  | 21 => .int
  | 22 => .int
  | 23 => .array .int
  | 24 => .array .int
  | 25 => .array .int
  | 26 => .array .boolean
  | 27 => .array .boolean
  | 28 => .int
  | 29 => .int
  | 30 => .array .int
  | _ => .array .int
theorem nmX6 : ∀ a, a < 32 → ∀ b, b < 32 → a ≠ b → (TX6 a).2.1 ≠ (TX6 b).2.1 := by decide +kernel
theorem tyX6_ok : ∀ k, k < 32 → parseFieldDescriptor (TX6 k).2.2.1 = some (tyX6 k) := by decide +kernel
abbrev cX6_init : ByteArray := prog_8_method_1_code
def yX6_init : MethodName := ⟨RX6, "<init>", "()V"⟩
abbrev cX6_in : ByteArray := prog_8_method_2_code
def yX6_in : MethodName := ⟨RX6, "in", "(III)Z"⟩
abbrev cX6_noRoom : ByteArray := prog_8_method_3_code
def yX6_noRoom : MethodName := ⟨RX6, "noRoom", "(I)Z"⟩
abbrev cX6_noDoor : ByteArray := prog_8_method_4_code
def yX6_noDoor : MethodName := ⟨RX6, "noDoor", "(I)Z"⟩
abbrev cX6_noKey : ByteArray := prog_8_method_5_code
def yX6_noKey : MethodName := ⟨RX6, "noKey", "(I)Z"⟩
abbrev cX6_noGroup : ByteArray := prog_8_method_6_code
def yX6_noGroup : MethodName := ⟨RX6, "noGroup", "(I)Z"⟩
abbrev cX6_addRoom : ByteArray := prog_8_method_7_code
def yX6_addRoom : MethodName := ⟨RX6, "addRoom", "()I"⟩
abbrev cX6_setExit : ByteArray := prog_8_method_8_code
def yX6_setExit : MethodName := ⟨RX6, "setExit", "(I)I"⟩
abbrev cX6_putDoor : ByteArray := prog_8_method_9_code
def yX6_putDoor : MethodName := ⟨RX6, "putDoor", "(IIIII)I"⟩
abbrev cX6_addDoor : ByteArray := prog_8_method_10_code
def yX6_addDoor : MethodName := ⟨RX6, "addDoor", "(III)I"⟩
abbrev cX6_locks : ByteArray := prog_8_method_11_code
def yX6_locks : MethodName := ⟨RX6, "locks", "()I"⟩
abbrev cX6_addLock : ByteArray := prog_8_method_12_code
def yX6_addLock : MethodName := ⟨RX6, "addLock", "(IIIII)I"⟩
abbrev cX6_addKey : ByteArray := prog_8_method_13_code
def yX6_addKey : MethodName := ⟨RX6, "addKey", "(II)I"⟩
abbrev cX6_players : ByteArray := prog_8_method_14_code
def yX6_players : MethodName := ⟨RX6, "players", "()I"⟩
abbrev cX6_putGroup : ByteArray := prog_8_method_15_code
def yX6_putGroup : MethodName := ⟨RX6, "putGroup", "(III)I"⟩
abbrev cX6_addGroup : ByteArray := prog_8_method_16_code
def yX6_addGroup : MethodName := ⟨RX6, "addGroup", "(II)I"⟩
abbrev cX6_setHints : ByteArray := prog_8_method_17_code
def yX6_setHints : MethodName := ⟨RX6, "setHints", "(II)I"⟩
abbrev cX6_plays : ByteArray := prog_8_method_18_code
def yX6_plays : MethodName := ⟨RX6, "plays", "(I)Z"⟩
abbrev cX6_isAt : ByteArray := prog_8_method_19_code
def yX6_isAt : MethodName := ⟨RX6, "isAt", "(II)Z"⟩
abbrev cX6_walk : ByteArray := prog_8_method_20_code
def yX6_walk : MethodName := ⟨RX6, "walk", "(II)I"⟩
abbrev cX6_holds : ByteArray := prog_8_method_21_code
def yX6_holds : MethodName := ⟨RX6, "holds", "(II)Z"⟩
abbrev cX6_keyFor : ByteArray := prog_8_method_22_code
def yX6_keyFor : MethodName := ⟨RX6, "keyFor", "(II)I"⟩
abbrev cX6_unlock : ByteArray := prog_8_method_23_code
def yX6_unlock : MethodName := ⟨RX6, "unlock", "(II)I"⟩
abbrev cX6_held : ByteArray := prog_8_method_24_code
def yX6_held : MethodName := ⟨RX6, "held", "(I)I"⟩
abbrev cX6_take : ByteArray := prog_8_method_25_code
def yX6_take : MethodName := ⟨RX6, "take", "(II)I"⟩
abbrev cX6_drop : ByteArray := prog_8_method_26_code
def yX6_drop : MethodName := ⟨RX6, "drop", "(II)I"⟩
abbrev cX6_idle : ByteArray := prog_8_method_27_code
def yX6_idle : MethodName := ⟨RX6, "idle", "(II)I"⟩
abbrev cX6_part : ByteArray := prog_8_method_28_code
def yX6_part : MethodName := ⟨RX6, "part", "(II)I"⟩
abbrev cX6_join : ByteArray := prog_8_method_29_code
def yX6_join : MethodName := ⟨RX6, "join", "(II)I"⟩
abbrev cX6_leave : ByteArray := prog_8_method_30_code
def yX6_leave : MethodName := ⟨RX6, "leave", "(I)I"⟩
abbrev cX6_has : ByteArray := prog_8_method_31_code
def yX6_has : MethodName := ⟨RX6, "has", "(II)Z"⟩
abbrev cX6_reachable : ByteArray := prog_8_method_32_code
def yX6_reachable : MethodName := ⟨RX6, "reachable", "(II)I"⟩
abbrev cX6_layLocks : ByteArray := prog_8_method_33_code
def yX6_layLocks : MethodName := ⟨RX6, "layLocks", "()V"⟩
abbrev cX6_costOf : ByteArray := prog_8_method_34_code
def yX6_costOf : MethodName := ⟨RX6, "costOf", "(I)I"⟩
abbrev cX6_sizeOfSet : ByteArray := prog_8_method_35_code
def yX6_sizeOfSet : MethodName := ⟨RX6, "sizeOfSet", "(I)I"⟩
abbrev cX6_canAdd : ByteArray := prog_8_method_36_code
def yX6_canAdd : MethodName := ⟨RX6, "canAdd", "(III)Z"⟩
abbrev cX6_escapes : ByteArray := prog_8_method_37_code
def yX6_escapes : MethodName := ⟨RX6, "escapes", "(I)Z"⟩
abbrev cX6_findPlan : ByteArray := prog_8_method_38_code
def yX6_findPlan : MethodName := ⟨RX6, "findPlan", "(I)V"⟩
abbrev cX6_findDoors : ByteArray := prog_8_method_39_code
def yX6_findDoors : MethodName := ⟨RX6, "findDoors", "(II)V"⟩
abbrev cX6_hint : ByteArray := prog_8_method_40_code
def yX6_hint : MethodName := ⟨RX6, "hint", "(I)I"⟩
abbrev cX6_plan : ByteArray := prog_8_method_41_code
def yX6_plan : MethodName := ⟨RX6, "plan", "(II)I"⟩
abbrev cX6_planned : ByteArray := prog_8_method_42_code
def yX6_planned : MethodName := ⟨RX6, "planned", "(II)I"⟩
abbrev cX6_way : ByteArray := prog_8_method_43_code
def yX6_way : MethodName := ⟨RX6, "way", "(II)I"⟩
abbrev cX6_passes : ByteArray := prog_8_method_44_code
def yX6_passes : MethodName := ⟨RX6, "passes", "(III)Z"⟩
abbrev cX6_reach : ByteArray := prog_8_method_45_code
def yX6_reach : MethodName := ⟨RX6, "reach", "(I)I"⟩
abbrev cX6_door : ByteArray := prog_8_method_46_code
def yX6_door : MethodName := ⟨RX6, "door", "(II)I"⟩
abbrev cX6_key : ByteArray := prog_8_method_47_code
def yX6_key : MethodName := ⟨RX6, "key", "(II)I"⟩
abbrev cX6_group : ByteArray := prog_8_method_48_code
def yX6_group : MethodName := ⟨RX6, "group", "(II)I"⟩
abbrev cX6_color : ByteArray := prog_8_method_49_code
def yX6_color : MethodName := ⟨RX6, "color", "(II)I"⟩
abbrev cX6_sizes : ByteArray := prog_8_method_50_code
def yX6_sizes : MethodName := ⟨RX6, "sizes", "(I)I"⟩
abbrev cX6_unlocked : ByteArray := prog_8_method_51_code
def yX6_unlocked : MethodName := ⟨RX6, "unlocked", "()I"⟩
abbrev cX6_latest : ByteArray := prog_8_method_52_code
def yX6_latest : MethodName := ⟨RX6, "latest", "()I"⟩
abbrev cX6_hints : ByteArray := prog_8_method_53_code
def yX6_hints : MethodName := ⟨RX6, "hints", "()I"⟩
abbrev cX6_deadEnds : ByteArray := prog_8_method_54_code
def yX6_deadEnds : MethodName := ⟨RX6, "deadEnds", "()I"⟩
abbrev cX6_count : ByteArray := prog_8_method_55_code
def yX6_count : MethodName := ⟨RX6, "count", "(I)I"⟩
def RJx145de : String := "java/io/Serializable"
def TJx145de : u_T := fun k => match k with
  | _ => ("", "", "", false)
def tyJx145de : Nat → FieldType := fun k => match k with
  | _ => .int
theorem nmJx145de : ∀ a, a < 0 → ∀ b, b < 0 → a ≠ b → (TJx145de a).2.1 ≠ (TJx145de b).2.1 := by decide +kernel
theorem tyJx145de_ok : ∀ k, k < 0 → parseFieldDescriptor (TJx145de k).2.2.1 = some (tyJx145de k) := by decide +kernel
def RJx8e188 : String := "java/lang/Cloneable"
def TJx8e188 : u_T := fun k => match k with
  | _ => ("", "", "", false)
def tyJx8e188 : Nat → FieldType := fun k => match k with
  | _ => .int
theorem nmJx8e188 : ∀ a, a < 0 → ∀ b, b < 0 → a ≠ b → (TJx8e188 a).2.1 ≠ (TJx8e188 b).2.1 := by decide +kernel
theorem tyJx8e188_ok : ∀ k, k < 0 → parseFieldDescriptor (TJx8e188 k).2.2.1 = some (tyJx8e188 k) := by decide +kernel
def RJ6 : String := "java/lang/Integer"
def TJ6 : u_T := fun k => match k with
  | _ => ("", "", "", false)
def tyJ6 : Nat → FieldType := fun k => match k with
  | _ => .int
theorem nmJ6 : ∀ a, a < 0 → ∀ b, b < 0 → a ≠ b → (TJ6 a).2.1 ≠ (TJ6 b).2.1 := by decide +kernel
theorem tyJ6_ok : ∀ k, k < 0 → parseFieldDescriptor (TJ6 k).2.2.1 = some (tyJ6 k) := by decide +kernel
abbrev cJ6_bitCount_0f7a4 : ByteArray := prog_11_method_49_code
def yJ6_bitCount_0f7a4 : MethodName := ⟨RJ6, "bitCount", "(I)I"⟩
def RJxab1ab : String := "java/lang/Iterable"
def TJxab1ab : u_T := fun k => match k with
  | _ => ("", "", "", false)
def tyJxab1ab : Nat → FieldType := fun k => match k with
  | _ => .int
theorem nmJxab1ab : ∀ a, a < 0 → ∀ b, b < 0 → a ≠ b → (TJxab1ab a).2.1 ≠ (TJxab1ab b).2.1 := by decide +kernel
theorem tyJxab1ab_ok : ∀ k, k < 0 → parseFieldDescriptor (TJxab1ab k).2.2.1 = some (tyJxab1ab k) := by decide +kernel
def RJ9 : String := "java/lang/Math"
def TJ9 : u_T := fun k => match k with
  | _ => ("", "", "", false)
def tyJ9 : Nat → FieldType := fun k => match k with
  | _ => .int
theorem nmJ9 : ∀ a, a < 0 → ∀ b, b < 0 → a ≠ b → (TJ9 a).2.1 ≠ (TJ9 b).2.1 := by decide +kernel
theorem tyJ9_ok : ∀ k, k < 0 → parseFieldDescriptor (TJ9 k).2.2.1 = some (tyJ9 k) := by decide +kernel
abbrev cJ9_max_7cf53 : ByteArray := prog_13_method_65_code
def yJ9_max_7cf53 : MethodName := ⟨RJ9, "max", "(II)I"⟩
abbrev cJ9_min_7cf53 : ByteArray := prog_13_method_69_code
def yJ9_min_7cf53 : MethodName := ⟨RJ9, "min", "(II)I"⟩
def RJ10 : String := "java/lang/System"
def TJ10 : u_T := fun k => match k with
  | _ => ("", "", "", false)
def tyJ10 : Nat → FieldType := fun k => match k with
  | _ => .int
theorem nmJ10 : ∀ a, a < 0 → ∀ b, b < 0 → a ≠ b → (TJ10 a).2.1 ≠ (TJ10 b).2.1 := by decide +kernel
theorem tyJ10_ok : ∀ k, k < 0 → parseFieldDescriptor (TJ10 k).2.2.1 = some (tyJ10 k) := by decide +kernel
def RJxa1e45 : String := "java/util/AbstractCollection"
def TJxa1e45 : u_T := fun k => match k with
  | _ => ("", "", "", false)
def tyJxa1e45 : Nat → FieldType := fun k => match k with
  | _ => .int
theorem nmJxa1e45 : ∀ a, a < 0 → ∀ b, b < 0 → a ≠ b → (TJxa1e45 a).2.1 ≠ (TJxa1e45 b).2.1 := by decide +kernel
theorem tyJxa1e45_ok : ∀ k, k < 0 → parseFieldDescriptor (TJxa1e45 k).2.2.1 = some (tyJxa1e45 k) := by decide +kernel
abbrev cJxa1e45_init_da8c8 : ByteArray := prog_15_method_1_code
def yJxa1e45_init_da8c8 : MethodName := ⟨RJxa1e45, "<init>", "()V"⟩
def RJxc12de : String := "java/util/AbstractList"
def TJxc12de : u_T := fun k => match k with
  | _ => ("", "", "", false)
def tyJxc12de : Nat → FieldType := fun k => match k with
  | _ => .int
theorem nmJxc12de : ∀ a, a < 0 → ∀ b, b < 0 → a ≠ b → (TJxc12de a).2.1 ≠ (TJxc12de b).2.1 := by decide +kernel
theorem tyJxc12de_ok : ∀ k, k < 0 → parseFieldDescriptor (TJxc12de k).2.2.1 = some (tyJxc12de k) := by decide +kernel
abbrev cJxc12de_init_da8c8 : ByteArray := prog_16_method_1_code
def yJxc12de_init_da8c8 : MethodName := ⟨RJxc12de, "<init>", "()V"⟩
def RJx4a65c : String := "java/util/ArrayList"
def TJx4a65c : u_T := fun k => match k with
  | 0 => ("java/util/AbstractList", "modCount", "I", false)
  | 1 => ("java/util/ArrayList", "elementData", "[Ljava/lang/Object;", false)
  | _ => ("java/util/ArrayList", "size", "I", false)
def tyJx4a65c : Nat → FieldType := fun k => match k with
  | 0 => .int
  | 1 => .array (.object "java/lang/Object")
  | _ => .int
theorem nmJx4a65c : ∀ a, a < 3 → ∀ b, b < 3 → a ≠ b → (TJx4a65c a).2.1 ≠ (TJx4a65c b).2.1 := by decide +kernel
theorem tyJx4a65c_ok : ∀ k, k < 3 → parseFieldDescriptor (TJx4a65c k).2.2.1 = some (tyJx4a65c k) := by decide +kernel
abbrev cJx4a65c_init_da8c8 : ByteArray := prog_17_method_2_code
def yJx4a65c_init_da8c8 : MethodName := ⟨RJx4a65c, "<init>", "()V"⟩
abbrev cJx4a65c_grow_92f84 : ByteArray := prog_17_method_6_code
def yJx4a65c_grow_92f84 : MethodName := ⟨RJx4a65c, "grow", "(I)[Ljava/lang/Object;"⟩
abbrev cJx4a65c_grow_d5877 : ByteArray := prog_17_method_7_code
def yJx4a65c_grow_d5877 : MethodName := ⟨RJx4a65c, "grow", "()[Ljava/lang/Object;"⟩
abbrev cJx4a65c_size_8abf5 : ByteArray := prog_17_method_8_code
def yJx4a65c_size_8abf5 : MethodName := ⟨RJx4a65c, "size", "()I"⟩
abbrev cJx4a65c_elementData_915e3 : ByteArray := prog_17_method_18_code
def yJx4a65c_elementData_915e3 : MethodName := ⟨RJx4a65c, "elementData", "(I)Ljava/lang/Object;"⟩
abbrev cJx4a65c_get_915e3 : ByteArray := prog_17_method_20_code
def yJx4a65c_get_915e3 : MethodName := ⟨RJx4a65c, "get", "(I)Ljava/lang/Object;"⟩
abbrev cJx4a65c_add_72be8 : ByteArray := prog_17_method_24_code
def yJx4a65c_add_72be8 : MethodName := ⟨RJx4a65c, "add", "(Ljava/lang/Object;[Ljava/lang/Object;I)V"⟩
abbrev cJx4a65c_add_9ea2d : ByteArray := prog_17_method_25_code
def yJx4a65c_add_9ea2d : MethodName := ⟨RJx4a65c, "add", "(Ljava/lang/Object;)Z"⟩
def RJ7 : String := "java/util/Arrays"
def TJ7 : u_T := fun k => match k with
  | _ => ("", "", "", false)
def tyJ7 : Nat → FieldType := fun k => match k with
  | _ => .int
theorem nmJ7 : ∀ a, a < 0 → ∀ b, b < 0 → a ≠ b → (TJ7 a).2.1 ≠ (TJ7 b).2.1 := by decide +kernel
theorem tyJ7_ok : ∀ k, k < 0 → parseFieldDescriptor (TJ7 k).2.2.1 = some (tyJ7 k) := by decide +kernel
abbrev cJ7_copyOf_1904c : ByteArray := prog_18_method_119_code
def yJ7_copyOf_1904c : MethodName := ⟨RJ7, "copyOf", "([Ljava/lang/Object;I)[Ljava/lang/Object;"⟩
abbrev cJ7_copyOf_6403c : ByteArray := prog_18_method_120_code
def yJ7_copyOf_6403c : MethodName := ⟨RJ7, "copyOf", "([Ljava/lang/Object;ILjava/lang/Class;)[Ljava/lang/Object;"⟩
def RJx5ef63 : String := "java/util/Collection"
def TJx5ef63 : u_T := fun k => match k with
  | _ => ("", "", "", false)
def tyJx5ef63 : Nat → FieldType := fun k => match k with
  | _ => .int
theorem nmJx5ef63 : ∀ a, a < 0 → ∀ b, b < 0 → a ≠ b → (TJx5ef63 a).2.1 ≠ (TJx5ef63 b).2.1 := by decide +kernel
theorem tyJx5ef63_ok : ∀ k, k < 0 → parseFieldDescriptor (TJx5ef63 k).2.2.1 = some (tyJx5ef63 k) := by decide +kernel
def RJxbd725 : String := "java/util/List"
def TJxbd725 : u_T := fun k => match k with
  | _ => ("", "", "", false)
def tyJxbd725 : Nat → FieldType := fun k => match k with
  | _ => .int
theorem nmJxbd725 : ∀ a, a < 0 → ∀ b, b < 0 → a ≠ b → (TJxbd725 a).2.1 ≠ (TJxbd725 b).2.1 := by decide +kernel
theorem tyJxbd725_ok : ∀ k, k < 0 → parseFieldDescriptor (TJxbd725 k).2.2.1 = some (tyJxbd725 k) := by decide +kernel
def RJ15 : String := "java/util/Objects"
def TJ15 : u_T := fun k => match k with
  | _ => ("", "", "", false)
def tyJ15 : Nat → FieldType := fun k => match k with
  | _ => .int
theorem nmJ15 : ∀ a, a < 0 → ∀ b, b < 0 → a ≠ b → (TJ15 a).2.1 ≠ (TJ15 b).2.1 := by decide +kernel
theorem tyJ15_ok : ∀ k, k < 0 → parseFieldDescriptor (TJ15 k).2.2.1 = some (tyJ15 k) := by decide +kernel
abbrev cJ15_checkIndex_7cf53 : ByteArray := prog_21_method_17_code
def yJ15_checkIndex_7cf53 : MethodName := ⟨RJ15, "checkIndex", "(II)I"⟩
def RJxf0a74 : String := "java/util/RandomAccess"
def TJxf0a74 : u_T := fun k => match k with
  | _ => ("", "", "", false)
def tyJxf0a74 : Nat → FieldType := fun k => match k with
  | _ => .int
theorem nmJxf0a74 : ∀ a, a < 0 → ∀ b, b < 0 → a ≠ b → (TJxf0a74 a).2.1 ≠ (TJxf0a74 b).2.1 := by decide +kernel
theorem tyJxf0a74_ok : ∀ k, k < 0 → parseFieldDescriptor (TJxf0a74 k).2.2.1 = some (tyJxf0a74 k) := by decide +kernel
def RJxa66e6 : String := "java/util/SequencedCollection"
def TJxa66e6 : u_T := fun k => match k with
  | _ => ("", "", "", false)
def tyJxa66e6 : Nat → FieldType := fun k => match k with
  | _ => .int
theorem nmJxa66e6 : ∀ a, a < 0 → ∀ b, b < 0 → a ≠ b → (TJxa66e6 a).2.1 ≠ (TJxa66e6 b).2.1 := by decide +kernel
theorem tyJxa66e6_ok : ∀ k, k < 0 → parseFieldDescriptor (TJxa66e6 k).2.2.1 = some (tyJxa66e6 k) := by decide +kernel
def RJ8 : String := "jdk/internal/util/ArraysSupport"
def TJ8 : u_T := fun k => match k with
  | _ => ("", "", "", false)
def tyJ8 : Nat → FieldType := fun k => match k with
  | _ => .int
theorem nmJ8 : ∀ a, a < 0 → ∀ b, b < 0 → a ≠ b → (TJ8 a).2.1 ≠ (TJ8 b).2.1 := by decide +kernel
theorem tyJ8_ok : ∀ k, k < 0 → parseFieldDescriptor (TJ8 k).2.2.1 = some (tyJ8 k) := by decide +kernel
abbrev cJ8_newLength_cabcc : ByteArray := prog_24_method_27_code
def yJ8_newLength_cabcc : MethodName := ⟨RJ8, "newLength", "(III)I"⟩
abbrev cJ8_hugeLength_7cf53 : ByteArray := prog_24_method_28_code
def yJ8_hugeLength_7cf53 : MethodName := ⟨RJ8, "hugeLength", "(II)I"⟩
def RJ3 : String := "jdk/internal/util/Preconditions"
def TJ3 : u_T := fun k => match k with
  | _ => ("", "", "", false)
def tyJ3 : Nat → FieldType := fun k => match k with
  | _ => .int
theorem nmJ3 : ∀ a, a < 0 → ∀ b, b < 0 → a ≠ b → (TJ3 a).2.1 ≠ (TJ3 b).2.1 := by decide +kernel
theorem tyJ3_ok : ∀ k, k < 0 → parseFieldDescriptor (TJ3 k).2.2.1 = some (tyJ3 k) := by decide +kernel
abbrev cJ3_checkIndex_8e157 : ByteArray := prog_25_method_11_code
def yJ3_checkIndex_8e157 : MethodName := ⟨RJ3, "checkIndex", "(IILjava/util/function/BiFunction;)I"⟩
def RL : String := "EscapeRoomsLaw"
abbrev cL_law : ByteArray := code
def yL_law : MethodName := ⟨RL, "law", "([I)Z"⟩
abbrev vwCl : List vw_C := [(RJx4a65c, TJx4a65c, 3), (RX0, TX0, 10), (RX1, TX1, 6), (RX2, TX2, 6), (RX3, TX3, 10), (RX4, TX4, 3), (RX5, TX5, 10), (RX6, TX6, 32)]
end
section
theorem dX0_init_0 : decode cX0_init 0 = .ok (.aload_n 0, 1) := by decide +kernel
theorem dX0_init_1 : decode cX0_init 1 = .ok (.invokespecial 3, 3) := by decide +kernel
theorem dX0_init_4 : decode cX0_init 4 = .ok (.aload_n 0, 1) := by decide +kernel
theorem dX0_init_5 : decode cX0_init 5 = .ok (.iload_n 1, 1) := by decide +kernel
theorem dX0_init_6 : decode cX0_init 6 = .ok (.putfield 9, 3) := by decide +kernel
theorem dX0_init_9 : decode cX0_init 9 = .ok (.aload_n 0, 1) := by decide +kernel
theorem dX0_init_10 : decode cX0_init 10 = .ok (.aload_n 2, 1) := by decide +kernel
theorem dX0_init_11 : decode cX0_init 11 = .ok (.putfield 15, 3) := by decide +kernel
theorem dX0_init_14 : decode cX0_init 14 = .ok (.aload_n 0, 1) := by decide +kernel
theorem dX0_init_15 : decode cX0_init 15 = .ok (.aload_n 3, 1) := by decide +kernel
theorem dX0_init_16 : decode cX0_init 16 = .ok (.putfield 19, 3) := by decide +kernel
theorem dX0_init_19 : decode cX0_init 19 = .ok (.aload_n 0, 1) := by decide +kernel
theorem dX0_init_20 : decode cX0_init 20 = .ok (.iload 4, 2) := by decide +kernel
theorem dX0_init_22 : decode cX0_init 22 = .ok (.putfield 22, 3) := by decide +kernel
theorem dX0_init_25 : decode cX0_init 25 = .ok (.aload_n 0, 1) := by decide +kernel
theorem dX0_init_26 : decode cX0_init 26 = .ok (.aload_n 2, 1) := by decide +kernel
theorem dX0_init_27 : decode cX0_init 27 = .ok (.getfield 25, 3) := by decide +kernel
theorem dX0_init_30 : decode cX0_init 30 = .ok (.aload_n 3, 1) := by decide +kernel
theorem dX0_init_31 : decode cX0_init 31 = .ok (.getfield 25, 3) := by decide +kernel
theorem dX0_init_34 : decode cX0_init 34 = .ok (.ior, 1) := by decide +kernel
theorem dX0_init_35 : decode cX0_init 35 = .ok (.putfield 30, 3) := by decide +kernel
theorem dX0_init_38 : decode cX0_init 38 = .ok (.aload_n 0, 1) := by decide +kernel
theorem dX0_init_39 : decode cX0_init 39 = .ok (.bipush (-6), 2) := by decide +kernel
theorem dX0_init_41 : decode cX0_init 41 = .ok (.putfield 33, 3) := by decide +kernel
theorem dX0_init_44 : decode cX0_init 44 = .ok (.aload_n 0, 1) := by decide +kernel
theorem dX0_init_45 : decode cX0_init 45 = .ok (.iconst 1, 1) := by decide +kernel
theorem dX0_init_46 : decode cX0_init 46 = .ok (.putfield 36, 3) := by decide +kernel
theorem dX0_init_49 : decode cX0_init 49 = .ok (.return_, 1) := by decide +kernel
theorem dX0_putLock_0 : decode cX0_putLock 0 = .ok (.aload_n 0, 1) := by decide +kernel
theorem dX0_putLock_1 : decode cX0_putLock 1 = .ok (.iload_n 1, 1) := by decide +kernel
theorem dX0_putLock_2 : decode cX0_putLock 2 = .ok (.putfield 40, 3) := by decide +kernel
theorem dX0_putLock_5 : decode cX0_putLock 5 = .ok (.aload_n 0, 1) := by decide +kernel
theorem dX0_putLock_6 : decode cX0_putLock 6 = .ok (.iload_n 2, 1) := by decide +kernel
theorem dX0_putLock_7 : decode cX0_putLock 7 = .ok (.putfield 33, 3) := by decide +kernel
theorem dX0_putLock_10 : decode cX0_putLock 10 = .ok (.aload_n 0, 1) := by decide +kernel
theorem dX0_putLock_11 : decode cX0_putLock 11 = .ok (.iload_n 3, 1) := by decide +kernel
theorem dX0_putLock_12 : decode cX0_putLock 12 = .ok (.putfield 43, 3) := by decide +kernel
theorem dX0_putLock_15 : decode cX0_putLock 15 = .ok (.aload_n 0, 1) := by decide +kernel
theorem dX0_putLock_16 : decode cX0_putLock 16 = .ok (.iconst 0, 1) := by decide +kernel
theorem dX0_putLock_17 : decode cX0_putLock 17 = .ok (.putfield 36, 3) := by decide +kernel
theorem dX0_putLock_20 : decode cX0_putLock 20 = .ok (.return_, 1) := by decide +kernel
theorem dX0_openFrom_0 : decode cX0_openFrom 0 = .ok (.aload_n 0, 1) := by decide +kernel
theorem dX0_openFrom_1 : decode cX0_openFrom 1 = .ok (.iconst 1, 1) := by decide +kernel
theorem dX0_openFrom_2 : decode cX0_openFrom 2 = .ok (.putfield 36, 3) := by decide +kernel
theorem dX0_openFrom_5 : decode cX0_openFrom 5 = .ok (.aload_n 0, 1) := by decide +kernel
theorem dX0_openFrom_6 : decode cX0_openFrom 6 = .ok (.iload_n 1, 1) := by decide +kernel
theorem dX0_openFrom_7 : decode cX0_openFrom 7 = .ok (.putfield 46, 3) := by decide +kernel
theorem dX0_openFrom_10 : decode cX0_openFrom 10 = .ok (.return_, 1) := by decide +kernel
theorem dX0_isAt_0 : decode cX0_isAt 0 = .ok (.aload_n 1, 1) := by decide +kernel
theorem dX0_isAt_1 : decode cX0_isAt 1 = .ok (.aload_n 0, 1) := by decide +kernel
theorem dX0_isAt_2 : decode cX0_isAt 2 = .ok (.getfield 15, 3) := by decide +kernel
theorem dX0_isAt_5 : decode cX0_isAt 5 = .ok (.if_acmp .eq 11, 3) := by decide +kernel
theorem dX0_isAt_8 : decode cX0_isAt 8 = .ok (.aload_n 1, 1) := by decide +kernel
theorem dX0_isAt_9 : decode cX0_isAt 9 = .ok (.aload_n 0, 1) := by decide +kernel
theorem dX0_isAt_10 : decode cX0_isAt 10 = .ok (.getfield 19, 3) := by decide +kernel
theorem dX0_isAt_13 : decode cX0_isAt 13 = .ok (.if_acmp .ne 7, 3) := by decide +kernel
theorem dX0_isAt_16 : decode cX0_isAt 16 = .ok (.iconst 1, 1) := by decide +kernel
theorem dX0_isAt_17 : decode cX0_isAt 17 = .ok (.goto 4, 3) := by decide +kernel
theorem dX0_isAt_20 : decode cX0_isAt 20 = .ok (.iconst 0, 1) := by decide +kernel
theorem dX0_isAt_21 : decode cX0_isAt 21 = .ok (.ireturn, 1) := by decide +kernel
theorem dX0_otherRoom_0 : decode cX0_otherRoom 0 = .ok (.aload_n 1, 1) := by decide +kernel
theorem dX0_otherRoom_1 : decode cX0_otherRoom 1 = .ok (.aload_n 0, 1) := by decide +kernel
theorem dX0_otherRoom_2 : decode cX0_otherRoom 2 = .ok (.getfield 15, 3) := by decide +kernel
theorem dX0_otherRoom_5 : decode cX0_otherRoom 5 = .ok (.if_acmp .ne 10, 3) := by decide +kernel
theorem dX0_otherRoom_8 : decode cX0_otherRoom 8 = .ok (.aload_n 0, 1) := by decide +kernel
theorem dX0_otherRoom_9 : decode cX0_otherRoom 9 = .ok (.getfield 19, 3) := by decide +kernel
theorem dX0_otherRoom_12 : decode cX0_otherRoom 12 = .ok (.goto 7, 3) := by decide +kernel
theorem dX0_otherRoom_15 : decode cX0_otherRoom 15 = .ok (.aload_n 0, 1) := by decide +kernel
theorem dX0_otherRoom_16 : decode cX0_otherRoom 16 = .ok (.getfield 15, 3) := by decide +kernel
theorem dX0_otherRoom_19 : decode cX0_otherRoom 19 = .ok (.areturn, 1) := by decide +kernel
theorem dX0_timeBehind_0 : decode cX0_timeBehind 0 = .ok (.iload_n 1, 1) := by decide +kernel
theorem dX0_timeBehind_1 : decode cX0_timeBehind 1 = .ok (.aload_n 0, 1) := by decide +kernel
theorem dX0_timeBehind_2 : decode cX0_timeBehind 2 = .ok (.getfield 46, 3) := by decide +kernel
theorem dX0_timeBehind_5 : decode cX0_timeBehind 5 = .ok (.invokestatic 49, 3) := by decide +kernel
theorem dX0_timeBehind_8 : decode cX0_timeBehind 8 = .ok (.aload_n 0, 1) := by decide +kernel
theorem dX0_timeBehind_9 : decode cX0_timeBehind 9 = .ok (.getfield 22, 3) := by decide +kernel
theorem dX0_timeBehind_12 : decode cX0_timeBehind 12 = .ok (.iadd, 1) := by decide +kernel
theorem dX0_timeBehind_13 : decode cX0_timeBehind 13 = .ok (.ireturn, 1) := by decide +kernel
theorem dX0_isPassable_0 : decode cX0_isPassable 0 = .ok (.iload_n 1, 1) := by decide +kernel
theorem dX0_isPassable_1 : decode cX0_isPassable 1 = .ok (.aload_n 0, 1) := by decide +kernel
theorem dX0_isPassable_2 : decode cX0_isPassable 2 = .ok (.getfield 40, 3) := by decide +kernel
theorem dX0_isPassable_5 : decode cX0_isPassable 5 = .ok (.iand, 1) := by decide +kernel
theorem dX0_isPassable_6 : decode cX0_isPassable 6 = .ok (.aload_n 0, 1) := by decide +kernel
theorem dX0_isPassable_7 : decode cX0_isPassable 7 = .ok (.getfield 40, 3) := by decide +kernel
theorem dX0_isPassable_10 : decode cX0_isPassable 10 = .ok (.if_icmp .ne 7, 3) := by decide +kernel
theorem dX0_isPassable_13 : decode cX0_isPassable 13 = .ok (.iconst 1, 1) := by decide +kernel
theorem dX0_isPassable_14 : decode cX0_isPassable 14 = .ok (.goto 4, 3) := by decide +kernel
theorem dX0_isPassable_17 : decode cX0_isPassable 17 = .ok (.iconst 0, 1) := by decide +kernel
theorem dX0_isPassable_18 : decode cX0_isPassable 18 = .ok (.ireturn, 1) := by decide +kernel
theorem dX0_leadsOutOf_0 : decode cX0_leadsOutOf 0 = .ok (.iload_n 1, 1) := by decide +kernel
theorem dX0_leadsOutOf_1 : decode cX0_leadsOutOf 1 = .ok (.aload_n 0, 1) := by decide +kernel
theorem dX0_leadsOutOf_2 : decode cX0_leadsOutOf 2 = .ok (.getfield 30, 3) := by decide +kernel
theorem dX0_leadsOutOf_5 : decode cX0_leadsOutOf 5 = .ok (.iand, 1) := by decide +kernel
theorem dX0_leadsOutOf_6 : decode cX0_leadsOutOf 6 = .ok (.istore_n 2, 1) := by decide +kernel
theorem dX0_leadsOutOf_7 : decode cX0_leadsOutOf 7 = .ok (.iload_n 2, 1) := by decide +kernel
theorem dX0_leadsOutOf_8 : decode cX0_leadsOutOf 8 = .ok (.ifCond .eq 15, 3) := by decide +kernel
theorem dX0_leadsOutOf_11 : decode cX0_leadsOutOf 11 = .ok (.iload_n 2, 1) := by decide +kernel
theorem dX0_leadsOutOf_12 : decode cX0_leadsOutOf 12 = .ok (.aload_n 0, 1) := by decide +kernel
theorem dX0_leadsOutOf_13 : decode cX0_leadsOutOf 13 = .ok (.getfield 30, 3) := by decide +kernel
theorem dX0_leadsOutOf_16 : decode cX0_leadsOutOf 16 = .ok (.if_icmp .eq 7, 3) := by decide +kernel
theorem dX0_leadsOutOf_19 : decode cX0_leadsOutOf 19 = .ok (.iconst 1, 1) := by decide +kernel
theorem dX0_leadsOutOf_20 : decode cX0_leadsOutOf 20 = .ok (.goto 4, 3) := by decide +kernel
theorem dX0_leadsOutOf_23 : decode cX0_leadsOutOf 23 = .ok (.iconst 0, 1) := by decide +kernel
theorem dX0_leadsOutOf_24 : decode cX0_leadsOutOf 24 = .ok (.ireturn, 1) := by decide +kernel
theorem dX0_speedsUp_0 : decode cX0_speedsUp 0 = .ok (.aload_n 1, 1) := by decide +kernel
theorem dX0_speedsUp_1 : decode cX0_speedsUp 1 = .ok (.getfield 55, 3) := by decide +kernel
theorem dX0_speedsUp_4 : decode cX0_speedsUp 4 = .ok (.ldc 58, 2) := by decide +kernel
theorem dX0_speedsUp_6 : decode cX0_speedsUp 6 = .ok (.if_icmp .eq 18, 3) := by decide +kernel
theorem dX0_speedsUp_9 : decode cX0_speedsUp 9 = .ok (.aload_n 0, 1) := by decide +kernel
theorem dX0_speedsUp_10 : decode cX0_speedsUp 10 = .ok (.aload_n 1, 1) := by decide +kernel
theorem dX0_speedsUp_11 : decode cX0_speedsUp 11 = .ok (.getfield 55, 3) := by decide +kernel
theorem dX0_speedsUp_14 : decode cX0_speedsUp 14 = .ok (.invokevirtual 59, 3) := by decide +kernel
theorem dX0_speedsUp_17 : decode cX0_speedsUp 17 = .ok (.aload_n 2, 1) := by decide +kernel
theorem dX0_speedsUp_18 : decode cX0_speedsUp 18 = .ok (.getfield 55, 3) := by decide +kernel
theorem dX0_speedsUp_21 : decode cX0_speedsUp 21 = .ok (.if_icmp .lt 5, 3) := by decide +kernel
theorem dX0_speedsUp_24 : decode cX0_speedsUp 24 = .ok (.iconst 0, 1) := by decide +kernel
theorem dX0_speedsUp_25 : decode cX0_speedsUp 25 = .ok (.ireturn, 1) := by decide +kernel
theorem dX0_speedsUp_26 : decode cX0_speedsUp 26 = .ok (.aload_n 2, 1) := by decide +kernel
theorem dX0_speedsUp_27 : decode cX0_speedsUp 27 = .ok (.aload_n 0, 1) := by decide +kernel
theorem dX0_speedsUp_28 : decode cX0_speedsUp 28 = .ok (.aload_n 1, 1) := by decide +kernel
theorem dX0_speedsUp_29 : decode cX0_speedsUp 29 = .ok (.getfield 55, 3) := by decide +kernel
theorem dX0_speedsUp_32 : decode cX0_speedsUp 32 = .ok (.invokevirtual 59, 3) := by decide +kernel
theorem dX0_speedsUp_35 : decode cX0_speedsUp 35 = .ok (.putfield 55, 3) := by decide +kernel
theorem dX0_speedsUp_38 : decode cX0_speedsUp 38 = .ok (.iconst 1, 1) := by decide +kernel
theorem dX0_speedsUp_39 : decode cX0_speedsUp 39 = .ok (.ireturn, 1) := by decide +kernel
theorem dX1_init_0 : decode cX1_init 0 = .ok (.aload_n 0, 1) := by decide +kernel
theorem dX1_init_1 : decode cX1_init 1 = .ok (.invokespecial 3, 3) := by decide +kernel
theorem dX1_init_4 : decode cX1_init 4 = .ok (.aload_n 0, 1) := by decide +kernel
theorem dX1_init_5 : decode cX1_init 5 = .ok (.iload_n 1, 1) := by decide +kernel
theorem dX1_init_6 : decode cX1_init 6 = .ok (.putfield 9, 3) := by decide +kernel
theorem dX1_init_9 : decode cX1_init 9 = .ok (.aload_n 0, 1) := by decide +kernel
theorem dX1_init_10 : decode cX1_init 10 = .ok (.iload_n 2, 1) := by decide +kernel
theorem dX1_init_11 : decode cX1_init 11 = .ok (.putfield 15, 3) := by decide +kernel
theorem dX1_init_14 : decode cX1_init 14 = .ok (.aload_n 0, 1) := by decide +kernel
theorem dX1_init_15 : decode cX1_init 15 = .ok (.aload_n 3, 1) := by decide +kernel
theorem dX1_init_16 : decode cX1_init 16 = .ok (.putfield 18, 3) := by decide +kernel
theorem dX1_init_19 : decode cX1_init 19 = .ok (.aload_n 0, 1) := by decide +kernel
theorem dX1_init_20 : decode cX1_init 20 = .ok (.iload 4, 2) := by decide +kernel
theorem dX1_init_22 : decode cX1_init 22 = .ok (.putfield 22, 3) := by decide +kernel
theorem dX1_init_25 : decode cX1_init 25 = .ok (.aload_n 0, 1) := by decide +kernel
theorem dX1_init_26 : decode cX1_init 26 = .ok (.iconst 0, 1) := by decide +kernel
theorem dX1_init_27 : decode cX1_init 27 = .ok (.putfield 25, 3) := by decide +kernel
theorem dX1_init_30 : decode cX1_init 30 = .ok (.return_, 1) := by decide +kernel
theorem dX1_isInPlay_0 : decode cX1_isInPlay 0 = .ok (.aload_n 0, 1) := by decide +kernel
theorem dX1_isInPlay_1 : decode cX1_isInPlay 1 = .ok (.getfield 25, 3) := by decide +kernel
theorem dX1_isInPlay_4 : decode cX1_isInPlay 4 = .ok (.ifCond .ne 7, 3) := by decide +kernel
theorem dX1_isInPlay_7 : decode cX1_isInPlay 7 = .ok (.iconst 1, 1) := by decide +kernel
theorem dX1_isInPlay_8 : decode cX1_isInPlay 8 = .ok (.goto 4, 3) := by decide +kernel
theorem dX1_isInPlay_11 : decode cX1_isInPlay 11 = .ok (.iconst 0, 1) := by decide +kernel
theorem dX1_isInPlay_12 : decode cX1_isInPlay 12 = .ok (.ireturn, 1) := by decide +kernel
theorem dX2_init_0 : decode cX2_init 0 = .ok (.aload_n 0, 1) := by decide +kernel
theorem dX2_init_1 : decode cX2_init 1 = .ok (.invokespecial 3, 3) := by decide +kernel
theorem dX2_init_4 : decode cX2_init 4 = .ok (.aload_n 0, 1) := by decide +kernel
theorem dX2_init_5 : decode cX2_init 5 = .ok (.iload_n 1, 1) := by decide +kernel
theorem dX2_init_6 : decode cX2_init 6 = .ok (.putfield 9, 3) := by decide +kernel
theorem dX2_init_9 : decode cX2_init 9 = .ok (.aload_n 0, 1) := by decide +kernel
theorem dX2_init_10 : decode cX2_init 10 = .ok (.iload_n 2, 1) := by decide +kernel
theorem dX2_init_11 : decode cX2_init 11 = .ok (.putfield 15, 3) := by decide +kernel
theorem dX2_init_14 : decode cX2_init 14 = .ok (.aload_n 0, 1) := by decide +kernel
theorem dX2_init_15 : decode cX2_init 15 = .ok (.aload_n 3, 1) := by decide +kernel
theorem dX2_init_16 : decode cX2_init 16 = .ok (.putfield 18, 3) := by decide +kernel
theorem dX2_init_19 : decode cX2_init 19 = .ok (.return_, 1) := by decide +kernel
theorem dX2_state_0 : decode cX2_state 0 = .ok (.aload_n 0, 1) := by decide +kernel
theorem dX2_state_1 : decode cX2_state 1 = .ok (.getfield 18, 3) := by decide +kernel
theorem dX2_state_4 : decode cX2_state 4 = .ok (.ifnull 5, 3) := by decide +kernel
theorem dX2_state_7 : decode cX2_state 7 = .ok (.iconst 0, 1) := by decide +kernel
theorem dX2_state_8 : decode cX2_state 8 = .ok (.ireturn, 1) := by decide +kernel
theorem dX2_state_9 : decode cX2_state 9 = .ok (.aload_n 0, 1) := by decide +kernel
theorem dX2_state_10 : decode cX2_state 10 = .ok (.getfield 22, 3) := by decide +kernel
theorem dX2_state_13 : decode cX2_state 13 = .ok (.ifnull 7, 3) := by decide +kernel
theorem dX2_state_16 : decode cX2_state 16 = .ok (.iconst 1, 1) := by decide +kernel
theorem dX2_state_17 : decode cX2_state 17 = .ok (.goto 4, 3) := by decide +kernel
theorem dX2_state_20 : decode cX2_state 20 = .ok (.iconst 2, 1) := by decide +kernel
theorem dX2_state_21 : decode cX2_state 21 = .ok (.ireturn, 1) := by decide +kernel
theorem dX2_layDown_0 : decode cX2_layDown 0 = .ok (.aload_n 0, 1) := by decide +kernel
theorem dX2_layDown_1 : decode cX2_layDown 1 = .ok (.aload_n 1, 1) := by decide +kernel
theorem dX2_layDown_2 : decode cX2_layDown 2 = .ok (.putfield 18, 3) := by decide +kernel
theorem dX2_layDown_5 : decode cX2_layDown 5 = .ok (.aload_n 0, 1) := by decide +kernel
theorem dX2_layDown_6 : decode cX2_layDown 6 = .ok (.iload_n 2, 1) := by decide +kernel
theorem dX2_layDown_7 : decode cX2_layDown 7 = .ok (.putfield 26, 3) := by decide +kernel
theorem dX2_layDown_10 : decode cX2_layDown 10 = .ok (.aload_n 0, 1) := by decide +kernel
theorem dX2_layDown_11 : decode cX2_layDown 11 = .ok (.aconst_null, 1) := by decide +kernel
theorem dX2_layDown_12 : decode cX2_layDown 12 = .ok (.putfield 22, 3) := by decide +kernel
theorem dX2_layDown_15 : decode cX2_layDown 15 = .ok (.return_, 1) := by decide +kernel
theorem dX2_giveTo_0 : decode cX2_giveTo 0 = .ok (.aload_n 0, 1) := by decide +kernel
theorem dX2_giveTo_1 : decode cX2_giveTo 1 = .ok (.aconst_null, 1) := by decide +kernel
theorem dX2_giveTo_2 : decode cX2_giveTo 2 = .ok (.putfield 18, 3) := by decide +kernel
theorem dX2_giveTo_5 : decode cX2_giveTo 5 = .ok (.aload_n 0, 1) := by decide +kernel
theorem dX2_giveTo_6 : decode cX2_giveTo 6 = .ok (.aload_n 1, 1) := by decide +kernel
theorem dX2_giveTo_7 : decode cX2_giveTo 7 = .ok (.putfield 22, 3) := by decide +kernel
theorem dX2_giveTo_10 : decode cX2_giveTo 10 = .ok (.return_, 1) := by decide +kernel
theorem dX2_useUp_0 : decode cX2_useUp 0 = .ok (.aload_n 0, 1) := by decide +kernel
theorem dX2_useUp_1 : decode cX2_useUp 1 = .ok (.aconst_null, 1) := by decide +kernel
theorem dX2_useUp_2 : decode cX2_useUp 2 = .ok (.putfield 22, 3) := by decide +kernel
theorem dX2_useUp_5 : decode cX2_useUp 5 = .ok (.aload_n 0, 1) := by decide +kernel
theorem dX2_useUp_6 : decode cX2_useUp 6 = .ok (.aload_n 1, 1) := by decide +kernel
theorem dX2_useUp_7 : decode cX2_useUp 7 = .ok (.putfield 29, 3) := by decide +kernel
theorem dX2_useUp_10 : decode cX2_useUp 10 = .ok (.return_, 1) := by decide +kernel
theorem dX2_isWithin_0 : decode cX2_isWithin 0 = .ok (.aload_n 0, 1) := by decide +kernel
theorem dX2_isWithin_1 : decode cX2_isWithin 1 = .ok (.getfield 18, 3) := by decide +kernel
theorem dX2_isWithin_4 : decode cX2_isWithin 4 = .ok (.ifnull 21, 3) := by decide +kernel
theorem dX2_isWithin_7 : decode cX2_isWithin 7 = .ok (.aload_n 0, 1) := by decide +kernel
theorem dX2_isWithin_8 : decode cX2_isWithin 8 = .ok (.getfield 18, 3) := by decide +kernel
theorem dX2_isWithin_11 : decode cX2_isWithin 11 = .ok (.getfield 33, 3) := by decide +kernel
theorem dX2_isWithin_14 : decode cX2_isWithin 14 = .ok (.iload_n 2, 1) := by decide +kernel
theorem dX2_isWithin_15 : decode cX2_isWithin 15 = .ok (.iand, 1) := by decide +kernel
theorem dX2_isWithin_16 : decode cX2_isWithin 16 = .ok (.ifCond .eq 7, 3) := by decide +kernel
theorem dX2_isWithin_19 : decode cX2_isWithin 19 = .ok (.iconst 1, 1) := by decide +kernel
theorem dX2_isWithin_20 : decode cX2_isWithin 20 = .ok (.goto 4, 3) := by decide +kernel
theorem dX2_isWithin_23 : decode cX2_isWithin 23 = .ok (.iconst 0, 1) := by decide +kernel
theorem dX2_isWithin_24 : decode cX2_isWithin 24 = .ok (.ireturn, 1) := by decide +kernel
theorem dX2_isWithin_25 : decode cX2_isWithin 25 = .ok (.aload_n 0, 1) := by decide +kernel
theorem dX2_isWithin_26 : decode cX2_isWithin 26 = .ok (.getfield 22, 3) := by decide +kernel
theorem dX2_isWithin_29 : decode cX2_isWithin 29 = .ok (.aload_n 1, 1) := by decide +kernel
theorem dX2_isWithin_30 : decode cX2_isWithin 30 = .ok (.if_acmp .ne 7, 3) := by decide +kernel
theorem dX2_isWithin_33 : decode cX2_isWithin 33 = .ok (.iconst 1, 1) := by decide +kernel
theorem dX2_isWithin_34 : decode cX2_isWithin 34 = .ok (.goto 4, 3) := by decide +kernel
theorem dX2_isWithin_37 : decode cX2_isWithin 37 = .ok (.iconst 0, 1) := by decide +kernel
theorem dX2_isWithin_38 : decode cX2_isWithin 38 = .ok (.ireturn, 1) := by decide +kernel
theorem dX3_init_0 : decode cX3_init 0 = .ok (.aload_n 0, 1) := by decide +kernel
theorem dX3_init_1 : decode cX3_init 1 = .ok (.invokespecial 3, 3) := by decide +kernel
theorem dX3_init_4 : decode cX3_init 4 = .ok (.aload_n 0, 1) := by decide +kernel
theorem dX3_init_5 : decode cX3_init 5 = .ok (.sipush 1024, 3) := by decide +kernel
theorem dX3_init_8 : decode cX3_init 8 = .ok (.newarray .int, 2) := by decide +kernel
theorem dX3_init_10 : decode cX3_init 10 = .ok (.putfield 9, 3) := by decide +kernel
theorem dX3_init_13 : decode cX3_init 13 = .ok (.aload_n 0, 1) := by decide +kernel
theorem dX3_init_14 : decode cX3_init 14 = .ok (.sipush 1024, 3) := by decide +kernel
theorem dX3_init_17 : decode cX3_init 17 = .ok (.newarray .long, 2) := by decide +kernel
theorem dX3_init_19 : decode cX3_init 19 = .ok (.putfield 15, 3) := by decide +kernel
theorem dX3_init_22 : decode cX3_init 22 = .ok (.return_, 1) := by decide +kernel
theorem dX3_find_0 : decode cX3_find 0 = .ok (.aload_n 0, 1) := by decide +kernel
theorem dX3_find_1 : decode cX3_find 1 = .ok (.iconst 0, 1) := by decide +kernel
theorem dX3_find_2 : decode cX3_find 2 = .ok (.putfield 19, 3) := by decide +kernel
theorem dX3_find_5 : decode cX3_find 5 = .ok (.aload_n 2, 1) := by decide +kernel
theorem dX3_find_6 : decode cX3_find 6 = .ok (.ifnonnull 4, 3) := by decide +kernel
theorem dX3_find_9 : decode cX3_find 9 = .ok (.return_, 1) := by decide +kernel
theorem dX3_find_10 : decode cX3_find 10 = .ok (.aload_n 0, 1) := by decide +kernel
theorem dX3_find_11 : decode cX3_find 11 = .ok (.aload_n 1, 1) := by decide +kernel
theorem dX3_find_12 : decode cX3_find 12 = .ok (.putfield 23, 3) := by decide +kernel
theorem dX3_find_15 : decode cX3_find 15 = .ok (.aload_n 0, 1) := by decide +kernel
theorem dX3_find_16 : decode cX3_find 16 = .ok (.aload_n 3, 1) := by decide +kernel
theorem dX3_find_17 : decode cX3_find 17 = .ok (.putfield 27, 3) := by decide +kernel
theorem dX3_find_20 : decode cX3_find 20 = .ok (.aload_n 0, 1) := by decide +kernel
theorem dX3_find_21 : decode cX3_find 21 = .ok (.aload 4, 2) := by decide +kernel
theorem dX3_find_23 : decode cX3_find 23 = .ok (.putfield 31, 3) := by decide +kernel
theorem dX3_find_26 : decode cX3_find 26 = .ok (.aload_n 0, 1) := by decide +kernel
theorem dX3_find_27 : decode cX3_find 27 = .ok (.aload_n 3, 1) := by decide +kernel
theorem dX3_find_28 : decode cX3_find 28 = .ok (.invokestatic 34, 3) := by decide +kernel
theorem dX3_find_31 : decode cX3_find 31 = .ok (.putfield 38, 3) := by decide +kernel
theorem dX3_find_34 : decode cX3_find 34 = .ok (.iconst 1, 1) := by decide +kernel
theorem dX3_find_35 : decode cX3_find 35 = .ok (.iload 5, 2) := by decide +kernel
theorem dX3_find_37 : decode cX3_find 37 = .ok (.ishl, 1) := by decide +kernel
theorem dX3_find_38 : decode cX3_find 38 = .ok (.aload_n 0, 1) := by decide +kernel
theorem dX3_find_39 : decode cX3_find 39 = .ok (.getfield 9, 3) := by decide +kernel
theorem dX3_find_42 : decode cX3_find 42 = .ok (.arraylength, 1) := by decide +kernel
theorem dX3_find_43 : decode cX3_find 43 = .ok (.aload_n 0, 1) := by decide +kernel
theorem dX3_find_44 : decode cX3_find 44 = .ok (.getfield 15, 3) := by decide +kernel
theorem dX3_find_47 : decode cX3_find 47 = .ok (.arraylength, 1) := by decide +kernel
theorem dX3_find_48 : decode cX3_find 48 = .ok (.invokestatic 42, 3) := by decide +kernel
theorem dX3_find_51 : decode cX3_find 51 = .ok (.invokestatic 42, 3) := by decide +kernel
theorem dX3_find_54 : decode cX3_find 54 = .ok (.istore 6, 2) := by decide +kernel
theorem dX3_find_56 : decode cX3_find 56 = .ok (.iconst 0, 1) := by decide +kernel
theorem dX3_find_57 : decode cX3_find 57 = .ok (.istore 7, 2) := by decide +kernel
theorem dX3_find_59 : decode cX3_find 59 = .ok (.iload 7, 2) := by decide +kernel
theorem dX3_find_61 : decode cX3_find 61 = .ok (.iload 6, 2) := by decide +kernel
theorem dX3_find_63 : decode cX3_find 63 = .ok (.if_icmp .ge 17, 3) := by decide +kernel
theorem dX3_find_66 : decode cX3_find 66 = .ok (.aload_n 0, 1) := by decide +kernel
theorem dX3_find_67 : decode cX3_find 67 = .ok (.getfield 9, 3) := by decide +kernel
theorem dX3_find_70 : decode cX3_find 70 = .ok (.iload 7, 2) := by decide +kernel
theorem dX3_find_72 : decode cX3_find 72 = .ok (.iconst 0, 1) := by decide +kernel
theorem dX3_find_73 : decode cX3_find 73 = .ok (.iastore, 1) := by decide +kernel
theorem dX3_find_74 : decode cX3_find 74 = .ok (.iinc 7 1, 3) := by decide +kernel
theorem dX3_find_77 : decode cX3_find 77 = .ok (.goto (-18), 3) := by decide +kernel
theorem dX3_find_80 : decode cX3_find 80 = .ok (.aload_n 0, 1) := by decide +kernel
theorem dX3_find_81 : decode cX3_find 81 = .ok (.aload_n 0, 1) := by decide +kernel
theorem dX3_find_82 : decode cX3_find 82 = .ok (.getfield 38, 3) := by decide +kernel
theorem dX3_find_85 : decode cX3_find 85 = .ok (.aload_n 1, 1) := by decide +kernel
theorem dX3_find_86 : decode cX3_find 86 = .ok (.getfield 48, 3) := by decide +kernel
theorem dX3_find_89 : decode cX3_find 89 = .ok (.getfield 54, 3) := by decide +kernel
theorem dX3_find_92 : decode cX3_find 92 = .ok (.lconst 0, 1) := by decide +kernel
theorem dX3_find_93 : decode cX3_find 93 = .ok (.invokevirtual 59, 3) := by decide +kernel
theorem dX3_find_96 : decode cX3_find 96 = .ok (.iconst 0, 1) := by decide +kernel
theorem dX3_find_97 : decode cX3_find 97 = .ok (.istore 7, 2) := by decide +kernel
theorem dX3_find_99 : decode cX3_find 99 = .ok (.iload 7, 2) := by decide +kernel
theorem dX3_find_101 : decode cX3_find 101 = .ok (.iload 6, 2) := by decide +kernel
theorem dX3_find_103 : decode cX3_find 103 = .ok (.if_icmp .ge 70, 3) := by decide +kernel
theorem dX3_find_106 : decode cX3_find 106 = .ok (.aload_n 0, 1) := by decide +kernel
theorem dX3_find_107 : decode cX3_find 107 = .ok (.getfield 9, 3) := by decide +kernel
theorem dX3_find_110 : decode cX3_find 110 = .ok (.iload 7, 2) := by decide +kernel
theorem dX3_find_112 : decode cX3_find 112 = .ok (.iaload, 1) := by decide +kernel
theorem dX3_find_113 : decode cX3_find 113 = .ok (.aload_n 2, 1) := by decide +kernel
theorem dX3_find_114 : decode cX3_find 114 = .ok (.getfield 54, 3) := by decide +kernel
theorem dX3_find_117 : decode cX3_find 117 = .ok (.iand, 1) := by decide +kernel
theorem dX3_find_118 : decode cX3_find 118 = .ok (.ifCond .eq 19, 3) := by decide +kernel
theorem dX3_find_121 : decode cX3_find 121 = .ok (.aload_n 0, 1) := by decide +kernel
theorem dX3_find_122 : decode cX3_find 122 = .ok (.iload 7, 2) := by decide +kernel
theorem dX3_find_124 : decode cX3_find 124 = .ok (.aload_n 0, 1) := by decide +kernel
theorem dX3_find_125 : decode cX3_find 125 = .ok (.getfield 15, 3) := by decide +kernel
theorem dX3_find_128 : decode cX3_find 128 = .ok (.iload 7, 2) := by decide +kernel
theorem dX3_find_130 : decode cX3_find 130 = .ok (.laload, 1) := by decide +kernel
theorem dX3_find_131 : decode cX3_find 131 = .ok (.invokevirtual 63, 3) := by decide +kernel
theorem dX3_find_134 : decode cX3_find 134 = .ok (.goto 33, 3) := by decide +kernel
theorem dX3_find_137 : decode cX3_find 137 = .ok (.aload_n 0, 1) := by decide +kernel
theorem dX3_find_138 : decode cX3_find 138 = .ok (.getfield 9, 3) := by decide +kernel
theorem dX3_find_141 : decode cX3_find 141 = .ok (.iload 7, 2) := by decide +kernel
theorem dX3_find_143 : decode cX3_find 143 = .ok (.iaload, 1) := by decide +kernel
theorem dX3_find_144 : decode cX3_find 144 = .ok (.ifCond .eq 23, 3) := by decide +kernel
theorem dX3_find_147 : decode cX3_find 147 = .ok (.aload_n 0, 1) := by decide +kernel
theorem dX3_find_148 : decode cX3_find 148 = .ok (.iload 7, 2) := by decide +kernel
theorem dX3_find_150 : decode cX3_find 150 = .ok (.aload_n 0, 1) := by decide +kernel
theorem dX3_find_151 : decode cX3_find 151 = .ok (.getfield 9, 3) := by decide +kernel
theorem dX3_find_154 : decode cX3_find 154 = .ok (.iload 7, 2) := by decide +kernel
theorem dX3_find_156 : decode cX3_find 156 = .ok (.iaload, 1) := by decide +kernel
theorem dX3_find_157 : decode cX3_find 157 = .ok (.aload_n 0, 1) := by decide +kernel
theorem dX3_find_158 : decode cX3_find 158 = .ok (.getfield 15, 3) := by decide +kernel
theorem dX3_find_161 : decode cX3_find 161 = .ok (.iload 7, 2) := by decide +kernel
theorem dX3_find_163 : decode cX3_find 163 = .ok (.laload, 1) := by decide +kernel
theorem dX3_find_164 : decode cX3_find 164 = .ok (.invokevirtual 67, 3) := by decide +kernel
theorem dX3_find_167 : decode cX3_find 167 = .ok (.iinc 7 1, 3) := by decide +kernel
theorem dX3_find_170 : decode cX3_find 170 = .ok (.goto (-71), 3) := by decide +kernel
theorem dX3_find_173 : decode cX3_find 173 = .ok (.return_, 1) := by decide +kernel
theorem dX3_doorAt_0 : decode cX3_doorAt 0 = .ok (.aload_n 0, 1) := by decide +kernel
theorem dX3_doorAt_1 : decode cX3_doorAt 1 = .ok (.getfield 70, 3) := by decide +kernel
theorem dX3_doorAt_4 : decode cX3_doorAt 4 = .ok (.iconst 4, 1) := by decide +kernel
theorem dX3_doorAt_5 : decode cX3_doorAt 5 = .ok (.aload_n 0, 1) := by decide +kernel
theorem dX3_doorAt_6 : decode cX3_doorAt 6 = .ok (.getfield 74, 3) := by decide +kernel
theorem dX3_doorAt_9 : decode cX3_doorAt 9 = .ok (.iconst 1, 1) := by decide +kernel
theorem dX3_doorAt_10 : decode cX3_doorAt 10 = .ok (.isub, 1) := by decide +kernel
theorem dX3_doorAt_11 : decode cX3_doorAt 11 = .ok (.iload_n 1, 1) := by decide +kernel
theorem dX3_doorAt_12 : decode cX3_doorAt 12 = .ok (.isub, 1) := by decide +kernel
theorem dX3_doorAt_13 : decode cX3_doorAt 13 = .ok (.imul, 1) := by decide +kernel
theorem dX3_doorAt_14 : decode cX3_doorAt 14 = .ok (.lshr, 1) := by decide +kernel
theorem dX3_doorAt_15 : decode cX3_doorAt 15 = .ok (.l2i, 1) := by decide +kernel
theorem dX3_doorAt_16 : decode cX3_doorAt 16 = .ok (.bipush 15, 2) := by decide +kernel
theorem dX3_doorAt_18 : decode cX3_doorAt 18 = .ok (.iand, 1) := by decide +kernel
theorem dX3_doorAt_19 : decode cX3_doorAt 19 = .ok (.ireturn, 1) := by decide +kernel
theorem dX3_comeTo_0 : decode cX3_comeTo 0 = .ok (.iload_n 1, 1) := by decide +kernel
theorem dX3_comeTo_1 : decode cX3_comeTo 1 = .ok (.ifCond .lt 21, 3) := by decide +kernel
theorem dX3_comeTo_4 : decode cX3_comeTo 4 = .ok (.iload_n 1, 1) := by decide +kernel
theorem dX3_comeTo_5 : decode cX3_comeTo 5 = .ok (.aload_n 0, 1) := by decide +kernel
theorem dX3_comeTo_6 : decode cX3_comeTo 6 = .ok (.getfield 9, 3) := by decide +kernel
theorem dX3_comeTo_9 : decode cX3_comeTo 9 = .ok (.arraylength, 1) := by decide +kernel
theorem dX3_comeTo_10 : decode cX3_comeTo 10 = .ok (.if_icmp .ge 12, 3) := by decide +kernel
theorem dX3_comeTo_13 : decode cX3_comeTo 13 = .ok (.iload_n 1, 1) := by decide +kernel
theorem dX3_comeTo_14 : decode cX3_comeTo 14 = .ok (.aload_n 0, 1) := by decide +kernel
theorem dX3_comeTo_15 : decode cX3_comeTo 15 = .ok (.getfield 15, 3) := by decide +kernel
theorem dX3_comeTo_18 : decode cX3_comeTo 18 = .ok (.arraylength, 1) := by decide +kernel
theorem dX3_comeTo_19 : decode cX3_comeTo 19 = .ok (.if_icmp .lt 4, 3) := by decide +kernel
theorem dX3_comeTo_22 : decode cX3_comeTo 22 = .ok (.return_, 1) := by decide +kernel
theorem dX3_comeTo_23 : decode cX3_comeTo 23 = .ok (.aload_n 0, 1) := by decide +kernel
theorem dX3_comeTo_24 : decode cX3_comeTo 24 = .ok (.getfield 9, 3) := by decide +kernel
theorem dX3_comeTo_27 : decode cX3_comeTo 27 = .ok (.iload_n 1, 1) := by decide +kernel
theorem dX3_comeTo_28 : decode cX3_comeTo 28 = .ok (.iaload, 1) := by decide +kernel
theorem dX3_comeTo_29 : decode cX3_comeTo 29 = .ok (.ifCond .ne 28, 3) := by decide +kernel
theorem dX3_comeTo_32 : decode cX3_comeTo 32 = .ok (.aload_n 0, 1) := by decide +kernel
theorem dX3_comeTo_33 : decode cX3_comeTo 33 = .ok (.getfield 9, 3) := by decide +kernel
theorem dX3_comeTo_36 : decode cX3_comeTo 36 = .ok (.iload_n 1, 1) := by decide +kernel
theorem dX3_comeTo_37 : decode cX3_comeTo 37 = .ok (.aload_n 0, 1) := by decide +kernel
theorem dX3_comeTo_38 : decode cX3_comeTo 38 = .ok (.getfield 27, 3) := by decide +kernel
theorem dX3_comeTo_41 : decode cX3_comeTo 41 = .ok (.iload_n 2, 1) := by decide +kernel
theorem dX3_comeTo_42 : decode cX3_comeTo 42 = .ok (.iload_n 1, 1) := by decide +kernel
theorem dX3_comeTo_43 : decode cX3_comeTo 43 = .ok (.invokestatic 77, 3) := by decide +kernel
theorem dX3_comeTo_46 : decode cX3_comeTo 46 = .ok (.iastore, 1) := by decide +kernel
theorem dX3_comeTo_47 : decode cX3_comeTo 47 = .ok (.aload_n 0, 1) := by decide +kernel
theorem dX3_comeTo_48 : decode cX3_comeTo 48 = .ok (.getfield 15, 3) := by decide +kernel
theorem dX3_comeTo_51 : decode cX3_comeTo 51 = .ok (.iload_n 1, 1) := by decide +kernel
theorem dX3_comeTo_52 : decode cX3_comeTo 52 = .ok (.lload_n 3, 1) := by decide +kernel
theorem dX3_comeTo_53 : decode cX3_comeTo 53 = .ok (.lastore, 1) := by decide +kernel
theorem dX3_comeTo_54 : decode cX3_comeTo 54 = .ok (.goto 21, 3) := by decide +kernel
theorem dX3_comeTo_57 : decode cX3_comeTo 57 = .ok (.lload_n 3, 1) := by decide +kernel
theorem dX3_comeTo_58 : decode cX3_comeTo 58 = .ok (.aload_n 0, 1) := by decide +kernel
theorem dX3_comeTo_59 : decode cX3_comeTo 59 = .ok (.getfield 15, 3) := by decide +kernel
theorem dX3_comeTo_62 : decode cX3_comeTo 62 = .ok (.iload_n 1, 1) := by decide +kernel
theorem dX3_comeTo_63 : decode cX3_comeTo 63 = .ok (.laload, 1) := by decide +kernel
theorem dX3_comeTo_64 : decode cX3_comeTo 64 = .ok (.lcmp, 1) := by decide +kernel
theorem dX3_comeTo_65 : decode cX3_comeTo 65 = .ok (.ifCond .ge 10, 3) := by decide +kernel
theorem dX3_comeTo_68 : decode cX3_comeTo 68 = .ok (.aload_n 0, 1) := by decide +kernel
theorem dX3_comeTo_69 : decode cX3_comeTo 69 = .ok (.getfield 15, 3) := by decide +kernel
theorem dX3_comeTo_72 : decode cX3_comeTo 72 = .ok (.iload_n 1, 1) := by decide +kernel
theorem dX3_comeTo_73 : decode cX3_comeTo 73 = .ok (.lload_n 3, 1) := by decide +kernel
theorem dX3_comeTo_74 : decode cX3_comeTo 74 = .ok (.lastore, 1) := by decide +kernel
theorem dX3_comeTo_75 : decode cX3_comeTo 75 = .ok (.return_, 1) := by decide +kernel
theorem dX3_goOnFrom_0 : decode cX3_goOnFrom 0 = .ok (.aload_n 0, 1) := by decide +kernel
theorem dX3_goOnFrom_1 : decode cX3_goOnFrom 1 = .ok (.iload_n 1, 1) := by decide +kernel
theorem dX3_goOnFrom_2 : decode cX3_goOnFrom 2 = .ok (.iload_n 2, 1) := by decide +kernel
theorem dX3_goOnFrom_3 : decode cX3_goOnFrom 3 = .ok (.invokevirtual 81, 3) := by decide +kernel
theorem dX3_goOnFrom_6 : decode cX3_goOnFrom 6 = .ok (.istore 5, 2) := by decide +kernel
theorem dX3_goOnFrom_8 : decode cX3_goOnFrom 8 = .ok (.iconst 0, 1) := by decide +kernel
theorem dX3_goOnFrom_9 : decode cX3_goOnFrom 9 = .ok (.istore 6, 2) := by decide +kernel
theorem dX3_goOnFrom_11 : decode cX3_goOnFrom 11 = .ok (.iload 6, 2) := by decide +kernel
theorem dX3_goOnFrom_13 : decode cX3_goOnFrom 13 = .ok (.aload_n 0, 1) := by decide +kernel
theorem dX3_goOnFrom_14 : decode cX3_goOnFrom 14 = .ok (.getfield 27, 3) := by decide +kernel
theorem dX3_goOnFrom_17 : decode cX3_goOnFrom 17 = .ok (.invokevirtual 84, 3) := by decide +kernel
theorem dX3_goOnFrom_20 : decode cX3_goOnFrom 20 = .ok (.if_icmp .ge 82, 3) := by decide +kernel
theorem dX3_goOnFrom_23 : decode cX3_goOnFrom 23 = .ok (.aload_n 0, 1) := by decide +kernel
theorem dX3_goOnFrom_24 : decode cX3_goOnFrom 24 = .ok (.getfield 27, 3) := by decide +kernel
theorem dX3_goOnFrom_27 : decode cX3_goOnFrom 27 = .ok (.iload 6, 2) := by decide +kernel
theorem dX3_goOnFrom_29 : decode cX3_goOnFrom 29 = .ok (.invokevirtual 90, 3) := by decide +kernel
theorem dX3_goOnFrom_32 : decode cX3_goOnFrom 32 = .ok (.checkcast 94, 3) := by decide +kernel
theorem dX3_goOnFrom_35 : decode cX3_goOnFrom 35 = .ok (.astore 7, 2) := by decide +kernel
theorem dX3_goOnFrom_37 : decode cX3_goOnFrom 37 = .ok (.aload 7, 2) := by decide +kernel
theorem dX3_goOnFrom_39 : decode cX3_goOnFrom 39 = .ok (.iload_n 1, 1) := by decide +kernel
theorem dX3_goOnFrom_40 : decode cX3_goOnFrom 40 = .ok (.invokevirtual 96, 3) := by decide +kernel
theorem dX3_goOnFrom_43 : decode cX3_goOnFrom 43 = .ok (.ifCond .ne 53, 3) := by decide +kernel
theorem dX3_goOnFrom_46 : decode cX3_goOnFrom 46 = .ok (.aload 7, 2) := by decide +kernel
theorem dX3_goOnFrom_48 : decode cX3_goOnFrom 48 = .ok (.iload_n 2, 1) := by decide +kernel
theorem dX3_goOnFrom_49 : decode cX3_goOnFrom 49 = .ok (.invokevirtual 100, 3) := by decide +kernel
theorem dX3_goOnFrom_52 : decode cX3_goOnFrom 52 = .ok (.ifCond .eq 44, 3) := by decide +kernel
theorem dX3_goOnFrom_55 : decode cX3_goOnFrom 55 = .ok (.iload 5, 2) := by decide +kernel
theorem dX3_goOnFrom_57 : decode cX3_goOnFrom 57 = .ok (.aload 7, 2) := by decide +kernel
theorem dX3_goOnFrom_59 : decode cX3_goOnFrom 59 = .ok (.getfield 103, 3) := by decide +kernel
theorem dX3_goOnFrom_62 : decode cX3_goOnFrom 62 = .ok (.invokestatic 106, 3) := by decide +kernel
theorem dX3_goOnFrom_65 : decode cX3_goOnFrom 65 = .ok (.ifCond .eq 31, 3) := by decide +kernel
theorem dX3_goOnFrom_68 : decode cX3_goOnFrom 68 = .ok (.aload_n 0, 1) := by decide +kernel
theorem dX3_goOnFrom_69 : decode cX3_goOnFrom 69 = .ok (.iload_n 1, 1) := by decide +kernel
theorem dX3_goOnFrom_70 : decode cX3_goOnFrom 70 = .ok (.aload 7, 2) := by decide +kernel
theorem dX3_goOnFrom_72 : decode cX3_goOnFrom 72 = .ok (.getfield 110, 3) := by decide +kernel
theorem dX3_goOnFrom_75 : decode cX3_goOnFrom 75 = .ok (.ior, 1) := by decide +kernel
theorem dX3_goOnFrom_76 : decode cX3_goOnFrom 76 = .ok (.iload_n 2, 1) := by decide +kernel
theorem dX3_goOnFrom_77 : decode cX3_goOnFrom 77 = .ok (.aload 7, 2) := by decide +kernel
theorem dX3_goOnFrom_79 : decode cX3_goOnFrom 79 = .ok (.getfield 113, 3) := by decide +kernel
theorem dX3_goOnFrom_82 : decode cX3_goOnFrom 82 = .ok (.ior, 1) := by decide +kernel
theorem dX3_goOnFrom_83 : decode cX3_goOnFrom 83 = .ok (.lload_n 3, 1) := by decide +kernel
theorem dX3_goOnFrom_84 : decode cX3_goOnFrom 84 = .ok (.iconst 4, 1) := by decide +kernel
theorem dX3_goOnFrom_85 : decode cX3_goOnFrom 85 = .ok (.lshl, 1) := by decide +kernel
theorem dX3_goOnFrom_86 : decode cX3_goOnFrom 86 = .ok (.aload 7, 2) := by decide +kernel
theorem dX3_goOnFrom_88 : decode cX3_goOnFrom 88 = .ok (.getfield 116, 3) := by decide +kernel
theorem dX3_goOnFrom_91 : decode cX3_goOnFrom 91 = .ok (.i2l, 1) := by decide +kernel
theorem dX3_goOnFrom_92 : decode cX3_goOnFrom 92 = .ok (.lor, 1) := by decide +kernel
theorem dX3_goOnFrom_93 : decode cX3_goOnFrom 93 = .ok (.invokevirtual 59, 3) := by decide +kernel
theorem dX3_goOnFrom_96 : decode cX3_goOnFrom 96 = .ok (.iinc 6 1, 3) := by decide +kernel
theorem dX3_goOnFrom_99 : decode cX3_goOnFrom 99 = .ok (.goto (-88), 3) := by decide +kernel
theorem dX3_goOnFrom_102 : decode cX3_goOnFrom 102 = .ok (.return_, 1) := by decide +kernel
theorem dX3_keysLeft_0 : decode cX3_keysLeft 0 = .ok (.iconst 0, 1) := by decide +kernel
theorem dX3_keysLeft_1 : decode cX3_keysLeft 1 = .ok (.istore_n 3, 1) := by decide +kernel
theorem dX3_keysLeft_2 : decode cX3_keysLeft 2 = .ok (.iconst 0, 1) := by decide +kernel
theorem dX3_keysLeft_3 : decode cX3_keysLeft 3 = .ok (.istore 4, 2) := by decide +kernel
theorem dX3_keysLeft_5 : decode cX3_keysLeft 5 = .ok (.iload 4, 2) := by decide +kernel
theorem dX3_keysLeft_7 : decode cX3_keysLeft 7 = .ok (.aload_n 0, 1) := by decide +kernel
theorem dX3_keysLeft_8 : decode cX3_keysLeft 8 = .ok (.getfield 31, 3) := by decide +kernel
theorem dX3_keysLeft_11 : decode cX3_keysLeft 11 = .ok (.invokevirtual 84, 3) := by decide +kernel
theorem dX3_keysLeft_14 : decode cX3_keysLeft 14 = .ok (.if_icmp .ge 48, 3) := by decide +kernel
theorem dX3_keysLeft_17 : decode cX3_keysLeft 17 = .ok (.aload_n 0, 1) := by decide +kernel
theorem dX3_keysLeft_18 : decode cX3_keysLeft 18 = .ok (.getfield 31, 3) := by decide +kernel
theorem dX3_keysLeft_21 : decode cX3_keysLeft 21 = .ok (.iload 4, 2) := by decide +kernel
theorem dX3_keysLeft_23 : decode cX3_keysLeft 23 = .ok (.invokevirtual 90, 3) := by decide +kernel
theorem dX3_keysLeft_26 : decode cX3_keysLeft 26 = .ok (.checkcast 119, 3) := by decide +kernel
theorem dX3_keysLeft_29 : decode cX3_keysLeft 29 = .ok (.astore 5, 2) := by decide +kernel
theorem dX3_keysLeft_31 : decode cX3_keysLeft 31 = .ok (.aload 5, 2) := by decide +kernel
theorem dX3_keysLeft_33 : decode cX3_keysLeft 33 = .ok (.aload_n 0, 1) := by decide +kernel
theorem dX3_keysLeft_34 : decode cX3_keysLeft 34 = .ok (.getfield 23, 3) := by decide +kernel
theorem dX3_keysLeft_37 : decode cX3_keysLeft 37 = .ok (.iload_n 2, 1) := by decide +kernel
theorem dX3_keysLeft_38 : decode cX3_keysLeft 38 = .ok (.invokevirtual 121, 3) := by decide +kernel
theorem dX3_keysLeft_41 : decode cX3_keysLeft 41 = .ok (.ifCond .eq 15, 3) := by decide +kernel
theorem dX3_keysLeft_44 : decode cX3_keysLeft 44 = .ok (.iload_n 3, 1) := by decide +kernel
theorem dX3_keysLeft_45 : decode cX3_keysLeft 45 = .ok (.iconst 1, 1) := by decide +kernel
theorem dX3_keysLeft_46 : decode cX3_keysLeft 46 = .ok (.iconst 5, 1) := by decide +kernel
theorem dX3_keysLeft_47 : decode cX3_keysLeft 47 = .ok (.aload 5, 2) := by decide +kernel
theorem dX3_keysLeft_49 : decode cX3_keysLeft 49 = .ok (.getfield 125, 3) := by decide +kernel
theorem dX3_keysLeft_52 : decode cX3_keysLeft 52 = .ok (.imul, 1) := by decide +kernel
theorem dX3_keysLeft_53 : decode cX3_keysLeft 53 = .ok (.ishl, 1) := by decide +kernel
theorem dX3_keysLeft_54 : decode cX3_keysLeft 54 = .ok (.iadd, 1) := by decide +kernel
theorem dX3_keysLeft_55 : decode cX3_keysLeft 55 = .ok (.istore_n 3, 1) := by decide +kernel
theorem dX3_keysLeft_56 : decode cX3_keysLeft 56 = .ok (.iinc 4 1, 3) := by decide +kernel
theorem dX3_keysLeft_59 : decode cX3_keysLeft 59 = .ok (.goto (-54), 3) := by decide +kernel
theorem dX3_keysLeft_62 : decode cX3_keysLeft 62 = .ok (.iconst 0, 1) := by decide +kernel
theorem dX3_keysLeft_63 : decode cX3_keysLeft 63 = .ok (.istore 4, 2) := by decide +kernel
theorem dX3_keysLeft_65 : decode cX3_keysLeft 65 = .ok (.iload 4, 2) := by decide +kernel
theorem dX3_keysLeft_67 : decode cX3_keysLeft 67 = .ok (.aload_n 0, 1) := by decide +kernel
theorem dX3_keysLeft_68 : decode cX3_keysLeft 68 = .ok (.getfield 27, 3) := by decide +kernel
theorem dX3_keysLeft_71 : decode cX3_keysLeft 71 = .ok (.invokevirtual 84, 3) := by decide +kernel
theorem dX3_keysLeft_74 : decode cX3_keysLeft 74 = .ok (.if_icmp .ge 45, 3) := by decide +kernel
theorem dX3_keysLeft_77 : decode cX3_keysLeft 77 = .ok (.aload_n 0, 1) := by decide +kernel
theorem dX3_keysLeft_78 : decode cX3_keysLeft 78 = .ok (.getfield 27, 3) := by decide +kernel
theorem dX3_keysLeft_81 : decode cX3_keysLeft 81 = .ok (.iload 4, 2) := by decide +kernel
theorem dX3_keysLeft_83 : decode cX3_keysLeft 83 = .ok (.invokevirtual 90, 3) := by decide +kernel
theorem dX3_keysLeft_86 : decode cX3_keysLeft 86 = .ok (.checkcast 94, 3) := by decide +kernel
theorem dX3_keysLeft_89 : decode cX3_keysLeft 89 = .ok (.astore 5, 2) := by decide +kernel
theorem dX3_keysLeft_91 : decode cX3_keysLeft 91 = .ok (.aload_n 0, 1) := by decide +kernel
theorem dX3_keysLeft_92 : decode cX3_keysLeft 92 = .ok (.aload 5, 2) := by decide +kernel
theorem dX3_keysLeft_94 : decode cX3_keysLeft 94 = .ok (.iload_n 1, 1) := by decide +kernel
theorem dX3_keysLeft_95 : decode cX3_keysLeft 95 = .ok (.invokevirtual 126, 3) := by decide +kernel
theorem dX3_keysLeft_98 : decode cX3_keysLeft 98 = .ok (.ifCond .eq 15, 3) := by decide +kernel
theorem dX3_keysLeft_101 : decode cX3_keysLeft 101 = .ok (.iload_n 3, 1) := by decide +kernel
theorem dX3_keysLeft_102 : decode cX3_keysLeft 102 = .ok (.iconst 1, 1) := by decide +kernel
theorem dX3_keysLeft_103 : decode cX3_keysLeft 103 = .ok (.iconst 5, 1) := by decide +kernel
theorem dX3_keysLeft_104 : decode cX3_keysLeft 104 = .ok (.aload 5, 2) := by decide +kernel
theorem dX3_keysLeft_106 : decode cX3_keysLeft 106 = .ok (.getfield 103, 3) := by decide +kernel
theorem dX3_keysLeft_109 : decode cX3_keysLeft 109 = .ok (.imul, 1) := by decide +kernel
theorem dX3_keysLeft_110 : decode cX3_keysLeft 110 = .ok (.ishl, 1) := by decide +kernel
theorem dX3_keysLeft_111 : decode cX3_keysLeft 111 = .ok (.isub, 1) := by decide +kernel
theorem dX3_keysLeft_112 : decode cX3_keysLeft 112 = .ok (.istore_n 3, 1) := by decide +kernel
theorem dX3_keysLeft_113 : decode cX3_keysLeft 113 = .ok (.iinc 4 1, 3) := by decide +kernel
theorem dX3_keysLeft_116 : decode cX3_keysLeft 116 = .ok (.goto (-51), 3) := by decide +kernel
theorem dX3_keysLeft_119 : decode cX3_keysLeft 119 = .ok (.iload_n 3, 1) := by decide +kernel
theorem dX3_keysLeft_120 : decode cX3_keysLeft 120 = .ok (.ireturn, 1) := by decide +kernel
theorem dX3_hasOne_0 : decode cX3_hasOne 0 = .ok (.iload_n 0, 1) := by decide +kernel
theorem dX3_hasOne_1 : decode cX3_hasOne 1 = .ok (.iconst 5, 1) := by decide +kernel
theorem dX3_hasOne_2 : decode cX3_hasOne 2 = .ok (.iload_n 1, 1) := by decide +kernel
theorem dX3_hasOne_3 : decode cX3_hasOne 3 = .ok (.imul, 1) := by decide +kernel
theorem dX3_hasOne_4 : decode cX3_hasOne 4 = .ok (.ishr, 1) := by decide +kernel
theorem dX3_hasOne_5 : decode cX3_hasOne 5 = .ok (.bipush 31, 2) := by decide +kernel
theorem dX3_hasOne_7 : decode cX3_hasOne 7 = .ok (.iand, 1) := by decide +kernel
theorem dX3_hasOne_8 : decode cX3_hasOne 8 = .ok (.ifCond .eq 7, 3) := by decide +kernel
theorem dX3_hasOne_11 : decode cX3_hasOne 11 = .ok (.iconst 1, 1) := by decide +kernel
theorem dX3_hasOne_12 : decode cX3_hasOne 12 = .ok (.goto 4, 3) := by decide +kernel
theorem dX3_hasOne_15 : decode cX3_hasOne 15 = .ok (.iconst 0, 1) := by decide +kernel
theorem dX3_hasOne_16 : decode cX3_hasOne 16 = .ok (.ireturn, 1) := by decide +kernel
theorem dX3_isOpenedByPlan_0 : decode cX3_isOpenedByPlan 0 = .ok (.iload_n 2, 1) := by decide +kernel
theorem dX3_isOpenedByPlan_1 : decode cX3_isOpenedByPlan 1 = .ok (.aload_n 0, 1) := by decide +kernel
theorem dX3_isOpenedByPlan_2 : decode cX3_isOpenedByPlan 2 = .ok (.getfield 38, 3) := by decide +kernel
theorem dX3_isOpenedByPlan_5 : decode cX3_isOpenedByPlan 5 = .ok (.iconst (-1), 1) := by decide +kernel
theorem dX3_isOpenedByPlan_6 : decode cX3_isOpenedByPlan 6 = .ok (.ixor, 1) := by decide +kernel
theorem dX3_isOpenedByPlan_7 : decode cX3_isOpenedByPlan 7 = .ok (.iand, 1) := by decide +kernel
theorem dX3_isOpenedByPlan_8 : decode cX3_isOpenedByPlan 8 = .ok (.aload_n 1, 1) := by decide +kernel
theorem dX3_isOpenedByPlan_9 : decode cX3_isOpenedByPlan 9 = .ok (.getfield 110, 3) := by decide +kernel
theorem dX3_isOpenedByPlan_12 : decode cX3_isOpenedByPlan 12 = .ok (.iand, 1) := by decide +kernel
theorem dX3_isOpenedByPlan_13 : decode cX3_isOpenedByPlan 13 = .ok (.ifCond .eq 7, 3) := by decide +kernel
theorem dX3_isOpenedByPlan_16 : decode cX3_isOpenedByPlan 16 = .ok (.iconst 1, 1) := by decide +kernel
theorem dX3_isOpenedByPlan_17 : decode cX3_isOpenedByPlan 17 = .ok (.goto 4, 3) := by decide +kernel
theorem dX3_isOpenedByPlan_20 : decode cX3_isOpenedByPlan 20 = .ok (.iconst 0, 1) := by decide +kernel
theorem dX3_isOpenedByPlan_21 : decode cX3_isOpenedByPlan 21 = .ok (.ireturn, 1) := by decide +kernel
theorem dX3_keepIfBetter_0 : decode cX3_keepIfBetter 0 = .ok (.aload_n 0, 1) := by decide +kernel
theorem dX3_keepIfBetter_1 : decode cX3_keepIfBetter 1 = .ok (.iload_n 1, 1) := by decide +kernel
theorem dX3_keepIfBetter_2 : decode cX3_keepIfBetter 2 = .ok (.invokevirtual 130, 3) := by decide +kernel
theorem dX3_keepIfBetter_5 : decode cX3_keepIfBetter 5 = .ok (.istore 4, 2) := by decide +kernel
theorem dX3_keepIfBetter_7 : decode cX3_keepIfBetter 7 = .ok (.iload_n 1, 1) := by decide +kernel
theorem dX3_keepIfBetter_8 : decode cX3_keepIfBetter 8 = .ok (.aload_n 0, 1) := by decide +kernel
theorem dX3_keepIfBetter_9 : decode cX3_keepIfBetter 9 = .ok (.getfield 38, 3) := by decide +kernel
theorem dX3_keepIfBetter_12 : decode cX3_keepIfBetter 12 = .ok (.iconst (-1), 1) := by decide +kernel
theorem dX3_keepIfBetter_13 : decode cX3_keepIfBetter 13 = .ok (.ixor, 1) := by decide +kernel
theorem dX3_keepIfBetter_14 : decode cX3_keepIfBetter 14 = .ok (.iand, 1) := by decide +kernel
theorem dX3_keepIfBetter_15 : decode cX3_keepIfBetter 15 = .ok (.invokestatic 134, 3) := by decide +kernel
theorem dX3_keepIfBetter_18 : decode cX3_keepIfBetter 18 = .ok (.istore 5, 2) := by decide +kernel
theorem dX3_keepIfBetter_20 : decode cX3_keepIfBetter 20 = .ok (.aload_n 0, 1) := by decide +kernel
theorem dX3_keepIfBetter_21 : decode cX3_keepIfBetter 21 = .ok (.getfield 19, 3) := by decide +kernel
theorem dX3_keepIfBetter_24 : decode cX3_keepIfBetter 24 = .ok (.ifCond .eq 15, 3) := by decide +kernel
theorem dX3_keepIfBetter_27 : decode cX3_keepIfBetter 27 = .ok (.aload_n 0, 1) := by decide +kernel
theorem dX3_keepIfBetter_28 : decode cX3_keepIfBetter 28 = .ok (.iload 4, 2) := by decide +kernel
theorem dX3_keepIfBetter_30 : decode cX3_keepIfBetter 30 = .ok (.iload 5, 2) := by decide +kernel
theorem dX3_keepIfBetter_32 : decode cX3_keepIfBetter 32 = .ok (.lload_n 2, 1) := by decide +kernel
theorem dX3_keepIfBetter_33 : decode cX3_keepIfBetter 33 = .ok (.invokevirtual 139, 3) := by decide +kernel
theorem dX3_keepIfBetter_36 : decode cX3_keepIfBetter 36 = .ok (.ifCond .eq 25, 3) := by decide +kernel
theorem dX3_keepIfBetter_39 : decode cX3_keepIfBetter 39 = .ok (.aload_n 0, 1) := by decide +kernel
theorem dX3_keepIfBetter_40 : decode cX3_keepIfBetter 40 = .ok (.iconst 1, 1) := by decide +kernel
theorem dX3_keepIfBetter_41 : decode cX3_keepIfBetter 41 = .ok (.putfield 19, 3) := by decide +kernel
theorem dX3_keepIfBetter_44 : decode cX3_keepIfBetter 44 = .ok (.aload_n 0, 1) := by decide +kernel
theorem dX3_keepIfBetter_45 : decode cX3_keepIfBetter 45 = .ok (.iload 4, 2) := by decide +kernel
theorem dX3_keepIfBetter_47 : decode cX3_keepIfBetter 47 = .ok (.putfield 143, 3) := by decide +kernel
theorem dX3_keepIfBetter_50 : decode cX3_keepIfBetter 50 = .ok (.aload_n 0, 1) := by decide +kernel
theorem dX3_keepIfBetter_51 : decode cX3_keepIfBetter 51 = .ok (.iload 5, 2) := by decide +kernel
theorem dX3_keepIfBetter_53 : decode cX3_keepIfBetter 53 = .ok (.putfield 74, 3) := by decide +kernel
theorem dX3_keepIfBetter_56 : decode cX3_keepIfBetter 56 = .ok (.aload_n 0, 1) := by decide +kernel
theorem dX3_keepIfBetter_57 : decode cX3_keepIfBetter 57 = .ok (.lload_n 2, 1) := by decide +kernel
theorem dX3_keepIfBetter_58 : decode cX3_keepIfBetter 58 = .ok (.putfield 70, 3) := by decide +kernel
theorem dX3_keepIfBetter_61 : decode cX3_keepIfBetter 61 = .ok (.return_, 1) := by decide +kernel
theorem dX3_isBetter_0 : decode cX3_isBetter 0 = .ok (.iload_n 1, 1) := by decide +kernel
theorem dX3_isBetter_1 : decode cX3_isBetter 1 = .ok (.aload_n 0, 1) := by decide +kernel
theorem dX3_isBetter_2 : decode cX3_isBetter 2 = .ok (.getfield 143, 3) := by decide +kernel
theorem dX3_isBetter_5 : decode cX3_isBetter 5 = .ok (.if_icmp .eq 17, 3) := by decide +kernel
theorem dX3_isBetter_8 : decode cX3_isBetter 8 = .ok (.iload_n 1, 1) := by decide +kernel
theorem dX3_isBetter_9 : decode cX3_isBetter 9 = .ok (.aload_n 0, 1) := by decide +kernel
theorem dX3_isBetter_10 : decode cX3_isBetter 10 = .ok (.getfield 143, 3) := by decide +kernel
theorem dX3_isBetter_13 : decode cX3_isBetter 13 = .ok (.if_icmp .ge 7, 3) := by decide +kernel
theorem dX3_isBetter_16 : decode cX3_isBetter 16 = .ok (.iconst 1, 1) := by decide +kernel
theorem dX3_isBetter_17 : decode cX3_isBetter 17 = .ok (.goto 4, 3) := by decide +kernel
theorem dX3_isBetter_20 : decode cX3_isBetter 20 = .ok (.iconst 0, 1) := by decide +kernel
theorem dX3_isBetter_21 : decode cX3_isBetter 21 = .ok (.ireturn, 1) := by decide +kernel
theorem dX3_isBetter_22 : decode cX3_isBetter 22 = .ok (.iload_n 2, 1) := by decide +kernel
theorem dX3_isBetter_23 : decode cX3_isBetter 23 = .ok (.aload_n 0, 1) := by decide +kernel
theorem dX3_isBetter_24 : decode cX3_isBetter 24 = .ok (.getfield 74, 3) := by decide +kernel
theorem dX3_isBetter_27 : decode cX3_isBetter 27 = .ok (.if_icmp .eq 17, 3) := by decide +kernel
theorem dX3_isBetter_30 : decode cX3_isBetter 30 = .ok (.iload_n 2, 1) := by decide +kernel
theorem dX3_isBetter_31 : decode cX3_isBetter 31 = .ok (.aload_n 0, 1) := by decide +kernel
theorem dX3_isBetter_32 : decode cX3_isBetter 32 = .ok (.getfield 74, 3) := by decide +kernel
theorem dX3_isBetter_35 : decode cX3_isBetter 35 = .ok (.if_icmp .ge 7, 3) := by decide +kernel
theorem dX3_isBetter_38 : decode cX3_isBetter 38 = .ok (.iconst 1, 1) := by decide +kernel
theorem dX3_isBetter_39 : decode cX3_isBetter 39 = .ok (.goto 4, 3) := by decide +kernel
theorem dX3_isBetter_42 : decode cX3_isBetter 42 = .ok (.iconst 0, 1) := by decide +kernel
theorem dX3_isBetter_43 : decode cX3_isBetter 43 = .ok (.ireturn, 1) := by decide +kernel
theorem dX3_isBetter_44 : decode cX3_isBetter 44 = .ok (.lload_n 3, 1) := by decide +kernel
theorem dX3_isBetter_45 : decode cX3_isBetter 45 = .ok (.aload_n 0, 1) := by decide +kernel
theorem dX3_isBetter_46 : decode cX3_isBetter 46 = .ok (.getfield 70, 3) := by decide +kernel
theorem dX3_isBetter_49 : decode cX3_isBetter 49 = .ok (.lcmp, 1) := by decide +kernel
theorem dX3_isBetter_50 : decode cX3_isBetter 50 = .ok (.ifCond .ge 7, 3) := by decide +kernel
theorem dX3_isBetter_53 : decode cX3_isBetter 53 = .ok (.iconst 1, 1) := by decide +kernel
theorem dX3_isBetter_54 : decode cX3_isBetter 54 = .ok (.goto 4, 3) := by decide +kernel
theorem dX3_isBetter_57 : decode cX3_isBetter 57 = .ok (.iconst 0, 1) := by decide +kernel
theorem dX3_isBetter_58 : decode cX3_isBetter 58 = .ok (.ireturn, 1) := by decide +kernel
theorem dX3_costOf_0 : decode cX3_costOf 0 = .ok (.iconst 0, 1) := by decide +kernel
theorem dX3_costOf_1 : decode cX3_costOf 1 = .ok (.istore_n 2, 1) := by decide +kernel
theorem dX3_costOf_2 : decode cX3_costOf 2 = .ok (.iconst 0, 1) := by decide +kernel
theorem dX3_costOf_3 : decode cX3_costOf 3 = .ok (.istore_n 3, 1) := by decide +kernel
theorem dX3_costOf_4 : decode cX3_costOf 4 = .ok (.iload_n 3, 1) := by decide +kernel
theorem dX3_costOf_5 : decode cX3_costOf 5 = .ok (.aload_n 0, 1) := by decide +kernel
theorem dX3_costOf_6 : decode cX3_costOf 6 = .ok (.getfield 27, 3) := by decide +kernel
theorem dX3_costOf_9 : decode cX3_costOf 9 = .ok (.invokevirtual 84, 3) := by decide +kernel
theorem dX3_costOf_12 : decode cX3_costOf 12 = .ok (.if_icmp .ge 40, 3) := by decide +kernel
theorem dX3_costOf_15 : decode cX3_costOf 15 = .ok (.aload_n 0, 1) := by decide +kernel
theorem dX3_costOf_16 : decode cX3_costOf 16 = .ok (.getfield 27, 3) := by decide +kernel
theorem dX3_costOf_19 : decode cX3_costOf 19 = .ok (.iload_n 3, 1) := by decide +kernel
theorem dX3_costOf_20 : decode cX3_costOf 20 = .ok (.invokevirtual 90, 3) := by decide +kernel
theorem dX3_costOf_23 : decode cX3_costOf 23 = .ok (.checkcast 94, 3) := by decide +kernel
theorem dX3_costOf_26 : decode cX3_costOf 26 = .ok (.astore 4, 2) := by decide +kernel
theorem dX3_costOf_28 : decode cX3_costOf 28 = .ok (.aload_n 0, 1) := by decide +kernel
theorem dX3_costOf_29 : decode cX3_costOf 29 = .ok (.aload 4, 2) := by decide +kernel
theorem dX3_costOf_31 : decode cX3_costOf 31 = .ok (.iload_n 1, 1) := by decide +kernel
theorem dX3_costOf_32 : decode cX3_costOf 32 = .ok (.invokevirtual 126, 3) := by decide +kernel
theorem dX3_costOf_35 : decode cX3_costOf 35 = .ok (.ifCond .eq 11, 3) := by decide +kernel
theorem dX3_costOf_38 : decode cX3_costOf 38 = .ok (.iload_n 2, 1) := by decide +kernel
theorem dX3_costOf_39 : decode cX3_costOf 39 = .ok (.aload 4, 2) := by decide +kernel
theorem dX3_costOf_41 : decode cX3_costOf 41 = .ok (.getfield 146, 3) := by decide +kernel
theorem dX3_costOf_44 : decode cX3_costOf 44 = .ok (.iadd, 1) := by decide +kernel
theorem dX3_costOf_45 : decode cX3_costOf 45 = .ok (.istore_n 2, 1) := by decide +kernel
theorem dX3_costOf_46 : decode cX3_costOf 46 = .ok (.iinc 3 1, 3) := by decide +kernel
theorem dX3_costOf_49 : decode cX3_costOf 49 = .ok (.goto (-45), 3) := by decide +kernel
theorem dX3_costOf_52 : decode cX3_costOf 52 = .ok (.iload_n 2, 1) := by decide +kernel
theorem dX3_costOf_53 : decode cX3_costOf 53 = .ok (.ireturn, 1) := by decide +kernel
theorem dX4_init_0 : decode cX4_init 0 = .ok (.aload_n 0, 1) := by decide +kernel
theorem dX4_init_1 : decode cX4_init 1 = .ok (.invokespecial 1, 3) := by decide +kernel
theorem dX4_init_4 : decode cX4_init 4 = .ok (.aload_n 0, 1) := by decide +kernel
theorem dX4_init_5 : decode cX4_init 5 = .ok (.iload_n 1, 1) := by decide +kernel
theorem dX4_init_6 : decode cX4_init 6 = .ok (.putfield 7, 3) := by decide +kernel
theorem dX4_init_9 : decode cX4_init 9 = .ok (.aload_n 0, 1) := by decide +kernel
theorem dX4_init_10 : decode cX4_init 10 = .ok (.iconst 1, 1) := by decide +kernel
theorem dX4_init_11 : decode cX4_init 11 = .ok (.iload_n 1, 1) := by decide +kernel
theorem dX4_init_12 : decode cX4_init 12 = .ok (.ishl, 1) := by decide +kernel
theorem dX4_init_13 : decode cX4_init 13 = .ok (.putfield 13, 3) := by decide +kernel
theorem dX4_init_16 : decode cX4_init 16 = .ok (.return_, 1) := by decide +kernel
theorem dJ6_bitCount_0f7a4_0 : decode cJ6_bitCount_0f7a4 0 = .ok (.iload_n 0, 1) := by decide +kernel
theorem dJ6_bitCount_0f7a4_1 : decode cJ6_bitCount_0f7a4 1 = .ok (.iload_n 0, 1) := by decide +kernel
theorem dJ6_bitCount_0f7a4_2 : decode cJ6_bitCount_0f7a4 2 = .ok (.iconst 1, 1) := by decide +kernel
theorem dJ6_bitCount_0f7a4_3 : decode cJ6_bitCount_0f7a4 3 = .ok (.iushr, 1) := by decide +kernel
theorem dJ6_bitCount_0f7a4_4 : decode cJ6_bitCount_0f7a4 4 = .ok (.ldc_w 265, 3) := by decide +kernel
theorem dJ6_bitCount_0f7a4_7 : decode cJ6_bitCount_0f7a4 7 = .ok (.iand, 1) := by decide +kernel
theorem dJ6_bitCount_0f7a4_8 : decode cJ6_bitCount_0f7a4 8 = .ok (.isub, 1) := by decide +kernel
theorem dJ6_bitCount_0f7a4_9 : decode cJ6_bitCount_0f7a4 9 = .ok (.istore_n 0, 1) := by decide +kernel
theorem dJ6_bitCount_0f7a4_10 : decode cJ6_bitCount_0f7a4 10 = .ok (.iload_n 0, 1) := by decide +kernel
theorem dJ6_bitCount_0f7a4_11 : decode cJ6_bitCount_0f7a4 11 = .ok (.ldc_w 266, 3) := by decide +kernel
theorem dJ6_bitCount_0f7a4_14 : decode cJ6_bitCount_0f7a4 14 = .ok (.iand, 1) := by decide +kernel
theorem dJ6_bitCount_0f7a4_15 : decode cJ6_bitCount_0f7a4 15 = .ok (.iload_n 0, 1) := by decide +kernel
theorem dJ6_bitCount_0f7a4_16 : decode cJ6_bitCount_0f7a4 16 = .ok (.iconst 2, 1) := by decide +kernel
theorem dJ6_bitCount_0f7a4_17 : decode cJ6_bitCount_0f7a4 17 = .ok (.iushr, 1) := by decide +kernel
theorem dJ6_bitCount_0f7a4_18 : decode cJ6_bitCount_0f7a4 18 = .ok (.ldc_w 266, 3) := by decide +kernel
theorem dJ6_bitCount_0f7a4_21 : decode cJ6_bitCount_0f7a4 21 = .ok (.iand, 1) := by decide +kernel
theorem dJ6_bitCount_0f7a4_22 : decode cJ6_bitCount_0f7a4 22 = .ok (.iadd, 1) := by decide +kernel
theorem dJ6_bitCount_0f7a4_23 : decode cJ6_bitCount_0f7a4 23 = .ok (.istore_n 0, 1) := by decide +kernel
theorem dJ6_bitCount_0f7a4_24 : decode cJ6_bitCount_0f7a4 24 = .ok (.iload_n 0, 1) := by decide +kernel
theorem dJ6_bitCount_0f7a4_25 : decode cJ6_bitCount_0f7a4 25 = .ok (.iload_n 0, 1) := by decide +kernel
theorem dJ6_bitCount_0f7a4_26 : decode cJ6_bitCount_0f7a4 26 = .ok (.iconst 4, 1) := by decide +kernel
theorem dJ6_bitCount_0f7a4_27 : decode cJ6_bitCount_0f7a4 27 = .ok (.iushr, 1) := by decide +kernel
theorem dJ6_bitCount_0f7a4_28 : decode cJ6_bitCount_0f7a4 28 = .ok (.iadd, 1) := by decide +kernel
theorem dJ6_bitCount_0f7a4_29 : decode cJ6_bitCount_0f7a4 29 = .ok (.ldc_w 267, 3) := by decide +kernel
theorem dJ6_bitCount_0f7a4_32 : decode cJ6_bitCount_0f7a4 32 = .ok (.iand, 1) := by decide +kernel
theorem dJ6_bitCount_0f7a4_33 : decode cJ6_bitCount_0f7a4 33 = .ok (.istore_n 0, 1) := by decide +kernel
theorem dJ6_bitCount_0f7a4_34 : decode cJ6_bitCount_0f7a4 34 = .ok (.iload_n 0, 1) := by decide +kernel
theorem dJ6_bitCount_0f7a4_35 : decode cJ6_bitCount_0f7a4 35 = .ok (.iload_n 0, 1) := by decide +kernel
theorem dJ6_bitCount_0f7a4_36 : decode cJ6_bitCount_0f7a4 36 = .ok (.bipush 8, 2) := by decide +kernel
theorem dJ6_bitCount_0f7a4_38 : decode cJ6_bitCount_0f7a4 38 = .ok (.iushr, 1) := by decide +kernel
theorem dJ6_bitCount_0f7a4_39 : decode cJ6_bitCount_0f7a4 39 = .ok (.iadd, 1) := by decide +kernel
theorem dJ6_bitCount_0f7a4_40 : decode cJ6_bitCount_0f7a4 40 = .ok (.istore_n 0, 1) := by decide +kernel
theorem dJ6_bitCount_0f7a4_41 : decode cJ6_bitCount_0f7a4 41 = .ok (.iload_n 0, 1) := by decide +kernel
theorem dJ6_bitCount_0f7a4_42 : decode cJ6_bitCount_0f7a4 42 = .ok (.iload_n 0, 1) := by decide +kernel
theorem dJ6_bitCount_0f7a4_43 : decode cJ6_bitCount_0f7a4 43 = .ok (.bipush 16, 2) := by decide +kernel
theorem dJ6_bitCount_0f7a4_45 : decode cJ6_bitCount_0f7a4 45 = .ok (.iushr, 1) := by decide +kernel
theorem dJ6_bitCount_0f7a4_46 : decode cJ6_bitCount_0f7a4 46 = .ok (.iadd, 1) := by decide +kernel
theorem dJ6_bitCount_0f7a4_47 : decode cJ6_bitCount_0f7a4 47 = .ok (.istore_n 0, 1) := by decide +kernel
theorem dJ6_bitCount_0f7a4_48 : decode cJ6_bitCount_0f7a4 48 = .ok (.iload_n 0, 1) := by decide +kernel
theorem dJ6_bitCount_0f7a4_49 : decode cJ6_bitCount_0f7a4 49 = .ok (.bipush 63, 2) := by decide +kernel
theorem dJ6_bitCount_0f7a4_51 : decode cJ6_bitCount_0f7a4 51 = .ok (.iand, 1) := by decide +kernel
theorem dJ6_bitCount_0f7a4_52 : decode cJ6_bitCount_0f7a4 52 = .ok (.ireturn, 1) := by decide +kernel
theorem dJ9_max_7cf53_0 : decode cJ9_max_7cf53 0 = .ok (.iload_n 0, 1) := by decide +kernel
theorem dJ9_max_7cf53_1 : decode cJ9_max_7cf53 1 = .ok (.iload_n 1, 1) := by decide +kernel
theorem dJ9_max_7cf53_2 : decode cJ9_max_7cf53 2 = .ok (.if_icmp .lt 7, 3) := by decide +kernel
theorem dJ9_max_7cf53_5 : decode cJ9_max_7cf53 5 = .ok (.iload_n 0, 1) := by decide +kernel
theorem dJ9_max_7cf53_6 : decode cJ9_max_7cf53 6 = .ok (.goto 4, 3) := by decide +kernel
theorem dJ9_max_7cf53_9 : decode cJ9_max_7cf53 9 = .ok (.iload_n 1, 1) := by decide +kernel
theorem dJ9_max_7cf53_10 : decode cJ9_max_7cf53 10 = .ok (.ireturn, 1) := by decide +kernel
theorem dJ9_min_7cf53_0 : decode cJ9_min_7cf53 0 = .ok (.iload_n 0, 1) := by decide +kernel
theorem dJ9_min_7cf53_1 : decode cJ9_min_7cf53 1 = .ok (.iload_n 1, 1) := by decide +kernel
theorem dJ9_min_7cf53_2 : decode cJ9_min_7cf53 2 = .ok (.if_icmp .gt 7, 3) := by decide +kernel
theorem dJ9_min_7cf53_5 : decode cJ9_min_7cf53 5 = .ok (.iload_n 0, 1) := by decide +kernel
theorem dJ9_min_7cf53_6 : decode cJ9_min_7cf53 6 = .ok (.goto 4, 3) := by decide +kernel
theorem dJ9_min_7cf53_9 : decode cJ9_min_7cf53 9 = .ok (.iload_n 1, 1) := by decide +kernel
theorem dJ9_min_7cf53_10 : decode cJ9_min_7cf53 10 = .ok (.ireturn, 1) := by decide +kernel
theorem dJxa1e45_init_da8c8_0 : decode cJxa1e45_init_da8c8 0 = .ok (.aload_n 0, 1) := by decide +kernel
theorem dJxa1e45_init_da8c8_1 : decode cJxa1e45_init_da8c8 1 = .ok (.invokespecial 1, 3) := by decide +kernel
theorem dJxa1e45_init_da8c8_4 : decode cJxa1e45_init_da8c8 4 = .ok (.return_, 1) := by decide +kernel
theorem dJxc12de_init_da8c8_0 : decode cJxc12de_init_da8c8 0 = .ok (.aload_n 0, 1) := by decide +kernel
theorem dJxc12de_init_da8c8_1 : decode cJxc12de_init_da8c8 1 = .ok (.invokespecial 1, 3) := by decide +kernel
theorem dJxc12de_init_da8c8_4 : decode cJxc12de_init_da8c8 4 = .ok (.aload_n 0, 1) := by decide +kernel
theorem dJxc12de_init_da8c8_5 : decode cJxc12de_init_da8c8 5 = .ok (.iconst 0, 1) := by decide +kernel
theorem dJxc12de_init_da8c8_6 : decode cJxc12de_init_da8c8 6 = .ok (.putfield 7, 3) := by decide +kernel
theorem dJxc12de_init_da8c8_9 : decode cJxc12de_init_da8c8 9 = .ok (.return_, 1) := by decide +kernel
theorem dJx4a65c_init_da8c8_0 : decode cJx4a65c_init_da8c8 0 = .ok (.aload_n 0, 1) := by decide +kernel
theorem dJx4a65c_init_da8c8_1 : decode cJx4a65c_init_da8c8 1 = .ok (.invokespecial 1, 3) := by decide +kernel
theorem dJx4a65c_init_da8c8_4 : decode cJx4a65c_init_da8c8 4 = .ok (.aload_n 0, 1) := by decide +kernel
theorem dJx4a65c_init_da8c8_5 : decode cJx4a65c_init_da8c8 5 = .ok (.getstatic 39, 3) := by decide +kernel
theorem dJx4a65c_init_da8c8_8 : decode cJx4a65c_init_da8c8 8 = .ok (.putfield 9, 3) := by decide +kernel
theorem dJx4a65c_init_da8c8_11 : decode cJx4a65c_init_da8c8 11 = .ok (.return_, 1) := by decide +kernel
theorem dJx4a65c_grow_92f84_0 : decode cJx4a65c_grow_92f84 0 = .ok (.aload_n 0, 1) := by decide +kernel
theorem dJx4a65c_grow_92f84_1 : decode cJx4a65c_grow_92f84 1 = .ok (.getfield 9, 3) := by decide +kernel
theorem dJx4a65c_grow_92f84_4 : decode cJx4a65c_grow_92f84 4 = .ok (.arraylength, 1) := by decide +kernel
theorem dJx4a65c_grow_92f84_5 : decode cJx4a65c_grow_92f84 5 = .ok (.istore_n 2, 1) := by decide +kernel
theorem dJx4a65c_grow_92f84_6 : decode cJx4a65c_grow_92f84 6 = .ok (.iload_n 2, 1) := by decide +kernel
theorem dJx4a65c_grow_92f84_7 : decode cJx4a65c_grow_92f84 7 = .ok (.ifCond .gt 13, 3) := by decide +kernel
theorem dJx4a65c_grow_92f84_10 : decode cJx4a65c_grow_92f84 10 = .ok (.aload_n 0, 1) := by decide +kernel
theorem dJx4a65c_grow_92f84_11 : decode cJx4a65c_grow_92f84 11 = .ok (.getfield 9, 3) := by decide +kernel
theorem dJx4a65c_grow_92f84_14 : decode cJx4a65c_grow_92f84 14 = .ok (.getstatic 39, 3) := by decide +kernel
theorem dJx4a65c_grow_92f84_17 : decode cJx4a65c_grow_92f84 17 = .ok (.if_acmp .eq 28, 3) := by decide +kernel
theorem dJx4a65c_grow_92f84_20 : decode cJx4a65c_grow_92f84 20 = .ok (.iload_n 2, 1) := by decide +kernel
theorem dJx4a65c_grow_92f84_21 : decode cJx4a65c_grow_92f84 21 = .ok (.iload_n 1, 1) := by decide +kernel
theorem dJx4a65c_grow_92f84_22 : decode cJx4a65c_grow_92f84 22 = .ok (.iload_n 2, 1) := by decide +kernel
theorem dJx4a65c_grow_92f84_23 : decode cJx4a65c_grow_92f84 23 = .ok (.isub, 1) := by decide +kernel
theorem dJx4a65c_grow_92f84_24 : decode cJx4a65c_grow_92f84 24 = .ok (.iload_n 2, 1) := by decide +kernel
theorem dJx4a65c_grow_92f84_25 : decode cJx4a65c_grow_92f84 25 = .ok (.iconst 1, 1) := by decide +kernel
theorem dJx4a65c_grow_92f84_26 : decode cJx4a65c_grow_92f84 26 = .ok (.ishr, 1) := by decide +kernel
theorem dJx4a65c_grow_92f84_27 : decode cJx4a65c_grow_92f84 27 = .ok (.invokestatic 73, 3) := by decide +kernel
theorem dJx4a65c_grow_92f84_30 : decode cJx4a65c_grow_92f84 30 = .ok (.istore_n 3, 1) := by decide +kernel
theorem dJx4a65c_grow_92f84_31 : decode cJx4a65c_grow_92f84 31 = .ok (.aload_n 0, 1) := by decide +kernel
theorem dJx4a65c_grow_92f84_32 : decode cJx4a65c_grow_92f84 32 = .ok (.aload_n 0, 1) := by decide +kernel
theorem dJx4a65c_grow_92f84_33 : decode cJx4a65c_grow_92f84 33 = .ok (.getfield 9, 3) := by decide +kernel
theorem dJx4a65c_grow_92f84_36 : decode cJx4a65c_grow_92f84 36 = .ok (.iload_n 3, 1) := by decide +kernel
theorem dJx4a65c_grow_92f84_37 : decode cJx4a65c_grow_92f84 37 = .ok (.invokestatic 66, 3) := by decide +kernel
theorem dJx4a65c_grow_92f84_40 : decode cJx4a65c_grow_92f84 40 = .ok (.dup_x1, 1) := by decide +kernel
theorem dJx4a65c_grow_92f84_41 : decode cJx4a65c_grow_92f84 41 = .ok (.putfield 9, 3) := by decide +kernel
theorem dJx4a65c_grow_92f84_44 : decode cJx4a65c_grow_92f84 44 = .ok (.areturn, 1) := by decide +kernel
theorem dJx4a65c_grow_92f84_45 : decode cJx4a65c_grow_92f84 45 = .ok (.aload_n 0, 1) := by decide +kernel
theorem dJx4a65c_grow_92f84_46 : decode cJx4a65c_grow_92f84 46 = .ok (.bipush 10, 2) := by decide +kernel
theorem dJx4a65c_grow_92f84_48 : decode cJx4a65c_grow_92f84 48 = .ok (.iload_n 1, 1) := by decide +kernel
theorem dJx4a65c_grow_92f84_49 : decode cJx4a65c_grow_92f84 49 = .ok (.invokestatic 79, 3) := by decide +kernel
theorem dJx4a65c_grow_92f84_52 : decode cJx4a65c_grow_92f84 52 = .ok (.anewarray 7, 3) := by decide +kernel
theorem dJx4a65c_grow_92f84_55 : decode cJx4a65c_grow_92f84 55 = .ok (.dup_x1, 1) := by decide +kernel
theorem dJx4a65c_grow_92f84_56 : decode cJx4a65c_grow_92f84 56 = .ok (.putfield 9, 3) := by decide +kernel
theorem dJx4a65c_grow_92f84_59 : decode cJx4a65c_grow_92f84 59 = .ok (.areturn, 1) := by decide +kernel
theorem dJx4a65c_grow_d5877_0 : decode cJx4a65c_grow_d5877 0 = .ok (.aload_n 0, 1) := by decide +kernel
theorem dJx4a65c_grow_d5877_1 : decode cJx4a65c_grow_d5877 1 = .ok (.aload_n 0, 1) := by decide +kernel
theorem dJx4a65c_grow_d5877_2 : decode cJx4a65c_grow_d5877 2 = .ok (.getfield 48, 3) := by decide +kernel
theorem dJx4a65c_grow_d5877_5 : decode cJx4a65c_grow_d5877 5 = .ok (.iconst 1, 1) := by decide +kernel
theorem dJx4a65c_grow_d5877_6 : decode cJx4a65c_grow_d5877 6 = .ok (.iadd, 1) := by decide +kernel
theorem dJx4a65c_grow_d5877_7 : decode cJx4a65c_grow_d5877 7 = .ok (.invokevirtual 69, 3) := by decide +kernel
theorem dJx4a65c_grow_d5877_10 : decode cJx4a65c_grow_d5877 10 = .ok (.areturn, 1) := by decide +kernel
theorem dJx4a65c_size_8abf5_0 : decode cJx4a65c_size_8abf5 0 = .ok (.aload_n 0, 1) := by decide +kernel
theorem dJx4a65c_size_8abf5_1 : decode cJx4a65c_size_8abf5 1 = .ok (.getfield 48, 3) := by decide +kernel
theorem dJx4a65c_size_8abf5_4 : decode cJx4a65c_size_8abf5 4 = .ok (.ireturn, 1) := by decide +kernel
theorem dJx4a65c_elementData_915e3_0 : decode cJx4a65c_elementData_915e3 0 = .ok (.aload_n 0, 1) := by decide +kernel
theorem dJx4a65c_elementData_915e3_1 : decode cJx4a65c_elementData_915e3 1 = .ok (.getfield 9, 3) := by decide +kernel
theorem dJx4a65c_elementData_915e3_4 : decode cJx4a65c_elementData_915e3 4 = .ok (.iload_n 1, 1) := by decide +kernel
theorem dJx4a65c_elementData_915e3_5 : decode cJx4a65c_elementData_915e3 5 = .ok (.aaload, 1) := by decide +kernel
theorem dJx4a65c_elementData_915e3_6 : decode cJx4a65c_elementData_915e3 6 = .ok (.areturn, 1) := by decide +kernel
theorem dJx4a65c_get_915e3_0 : decode cJx4a65c_get_915e3 0 = .ok (.iload_n 1, 1) := by decide +kernel
theorem dJx4a65c_get_915e3_1 : decode cJx4a65c_get_915e3 1 = .ok (.aload_n 0, 1) := by decide +kernel
theorem dJx4a65c_get_915e3_2 : decode cJx4a65c_get_915e3 2 = .ok (.getfield 48, 3) := by decide +kernel
theorem dJx4a65c_get_915e3_5 : decode cJx4a65c_get_915e3 5 = .ok (.invokestatic 118, 3) := by decide +kernel
theorem dJx4a65c_get_915e3_8 : decode cJx4a65c_get_915e3 8 = .ok (.pop, 1) := by decide +kernel
theorem dJx4a65c_get_915e3_9 : decode cJx4a65c_get_915e3 9 = .ok (.aload_n 0, 1) := by decide +kernel
theorem dJx4a65c_get_915e3_10 : decode cJx4a65c_get_915e3 10 = .ok (.iload_n 1, 1) := by decide +kernel
theorem dJx4a65c_get_915e3_11 : decode cJx4a65c_get_915e3 11 = .ok (.invokevirtual 123, 3) := by decide +kernel
theorem dJx4a65c_get_915e3_14 : decode cJx4a65c_get_915e3 14 = .ok (.areturn, 1) := by decide +kernel
theorem dJx4a65c_add_72be8_0 : decode cJx4a65c_add_72be8 0 = .ok (.iload_n 3, 1) := by decide +kernel
theorem dJx4a65c_add_72be8_1 : decode cJx4a65c_add_72be8 1 = .ok (.aload_n 2, 1) := by decide +kernel
theorem dJx4a65c_add_72be8_2 : decode cJx4a65c_add_72be8 2 = .ok (.arraylength, 1) := by decide +kernel
theorem dJx4a65c_add_72be8_3 : decode cJx4a65c_add_72be8 3 = .ok (.if_icmp .ne 8, 3) := by decide +kernel
theorem dJx4a65c_add_72be8_6 : decode cJx4a65c_add_72be8 6 = .ok (.aload_n 0, 1) := by decide +kernel
theorem dJx4a65c_add_72be8_7 : decode cJx4a65c_add_72be8 7 = .ok (.invokevirtual 129, 3) := by decide +kernel
theorem dJx4a65c_add_72be8_10 : decode cJx4a65c_add_72be8 10 = .ok (.astore_n 2, 1) := by decide +kernel
theorem dJx4a65c_add_72be8_11 : decode cJx4a65c_add_72be8 11 = .ok (.aload_n 2, 1) := by decide +kernel
theorem dJx4a65c_add_72be8_12 : decode cJx4a65c_add_72be8 12 = .ok (.iload_n 3, 1) := by decide +kernel
theorem dJx4a65c_add_72be8_13 : decode cJx4a65c_add_72be8 13 = .ok (.aload_n 1, 1) := by decide +kernel
theorem dJx4a65c_add_72be8_14 : decode cJx4a65c_add_72be8 14 = .ok (.aastore, 1) := by decide +kernel
theorem dJx4a65c_add_72be8_15 : decode cJx4a65c_add_72be8 15 = .ok (.aload_n 0, 1) := by decide +kernel
theorem dJx4a65c_add_72be8_16 : decode cJx4a65c_add_72be8 16 = .ok (.iload_n 3, 1) := by decide +kernel
theorem dJx4a65c_add_72be8_17 : decode cJx4a65c_add_72be8 17 = .ok (.iconst 1, 1) := by decide +kernel
theorem dJx4a65c_add_72be8_18 : decode cJx4a65c_add_72be8 18 = .ok (.iadd, 1) := by decide +kernel
theorem dJx4a65c_add_72be8_19 : decode cJx4a65c_add_72be8 19 = .ok (.putfield 48, 3) := by decide +kernel
theorem dJx4a65c_add_72be8_22 : decode cJx4a65c_add_72be8 22 = .ok (.return_, 1) := by decide +kernel
theorem dJx4a65c_add_9ea2d_0 : decode cJx4a65c_add_9ea2d 0 = .ok (.aload_n 0, 1) := by decide +kernel
theorem dJx4a65c_add_9ea2d_1 : decode cJx4a65c_add_9ea2d 1 = .ok (.dup, 1) := by decide +kernel
theorem dJx4a65c_add_9ea2d_2 : decode cJx4a65c_add_9ea2d 2 = .ok (.getfield 63, 3) := by decide +kernel
theorem dJx4a65c_add_9ea2d_5 : decode cJx4a65c_add_9ea2d 5 = .ok (.iconst 1, 1) := by decide +kernel
theorem dJx4a65c_add_9ea2d_6 : decode cJx4a65c_add_9ea2d 6 = .ok (.iadd, 1) := by decide +kernel
theorem dJx4a65c_add_9ea2d_7 : decode cJx4a65c_add_9ea2d 7 = .ok (.putfield 63, 3) := by decide +kernel
theorem dJx4a65c_add_9ea2d_10 : decode cJx4a65c_add_9ea2d 10 = .ok (.aload_n 0, 1) := by decide +kernel
theorem dJx4a65c_add_9ea2d_11 : decode cJx4a65c_add_9ea2d 11 = .ok (.aload_n 1, 1) := by decide +kernel
theorem dJx4a65c_add_9ea2d_12 : decode cJx4a65c_add_9ea2d 12 = .ok (.aload_n 0, 1) := by decide +kernel
theorem dJx4a65c_add_9ea2d_13 : decode cJx4a65c_add_9ea2d 13 = .ok (.getfield 9, 3) := by decide +kernel
theorem dJx4a65c_add_9ea2d_16 : decode cJx4a65c_add_9ea2d 16 = .ok (.aload_n 0, 1) := by decide +kernel
theorem dJx4a65c_add_9ea2d_17 : decode cJx4a65c_add_9ea2d 17 = .ok (.getfield 48, 3) := by decide +kernel
theorem dJx4a65c_add_9ea2d_20 : decode cJx4a65c_add_9ea2d 20 = .ok (.invokevirtual 131, 3) := by decide +kernel
theorem dJx4a65c_add_9ea2d_23 : decode cJx4a65c_add_9ea2d 23 = .ok (.iconst 1, 1) := by decide +kernel
theorem dJx4a65c_add_9ea2d_24 : decode cJx4a65c_add_9ea2d 24 = .ok (.ireturn, 1) := by decide +kernel
theorem dJ7_copyOf_1904c_0 : decode cJ7_copyOf_1904c 0 = .ok (.aload_n 0, 1) := by decide +kernel
theorem dJ7_copyOf_1904c_1 : decode cJ7_copyOf_1904c 1 = .ok (.iload_n 1, 1) := by decide +kernel
theorem dJ7_copyOf_1904c_2 : decode cJ7_copyOf_1904c 2 = .ok (.aload_n 0, 1) := by decide +kernel
theorem dJ7_copyOf_1904c_3 : decode cJ7_copyOf_1904c 3 = .ok (.invokevirtual 86, 3) := by decide +kernel
theorem dJ7_copyOf_1904c_6 : decode cJ7_copyOf_1904c 6 = .ok (.invokestatic 300, 3) := by decide +kernel
theorem dJ7_copyOf_1904c_9 : decode cJ7_copyOf_1904c 9 = .ok (.areturn, 1) := by decide +kernel
theorem dJ7_copyOf_6403c_0 : decode cJ7_copyOf_6403c 0 = .ok (.aload_n 2, 1) := by decide +kernel
theorem dJ7_copyOf_6403c_1 : decode cJ7_copyOf_6403c 1 = .ok (.ldc 110, 2) := by decide +kernel
theorem dJ7_copyOf_6403c_3 : decode cJ7_copyOf_6403c 3 = .ok (.if_acmp .ne 10, 3) := by decide +kernel
theorem dJ7_copyOf_6403c_6 : decode cJ7_copyOf_6403c 6 = .ok (.iload_n 1, 1) := by decide +kernel
theorem dJ7_copyOf_6403c_7 : decode cJ7_copyOf_6403c 7 = .ok (.anewarray 2, 3) := by decide +kernel
theorem dJ7_copyOf_6403c_10 : decode cJ7_copyOf_6403c 10 = .ok (.goto 14, 3) := by decide +kernel
theorem dJ7_copyOf_6403c_13 : decode cJ7_copyOf_6403c 13 = .ok (.aload_n 2, 1) := by decide +kernel
theorem dJ7_copyOf_6403c_14 : decode cJ7_copyOf_6403c 14 = .ok (.invokevirtual 90, 3) := by decide +kernel
theorem dJ7_copyOf_6403c_17 : decode cJ7_copyOf_6403c 17 = .ok (.iload_n 1, 1) := by decide +kernel
theorem dJ7_copyOf_6403c_18 : decode cJ7_copyOf_6403c 18 = .ok (.invokestatic 95, 3) := by decide +kernel
theorem dJ7_copyOf_6403c_21 : decode cJ7_copyOf_6403c 21 = .ok (.checkcast 110, 3) := by decide +kernel
theorem dJ7_copyOf_6403c_24 : decode cJ7_copyOf_6403c 24 = .ok (.astore_n 3, 1) := by decide +kernel
theorem dJ7_copyOf_6403c_25 : decode cJ7_copyOf_6403c 25 = .ok (.aload_n 0, 1) := by decide +kernel
theorem dJ7_copyOf_6403c_26 : decode cJ7_copyOf_6403c 26 = .ok (.iconst 0, 1) := by decide +kernel
theorem dJ7_copyOf_6403c_27 : decode cJ7_copyOf_6403c 27 = .ok (.aload_n 3, 1) := by decide +kernel
theorem dJ7_copyOf_6403c_28 : decode cJ7_copyOf_6403c 28 = .ok (.iconst 0, 1) := by decide +kernel
theorem dJ7_copyOf_6403c_29 : decode cJ7_copyOf_6403c 29 = .ok (.aload_n 0, 1) := by decide +kernel
theorem dJ7_copyOf_6403c_30 : decode cJ7_copyOf_6403c 30 = .ok (.arraylength, 1) := by decide +kernel
theorem dJ7_copyOf_6403c_31 : decode cJ7_copyOf_6403c 31 = .ok (.iload_n 1, 1) := by decide +kernel
theorem dJ7_copyOf_6403c_32 : decode cJ7_copyOf_6403c 32 = .ok (.invokestatic 304, 3) := by decide +kernel
theorem dJ7_copyOf_6403c_35 : decode cJ7_copyOf_6403c 35 = .ok (.invokestatic 150, 3) := by decide +kernel
theorem dJ7_copyOf_6403c_38 : decode cJ7_copyOf_6403c 38 = .ok (.aload_n 3, 1) := by decide +kernel
theorem dJ7_copyOf_6403c_39 : decode cJ7_copyOf_6403c 39 = .ok (.areturn, 1) := by decide +kernel
theorem dJ15_checkIndex_7cf53_0 : decode cJ15_checkIndex_7cf53 0 = .ok (.iload_n 0, 1) := by decide +kernel
theorem dJ15_checkIndex_7cf53_1 : decode cJ15_checkIndex_7cf53 1 = .ok (.iload_n 1, 1) := by decide +kernel
theorem dJ15_checkIndex_7cf53_2 : decode cJ15_checkIndex_7cf53 2 = .ok (.aconst_null, 1) := by decide +kernel
theorem dJ15_checkIndex_7cf53_3 : decode cJ15_checkIndex_7cf53 3 = .ok (.invokestatic 105, 3) := by decide +kernel
theorem dJ15_checkIndex_7cf53_6 : decode cJ15_checkIndex_7cf53 6 = .ok (.ireturn, 1) := by decide +kernel
theorem dJ8_newLength_cabcc_0 : decode cJ8_newLength_cabcc 0 = .ok (.iload_n 0, 1) := by decide +kernel
theorem dJ8_newLength_cabcc_1 : decode cJ8_newLength_cabcc 1 = .ok (.iload_n 1, 1) := by decide +kernel
theorem dJ8_newLength_cabcc_2 : decode cJ8_newLength_cabcc 2 = .ok (.iload_n 2, 1) := by decide +kernel
theorem dJ8_newLength_cabcc_3 : decode cJ8_newLength_cabcc 3 = .ok (.invokestatic 194, 3) := by decide +kernel
theorem dJ8_newLength_cabcc_6 : decode cJ8_newLength_cabcc 6 = .ok (.iadd, 1) := by decide +kernel
theorem dJ8_newLength_cabcc_7 : decode cJ8_newLength_cabcc 7 = .ok (.istore_n 3, 1) := by decide +kernel
theorem dJ8_newLength_cabcc_8 : decode cJ8_newLength_cabcc 8 = .ok (.iconst 0, 1) := by decide +kernel
theorem dJ8_newLength_cabcc_9 : decode cJ8_newLength_cabcc 9 = .ok (.iload_n 3, 1) := by decide +kernel
theorem dJ8_newLength_cabcc_10 : decode cJ8_newLength_cabcc 10 = .ok (.if_icmp .ge 11, 3) := by decide +kernel
theorem dJ8_newLength_cabcc_13 : decode cJ8_newLength_cabcc 13 = .ok (.iload_n 3, 1) := by decide +kernel
theorem dJ8_newLength_cabcc_14 : decode cJ8_newLength_cabcc 14 = .ok (.ldc 200, 2) := by decide +kernel
theorem dJ8_newLength_cabcc_16 : decode cJ8_newLength_cabcc 16 = .ok (.if_icmp .gt 5, 3) := by decide +kernel
theorem dJ8_newLength_cabcc_19 : decode cJ8_newLength_cabcc 19 = .ok (.iload_n 3, 1) := by decide +kernel
theorem dJ8_newLength_cabcc_20 : decode cJ8_newLength_cabcc 20 = .ok (.ireturn, 1) := by decide +kernel
theorem dJ8_newLength_cabcc_21 : decode cJ8_newLength_cabcc 21 = .ok (.iload_n 0, 1) := by decide +kernel
theorem dJ8_newLength_cabcc_22 : decode cJ8_newLength_cabcc 22 = .ok (.iload_n 1, 1) := by decide +kernel
theorem dJ8_newLength_cabcc_23 : decode cJ8_newLength_cabcc 23 = .ok (.invokestatic 201, 3) := by decide +kernel
theorem dJ8_newLength_cabcc_26 : decode cJ8_newLength_cabcc 26 = .ok (.ireturn, 1) := by decide +kernel
theorem dJ8_hugeLength_7cf53_0 : decode cJ8_hugeLength_7cf53 0 = .ok (.iload_n 0, 1) := by decide +kernel
theorem dJ8_hugeLength_7cf53_1 : decode cJ8_hugeLength_7cf53 1 = .ok (.iload_n 1, 1) := by decide +kernel
theorem dJ8_hugeLength_7cf53_2 : decode cJ8_hugeLength_7cf53 2 = .ok (.iadd, 1) := by decide +kernel
theorem dJ8_hugeLength_7cf53_3 : decode cJ8_hugeLength_7cf53 3 = .ok (.istore_n 2, 1) := by decide +kernel
theorem dJ8_hugeLength_7cf53_4 : decode cJ8_hugeLength_7cf53 4 = .ok (.iload_n 2, 1) := by decide +kernel
theorem dJ8_hugeLength_7cf53_5 : decode cJ8_hugeLength_7cf53 5 = .ok (.ifCond .ge 44, 3) := by decide +kernel
theorem dJ8_hugeLength_7cf53_8 : decode cJ8_hugeLength_7cf53 8 = .ok (.new 204, 3) := by decide +kernel
theorem dJ8_hugeLength_7cf53_11 : decode cJ8_hugeLength_7cf53 11 = .ok (.dup, 1) := by decide +kernel
theorem dJ8_hugeLength_7cf53_12 : decode cJ8_hugeLength_7cf53 12 = .ok (.new 89, 3) := by decide +kernel
theorem dJ8_hugeLength_7cf53_15 : decode cJ8_hugeLength_7cf53 15 = .ok (.dup, 1) := by decide +kernel
theorem dJ8_hugeLength_7cf53_16 : decode cJ8_hugeLength_7cf53 16 = .ok (.invokespecial 91, 3) := by decide +kernel
theorem dJ8_hugeLength_7cf53_19 : decode cJ8_hugeLength_7cf53 19 = .ok (.ldc 206, 2) := by decide +kernel
theorem dJ8_hugeLength_7cf53_21 : decode cJ8_hugeLength_7cf53 21 = .ok (.invokevirtual 94, 3) := by decide +kernel
theorem dJ8_hugeLength_7cf53_24 : decode cJ8_hugeLength_7cf53 24 = .ok (.iload_n 0, 1) := by decide +kernel
theorem dJ8_hugeLength_7cf53_25 : decode cJ8_hugeLength_7cf53 25 = .ok (.invokevirtual 98, 3) := by decide +kernel
theorem dJ8_hugeLength_7cf53_28 : decode cJ8_hugeLength_7cf53 28 = .ok (.ldc 208, 2) := by decide +kernel
theorem dJ8_hugeLength_7cf53_30 : decode cJ8_hugeLength_7cf53 30 = .ok (.invokevirtual 94, 3) := by decide +kernel
theorem dJ8_hugeLength_7cf53_33 : decode cJ8_hugeLength_7cf53 33 = .ok (.iload_n 1, 1) := by decide +kernel
theorem dJ8_hugeLength_7cf53_34 : decode cJ8_hugeLength_7cf53 34 = .ok (.invokevirtual 98, 3) := by decide +kernel
theorem dJ8_hugeLength_7cf53_37 : decode cJ8_hugeLength_7cf53 37 = .ok (.ldc 210, 2) := by decide +kernel
theorem dJ8_hugeLength_7cf53_39 : decode cJ8_hugeLength_7cf53 39 = .ok (.invokevirtual 94, 3) := by decide +kernel
theorem dJ8_hugeLength_7cf53_42 : decode cJ8_hugeLength_7cf53 42 = .ok (.invokevirtual 101, 3) := by decide +kernel
theorem dJ8_hugeLength_7cf53_45 : decode cJ8_hugeLength_7cf53 45 = .ok (.invokespecial 212, 3) := by decide +kernel
theorem dJ8_hugeLength_7cf53_48 : decode cJ8_hugeLength_7cf53 48 = .ok (.athrow, 1) := by decide +kernel
theorem dJ8_hugeLength_7cf53_49 : decode cJ8_hugeLength_7cf53 49 = .ok (.iload_n 2, 1) := by decide +kernel
theorem dJ8_hugeLength_7cf53_50 : decode cJ8_hugeLength_7cf53 50 = .ok (.ldc 200, 2) := by decide +kernel
theorem dJ8_hugeLength_7cf53_52 : decode cJ8_hugeLength_7cf53 52 = .ok (.if_icmp .gt 6, 3) := by decide +kernel
theorem dJ8_hugeLength_7cf53_55 : decode cJ8_hugeLength_7cf53 55 = .ok (.ldc 200, 2) := by decide +kernel
theorem dJ8_hugeLength_7cf53_57 : decode cJ8_hugeLength_7cf53 57 = .ok (.ireturn, 1) := by decide +kernel
theorem dJ8_hugeLength_7cf53_58 : decode cJ8_hugeLength_7cf53 58 = .ok (.iload_n 2, 1) := by decide +kernel
theorem dJ8_hugeLength_7cf53_59 : decode cJ8_hugeLength_7cf53 59 = .ok (.ireturn, 1) := by decide +kernel
theorem dJ3_checkIndex_8e157_0 : decode cJ3_checkIndex_8e157 0 = .ok (.iload_n 0, 1) := by decide +kernel
theorem dJ3_checkIndex_8e157_1 : decode cJ3_checkIndex_8e157 1 = .ok (.ifCond .lt 8, 3) := by decide +kernel
theorem dJ3_checkIndex_8e157_4 : decode cJ3_checkIndex_8e157 4 = .ok (.iload_n 0, 1) := by decide +kernel
theorem dJ3_checkIndex_8e157_5 : decode cJ3_checkIndex_8e157 5 = .ok (.iload_n 1, 1) := by decide +kernel
theorem dJ3_checkIndex_8e157_6 : decode cJ3_checkIndex_8e157 6 = .ok (.if_icmp .lt 10, 3) := by decide +kernel
theorem dJ3_checkIndex_8e157_9 : decode cJ3_checkIndex_8e157 9 = .ok (.aload_n 2, 1) := by decide +kernel
theorem dJ3_checkIndex_8e157_10 : decode cJ3_checkIndex_8e157 10 = .ok (.iload_n 0, 1) := by decide +kernel
theorem dJ3_checkIndex_8e157_11 : decode cJ3_checkIndex_8e157 11 = .ok (.iload_n 1, 1) := by decide +kernel
theorem dJ3_checkIndex_8e157_12 : decode cJ3_checkIndex_8e157 12 = .ok (.invokestatic 95, 3) := by decide +kernel
theorem dJ3_checkIndex_8e157_15 : decode cJ3_checkIndex_8e157 15 = .ok (.athrow, 1) := by decide +kernel
theorem dJ3_checkIndex_8e157_16 : decode cJ3_checkIndex_8e157 16 = .ok (.iload_n 0, 1) := by decide +kernel
theorem dJ3_checkIndex_8e157_17 : decode cJ3_checkIndex_8e157 17 = .ok (.ireturn, 1) := by decide +kernel
end
section
theorem dX5_init_0 : decode cX5_init 0 = .ok (.aload_n 0, 1) := by decide +kernel
theorem dX5_init_1 : decode cX5_init 1 = .ok (.invokespecial 1, 3) := by decide +kernel
theorem dX5_init_4 : decode cX5_init 4 = .ok (.aload_n 0, 1) := by decide +kernel
theorem dX5_init_5 : decode cX5_init 5 = .ok (.new 7, 3) := by decide +kernel
theorem dX5_init_8 : decode cX5_init 8 = .ok (.dup, 1) := by decide +kernel
theorem dX5_init_9 : decode cX5_init 9 = .ok (.invokespecial 9, 3) := by decide +kernel
theorem dX5_init_12 : decode cX5_init 12 = .ok (.putfield 10, 3) := by decide +kernel
theorem dX5_init_15 : decode cX5_init 15 = .ok (.aload_n 0, 1) := by decide +kernel
theorem dX5_init_16 : decode cX5_init 16 = .ok (.new 7, 3) := by decide +kernel
theorem dX5_init_19 : decode cX5_init 19 = .ok (.dup, 1) := by decide +kernel
theorem dX5_init_20 : decode cX5_init 20 = .ok (.invokespecial 9, 3) := by decide +kernel
theorem dX5_init_23 : decode cX5_init 23 = .ok (.putfield 16, 3) := by decide +kernel
theorem dX5_init_26 : decode cX5_init 26 = .ok (.aload_n 0, 1) := by decide +kernel
theorem dX5_init_27 : decode cX5_init 27 = .ok (.new 7, 3) := by decide +kernel
theorem dX5_init_30 : decode cX5_init 30 = .ok (.dup, 1) := by decide +kernel
theorem dX5_init_31 : decode cX5_init 31 = .ok (.invokespecial 9, 3) := by decide +kernel
theorem dX5_init_34 : decode cX5_init 34 = .ok (.putfield 19, 3) := by decide +kernel
theorem dX5_init_37 : decode cX5_init 37 = .ok (.aload_n 0, 1) := by decide +kernel
theorem dX5_init_38 : decode cX5_init 38 = .ok (.new 7, 3) := by decide +kernel
theorem dX5_init_41 : decode cX5_init 41 = .ok (.dup, 1) := by decide +kernel
theorem dX5_init_42 : decode cX5_init 42 = .ok (.invokespecial 9, 3) := by decide +kernel
theorem dX5_init_45 : decode cX5_init 45 = .ok (.putfield 22, 3) := by decide +kernel
theorem dX5_init_48 : decode cX5_init 48 = .ok (.aload_n 0, 1) := by decide +kernel
theorem dX5_init_49 : decode cX5_init 49 = .ok (.new 25, 3) := by decide +kernel
theorem dX5_init_52 : decode cX5_init 52 = .ok (.dup, 1) := by decide +kernel
theorem dX5_init_53 : decode cX5_init 53 = .ok (.invokespecial 27, 3) := by decide +kernel
theorem dX5_init_56 : decode cX5_init 56 = .ok (.putfield 28, 3) := by decide +kernel
theorem dX5_init_59 : decode cX5_init 59 = .ok (.aload_n 0, 1) := by decide +kernel
theorem dX5_init_60 : decode cX5_init 60 = .ok (.aconst_null, 1) := by decide +kernel
theorem dX5_init_61 : decode cX5_init 61 = .ok (.putfield 32, 3) := by decide +kernel
theorem dX5_init_64 : decode cX5_init 64 = .ok (.aload_n 0, 1) := by decide +kernel
theorem dX5_init_65 : decode cX5_init 65 = .ok (.iconst 5, 1) := by decide +kernel
theorem dX5_init_66 : decode cX5_init 66 = .ok (.putfield 36, 3) := by decide +kernel
theorem dX5_init_69 : decode cX5_init 69 = .ok (.aload_n 0, 1) := by decide +kernel
theorem dX5_init_70 : decode cX5_init 70 = .ok (.iconst 5, 1) := by decide +kernel
theorem dX5_init_71 : decode cX5_init 71 = .ok (.putfield 40, 3) := by decide +kernel
theorem dX5_init_74 : decode cX5_init 74 = .ok (.return_, 1) := by decide +kernel
theorem dX5_addRoom_0 : decode cX5_addRoom 0 = .ok (.aload_n 0, 1) := by decide +kernel
theorem dX5_addRoom_1 : decode cX5_addRoom 1 = .ok (.getfield 10, 3) := by decide +kernel
theorem dX5_addRoom_4 : decode cX5_addRoom 4 = .ok (.invokevirtual 43, 3) := by decide +kernel
theorem dX5_addRoom_7 : decode cX5_addRoom 7 = .ok (.istore_n 1, 1) := by decide +kernel
theorem dX5_addRoom_8 : decode cX5_addRoom 8 = .ok (.iload_n 1, 1) := by decide +kernel
theorem dX5_addRoom_9 : decode cX5_addRoom 9 = .ok (.bipush 12, 2) := by decide +kernel
theorem dX5_addRoom_11 : decode cX5_addRoom 11 = .ok (.if_icmp .lt 6, 3) := by decide +kernel
theorem dX5_addRoom_14 : decode cX5_addRoom 14 = .ok (.bipush (-3), 2) := by decide +kernel
theorem dX5_addRoom_16 : decode cX5_addRoom 16 = .ok (.ireturn, 1) := by decide +kernel
theorem dX5_addRoom_17 : decode cX5_addRoom 17 = .ok (.aload_n 0, 1) := by decide +kernel
theorem dX5_addRoom_18 : decode cX5_addRoom 18 = .ok (.getfield 10, 3) := by decide +kernel
theorem dX5_addRoom_21 : decode cX5_addRoom 21 = .ok (.new 47, 3) := by decide +kernel
theorem dX5_addRoom_24 : decode cX5_addRoom 24 = .ok (.dup, 1) := by decide +kernel
theorem dX5_addRoom_25 : decode cX5_addRoom 25 = .ok (.iload_n 1, 1) := by decide +kernel
theorem dX5_addRoom_26 : decode cX5_addRoom 26 = .ok (.invokespecial 49, 3) := by decide +kernel
theorem dX5_addRoom_29 : decode cX5_addRoom 29 = .ok (.invokevirtual 52, 3) := by decide +kernel
theorem dX5_addRoom_32 : decode cX5_addRoom 32 = .ok (.pop, 1) := by decide +kernel
theorem dX5_addRoom_33 : decode cX5_addRoom 33 = .ok (.iload_n 1, 1) := by decide +kernel
theorem dX5_addRoom_34 : decode cX5_addRoom 34 = .ok (.ireturn, 1) := by decide +kernel
theorem dX5_setExit_0 : decode cX5_setExit 0 = .ok (.aload_n 0, 1) := by decide +kernel
theorem dX5_setExit_1 : decode cX5_setExit 1 = .ok (.iload_n 1, 1) := by decide +kernel
theorem dX5_setExit_2 : decode cX5_setExit 2 = .ok (.invokevirtual 56, 3) := by decide +kernel
theorem dX5_setExit_5 : decode cX5_setExit 5 = .ok (.ifCond .ne 5, 3) := by decide +kernel
theorem dX5_setExit_8 : decode cX5_setExit 8 = .ok (.iconst (-1), 1) := by decide +kernel
theorem dX5_setExit_9 : decode cX5_setExit 9 = .ok (.ireturn, 1) := by decide +kernel
theorem dX5_setExit_10 : decode cX5_setExit 10 = .ok (.aload_n 0, 1) := by decide +kernel
theorem dX5_setExit_11 : decode cX5_setExit 11 = .ok (.invokevirtual 60, 3) := by decide +kernel
theorem dX5_setExit_14 : decode cX5_setExit 14 = .ok (.istore_n 2, 1) := by decide +kernel
theorem dX5_setExit_15 : decode cX5_setExit 15 = .ok (.aload_n 0, 1) := by decide +kernel
theorem dX5_setExit_16 : decode cX5_setExit 16 = .ok (.aload_n 0, 1) := by decide +kernel
theorem dX5_setExit_17 : decode cX5_setExit 17 = .ok (.getfield 10, 3) := by decide +kernel
theorem dX5_setExit_20 : decode cX5_setExit 20 = .ok (.iload_n 1, 1) := by decide +kernel
theorem dX5_setExit_21 : decode cX5_setExit 21 = .ok (.invokevirtual 63, 3) := by decide +kernel
theorem dX5_setExit_24 : decode cX5_setExit 24 = .ok (.checkcast 47, 3) := by decide +kernel
theorem dX5_setExit_27 : decode cX5_setExit 27 = .ok (.putfield 32, 3) := by decide +kernel
theorem dX5_setExit_30 : decode cX5_setExit 30 = .ok (.iload_n 2, 1) := by decide +kernel
theorem dX5_setExit_31 : decode cX5_setExit 31 = .ok (.ireturn, 1) := by decide +kernel
theorem dX5_addDoor_0 : decode cX5_addDoor 0 = .ok (.aload_n 0, 1) := by decide +kernel
theorem dX5_addDoor_1 : decode cX5_addDoor 1 = .ok (.iload_n 1, 1) := by decide +kernel
theorem dX5_addDoor_2 : decode cX5_addDoor 2 = .ok (.invokevirtual 56, 3) := by decide +kernel
theorem dX5_addDoor_5 : decode cX5_addDoor 5 = .ok (.ifCond .eq 11, 3) := by decide +kernel
theorem dX5_addDoor_8 : decode cX5_addDoor 8 = .ok (.aload_n 0, 1) := by decide +kernel
theorem dX5_addDoor_9 : decode cX5_addDoor 9 = .ok (.iload_n 2, 1) := by decide +kernel
theorem dX5_addDoor_10 : decode cX5_addDoor 10 = .ok (.invokevirtual 56, 3) := by decide +kernel
theorem dX5_addDoor_13 : decode cX5_addDoor 13 = .ok (.ifCond .ne 5, 3) := by decide +kernel
theorem dX5_addDoor_16 : decode cX5_addDoor 16 = .ok (.iconst (-1), 1) := by decide +kernel
theorem dX5_addDoor_17 : decode cX5_addDoor 17 = .ok (.ireturn, 1) := by decide +kernel
theorem dX5_addDoor_18 : decode cX5_addDoor 18 = .ok (.iload_n 1, 1) := by decide +kernel
theorem dX5_addDoor_19 : decode cX5_addDoor 19 = .ok (.iload_n 2, 1) := by decide +kernel
theorem dX5_addDoor_20 : decode cX5_addDoor 20 = .ok (.if_icmp .eq 13, 3) := by decide +kernel
theorem dX5_addDoor_23 : decode cX5_addDoor 23 = .ok (.iload_n 3, 1) := by decide +kernel
theorem dX5_addDoor_24 : decode cX5_addDoor 24 = .ok (.iconst 1, 1) := by decide +kernel
theorem dX5_addDoor_25 : decode cX5_addDoor 25 = .ok (.bipush 30, 2) := by decide +kernel
theorem dX5_addDoor_27 : decode cX5_addDoor 27 = .ok (.invokestatic 67, 3) := by decide +kernel
theorem dX5_addDoor_30 : decode cX5_addDoor 30 = .ok (.ifCond .ne 6, 3) := by decide +kernel
theorem dX5_addDoor_33 : decode cX5_addDoor 33 = .ok (.bipush (-2), 2) := by decide +kernel
theorem dX5_addDoor_35 : decode cX5_addDoor 35 = .ok (.ireturn, 1) := by decide +kernel
theorem dX5_addDoor_36 : decode cX5_addDoor 36 = .ok (.aload_n 0, 1) := by decide +kernel
theorem dX5_addDoor_37 : decode cX5_addDoor 37 = .ok (.getfield 16, 3) := by decide +kernel
theorem dX5_addDoor_40 : decode cX5_addDoor 40 = .ok (.invokevirtual 43, 3) := by decide +kernel
theorem dX5_addDoor_43 : decode cX5_addDoor 43 = .ok (.istore 4, 2) := by decide +kernel
theorem dX5_addDoor_45 : decode cX5_addDoor 45 = .ok (.iload 4, 2) := by decide +kernel
theorem dX5_addDoor_47 : decode cX5_addDoor 47 = .ok (.bipush 16, 2) := by decide +kernel
theorem dX5_addDoor_49 : decode cX5_addDoor 49 = .ok (.if_icmp .lt 6, 3) := by decide +kernel
theorem dX5_addDoor_52 : decode cX5_addDoor 52 = .ok (.bipush (-3), 2) := by decide +kernel
theorem dX5_addDoor_54 : decode cX5_addDoor 54 = .ok (.ireturn, 1) := by decide +kernel
theorem dX5_addDoor_55 : decode cX5_addDoor 55 = .ok (.aload_n 0, 1) := by decide +kernel
theorem dX5_addDoor_56 : decode cX5_addDoor 56 = .ok (.getfield 16, 3) := by decide +kernel
theorem dX5_addDoor_59 : decode cX5_addDoor 59 = .ok (.new 71, 3) := by decide +kernel
theorem dX5_addDoor_62 : decode cX5_addDoor 62 = .ok (.dup, 1) := by decide +kernel
theorem dX5_addDoor_63 : decode cX5_addDoor 63 = .ok (.iload 4, 2) := by decide +kernel
theorem dX5_addDoor_65 : decode cX5_addDoor 65 = .ok (.aload_n 0, 1) := by decide +kernel
theorem dX5_addDoor_66 : decode cX5_addDoor 66 = .ok (.iload_n 1, 1) := by decide +kernel
theorem dX5_addDoor_67 : decode cX5_addDoor 67 = .ok (.iload_n 2, 1) := by decide +kernel
theorem dX5_addDoor_68 : decode cX5_addDoor 68 = .ok (.invokevirtual 73, 3) := by decide +kernel
theorem dX5_addDoor_71 : decode cX5_addDoor 71 = .ok (.aload_n 0, 1) := by decide +kernel
theorem dX5_addDoor_72 : decode cX5_addDoor 72 = .ok (.iload_n 1, 1) := by decide +kernel
theorem dX5_addDoor_73 : decode cX5_addDoor 73 = .ok (.iload_n 2, 1) := by decide +kernel
theorem dX5_addDoor_74 : decode cX5_addDoor 74 = .ok (.invokevirtual 77, 3) := by decide +kernel
theorem dX5_addDoor_77 : decode cX5_addDoor 77 = .ok (.iload_n 3, 1) := by decide +kernel
theorem dX5_addDoor_78 : decode cX5_addDoor 78 = .ok (.invokespecial 80, 3) := by decide +kernel
theorem dX5_addDoor_81 : decode cX5_addDoor 81 = .ok (.invokevirtual 52, 3) := by decide +kernel
theorem dX5_addDoor_84 : decode cX5_addDoor 84 = .ok (.pop, 1) := by decide +kernel
theorem dX5_addDoor_85 : decode cX5_addDoor 85 = .ok (.iload 4, 2) := by decide +kernel
theorem dX5_addDoor_87 : decode cX5_addDoor 87 = .ok (.ireturn, 1) := by decide +kernel
theorem dX5_addLock_0 : decode cX5_addLock 0 = .ok (.aload_n 0, 1) := by decide +kernel
theorem dX5_addLock_1 : decode cX5_addLock 1 = .ok (.iload_n 1, 1) := by decide +kernel
theorem dX5_addLock_2 : decode cX5_addLock 2 = .ok (.invokevirtual 56, 3) := by decide +kernel
theorem dX5_addLock_5 : decode cX5_addLock 5 = .ok (.ifCond .eq 11, 3) := by decide +kernel
theorem dX5_addLock_8 : decode cX5_addLock 8 = .ok (.aload_n 0, 1) := by decide +kernel
theorem dX5_addLock_9 : decode cX5_addLock 9 = .ok (.iload_n 2, 1) := by decide +kernel
theorem dX5_addLock_10 : decode cX5_addLock 10 = .ok (.invokevirtual 56, 3) := by decide +kernel
theorem dX5_addLock_13 : decode cX5_addLock 13 = .ok (.ifCond .ne 5, 3) := by decide +kernel
theorem dX5_addLock_16 : decode cX5_addLock 16 = .ok (.iconst (-1), 1) := by decide +kernel
theorem dX5_addLock_17 : decode cX5_addLock 17 = .ok (.ireturn, 1) := by decide +kernel
theorem dX5_addLock_18 : decode cX5_addLock 18 = .ok (.iload_n 1, 1) := by decide +kernel
theorem dX5_addLock_19 : decode cX5_addLock 19 = .ok (.iload_n 2, 1) := by decide +kernel
theorem dX5_addLock_20 : decode cX5_addLock 20 = .ok (.if_icmp .eq 32, 3) := by decide +kernel
theorem dX5_addLock_23 : decode cX5_addLock 23 = .ok (.iload_n 3, 1) := by decide +kernel
theorem dX5_addLock_24 : decode cX5_addLock 24 = .ok (.iconst 1, 1) := by decide +kernel
theorem dX5_addLock_25 : decode cX5_addLock 25 = .ok (.bipush 30, 2) := by decide +kernel
theorem dX5_addLock_27 : decode cX5_addLock 27 = .ok (.invokestatic 67, 3) := by decide +kernel
theorem dX5_addLock_30 : decode cX5_addLock 30 = .ok (.ifCond .eq 22, 3) := by decide +kernel
theorem dX5_addLock_33 : decode cX5_addLock 33 = .ok (.iload 4, 2) := by decide +kernel
theorem dX5_addLock_35 : decode cX5_addLock 35 = .ok (.invokestatic 83, 3) := by decide +kernel
theorem dX5_addLock_38 : decode cX5_addLock 38 = .ok (.ifCond .eq 14, 3) := by decide +kernel
theorem dX5_addLock_41 : decode cX5_addLock 41 = .ok (.iload 5, 2) := by decide +kernel
theorem dX5_addLock_43 : decode cX5_addLock 43 = .ok (.iconst 1, 1) := by decide +kernel
theorem dX5_addLock_44 : decode cX5_addLock 44 = .ok (.bipush 60, 2) := by decide +kernel
theorem dX5_addLock_46 : decode cX5_addLock 46 = .ok (.invokestatic 67, 3) := by decide +kernel
theorem dX5_addLock_49 : decode cX5_addLock 49 = .ok (.ifCond .ne 6, 3) := by decide +kernel
theorem dX5_addLock_52 : decode cX5_addLock 52 = .ok (.bipush (-2), 2) := by decide +kernel
theorem dX5_addLock_54 : decode cX5_addLock 54 = .ok (.ireturn, 1) := by decide +kernel
theorem dX5_addLock_55 : decode cX5_addLock 55 = .ok (.aload_n 0, 1) := by decide +kernel
theorem dX5_addLock_56 : decode cX5_addLock 56 = .ok (.getfield 16, 3) := by decide +kernel
theorem dX5_addLock_59 : decode cX5_addLock 59 = .ok (.invokevirtual 43, 3) := by decide +kernel
theorem dX5_addLock_62 : decode cX5_addLock 62 = .ok (.istore 6, 2) := by decide +kernel
theorem dX5_addLock_64 : decode cX5_addLock 64 = .ok (.iload 6, 2) := by decide +kernel
theorem dX5_addLock_66 : decode cX5_addLock 66 = .ok (.bipush 16, 2) := by decide +kernel
theorem dX5_addLock_68 : decode cX5_addLock 68 = .ok (.if_icmp .ge 12, 3) := by decide +kernel
theorem dX5_addLock_71 : decode cX5_addLock 71 = .ok (.aload_n 0, 1) := by decide +kernel
theorem dX5_addLock_72 : decode cX5_addLock 72 = .ok (.getfield 86, 3) := by decide +kernel
theorem dX5_addLock_75 : decode cX5_addLock 75 = .ok (.bipush 10, 2) := by decide +kernel
theorem dX5_addLock_77 : decode cX5_addLock 77 = .ok (.if_icmp .lt 6, 3) := by decide +kernel
theorem dX5_addLock_80 : decode cX5_addLock 80 = .ok (.bipush (-3), 2) := by decide +kernel
theorem dX5_addLock_82 : decode cX5_addLock 82 = .ok (.ireturn, 1) := by decide +kernel
theorem dX5_addLock_83 : decode cX5_addLock 83 = .ok (.new 71, 3) := by decide +kernel
theorem dX5_addLock_86 : decode cX5_addLock 86 = .ok (.dup, 1) := by decide +kernel
theorem dX5_addLock_87 : decode cX5_addLock 87 = .ok (.iload 6, 2) := by decide +kernel
theorem dX5_addLock_89 : decode cX5_addLock 89 = .ok (.aload_n 0, 1) := by decide +kernel
theorem dX5_addLock_90 : decode cX5_addLock 90 = .ok (.iload_n 1, 1) := by decide +kernel
theorem dX5_addLock_91 : decode cX5_addLock 91 = .ok (.iload_n 2, 1) := by decide +kernel
theorem dX5_addLock_92 : decode cX5_addLock 92 = .ok (.invokevirtual 73, 3) := by decide +kernel
theorem dX5_addLock_95 : decode cX5_addLock 95 = .ok (.aload_n 0, 1) := by decide +kernel
theorem dX5_addLock_96 : decode cX5_addLock 96 = .ok (.iload_n 1, 1) := by decide +kernel
theorem dX5_addLock_97 : decode cX5_addLock 97 = .ok (.iload_n 2, 1) := by decide +kernel
theorem dX5_addLock_98 : decode cX5_addLock 98 = .ok (.invokevirtual 77, 3) := by decide +kernel
theorem dX5_addLock_101 : decode cX5_addLock 101 = .ok (.iload_n 3, 1) := by decide +kernel
theorem dX5_addLock_102 : decode cX5_addLock 102 = .ok (.invokespecial 80, 3) := by decide +kernel
theorem dX5_addLock_105 : decode cX5_addLock 105 = .ok (.astore 7, 2) := by decide +kernel
theorem dX5_addLock_107 : decode cX5_addLock 107 = .ok (.aload 7, 2) := by decide +kernel
theorem dX5_addLock_109 : decode cX5_addLock 109 = .ok (.iconst 1, 1) := by decide +kernel
theorem dX5_addLock_110 : decode cX5_addLock 110 = .ok (.aload_n 0, 1) := by decide +kernel
theorem dX5_addLock_111 : decode cX5_addLock 111 = .ok (.getfield 86, 3) := by decide +kernel
theorem dX5_addLock_114 : decode cX5_addLock 114 = .ok (.ishl, 1) := by decide +kernel
theorem dX5_addLock_115 : decode cX5_addLock 115 = .ok (.iload 4, 2) := by decide +kernel
theorem dX5_addLock_117 : decode cX5_addLock 117 = .ok (.iload 5, 2) := by decide +kernel
theorem dX5_addLock_119 : decode cX5_addLock 119 = .ok (.invokevirtual 89, 3) := by decide +kernel
theorem dX5_addLock_122 : decode cX5_addLock 122 = .ok (.aload_n 0, 1) := by decide +kernel
theorem dX5_addLock_123 : decode cX5_addLock 123 = .ok (.getfield 16, 3) := by decide +kernel
theorem dX5_addLock_126 : decode cX5_addLock 126 = .ok (.aload 7, 2) := by decide +kernel
theorem dX5_addLock_128 : decode cX5_addLock 128 = .ok (.invokevirtual 52, 3) := by decide +kernel
theorem dX5_addLock_131 : decode cX5_addLock 131 = .ok (.pop, 1) := by decide +kernel
theorem dX5_addLock_132 : decode cX5_addLock 132 = .ok (.aload_n 0, 1) := by decide +kernel
theorem dX5_addLock_133 : decode cX5_addLock 133 = .ok (.dup, 1) := by decide +kernel
theorem dX5_addLock_134 : decode cX5_addLock 134 = .ok (.getfield 86, 3) := by decide +kernel
theorem dX5_addLock_137 : decode cX5_addLock 137 = .ok (.iconst 1, 1) := by decide +kernel
theorem dX5_addLock_138 : decode cX5_addLock 138 = .ok (.iadd, 1) := by decide +kernel
theorem dX5_addLock_139 : decode cX5_addLock 139 = .ok (.putfield 86, 3) := by decide +kernel
theorem dX5_addLock_142 : decode cX5_addLock 142 = .ok (.iload 6, 2) := by decide +kernel
theorem dX5_addLock_144 : decode cX5_addLock 144 = .ok (.ireturn, 1) := by decide +kernel
theorem dX5_addKey_0 : decode cX5_addKey 0 = .ok (.aload_n 0, 1) := by decide +kernel
theorem dX5_addKey_1 : decode cX5_addKey 1 = .ok (.iload_n 1, 1) := by decide +kernel
theorem dX5_addKey_2 : decode cX5_addKey 2 = .ok (.invokevirtual 56, 3) := by decide +kernel
theorem dX5_addKey_5 : decode cX5_addKey 5 = .ok (.ifCond .ne 5, 3) := by decide +kernel
theorem dX5_addKey_8 : decode cX5_addKey 8 = .ok (.iconst (-1), 1) := by decide +kernel
theorem dX5_addKey_9 : decode cX5_addKey 9 = .ok (.ireturn, 1) := by decide +kernel
theorem dX5_addKey_10 : decode cX5_addKey 10 = .ok (.iload_n 2, 1) := by decide +kernel
theorem dX5_addKey_11 : decode cX5_addKey 11 = .ok (.invokestatic 83, 3) := by decide +kernel
theorem dX5_addKey_14 : decode cX5_addKey 14 = .ok (.ifCond .ne 6, 3) := by decide +kernel
theorem dX5_addKey_17 : decode cX5_addKey 17 = .ok (.bipush (-2), 2) := by decide +kernel
theorem dX5_addKey_19 : decode cX5_addKey 19 = .ok (.ireturn, 1) := by decide +kernel
theorem dX5_addKey_20 : decode cX5_addKey 20 = .ok (.aload_n 0, 1) := by decide +kernel
theorem dX5_addKey_21 : decode cX5_addKey 21 = .ok (.getfield 19, 3) := by decide +kernel
theorem dX5_addKey_24 : decode cX5_addKey 24 = .ok (.invokevirtual 43, 3) := by decide +kernel
theorem dX5_addKey_27 : decode cX5_addKey 27 = .ok (.istore_n 3, 1) := by decide +kernel
theorem dX5_addKey_28 : decode cX5_addKey 28 = .ok (.iload_n 3, 1) := by decide +kernel
theorem dX5_addKey_29 : decode cX5_addKey 29 = .ok (.bipush 16, 2) := by decide +kernel
theorem dX5_addKey_31 : decode cX5_addKey 31 = .ok (.if_icmp .lt 6, 3) := by decide +kernel
theorem dX5_addKey_34 : decode cX5_addKey 34 = .ok (.bipush (-3), 2) := by decide +kernel
theorem dX5_addKey_36 : decode cX5_addKey 36 = .ok (.ireturn, 1) := by decide +kernel
theorem dX5_addKey_37 : decode cX5_addKey 37 = .ok (.aload_n 0, 1) := by decide +kernel
theorem dX5_addKey_38 : decode cX5_addKey 38 = .ok (.getfield 19, 3) := by decide +kernel
theorem dX5_addKey_41 : decode cX5_addKey 41 = .ok (.new 93, 3) := by decide +kernel
theorem dX5_addKey_44 : decode cX5_addKey 44 = .ok (.dup, 1) := by decide +kernel
theorem dX5_addKey_45 : decode cX5_addKey 45 = .ok (.iload_n 3, 1) := by decide +kernel
theorem dX5_addKey_46 : decode cX5_addKey 46 = .ok (.iload_n 2, 1) := by decide +kernel
theorem dX5_addKey_47 : decode cX5_addKey 47 = .ok (.aload_n 0, 1) := by decide +kernel
theorem dX5_addKey_48 : decode cX5_addKey 48 = .ok (.getfield 10, 3) := by decide +kernel
theorem dX5_addKey_51 : decode cX5_addKey 51 = .ok (.iload_n 1, 1) := by decide +kernel
theorem dX5_addKey_52 : decode cX5_addKey 52 = .ok (.invokevirtual 63, 3) := by decide +kernel
theorem dX5_addKey_55 : decode cX5_addKey 55 = .ok (.checkcast 47, 3) := by decide +kernel
theorem dX5_addKey_58 : decode cX5_addKey 58 = .ok (.invokespecial 95, 3) := by decide +kernel
theorem dX5_addKey_61 : decode cX5_addKey 61 = .ok (.invokevirtual 52, 3) := by decide +kernel
theorem dX5_addKey_64 : decode cX5_addKey 64 = .ok (.pop, 1) := by decide +kernel
theorem dX5_addKey_65 : decode cX5_addKey 65 = .ok (.iload_n 3, 1) := by decide +kernel
theorem dX5_addKey_66 : decode cX5_addKey 66 = .ok (.ireturn, 1) := by decide +kernel
theorem dX5_addGroup_0 : decode cX5_addGroup 0 = .ok (.aload_n 0, 1) := by decide +kernel
theorem dX5_addGroup_1 : decode cX5_addGroup 1 = .ok (.iload_n 2, 1) := by decide +kernel
theorem dX5_addGroup_2 : decode cX5_addGroup 2 = .ok (.invokevirtual 56, 3) := by decide +kernel
theorem dX5_addGroup_5 : decode cX5_addGroup 5 = .ok (.ifCond .ne 5, 3) := by decide +kernel
theorem dX5_addGroup_8 : decode cX5_addGroup 8 = .ok (.iconst (-1), 1) := by decide +kernel
theorem dX5_addGroup_9 : decode cX5_addGroup 9 = .ok (.ireturn, 1) := by decide +kernel
theorem dX5_addGroup_10 : decode cX5_addGroup 10 = .ok (.iload_n 1, 1) := by decide +kernel
theorem dX5_addGroup_11 : decode cX5_addGroup 11 = .ok (.iconst 1, 1) := by decide +kernel
theorem dX5_addGroup_12 : decode cX5_addGroup 12 = .ok (.bipush 24, 2) := by decide +kernel
theorem dX5_addGroup_14 : decode cX5_addGroup 14 = .ok (.invokestatic 67, 3) := by decide +kernel
theorem dX5_addGroup_17 : decode cX5_addGroup 17 = .ok (.ifCond .ne 6, 3) := by decide +kernel
theorem dX5_addGroup_20 : decode cX5_addGroup 20 = .ok (.bipush (-2), 2) := by decide +kernel
theorem dX5_addGroup_22 : decode cX5_addGroup 22 = .ok (.ireturn, 1) := by decide +kernel
theorem dX5_addGroup_23 : decode cX5_addGroup 23 = .ok (.aload_n 0, 1) := by decide +kernel
theorem dX5_addGroup_24 : decode cX5_addGroup 24 = .ok (.getfield 22, 3) := by decide +kernel
theorem dX5_addGroup_27 : decode cX5_addGroup 27 = .ok (.invokevirtual 43, 3) := by decide +kernel
theorem dX5_addGroup_30 : decode cX5_addGroup 30 = .ok (.istore_n 3, 1) := by decide +kernel
theorem dX5_addGroup_31 : decode cX5_addGroup 31 = .ok (.aload_n 0, 1) := by decide +kernel
theorem dX5_addGroup_32 : decode cX5_addGroup 32 = .ok (.iconst 0, 1) := by decide +kernel
theorem dX5_addGroup_33 : decode cX5_addGroup 33 = .ok (.invokevirtual 98, 3) := by decide +kernel
theorem dX5_addGroup_36 : decode cX5_addGroup 36 = .ok (.aload_n 0, 1) := by decide +kernel
theorem dX5_addGroup_37 : decode cX5_addGroup 37 = .ok (.iconst 1, 1) := by decide +kernel
theorem dX5_addGroup_38 : decode cX5_addGroup 38 = .ok (.invokevirtual 98, 3) := by decide +kernel
theorem dX5_addGroup_41 : decode cX5_addGroup 41 = .ok (.iadd, 1) := by decide +kernel
theorem dX5_addGroup_42 : decode cX5_addGroup 42 = .ok (.istore 4, 2) := by decide +kernel
theorem dX5_addGroup_44 : decode cX5_addGroup 44 = .ok (.iload_n 3, 1) := by decide +kernel
theorem dX5_addGroup_45 : decode cX5_addGroup 45 = .ok (.bipush 6, 2) := by decide +kernel
theorem dX5_addGroup_47 : decode cX5_addGroup 47 = .ok (.if_icmp .ge 12, 3) := by decide +kernel
theorem dX5_addGroup_50 : decode cX5_addGroup 50 = .ok (.iload 4, 2) := by decide +kernel
theorem dX5_addGroup_52 : decode cX5_addGroup 52 = .ok (.iload_n 1, 1) := by decide +kernel
theorem dX5_addGroup_53 : decode cX5_addGroup 53 = .ok (.iadd, 1) := by decide +kernel
theorem dX5_addGroup_54 : decode cX5_addGroup 54 = .ok (.bipush 24, 2) := by decide +kernel
theorem dX5_addGroup_56 : decode cX5_addGroup 56 = .ok (.if_icmp .le 6, 3) := by decide +kernel
theorem dX5_addGroup_59 : decode cX5_addGroup 59 = .ok (.bipush (-3), 2) := by decide +kernel
theorem dX5_addGroup_61 : decode cX5_addGroup 61 = .ok (.ireturn, 1) := by decide +kernel
theorem dX5_addGroup_62 : decode cX5_addGroup 62 = .ok (.aload_n 0, 1) := by decide +kernel
theorem dX5_addGroup_63 : decode cX5_addGroup 63 = .ok (.getfield 22, 3) := by decide +kernel
theorem dX5_addGroup_66 : decode cX5_addGroup 66 = .ok (.new 102, 3) := by decide +kernel
theorem dX5_addGroup_69 : decode cX5_addGroup 69 = .ok (.dup, 1) := by decide +kernel
theorem dX5_addGroup_70 : decode cX5_addGroup 70 = .ok (.iload_n 3, 1) := by decide +kernel
theorem dX5_addGroup_71 : decode cX5_addGroup 71 = .ok (.iload_n 1, 1) := by decide +kernel
theorem dX5_addGroup_72 : decode cX5_addGroup 72 = .ok (.aload_n 0, 1) := by decide +kernel
theorem dX5_addGroup_73 : decode cX5_addGroup 73 = .ok (.getfield 10, 3) := by decide +kernel
theorem dX5_addGroup_76 : decode cX5_addGroup 76 = .ok (.iload_n 2, 1) := by decide +kernel
theorem dX5_addGroup_77 : decode cX5_addGroup 77 = .ok (.invokevirtual 63, 3) := by decide +kernel
theorem dX5_addGroup_80 : decode cX5_addGroup 80 = .ok (.checkcast 47, 3) := by decide +kernel
theorem dX5_addGroup_83 : decode cX5_addGroup 83 = .ok (.iconst 0, 1) := by decide +kernel
theorem dX5_addGroup_84 : decode cX5_addGroup 84 = .ok (.invokespecial 104, 3) := by decide +kernel
theorem dX5_addGroup_87 : decode cX5_addGroup 87 = .ok (.invokevirtual 52, 3) := by decide +kernel
theorem dX5_addGroup_90 : decode cX5_addGroup 90 = .ok (.pop, 1) := by decide +kernel
theorem dX5_addGroup_91 : decode cX5_addGroup 91 = .ok (.iload_n 3, 1) := by decide +kernel
theorem dX5_addGroup_92 : decode cX5_addGroup 92 = .ok (.ireturn, 1) := by decide +kernel
theorem dX5_setHints_0 : decode cX5_setHints 0 = .ok (.iload_n 1, 1) := by decide +kernel
theorem dX5_setHints_1 : decode cX5_setHints 1 = .ok (.iconst 1, 1) := by decide +kernel
theorem dX5_setHints_2 : decode cX5_setHints 2 = .ok (.bipush 30, 2) := by decide +kernel
theorem dX5_setHints_4 : decode cX5_setHints 4 = .ok (.invokestatic 67, 3) := by decide +kernel
theorem dX5_setHints_7 : decode cX5_setHints 7 = .ok (.ifCond .eq 13, 3) := by decide +kernel
theorem dX5_setHints_10 : decode cX5_setHints 10 = .ok (.iload_n 2, 1) := by decide +kernel
theorem dX5_setHints_11 : decode cX5_setHints 11 = .ok (.iconst 0, 1) := by decide +kernel
theorem dX5_setHints_12 : decode cX5_setHints 12 = .ok (.bipush 30, 2) := by decide +kernel
theorem dX5_setHints_14 : decode cX5_setHints 14 = .ok (.invokestatic 67, 3) := by decide +kernel
theorem dX5_setHints_17 : decode cX5_setHints 17 = .ok (.ifCond .ne 6, 3) := by decide +kernel
theorem dX5_setHints_20 : decode cX5_setHints 20 = .ok (.bipush (-2), 2) := by decide +kernel
theorem dX5_setHints_22 : decode cX5_setHints 22 = .ok (.ireturn, 1) := by decide +kernel
theorem dX5_setHints_23 : decode cX5_setHints 23 = .ok (.aload_n 0, 1) := by decide +kernel
theorem dX5_setHints_24 : decode cX5_setHints 24 = .ok (.getfield 36, 3) := by decide +kernel
theorem dX5_setHints_27 : decode cX5_setHints 27 = .ok (.istore_n 3, 1) := by decide +kernel
theorem dX5_setHints_28 : decode cX5_setHints 28 = .ok (.aload_n 0, 1) := by decide +kernel
theorem dX5_setHints_29 : decode cX5_setHints 29 = .ok (.iload_n 1, 1) := by decide +kernel
theorem dX5_setHints_30 : decode cX5_setHints 30 = .ok (.putfield 36, 3) := by decide +kernel
theorem dX5_setHints_33 : decode cX5_setHints 33 = .ok (.aload_n 0, 1) := by decide +kernel
theorem dX5_setHints_34 : decode cX5_setHints 34 = .ok (.iload_n 2, 1) := by decide +kernel
theorem dX5_setHints_35 : decode cX5_setHints 35 = .ok (.putfield 40, 3) := by decide +kernel
theorem dX5_setHints_38 : decode cX5_setHints 38 = .ok (.iload_n 3, 1) := by decide +kernel
theorem dX5_setHints_39 : decode cX5_setHints 39 = .ok (.ireturn, 1) := by decide +kernel
theorem dX5_walk_0 : decode cX5_walk 0 = .ok (.aload_n 0, 1) := by decide +kernel
theorem dX5_walk_1 : decode cX5_walk 1 = .ok (.iload_n 1, 1) := by decide +kernel
theorem dX5_walk_2 : decode cX5_walk 2 = .ok (.invokevirtual 107, 3) := by decide +kernel
theorem dX5_walk_5 : decode cX5_walk 5 = .ok (.ifCond .eq 11, 3) := by decide +kernel
theorem dX5_walk_8 : decode cX5_walk 8 = .ok (.aload_n 0, 1) := by decide +kernel
theorem dX5_walk_9 : decode cX5_walk 9 = .ok (.iload_n 2, 1) := by decide +kernel
theorem dX5_walk_10 : decode cX5_walk 10 = .ok (.invokevirtual 110, 3) := by decide +kernel
theorem dX5_walk_13 : decode cX5_walk 13 = .ok (.ifCond .ne 5, 3) := by decide +kernel
theorem dX5_walk_16 : decode cX5_walk 16 = .ok (.iconst (-1), 1) := by decide +kernel
theorem dX5_walk_17 : decode cX5_walk 17 = .ok (.ireturn, 1) := by decide +kernel
theorem dX5_walk_18 : decode cX5_walk 18 = .ok (.aload_n 0, 1) := by decide +kernel
theorem dX5_walk_19 : decode cX5_walk 19 = .ok (.getfield 22, 3) := by decide +kernel
theorem dX5_walk_22 : decode cX5_walk 22 = .ok (.iload_n 1, 1) := by decide +kernel
theorem dX5_walk_23 : decode cX5_walk 23 = .ok (.invokevirtual 63, 3) := by decide +kernel
theorem dX5_walk_26 : decode cX5_walk 26 = .ok (.checkcast 102, 3) := by decide +kernel
theorem dX5_walk_29 : decode cX5_walk 29 = .ok (.astore_n 3, 1) := by decide +kernel
theorem dX5_walk_30 : decode cX5_walk 30 = .ok (.aload_n 0, 1) := by decide +kernel
theorem dX5_walk_31 : decode cX5_walk 31 = .ok (.getfield 16, 3) := by decide +kernel
theorem dX5_walk_34 : decode cX5_walk 34 = .ok (.iload_n 2, 1) := by decide +kernel
theorem dX5_walk_35 : decode cX5_walk 35 = .ok (.invokevirtual 63, 3) := by decide +kernel
theorem dX5_walk_38 : decode cX5_walk 38 = .ok (.checkcast 71, 3) := by decide +kernel
theorem dX5_walk_41 : decode cX5_walk 41 = .ok (.astore 4, 2) := by decide +kernel
theorem dX5_walk_43 : decode cX5_walk 43 = .ok (.aload_n 3, 1) := by decide +kernel
theorem dX5_walk_44 : decode cX5_walk 44 = .ok (.invokevirtual 113, 3) := by decide +kernel
theorem dX5_walk_47 : decode cX5_walk 47 = .ok (.ifCond .eq 23, 3) := by decide +kernel
theorem dX5_walk_50 : decode cX5_walk 50 = .ok (.aload 4, 2) := by decide +kernel
theorem dX5_walk_52 : decode cX5_walk 52 = .ok (.aload_n 3, 1) := by decide +kernel
theorem dX5_walk_53 : decode cX5_walk 53 = .ok (.getfield 117, 3) := by decide +kernel
theorem dX5_walk_56 : decode cX5_walk 56 = .ok (.invokevirtual 120, 3) := by decide +kernel
theorem dX5_walk_59 : decode cX5_walk 59 = .ok (.ifCond .eq 11, 3) := by decide +kernel
theorem dX5_walk_62 : decode cX5_walk 62 = .ok (.aload 4, 2) := by decide +kernel
theorem dX5_walk_64 : decode cX5_walk 64 = .ok (.getfield 124, 3) := by decide +kernel
theorem dX5_walk_67 : decode cX5_walk 67 = .ok (.ifCond .ne 6, 3) := by decide +kernel
theorem dX5_walk_70 : decode cX5_walk 70 = .ok (.bipush (-4), 2) := by decide +kernel
theorem dX5_walk_72 : decode cX5_walk 72 = .ok (.ireturn, 1) := by decide +kernel
theorem dX5_walk_73 : decode cX5_walk 73 = .ok (.aload 4, 2) := by decide +kernel
theorem dX5_walk_75 : decode cX5_walk 75 = .ok (.aload_n 3, 1) := by decide +kernel
theorem dX5_walk_76 : decode cX5_walk 76 = .ok (.getfield 128, 3) := by decide +kernel
theorem dX5_walk_79 : decode cX5_walk 79 = .ok (.invokevirtual 131, 3) := by decide +kernel
theorem dX5_walk_82 : decode cX5_walk 82 = .ok (.istore 5, 2) := by decide +kernel
theorem dX5_walk_84 : decode cX5_walk 84 = .ok (.iload 5, 2) := by decide +kernel
theorem dX5_walk_86 : decode cX5_walk 86 = .ok (.ldc 134, 2) := by decide +kernel
theorem dX5_walk_88 : decode cX5_walk 88 = .ok (.if_icmp .le 6, 3) := by decide +kernel
theorem dX5_walk_91 : decode cX5_walk 91 = .ok (.bipush (-5), 2) := by decide +kernel
theorem dX5_walk_93 : decode cX5_walk 93 = .ok (.ireturn, 1) := by decide +kernel
theorem dX5_walk_94 : decode cX5_walk 94 = .ok (.aload_n 3, 1) := by decide +kernel
theorem dX5_walk_95 : decode cX5_walk 95 = .ok (.iload 5, 2) := by decide +kernel
theorem dX5_walk_97 : decode cX5_walk 97 = .ok (.putfield 128, 3) := by decide +kernel
theorem dX5_walk_100 : decode cX5_walk 100 = .ok (.aload_n 3, 1) := by decide +kernel
theorem dX5_walk_101 : decode cX5_walk 101 = .ok (.aload 4, 2) := by decide +kernel
theorem dX5_walk_103 : decode cX5_walk 103 = .ok (.aload_n 3, 1) := by decide +kernel
theorem dX5_walk_104 : decode cX5_walk 104 = .ok (.getfield 117, 3) := by decide +kernel
theorem dX5_walk_107 : decode cX5_walk 107 = .ok (.invokevirtual 135, 3) := by decide +kernel
theorem dX5_walk_110 : decode cX5_walk 110 = .ok (.putfield 117, 3) := by decide +kernel
theorem dX5_walk_113 : decode cX5_walk 113 = .ok (.iload 5, 2) := by decide +kernel
theorem dX5_walk_115 : decode cX5_walk 115 = .ok (.ireturn, 1) := by decide +kernel
theorem dX5_unlock_0 : decode cX5_unlock 0 = .ok (.aload_n 0, 1) := by decide +kernel
theorem dX5_unlock_1 : decode cX5_unlock 1 = .ok (.iload_n 1, 1) := by decide +kernel
theorem dX5_unlock_2 : decode cX5_unlock 2 = .ok (.invokevirtual 107, 3) := by decide +kernel
theorem dX5_unlock_5 : decode cX5_unlock 5 = .ok (.ifCond .eq 11, 3) := by decide +kernel
theorem dX5_unlock_8 : decode cX5_unlock 8 = .ok (.aload_n 0, 1) := by decide +kernel
theorem dX5_unlock_9 : decode cX5_unlock 9 = .ok (.iload_n 2, 1) := by decide +kernel
theorem dX5_unlock_10 : decode cX5_unlock 10 = .ok (.invokevirtual 110, 3) := by decide +kernel
theorem dX5_unlock_13 : decode cX5_unlock 13 = .ok (.ifCond .ne 5, 3) := by decide +kernel
theorem dX5_unlock_16 : decode cX5_unlock 16 = .ok (.iconst (-1), 1) := by decide +kernel
theorem dX5_unlock_17 : decode cX5_unlock 17 = .ok (.ireturn, 1) := by decide +kernel
theorem dX5_unlock_18 : decode cX5_unlock 18 = .ok (.aload_n 0, 1) := by decide +kernel
theorem dX5_unlock_19 : decode cX5_unlock 19 = .ok (.getfield 22, 3) := by decide +kernel
theorem dX5_unlock_22 : decode cX5_unlock 22 = .ok (.iload_n 1, 1) := by decide +kernel
theorem dX5_unlock_23 : decode cX5_unlock 23 = .ok (.invokevirtual 63, 3) := by decide +kernel
theorem dX5_unlock_26 : decode cX5_unlock 26 = .ok (.checkcast 102, 3) := by decide +kernel
theorem dX5_unlock_29 : decode cX5_unlock 29 = .ok (.astore_n 3, 1) := by decide +kernel
theorem dX5_unlock_30 : decode cX5_unlock 30 = .ok (.aload_n 0, 1) := by decide +kernel
theorem dX5_unlock_31 : decode cX5_unlock 31 = .ok (.getfield 16, 3) := by decide +kernel
theorem dX5_unlock_34 : decode cX5_unlock 34 = .ok (.iload_n 2, 1) := by decide +kernel
theorem dX5_unlock_35 : decode cX5_unlock 35 = .ok (.invokevirtual 63, 3) := by decide +kernel
theorem dX5_unlock_38 : decode cX5_unlock 38 = .ok (.checkcast 71, 3) := by decide +kernel
theorem dX5_unlock_41 : decode cX5_unlock 41 = .ok (.astore 4, 2) := by decide +kernel
theorem dX5_unlock_43 : decode cX5_unlock 43 = .ok (.aload_n 3, 1) := by decide +kernel
theorem dX5_unlock_44 : decode cX5_unlock 44 = .ok (.invokevirtual 113, 3) := by decide +kernel
theorem dX5_unlock_47 : decode cX5_unlock 47 = .ok (.ifCond .eq 23, 3) := by decide +kernel
theorem dX5_unlock_50 : decode cX5_unlock 50 = .ok (.aload 4, 2) := by decide +kernel
theorem dX5_unlock_52 : decode cX5_unlock 52 = .ok (.aload_n 3, 1) := by decide +kernel
theorem dX5_unlock_53 : decode cX5_unlock 53 = .ok (.getfield 117, 3) := by decide +kernel
theorem dX5_unlock_56 : decode cX5_unlock 56 = .ok (.invokevirtual 120, 3) := by decide +kernel
theorem dX5_unlock_59 : decode cX5_unlock 59 = .ok (.ifCond .eq 11, 3) := by decide +kernel
theorem dX5_unlock_62 : decode cX5_unlock 62 = .ok (.aload 4, 2) := by decide +kernel
theorem dX5_unlock_64 : decode cX5_unlock 64 = .ok (.getfield 124, 3) := by decide +kernel
theorem dX5_unlock_67 : decode cX5_unlock 67 = .ok (.ifCond .eq 6, 3) := by decide +kernel
theorem dX5_unlock_70 : decode cX5_unlock 70 = .ok (.bipush (-4), 2) := by decide +kernel
theorem dX5_unlock_72 : decode cX5_unlock 72 = .ok (.ireturn, 1) := by decide +kernel
theorem dX5_unlock_73 : decode cX5_unlock 73 = .ok (.aload_n 0, 1) := by decide +kernel
theorem dX5_unlock_74 : decode cX5_unlock 74 = .ok (.aload_n 3, 1) := by decide +kernel
theorem dX5_unlock_75 : decode cX5_unlock 75 = .ok (.aload 4, 2) := by decide +kernel
theorem dX5_unlock_77 : decode cX5_unlock 77 = .ok (.getfield 139, 3) := by decide +kernel
theorem dX5_unlock_80 : decode cX5_unlock 80 = .ok (.invokevirtual 142, 3) := by decide +kernel
theorem dX5_unlock_83 : decode cX5_unlock 83 = .ok (.astore 5, 2) := by decide +kernel
theorem dX5_unlock_85 : decode cX5_unlock 85 = .ok (.aload 5, 2) := by decide +kernel
theorem dX5_unlock_87 : decode cX5_unlock 87 = .ok (.ifnonnull 6, 3) := by decide +kernel
theorem dX5_unlock_90 : decode cX5_unlock 90 = .ok (.bipush (-4), 2) := by decide +kernel
theorem dX5_unlock_92 : decode cX5_unlock 92 = .ok (.ireturn, 1) := by decide +kernel
theorem dX5_unlock_93 : decode cX5_unlock 93 = .ok (.aload_n 3, 1) := by decide +kernel
theorem dX5_unlock_94 : decode cX5_unlock 94 = .ok (.getfield 128, 3) := by decide +kernel
theorem dX5_unlock_97 : decode cX5_unlock 97 = .ok (.aload 4, 2) := by decide +kernel
theorem dX5_unlock_99 : decode cX5_unlock 99 = .ok (.getfield 146, 3) := by decide +kernel
theorem dX5_unlock_102 : decode cX5_unlock 102 = .ok (.iadd, 1) := by decide +kernel
theorem dX5_unlock_103 : decode cX5_unlock 103 = .ok (.istore 6, 2) := by decide +kernel
theorem dX5_unlock_105 : decode cX5_unlock 105 = .ok (.iload 6, 2) := by decide +kernel
theorem dX5_unlock_107 : decode cX5_unlock 107 = .ok (.ldc 134, 2) := by decide +kernel
theorem dX5_unlock_109 : decode cX5_unlock 109 = .ok (.if_icmp .le 6, 3) := by decide +kernel
theorem dX5_unlock_112 : decode cX5_unlock 112 = .ok (.bipush (-5), 2) := by decide +kernel
theorem dX5_unlock_114 : decode cX5_unlock 114 = .ok (.ireturn, 1) := by decide +kernel
theorem dX5_unlock_115 : decode cX5_unlock 115 = .ok (.aload_n 3, 1) := by decide +kernel
theorem dX5_unlock_116 : decode cX5_unlock 116 = .ok (.iload 6, 2) := by decide +kernel
theorem dX5_unlock_118 : decode cX5_unlock 118 = .ok (.putfield 128, 3) := by decide +kernel
theorem dX5_unlock_121 : decode cX5_unlock 121 = .ok (.aload 4, 2) := by decide +kernel
theorem dX5_unlock_123 : decode cX5_unlock 123 = .ok (.iload 6, 2) := by decide +kernel
theorem dX5_unlock_125 : decode cX5_unlock 125 = .ok (.invokevirtual 149, 3) := by decide +kernel
theorem dX5_unlock_128 : decode cX5_unlock 128 = .ok (.aload 5, 2) := by decide +kernel
theorem dX5_unlock_130 : decode cX5_unlock 130 = .ok (.aload 4, 2) := by decide +kernel
theorem dX5_unlock_132 : decode cX5_unlock 132 = .ok (.invokevirtual 152, 3) := by decide +kernel
theorem dX5_unlock_135 : decode cX5_unlock 135 = .ok (.aload 5, 2) := by decide +kernel
theorem dX5_unlock_137 : decode cX5_unlock 137 = .ok (.getfield 156, 3) := by decide +kernel
theorem dX5_unlock_140 : decode cX5_unlock 140 = .ok (.ireturn, 1) := by decide +kernel
theorem dX5_take_0 : decode cX5_take 0 = .ok (.aload_n 0, 1) := by decide +kernel
theorem dX5_take_1 : decode cX5_take 1 = .ok (.iload_n 1, 1) := by decide +kernel
theorem dX5_take_2 : decode cX5_take 2 = .ok (.invokevirtual 107, 3) := by decide +kernel
theorem dX5_take_5 : decode cX5_take 5 = .ok (.ifCond .eq 11, 3) := by decide +kernel
theorem dX5_take_8 : decode cX5_take 8 = .ok (.aload_n 0, 1) := by decide +kernel
theorem dX5_take_9 : decode cX5_take 9 = .ok (.iload_n 2, 1) := by decide +kernel
theorem dX5_take_10 : decode cX5_take 10 = .ok (.invokevirtual 159, 3) := by decide +kernel
theorem dX5_take_13 : decode cX5_take 13 = .ok (.ifCond .ne 5, 3) := by decide +kernel
theorem dX5_take_16 : decode cX5_take 16 = .ok (.iconst (-1), 1) := by decide +kernel
theorem dX5_take_17 : decode cX5_take 17 = .ok (.ireturn, 1) := by decide +kernel
theorem dX5_take_18 : decode cX5_take 18 = .ok (.aload_n 0, 1) := by decide +kernel
theorem dX5_take_19 : decode cX5_take 19 = .ok (.getfield 22, 3) := by decide +kernel
theorem dX5_take_22 : decode cX5_take 22 = .ok (.iload_n 1, 1) := by decide +kernel
theorem dX5_take_23 : decode cX5_take 23 = .ok (.invokevirtual 63, 3) := by decide +kernel
theorem dX5_take_26 : decode cX5_take 26 = .ok (.checkcast 102, 3) := by decide +kernel
theorem dX5_take_29 : decode cX5_take 29 = .ok (.astore_n 3, 1) := by decide +kernel
theorem dX5_take_30 : decode cX5_take 30 = .ok (.aload_n 0, 1) := by decide +kernel
theorem dX5_take_31 : decode cX5_take 31 = .ok (.getfield 19, 3) := by decide +kernel
theorem dX5_take_34 : decode cX5_take 34 = .ok (.iload_n 2, 1) := by decide +kernel
theorem dX5_take_35 : decode cX5_take 35 = .ok (.invokevirtual 63, 3) := by decide +kernel
theorem dX5_take_38 : decode cX5_take 38 = .ok (.checkcast 93, 3) := by decide +kernel
theorem dX5_take_41 : decode cX5_take 41 = .ok (.astore 4, 2) := by decide +kernel
theorem dX5_take_43 : decode cX5_take 43 = .ok (.aload_n 3, 1) := by decide +kernel
theorem dX5_take_44 : decode cX5_take 44 = .ok (.invokevirtual 113, 3) := by decide +kernel
theorem dX5_take_47 : decode cX5_take 47 = .ok (.ifCond .eq 15, 3) := by decide +kernel
theorem dX5_take_50 : decode cX5_take 50 = .ok (.aload 4, 2) := by decide +kernel
theorem dX5_take_52 : decode cX5_take 52 = .ok (.getfield 162, 3) := by decide +kernel
theorem dX5_take_55 : decode cX5_take 55 = .ok (.aload_n 3, 1) := by decide +kernel
theorem dX5_take_56 : decode cX5_take 56 = .ok (.getfield 117, 3) := by decide +kernel
theorem dX5_take_59 : decode cX5_take 59 = .ok (.if_acmp .eq 6, 3) := by decide +kernel
theorem dX5_take_62 : decode cX5_take 62 = .ok (.bipush (-4), 2) := by decide +kernel
theorem dX5_take_64 : decode cX5_take 64 = .ok (.ireturn, 1) := by decide +kernel
theorem dX5_take_65 : decode cX5_take 65 = .ok (.aload_n 3, 1) := by decide +kernel
theorem dX5_take_66 : decode cX5_take 66 = .ok (.aload_n 3, 1) := by decide +kernel
theorem dX5_take_67 : decode cX5_take 67 = .ok (.getfield 128, 3) := by decide +kernel
theorem dX5_take_70 : decode cX5_take 70 = .ok (.aload 4, 2) := by decide +kernel
theorem dX5_take_72 : decode cX5_take 72 = .ok (.getfield 163, 3) := by decide +kernel
theorem dX5_take_75 : decode cX5_take 75 = .ok (.invokestatic 166, 3) := by decide +kernel
theorem dX5_take_78 : decode cX5_take 78 = .ok (.putfield 128, 3) := by decide +kernel
theorem dX5_take_81 : decode cX5_take 81 = .ok (.aload 4, 2) := by decide +kernel
theorem dX5_take_83 : decode cX5_take 83 = .ok (.aload_n 3, 1) := by decide +kernel
theorem dX5_take_84 : decode cX5_take 84 = .ok (.invokevirtual 172, 3) := by decide +kernel
theorem dX5_take_87 : decode cX5_take 87 = .ok (.aload_n 0, 1) := by decide +kernel
theorem dX5_take_88 : decode cX5_take 88 = .ok (.aload_n 3, 1) := by decide +kernel
theorem dX5_take_89 : decode cX5_take 89 = .ok (.invokevirtual 176, 3) := by decide +kernel
theorem dX5_take_92 : decode cX5_take 92 = .ok (.ireturn, 1) := by decide +kernel
theorem dX5_drop_0 : decode cX5_drop 0 = .ok (.aload_n 0, 1) := by decide +kernel
theorem dX5_drop_1 : decode cX5_drop 1 = .ok (.iload_n 1, 1) := by decide +kernel
theorem dX5_drop_2 : decode cX5_drop 2 = .ok (.invokevirtual 107, 3) := by decide +kernel
theorem dX5_drop_5 : decode cX5_drop 5 = .ok (.ifCond .eq 11, 3) := by decide +kernel
theorem dX5_drop_8 : decode cX5_drop 8 = .ok (.aload_n 0, 1) := by decide +kernel
theorem dX5_drop_9 : decode cX5_drop 9 = .ok (.iload_n 2, 1) := by decide +kernel
theorem dX5_drop_10 : decode cX5_drop 10 = .ok (.invokevirtual 159, 3) := by decide +kernel
theorem dX5_drop_13 : decode cX5_drop 13 = .ok (.ifCond .ne 5, 3) := by decide +kernel
theorem dX5_drop_16 : decode cX5_drop 16 = .ok (.iconst (-1), 1) := by decide +kernel
theorem dX5_drop_17 : decode cX5_drop 17 = .ok (.ireturn, 1) := by decide +kernel
theorem dX5_drop_18 : decode cX5_drop 18 = .ok (.aload_n 0, 1) := by decide +kernel
theorem dX5_drop_19 : decode cX5_drop 19 = .ok (.getfield 22, 3) := by decide +kernel
theorem dX5_drop_22 : decode cX5_drop 22 = .ok (.iload_n 1, 1) := by decide +kernel
theorem dX5_drop_23 : decode cX5_drop 23 = .ok (.invokevirtual 63, 3) := by decide +kernel
theorem dX5_drop_26 : decode cX5_drop 26 = .ok (.checkcast 102, 3) := by decide +kernel
theorem dX5_drop_29 : decode cX5_drop 29 = .ok (.astore_n 3, 1) := by decide +kernel
theorem dX5_drop_30 : decode cX5_drop 30 = .ok (.aload_n 0, 1) := by decide +kernel
theorem dX5_drop_31 : decode cX5_drop 31 = .ok (.getfield 19, 3) := by decide +kernel
theorem dX5_drop_34 : decode cX5_drop 34 = .ok (.iload_n 2, 1) := by decide +kernel
theorem dX5_drop_35 : decode cX5_drop 35 = .ok (.invokevirtual 63, 3) := by decide +kernel
theorem dX5_drop_38 : decode cX5_drop 38 = .ok (.checkcast 93, 3) := by decide +kernel
theorem dX5_drop_41 : decode cX5_drop 41 = .ok (.astore 4, 2) := by decide +kernel
theorem dX5_drop_43 : decode cX5_drop 43 = .ok (.aload_n 3, 1) := by decide +kernel
theorem dX5_drop_44 : decode cX5_drop 44 = .ok (.invokevirtual 113, 3) := by decide +kernel
theorem dX5_drop_47 : decode cX5_drop 47 = .ok (.ifCond .eq 12, 3) := by decide +kernel
theorem dX5_drop_50 : decode cX5_drop 50 = .ok (.aload 4, 2) := by decide +kernel
theorem dX5_drop_52 : decode cX5_drop 52 = .ok (.getfield 180, 3) := by decide +kernel
theorem dX5_drop_55 : decode cX5_drop 55 = .ok (.aload_n 3, 1) := by decide +kernel
theorem dX5_drop_56 : decode cX5_drop 56 = .ok (.if_acmp .eq 6, 3) := by decide +kernel
theorem dX5_drop_59 : decode cX5_drop 59 = .ok (.bipush (-4), 2) := by decide +kernel
theorem dX5_drop_61 : decode cX5_drop 61 = .ok (.ireturn, 1) := by decide +kernel
theorem dX5_drop_62 : decode cX5_drop 62 = .ok (.aload 4, 2) := by decide +kernel
theorem dX5_drop_64 : decode cX5_drop 64 = .ok (.aload_n 3, 1) := by decide +kernel
theorem dX5_drop_65 : decode cX5_drop 65 = .ok (.getfield 117, 3) := by decide +kernel
theorem dX5_drop_68 : decode cX5_drop 68 = .ok (.aload_n 3, 1) := by decide +kernel
theorem dX5_drop_69 : decode cX5_drop 69 = .ok (.getfield 128, 3) := by decide +kernel
theorem dX5_drop_72 : decode cX5_drop 72 = .ok (.invokevirtual 184, 3) := by decide +kernel
theorem dX5_drop_75 : decode cX5_drop 75 = .ok (.aload_n 0, 1) := by decide +kernel
theorem dX5_drop_76 : decode cX5_drop 76 = .ok (.aload_n 3, 1) := by decide +kernel
theorem dX5_drop_77 : decode cX5_drop 77 = .ok (.invokevirtual 176, 3) := by decide +kernel
theorem dX5_drop_80 : decode cX5_drop 80 = .ok (.ireturn, 1) := by decide +kernel
theorem dX5_idle_0 : decode cX5_idle 0 = .ok (.aload_n 0, 1) := by decide +kernel
theorem dX5_idle_1 : decode cX5_idle 1 = .ok (.iload_n 1, 1) := by decide +kernel
theorem dX5_idle_2 : decode cX5_idle 2 = .ok (.invokevirtual 107, 3) := by decide +kernel
theorem dX5_idle_5 : decode cX5_idle 5 = .ok (.ifCond .ne 5, 3) := by decide +kernel
theorem dX5_idle_8 : decode cX5_idle 8 = .ok (.iconst (-1), 1) := by decide +kernel
theorem dX5_idle_9 : decode cX5_idle 9 = .ok (.ireturn, 1) := by decide +kernel
theorem dX5_idle_10 : decode cX5_idle 10 = .ok (.iload_n 2, 1) := by decide +kernel
theorem dX5_idle_11 : decode cX5_idle 11 = .ok (.iconst 1, 1) := by decide +kernel
theorem dX5_idle_12 : decode cX5_idle 12 = .ok (.sipush 1000, 3) := by decide +kernel
theorem dX5_idle_15 : decode cX5_idle 15 = .ok (.invokestatic 67, 3) := by decide +kernel
theorem dX5_idle_18 : decode cX5_idle 18 = .ok (.ifCond .ne 6, 3) := by decide +kernel
theorem dX5_idle_21 : decode cX5_idle 21 = .ok (.bipush (-2), 2) := by decide +kernel
theorem dX5_idle_23 : decode cX5_idle 23 = .ok (.ireturn, 1) := by decide +kernel
theorem dX5_idle_24 : decode cX5_idle 24 = .ok (.aload_n 0, 1) := by decide +kernel
theorem dX5_idle_25 : decode cX5_idle 25 = .ok (.getfield 22, 3) := by decide +kernel
theorem dX5_idle_28 : decode cX5_idle 28 = .ok (.iload_n 1, 1) := by decide +kernel
theorem dX5_idle_29 : decode cX5_idle 29 = .ok (.invokevirtual 63, 3) := by decide +kernel
theorem dX5_idle_32 : decode cX5_idle 32 = .ok (.checkcast 102, 3) := by decide +kernel
theorem dX5_idle_35 : decode cX5_idle 35 = .ok (.astore_n 3, 1) := by decide +kernel
theorem dX5_idle_36 : decode cX5_idle 36 = .ok (.aload_n 3, 1) := by decide +kernel
theorem dX5_idle_37 : decode cX5_idle 37 = .ok (.invokevirtual 113, 3) := by decide +kernel
theorem dX5_idle_40 : decode cX5_idle 40 = .ok (.ifCond .ne 6, 3) := by decide +kernel
theorem dX5_idle_43 : decode cX5_idle 43 = .ok (.bipush (-4), 2) := by decide +kernel
theorem dX5_idle_45 : decode cX5_idle 45 = .ok (.ireturn, 1) := by decide +kernel
theorem dX5_idle_46 : decode cX5_idle 46 = .ok (.aload_n 3, 1) := by decide +kernel
theorem dX5_idle_47 : decode cX5_idle 47 = .ok (.getfield 128, 3) := by decide +kernel
theorem dX5_idle_50 : decode cX5_idle 50 = .ok (.iload_n 2, 1) := by decide +kernel
theorem dX5_idle_51 : decode cX5_idle 51 = .ok (.iadd, 1) := by decide +kernel
theorem dX5_idle_52 : decode cX5_idle 52 = .ok (.istore 4, 2) := by decide +kernel
theorem dX5_idle_54 : decode cX5_idle 54 = .ok (.iload 4, 2) := by decide +kernel
theorem dX5_idle_56 : decode cX5_idle 56 = .ok (.ldc 134, 2) := by decide +kernel
theorem dX5_idle_58 : decode cX5_idle 58 = .ok (.if_icmp .le 6, 3) := by decide +kernel
theorem dX5_idle_61 : decode cX5_idle 61 = .ok (.bipush (-5), 2) := by decide +kernel
theorem dX5_idle_63 : decode cX5_idle 63 = .ok (.ireturn, 1) := by decide +kernel
theorem dX5_idle_64 : decode cX5_idle 64 = .ok (.aload_n 3, 1) := by decide +kernel
theorem dX5_idle_65 : decode cX5_idle 65 = .ok (.iload 4, 2) := by decide +kernel
theorem dX5_idle_67 : decode cX5_idle 67 = .ok (.putfield 128, 3) := by decide +kernel
theorem dX5_idle_70 : decode cX5_idle 70 = .ok (.iload 4, 2) := by decide +kernel
theorem dX5_idle_72 : decode cX5_idle 72 = .ok (.ireturn, 1) := by decide +kernel
theorem dX5_part_0 : decode cX5_part 0 = .ok (.aload_n 0, 1) := by decide +kernel
theorem dX5_part_1 : decode cX5_part 1 = .ok (.iload_n 1, 1) := by decide +kernel
theorem dX5_part_2 : decode cX5_part 2 = .ok (.invokevirtual 107, 3) := by decide +kernel
theorem dX5_part_5 : decode cX5_part 5 = .ok (.ifCond .ne 5, 3) := by decide +kernel
theorem dX5_part_8 : decode cX5_part 8 = .ok (.iconst (-1), 1) := by decide +kernel
theorem dX5_part_9 : decode cX5_part 9 = .ok (.ireturn, 1) := by decide +kernel
theorem dX5_part_10 : decode cX5_part 10 = .ok (.iload_n 2, 1) := by decide +kernel
theorem dX5_part_11 : decode cX5_part 11 = .ok (.iconst 1, 1) := by decide +kernel
theorem dX5_part_12 : decode cX5_part 12 = .ok (.bipush 23, 2) := by decide +kernel
theorem dX5_part_14 : decode cX5_part 14 = .ok (.invokestatic 67, 3) := by decide +kernel
theorem dX5_part_17 : decode cX5_part 17 = .ok (.ifCond .ne 6, 3) := by decide +kernel
theorem dX5_part_20 : decode cX5_part 20 = .ok (.bipush (-2), 2) := by decide +kernel
theorem dX5_part_22 : decode cX5_part 22 = .ok (.ireturn, 1) := by decide +kernel
theorem dX5_part_23 : decode cX5_part 23 = .ok (.aload_n 0, 1) := by decide +kernel
theorem dX5_part_24 : decode cX5_part 24 = .ok (.getfield 22, 3) := by decide +kernel
theorem dX5_part_27 : decode cX5_part 27 = .ok (.iload_n 1, 1) := by decide +kernel
theorem dX5_part_28 : decode cX5_part 28 = .ok (.invokevirtual 63, 3) := by decide +kernel
theorem dX5_part_31 : decode cX5_part 31 = .ok (.checkcast 102, 3) := by decide +kernel
theorem dX5_part_34 : decode cX5_part 34 = .ok (.astore_n 3, 1) := by decide +kernel
theorem dX5_part_35 : decode cX5_part 35 = .ok (.aload_n 3, 1) := by decide +kernel
theorem dX5_part_36 : decode cX5_part 36 = .ok (.invokevirtual 113, 3) := by decide +kernel
theorem dX5_part_39 : decode cX5_part 39 = .ok (.ifCond .eq 11, 3) := by decide +kernel
theorem dX5_part_42 : decode cX5_part 42 = .ok (.aload_n 3, 1) := by decide +kernel
theorem dX5_part_43 : decode cX5_part 43 = .ok (.getfield 188, 3) := by decide +kernel
theorem dX5_part_46 : decode cX5_part 46 = .ok (.iload_n 2, 1) := by decide +kernel
theorem dX5_part_47 : decode cX5_part 47 = .ok (.if_icmp .gt 6, 3) := by decide +kernel
theorem dX5_part_50 : decode cX5_part 50 = .ok (.bipush (-4), 2) := by decide +kernel
theorem dX5_part_52 : decode cX5_part 52 = .ok (.ireturn, 1) := by decide +kernel
theorem dX5_part_53 : decode cX5_part 53 = .ok (.aload_n 0, 1) := by decide +kernel
theorem dX5_part_54 : decode cX5_part 54 = .ok (.getfield 22, 3) := by decide +kernel
theorem dX5_part_57 : decode cX5_part 57 = .ok (.invokevirtual 43, 3) := by decide +kernel
theorem dX5_part_60 : decode cX5_part 60 = .ok (.istore 4, 2) := by decide +kernel
theorem dX5_part_62 : decode cX5_part 62 = .ok (.iload 4, 2) := by decide +kernel
theorem dX5_part_64 : decode cX5_part 64 = .ok (.bipush 6, 2) := by decide +kernel
theorem dX5_part_66 : decode cX5_part 66 = .ok (.if_icmp .lt 6, 3) := by decide +kernel
theorem dX5_part_69 : decode cX5_part 69 = .ok (.bipush (-3), 2) := by decide +kernel
theorem dX5_part_71 : decode cX5_part 71 = .ok (.ireturn, 1) := by decide +kernel
theorem dX5_part_72 : decode cX5_part 72 = .ok (.aload_n 3, 1) := by decide +kernel
theorem dX5_part_73 : decode cX5_part 73 = .ok (.dup, 1) := by decide +kernel
theorem dX5_part_74 : decode cX5_part 74 = .ok (.getfield 188, 3) := by decide +kernel
theorem dX5_part_77 : decode cX5_part 77 = .ok (.iload_n 2, 1) := by decide +kernel
theorem dX5_part_78 : decode cX5_part 78 = .ok (.isub, 1) := by decide +kernel
theorem dX5_part_79 : decode cX5_part 79 = .ok (.putfield 188, 3) := by decide +kernel
theorem dX5_part_82 : decode cX5_part 82 = .ok (.aload_n 0, 1) := by decide +kernel
theorem dX5_part_83 : decode cX5_part 83 = .ok (.getfield 22, 3) := by decide +kernel
theorem dX5_part_86 : decode cX5_part 86 = .ok (.new 102, 3) := by decide +kernel
theorem dX5_part_89 : decode cX5_part 89 = .ok (.dup, 1) := by decide +kernel
theorem dX5_part_90 : decode cX5_part 90 = .ok (.iload 4, 2) := by decide +kernel
theorem dX5_part_92 : decode cX5_part 92 = .ok (.iload_n 2, 1) := by decide +kernel
theorem dX5_part_93 : decode cX5_part 93 = .ok (.aload_n 3, 1) := by decide +kernel
theorem dX5_part_94 : decode cX5_part 94 = .ok (.getfield 117, 3) := by decide +kernel
theorem dX5_part_97 : decode cX5_part 97 = .ok (.aload_n 3, 1) := by decide +kernel
theorem dX5_part_98 : decode cX5_part 98 = .ok (.getfield 128, 3) := by decide +kernel
theorem dX5_part_101 : decode cX5_part 101 = .ok (.invokespecial 104, 3) := by decide +kernel
theorem dX5_part_104 : decode cX5_part 104 = .ok (.invokevirtual 52, 3) := by decide +kernel
theorem dX5_part_107 : decode cX5_part 107 = .ok (.pop, 1) := by decide +kernel
theorem dX5_part_108 : decode cX5_part 108 = .ok (.iload 4, 2) := by decide +kernel
theorem dX5_part_110 : decode cX5_part 110 = .ok (.ireturn, 1) := by decide +kernel
theorem dX5_join_0 : decode cX5_join 0 = .ok (.aload_n 0, 1) := by decide +kernel
theorem dX5_join_1 : decode cX5_join 1 = .ok (.iload_n 1, 1) := by decide +kernel
theorem dX5_join_2 : decode cX5_join 2 = .ok (.invokevirtual 107, 3) := by decide +kernel
theorem dX5_join_5 : decode cX5_join 5 = .ok (.ifCond .eq 11, 3) := by decide +kernel
theorem dX5_join_8 : decode cX5_join 8 = .ok (.aload_n 0, 1) := by decide +kernel
theorem dX5_join_9 : decode cX5_join 9 = .ok (.iload_n 2, 1) := by decide +kernel
theorem dX5_join_10 : decode cX5_join 10 = .ok (.invokevirtual 107, 3) := by decide +kernel
theorem dX5_join_13 : decode cX5_join 13 = .ok (.ifCond .ne 5, 3) := by decide +kernel
theorem dX5_join_16 : decode cX5_join 16 = .ok (.iconst (-1), 1) := by decide +kernel
theorem dX5_join_17 : decode cX5_join 17 = .ok (.ireturn, 1) := by decide +kernel
theorem dX5_join_18 : decode cX5_join 18 = .ok (.iload_n 1, 1) := by decide +kernel
theorem dX5_join_19 : decode cX5_join 19 = .ok (.iload_n 2, 1) := by decide +kernel
theorem dX5_join_20 : decode cX5_join 20 = .ok (.if_icmp .ne 6, 3) := by decide +kernel
theorem dX5_join_23 : decode cX5_join 23 = .ok (.bipush (-2), 2) := by decide +kernel
theorem dX5_join_25 : decode cX5_join 25 = .ok (.ireturn, 1) := by decide +kernel
theorem dX5_join_26 : decode cX5_join 26 = .ok (.aload_n 0, 1) := by decide +kernel
theorem dX5_join_27 : decode cX5_join 27 = .ok (.getfield 22, 3) := by decide +kernel
theorem dX5_join_30 : decode cX5_join 30 = .ok (.iload_n 1, 1) := by decide +kernel
theorem dX5_join_31 : decode cX5_join 31 = .ok (.invokevirtual 63, 3) := by decide +kernel
theorem dX5_join_34 : decode cX5_join 34 = .ok (.checkcast 102, 3) := by decide +kernel
theorem dX5_join_37 : decode cX5_join 37 = .ok (.astore_n 3, 1) := by decide +kernel
theorem dX5_join_38 : decode cX5_join 38 = .ok (.aload_n 0, 1) := by decide +kernel
theorem dX5_join_39 : decode cX5_join 39 = .ok (.getfield 22, 3) := by decide +kernel
theorem dX5_join_42 : decode cX5_join 42 = .ok (.iload_n 2, 1) := by decide +kernel
theorem dX5_join_43 : decode cX5_join 43 = .ok (.invokevirtual 63, 3) := by decide +kernel
theorem dX5_join_46 : decode cX5_join 46 = .ok (.checkcast 102, 3) := by decide +kernel
theorem dX5_join_49 : decode cX5_join 49 = .ok (.astore 4, 2) := by decide +kernel
theorem dX5_join_51 : decode cX5_join 51 = .ok (.aload_n 3, 1) := by decide +kernel
theorem dX5_join_52 : decode cX5_join 52 = .ok (.invokevirtual 113, 3) := by decide +kernel
theorem dX5_join_55 : decode cX5_join 55 = .ok (.ifCond .eq 23, 3) := by decide +kernel
theorem dX5_join_58 : decode cX5_join 58 = .ok (.aload 4, 2) := by decide +kernel
theorem dX5_join_60 : decode cX5_join 60 = .ok (.invokevirtual 113, 3) := by decide +kernel
theorem dX5_join_63 : decode cX5_join 63 = .ok (.ifCond .eq 15, 3) := by decide +kernel
theorem dX5_join_66 : decode cX5_join 66 = .ok (.aload_n 3, 1) := by decide +kernel
theorem dX5_join_67 : decode cX5_join 67 = .ok (.getfield 117, 3) := by decide +kernel
theorem dX5_join_70 : decode cX5_join 70 = .ok (.aload 4, 2) := by decide +kernel
theorem dX5_join_72 : decode cX5_join 72 = .ok (.getfield 117, 3) := by decide +kernel
theorem dX5_join_75 : decode cX5_join 75 = .ok (.if_acmp .eq 6, 3) := by decide +kernel
theorem dX5_join_78 : decode cX5_join 78 = .ok (.bipush (-4), 2) := by decide +kernel
theorem dX5_join_80 : decode cX5_join 80 = .ok (.ireturn, 1) := by decide +kernel
theorem dX5_join_81 : decode cX5_join 81 = .ok (.aload_n 0, 1) := by decide +kernel
theorem dX5_join_82 : decode cX5_join 82 = .ok (.aload_n 3, 1) := by decide +kernel
theorem dX5_join_83 : decode cX5_join 83 = .ok (.aload 4, 2) := by decide +kernel
theorem dX5_join_85 : decode cX5_join 85 = .ok (.invokevirtual 190, 3) := by decide +kernel
theorem dX5_join_88 : decode cX5_join 88 = .ok (.aload 4, 2) := by decide +kernel
theorem dX5_join_90 : decode cX5_join 90 = .ok (.dup, 1) := by decide +kernel
theorem dX5_join_91 : decode cX5_join 91 = .ok (.getfield 188, 3) := by decide +kernel
theorem dX5_join_94 : decode cX5_join 94 = .ok (.aload_n 3, 1) := by decide +kernel
theorem dX5_join_95 : decode cX5_join 95 = .ok (.getfield 188, 3) := by decide +kernel
theorem dX5_join_98 : decode cX5_join 98 = .ok (.iadd, 1) := by decide +kernel
theorem dX5_join_99 : decode cX5_join 99 = .ok (.putfield 188, 3) := by decide +kernel
theorem dX5_join_102 : decode cX5_join 102 = .ok (.aload 4, 2) := by decide +kernel
theorem dX5_join_104 : decode cX5_join 104 = .ok (.aload 4, 2) := by decide +kernel
theorem dX5_join_106 : decode cX5_join 106 = .ok (.getfield 128, 3) := by decide +kernel
theorem dX5_join_109 : decode cX5_join 109 = .ok (.aload_n 3, 1) := by decide +kernel
theorem dX5_join_110 : decode cX5_join 110 = .ok (.getfield 128, 3) := by decide +kernel
theorem dX5_join_113 : decode cX5_join 113 = .ok (.invokestatic 166, 3) := by decide +kernel
theorem dX5_join_116 : decode cX5_join 116 = .ok (.putfield 128, 3) := by decide +kernel
theorem dX5_join_119 : decode cX5_join 119 = .ok (.aload 4, 2) := by decide +kernel
theorem dX5_join_121 : decode cX5_join 121 = .ok (.dup, 1) := by decide +kernel
theorem dX5_join_122 : decode cX5_join 122 = .ok (.getfield 194, 3) := by decide +kernel
theorem dX5_join_125 : decode cX5_join 125 = .ok (.aload_n 3, 1) := by decide +kernel
theorem dX5_join_126 : decode cX5_join 126 = .ok (.getfield 194, 3) := by decide +kernel
theorem dX5_join_129 : decode cX5_join 129 = .ok (.iadd, 1) := by decide +kernel
theorem dX5_join_130 : decode cX5_join 130 = .ok (.putfield 194, 3) := by decide +kernel
theorem dX5_join_133 : decode cX5_join 133 = .ok (.aload_n 3, 1) := by decide +kernel
theorem dX5_join_134 : decode cX5_join 134 = .ok (.iconst 0, 1) := by decide +kernel
theorem dX5_join_135 : decode cX5_join 135 = .ok (.putfield 188, 3) := by decide +kernel
theorem dX5_join_138 : decode cX5_join 138 = .ok (.aload_n 3, 1) := by decide +kernel
theorem dX5_join_139 : decode cX5_join 139 = .ok (.iconst 2, 1) := by decide +kernel
theorem dX5_join_140 : decode cX5_join 140 = .ok (.putfield 197, 3) := by decide +kernel
theorem dX5_join_143 : decode cX5_join 143 = .ok (.aload 4, 2) := by decide +kernel
theorem dX5_join_145 : decode cX5_join 145 = .ok (.getfield 188, 3) := by decide +kernel
theorem dX5_join_148 : decode cX5_join 148 = .ok (.ireturn, 1) := by decide +kernel
theorem dX5_leave_0 : decode cX5_leave 0 = .ok (.aload_n 0, 1) := by decide +kernel
theorem dX5_leave_1 : decode cX5_leave 1 = .ok (.iload_n 1, 1) := by decide +kernel
theorem dX5_leave_2 : decode cX5_leave 2 = .ok (.invokevirtual 107, 3) := by decide +kernel
theorem dX5_leave_5 : decode cX5_leave 5 = .ok (.ifCond .ne 5, 3) := by decide +kernel
theorem dX5_leave_8 : decode cX5_leave 8 = .ok (.iconst (-1), 1) := by decide +kernel
theorem dX5_leave_9 : decode cX5_leave 9 = .ok (.ireturn, 1) := by decide +kernel
theorem dX5_leave_10 : decode cX5_leave 10 = .ok (.aload_n 0, 1) := by decide +kernel
theorem dX5_leave_11 : decode cX5_leave 11 = .ok (.getfield 22, 3) := by decide +kernel
theorem dX5_leave_14 : decode cX5_leave 14 = .ok (.iload_n 1, 1) := by decide +kernel
theorem dX5_leave_15 : decode cX5_leave 15 = .ok (.invokevirtual 63, 3) := by decide +kernel
theorem dX5_leave_18 : decode cX5_leave 18 = .ok (.checkcast 102, 3) := by decide +kernel
theorem dX5_leave_21 : decode cX5_leave 21 = .ok (.astore_n 2, 1) := by decide +kernel
theorem dX5_leave_22 : decode cX5_leave 22 = .ok (.aload_n 2, 1) := by decide +kernel
theorem dX5_leave_23 : decode cX5_leave 23 = .ok (.invokevirtual 113, 3) := by decide +kernel
theorem dX5_leave_26 : decode cX5_leave 26 = .ok (.ifCond .eq 14, 3) := by decide +kernel
theorem dX5_leave_29 : decode cX5_leave 29 = .ok (.aload_n 2, 1) := by decide +kernel
theorem dX5_leave_30 : decode cX5_leave 30 = .ok (.getfield 117, 3) := by decide +kernel
theorem dX5_leave_33 : decode cX5_leave 33 = .ok (.aload_n 0, 1) := by decide +kernel
theorem dX5_leave_34 : decode cX5_leave 34 = .ok (.getfield 32, 3) := by decide +kernel
theorem dX5_leave_37 : decode cX5_leave 37 = .ok (.if_acmp .eq 6, 3) := by decide +kernel
theorem dX5_leave_40 : decode cX5_leave 40 = .ok (.bipush (-4), 2) := by decide +kernel
theorem dX5_leave_42 : decode cX5_leave 42 = .ok (.ireturn, 1) := by decide +kernel
theorem dX5_leave_43 : decode cX5_leave 43 = .ok (.aload_n 2, 1) := by decide +kernel
theorem dX5_leave_44 : decode cX5_leave 44 = .ok (.iconst 1, 1) := by decide +kernel
theorem dX5_leave_45 : decode cX5_leave 45 = .ok (.putfield 197, 3) := by decide +kernel
theorem dX5_leave_48 : decode cX5_leave 48 = .ok (.aload_n 2, 1) := by decide +kernel
theorem dX5_leave_49 : decode cX5_leave 49 = .ok (.getfield 128, 3) := by decide +kernel
theorem dX5_leave_52 : decode cX5_leave 52 = .ok (.ireturn, 1) := by decide +kernel
theorem dX5_hint_0 : decode cX5_hint 0 = .ok (.aload_n 0, 1) := by decide +kernel
theorem dX5_hint_1 : decode cX5_hint 1 = .ok (.iload_n 1, 1) := by decide +kernel
theorem dX5_hint_2 : decode cX5_hint 2 = .ok (.invokevirtual 107, 3) := by decide +kernel
theorem dX5_hint_5 : decode cX5_hint 5 = .ok (.ifCond .ne 5, 3) := by decide +kernel
theorem dX5_hint_8 : decode cX5_hint 8 = .ok (.iconst (-1), 1) := by decide +kernel
theorem dX5_hint_9 : decode cX5_hint 9 = .ok (.ireturn, 1) := by decide +kernel
theorem dX5_hint_10 : decode cX5_hint 10 = .ok (.aload_n 0, 1) := by decide +kernel
theorem dX5_hint_11 : decode cX5_hint 11 = .ok (.getfield 22, 3) := by decide +kernel
theorem dX5_hint_14 : decode cX5_hint 14 = .ok (.iload_n 1, 1) := by decide +kernel
theorem dX5_hint_15 : decode cX5_hint 15 = .ok (.invokevirtual 63, 3) := by decide +kernel
theorem dX5_hint_18 : decode cX5_hint 18 = .ok (.checkcast 102, 3) := by decide +kernel
theorem dX5_hint_21 : decode cX5_hint 21 = .ok (.astore_n 2, 1) := by decide +kernel
theorem dX5_hint_22 : decode cX5_hint 22 = .ok (.aload_n 2, 1) := by decide +kernel
theorem dX5_hint_23 : decode cX5_hint 23 = .ok (.invokevirtual 113, 3) := by decide +kernel
theorem dX5_hint_26 : decode cX5_hint 26 = .ok (.ifCond .ne 6, 3) := by decide +kernel
theorem dX5_hint_29 : decode cX5_hint 29 = .ok (.bipush (-4), 2) := by decide +kernel
theorem dX5_hint_31 : decode cX5_hint 31 = .ok (.ireturn, 1) := by decide +kernel
theorem dX5_hint_32 : decode cX5_hint 32 = .ok (.aload_n 2, 1) := by decide +kernel
theorem dX5_hint_33 : decode cX5_hint 33 = .ok (.getfield 128, 3) := by decide +kernel
theorem dX5_hint_36 : decode cX5_hint 36 = .ok (.aload_n 0, 1) := by decide +kernel
theorem dX5_hint_37 : decode cX5_hint 37 = .ok (.getfield 36, 3) := by decide +kernel
theorem dX5_hint_40 : decode cX5_hint 40 = .ok (.iadd, 1) := by decide +kernel
theorem dX5_hint_41 : decode cX5_hint 41 = .ok (.aload_n 0, 1) := by decide +kernel
theorem dX5_hint_42 : decode cX5_hint 42 = .ok (.getfield 40, 3) := by decide +kernel
theorem dX5_hint_45 : decode cX5_hint 45 = .ok (.aload_n 2, 1) := by decide +kernel
theorem dX5_hint_46 : decode cX5_hint 46 = .ok (.getfield 194, 3) := by decide +kernel
theorem dX5_hint_49 : decode cX5_hint 49 = .ok (.imul, 1) := by decide +kernel
theorem dX5_hint_50 : decode cX5_hint 50 = .ok (.iadd, 1) := by decide +kernel
theorem dX5_hint_51 : decode cX5_hint 51 = .ok (.istore_n 3, 1) := by decide +kernel
theorem dX5_hint_52 : decode cX5_hint 52 = .ok (.iload_n 3, 1) := by decide +kernel
theorem dX5_hint_53 : decode cX5_hint 53 = .ok (.ldc 134, 2) := by decide +kernel
theorem dX5_hint_55 : decode cX5_hint 55 = .ok (.if_icmp .le 6, 3) := by decide +kernel
theorem dX5_hint_58 : decode cX5_hint 58 = .ok (.bipush (-5), 2) := by decide +kernel
theorem dX5_hint_60 : decode cX5_hint 60 = .ok (.ireturn, 1) := by decide +kernel
theorem dX5_hint_61 : decode cX5_hint 61 = .ok (.aload_n 2, 1) := by decide +kernel
theorem dX5_hint_62 : decode cX5_hint 62 = .ok (.iload_n 3, 1) := by decide +kernel
theorem dX5_hint_63 : decode cX5_hint 63 = .ok (.putfield 128, 3) := by decide +kernel
theorem dX5_hint_66 : decode cX5_hint 66 = .ok (.aload_n 2, 1) := by decide +kernel
theorem dX5_hint_67 : decode cX5_hint 67 = .ok (.dup, 1) := by decide +kernel
theorem dX5_hint_68 : decode cX5_hint 68 = .ok (.getfield 194, 3) := by decide +kernel
theorem dX5_hint_71 : decode cX5_hint 71 = .ok (.iconst 1, 1) := by decide +kernel
theorem dX5_hint_72 : decode cX5_hint 72 = .ok (.iadd, 1) := by decide +kernel
theorem dX5_hint_73 : decode cX5_hint 73 = .ok (.putfield 194, 3) := by decide +kernel
theorem dX5_hint_76 : decode cX5_hint 76 = .ok (.aload_n 0, 1) := by decide +kernel
theorem dX5_hint_77 : decode cX5_hint 77 = .ok (.dup, 1) := by decide +kernel
theorem dX5_hint_78 : decode cX5_hint 78 = .ok (.getfield 200, 3) := by decide +kernel
theorem dX5_hint_81 : decode cX5_hint 81 = .ok (.iconst 1, 1) := by decide +kernel
theorem dX5_hint_82 : decode cX5_hint 82 = .ok (.iadd, 1) := by decide +kernel
theorem dX5_hint_83 : decode cX5_hint 83 = .ok (.putfield 200, 3) := by decide +kernel
theorem dX5_hint_86 : decode cX5_hint 86 = .ok (.aload_n 0, 1) := by decide +kernel
theorem dX5_hint_87 : decode cX5_hint 87 = .ok (.getfield 28, 3) := by decide +kernel
theorem dX5_hint_90 : decode cX5_hint 90 = .ok (.aload_n 2, 1) := by decide +kernel
theorem dX5_hint_91 : decode cX5_hint 91 = .ok (.aload_n 0, 1) := by decide +kernel
theorem dX5_hint_92 : decode cX5_hint 92 = .ok (.getfield 32, 3) := by decide +kernel
theorem dX5_hint_95 : decode cX5_hint 95 = .ok (.aload_n 0, 1) := by decide +kernel
theorem dX5_hint_96 : decode cX5_hint 96 = .ok (.getfield 16, 3) := by decide +kernel
theorem dX5_hint_99 : decode cX5_hint 99 = .ok (.aload_n 0, 1) := by decide +kernel
theorem dX5_hint_100 : decode cX5_hint 100 = .ok (.getfield 19, 3) := by decide +kernel
theorem dX5_hint_103 : decode cX5_hint 103 = .ok (.aload_n 0, 1) := by decide +kernel
theorem dX5_hint_104 : decode cX5_hint 104 = .ok (.getfield 86, 3) := by decide +kernel
theorem dX5_hint_107 : decode cX5_hint 107 = .ok (.invokevirtual 203, 3) := by decide +kernel
theorem dX5_hint_110 : decode cX5_hint 110 = .ok (.aload_n 0, 1) := by decide +kernel
theorem dX5_hint_111 : decode cX5_hint 111 = .ok (.getfield 28, 3) := by decide +kernel
theorem dX5_hint_114 : decode cX5_hint 114 = .ok (.getfield 207, 3) := by decide +kernel
theorem dX5_hint_117 : decode cX5_hint 117 = .ok (.ifCond .ne 6, 3) := by decide +kernel
theorem dX5_hint_120 : decode cX5_hint 120 = .ok (.bipush 17, 2) := by decide +kernel
theorem dX5_hint_122 : decode cX5_hint 122 = .ok (.ireturn, 1) := by decide +kernel
theorem dX5_hint_123 : decode cX5_hint 123 = .ok (.aload_n 0, 1) := by decide +kernel
theorem dX5_hint_124 : decode cX5_hint 124 = .ok (.getfield 28, 3) := by decide +kernel
theorem dX5_hint_127 : decode cX5_hint 127 = .ok (.getfield 210, 3) := by decide +kernel
theorem dX5_hint_130 : decode cX5_hint 130 = .ok (.ifCond .ne 8, 3) := by decide +kernel
theorem dX5_hint_133 : decode cX5_hint 133 = .ok (.bipush 16, 2) := by decide +kernel
theorem dX5_hint_135 : decode cX5_hint 135 = .ok (.goto 11, 3) := by decide +kernel
theorem dX5_hint_138 : decode cX5_hint 138 = .ok (.aload_n 0, 1) := by decide +kernel
theorem dX5_hint_139 : decode cX5_hint 139 = .ok (.getfield 28, 3) := by decide +kernel
theorem dX5_hint_142 : decode cX5_hint 142 = .ok (.iconst 0, 1) := by decide +kernel
theorem dX5_hint_143 : decode cX5_hint 143 = .ok (.invokevirtual 213, 3) := by decide +kernel
theorem dX5_hint_146 : decode cX5_hint 146 = .ok (.ireturn, 1) := by decide +kernel
theorem dX5_plan_0 : decode cX5_plan 0 = .ok (.aload_n 0, 1) := by decide +kernel
theorem dX5_plan_1 : decode cX5_plan 1 = .ok (.iload_n 1, 1) := by decide +kernel
theorem dX5_plan_2 : decode cX5_plan 2 = .ok (.invokevirtual 107, 3) := by decide +kernel
theorem dX5_plan_5 : decode cX5_plan 5 = .ok (.ifCond .ne 5, 3) := by decide +kernel
theorem dX5_plan_8 : decode cX5_plan 8 = .ok (.iconst (-1), 1) := by decide +kernel
theorem dX5_plan_9 : decode cX5_plan 9 = .ok (.ireturn, 1) := by decide +kernel
theorem dX5_plan_10 : decode cX5_plan 10 = .ok (.iload_n 2, 1) := by decide +kernel
theorem dX5_plan_11 : decode cX5_plan 11 = .ok (.iconst 0, 1) := by decide +kernel
theorem dX5_plan_12 : decode cX5_plan 12 = .ok (.iconst 1, 1) := by decide +kernel
theorem dX5_plan_13 : decode cX5_plan 13 = .ok (.invokestatic 67, 3) := by decide +kernel
theorem dX5_plan_16 : decode cX5_plan 16 = .ok (.ifCond .ne 6, 3) := by decide +kernel
theorem dX5_plan_19 : decode cX5_plan 19 = .ok (.bipush (-2), 2) := by decide +kernel
theorem dX5_plan_21 : decode cX5_plan 21 = .ok (.ireturn, 1) := by decide +kernel
theorem dX5_plan_22 : decode cX5_plan 22 = .ok (.aload_n 0, 1) := by decide +kernel
theorem dX5_plan_23 : decode cX5_plan 23 = .ok (.getfield 22, 3) := by decide +kernel
theorem dX5_plan_26 : decode cX5_plan 26 = .ok (.iload_n 1, 1) := by decide +kernel
theorem dX5_plan_27 : decode cX5_plan 27 = .ok (.invokevirtual 63, 3) := by decide +kernel
theorem dX5_plan_30 : decode cX5_plan 30 = .ok (.checkcast 102, 3) := by decide +kernel
theorem dX5_plan_33 : decode cX5_plan 33 = .ok (.astore_n 3, 1) := by decide +kernel
theorem dX5_plan_34 : decode cX5_plan 34 = .ok (.aload_n 3, 1) := by decide +kernel
theorem dX5_plan_35 : decode cX5_plan 35 = .ok (.invokevirtual 113, 3) := by decide +kernel
theorem dX5_plan_38 : decode cX5_plan 38 = .ok (.ifCond .ne 6, 3) := by decide +kernel
theorem dX5_plan_41 : decode cX5_plan 41 = .ok (.bipush (-4), 2) := by decide +kernel
theorem dX5_plan_43 : decode cX5_plan 43 = .ok (.ireturn, 1) := by decide +kernel
theorem dX5_plan_44 : decode cX5_plan 44 = .ok (.aload_n 0, 1) := by decide +kernel
theorem dX5_plan_45 : decode cX5_plan 45 = .ok (.getfield 28, 3) := by decide +kernel
theorem dX5_plan_48 : decode cX5_plan 48 = .ok (.aload_n 3, 1) := by decide +kernel
theorem dX5_plan_49 : decode cX5_plan 49 = .ok (.aload_n 0, 1) := by decide +kernel
theorem dX5_plan_50 : decode cX5_plan 50 = .ok (.getfield 32, 3) := by decide +kernel
theorem dX5_plan_53 : decode cX5_plan 53 = .ok (.aload_n 0, 1) := by decide +kernel
theorem dX5_plan_54 : decode cX5_plan 54 = .ok (.getfield 16, 3) := by decide +kernel
theorem dX5_plan_57 : decode cX5_plan 57 = .ok (.aload_n 0, 1) := by decide +kernel
theorem dX5_plan_58 : decode cX5_plan 58 = .ok (.getfield 19, 3) := by decide +kernel
theorem dX5_plan_61 : decode cX5_plan 61 = .ok (.aload_n 0, 1) := by decide +kernel
theorem dX5_plan_62 : decode cX5_plan 62 = .ok (.getfield 86, 3) := by decide +kernel
theorem dX5_plan_65 : decode cX5_plan 65 = .ok (.invokevirtual 203, 3) := by decide +kernel
theorem dX5_plan_68 : decode cX5_plan 68 = .ok (.aload_n 0, 1) := by decide +kernel
theorem dX5_plan_69 : decode cX5_plan 69 = .ok (.getfield 28, 3) := by decide +kernel
theorem dX5_plan_72 : decode cX5_plan 72 = .ok (.getfield 207, 3) := by decide +kernel
theorem dX5_plan_75 : decode cX5_plan 75 = .ok (.ifCond .ne 6, 3) := by decide +kernel
theorem dX5_plan_78 : decode cX5_plan 78 = .ok (.bipush (-6), 2) := by decide +kernel
theorem dX5_plan_80 : decode cX5_plan 80 = .ok (.ireturn, 1) := by decide +kernel
theorem dX5_plan_81 : decode cX5_plan 81 = .ok (.iload_n 2, 1) := by decide +kernel
theorem dX5_plan_82 : decode cX5_plan 82 = .ok (.ifCond .ne 13, 3) := by decide +kernel
theorem dX5_plan_85 : decode cX5_plan 85 = .ok (.aload_n 0, 1) := by decide +kernel
theorem dX5_plan_86 : decode cX5_plan 86 = .ok (.getfield 28, 3) := by decide +kernel
theorem dX5_plan_89 : decode cX5_plan 89 = .ok (.getfield 216, 3) := by decide +kernel
theorem dX5_plan_92 : decode cX5_plan 92 = .ok (.goto 10, 3) := by decide +kernel
theorem dX5_plan_95 : decode cX5_plan 95 = .ok (.aload_n 0, 1) := by decide +kernel
theorem dX5_plan_96 : decode cX5_plan 96 = .ok (.getfield 28, 3) := by decide +kernel
theorem dX5_plan_99 : decode cX5_plan 99 = .ok (.getfield 210, 3) := by decide +kernel
theorem dX5_plan_102 : decode cX5_plan 102 = .ok (.ireturn, 1) := by decide +kernel
theorem dX5_planned_0 : decode cX5_planned 0 = .ok (.aload_n 0, 1) := by decide +kernel
theorem dX5_planned_1 : decode cX5_planned 1 = .ok (.iload_n 1, 1) := by decide +kernel
theorem dX5_planned_2 : decode cX5_planned 2 = .ok (.invokevirtual 107, 3) := by decide +kernel
theorem dX5_planned_5 : decode cX5_planned 5 = .ok (.ifCond .ne 5, 3) := by decide +kernel
theorem dX5_planned_8 : decode cX5_planned 8 = .ok (.iconst (-1), 1) := by decide +kernel
theorem dX5_planned_9 : decode cX5_planned 9 = .ok (.ireturn, 1) := by decide +kernel
theorem dX5_planned_10 : decode cX5_planned 10 = .ok (.iload_n 2, 1) := by decide +kernel
theorem dX5_planned_11 : decode cX5_planned 11 = .ok (.ifCond .ge 6, 3) := by decide +kernel
theorem dX5_planned_14 : decode cX5_planned 14 = .ok (.bipush (-2), 2) := by decide +kernel
theorem dX5_planned_16 : decode cX5_planned 16 = .ok (.ireturn, 1) := by decide +kernel
theorem dX5_planned_17 : decode cX5_planned 17 = .ok (.aload_n 0, 1) := by decide +kernel
theorem dX5_planned_18 : decode cX5_planned 18 = .ok (.getfield 22, 3) := by decide +kernel
theorem dX5_planned_21 : decode cX5_planned 21 = .ok (.iload_n 1, 1) := by decide +kernel
theorem dX5_planned_22 : decode cX5_planned 22 = .ok (.invokevirtual 63, 3) := by decide +kernel
theorem dX5_planned_25 : decode cX5_planned 25 = .ok (.checkcast 102, 3) := by decide +kernel
theorem dX5_planned_28 : decode cX5_planned 28 = .ok (.astore_n 3, 1) := by decide +kernel
theorem dX5_planned_29 : decode cX5_planned 29 = .ok (.aload_n 3, 1) := by decide +kernel
theorem dX5_planned_30 : decode cX5_planned 30 = .ok (.invokevirtual 113, 3) := by decide +kernel
theorem dX5_planned_33 : decode cX5_planned 33 = .ok (.ifCond .ne 6, 3) := by decide +kernel
theorem dX5_planned_36 : decode cX5_planned 36 = .ok (.bipush (-4), 2) := by decide +kernel
theorem dX5_planned_38 : decode cX5_planned 38 = .ok (.ireturn, 1) := by decide +kernel
theorem dX5_planned_39 : decode cX5_planned 39 = .ok (.aload_n 0, 1) := by decide +kernel
theorem dX5_planned_40 : decode cX5_planned 40 = .ok (.getfield 28, 3) := by decide +kernel
theorem dX5_planned_43 : decode cX5_planned 43 = .ok (.aload_n 3, 1) := by decide +kernel
theorem dX5_planned_44 : decode cX5_planned 44 = .ok (.aload_n 0, 1) := by decide +kernel
theorem dX5_planned_45 : decode cX5_planned 45 = .ok (.getfield 32, 3) := by decide +kernel
theorem dX5_planned_48 : decode cX5_planned 48 = .ok (.aload_n 0, 1) := by decide +kernel
theorem dX5_planned_49 : decode cX5_planned 49 = .ok (.getfield 16, 3) := by decide +kernel
theorem dX5_planned_52 : decode cX5_planned 52 = .ok (.aload_n 0, 1) := by decide +kernel
theorem dX5_planned_53 : decode cX5_planned 53 = .ok (.getfield 19, 3) := by decide +kernel
theorem dX5_planned_56 : decode cX5_planned 56 = .ok (.aload_n 0, 1) := by decide +kernel
theorem dX5_planned_57 : decode cX5_planned 57 = .ok (.getfield 86, 3) := by decide +kernel
theorem dX5_planned_60 : decode cX5_planned 60 = .ok (.invokevirtual 203, 3) := by decide +kernel
theorem dX5_planned_63 : decode cX5_planned 63 = .ok (.aload_n 0, 1) := by decide +kernel
theorem dX5_planned_64 : decode cX5_planned 64 = .ok (.getfield 28, 3) := by decide +kernel
theorem dX5_planned_67 : decode cX5_planned 67 = .ok (.getfield 207, 3) := by decide +kernel
theorem dX5_planned_70 : decode cX5_planned 70 = .ok (.ifCond .eq 14, 3) := by decide +kernel
theorem dX5_planned_73 : decode cX5_planned 73 = .ok (.iload_n 2, 1) := by decide +kernel
theorem dX5_planned_74 : decode cX5_planned 74 = .ok (.aload_n 0, 1) := by decide +kernel
theorem dX5_planned_75 : decode cX5_planned 75 = .ok (.getfield 28, 3) := by decide +kernel
theorem dX5_planned_78 : decode cX5_planned 78 = .ok (.getfield 210, 3) := by decide +kernel
theorem dX5_planned_81 : decode cX5_planned 81 = .ok (.if_icmp .lt 6, 3) := by decide +kernel
theorem dX5_planned_84 : decode cX5_planned 84 = .ok (.bipush (-6), 2) := by decide +kernel
theorem dX5_planned_86 : decode cX5_planned 86 = .ok (.ireturn, 1) := by decide +kernel
theorem dX5_planned_87 : decode cX5_planned 87 = .ok (.aload_n 0, 1) := by decide +kernel
theorem dX5_planned_88 : decode cX5_planned 88 = .ok (.getfield 28, 3) := by decide +kernel
theorem dX5_planned_91 : decode cX5_planned 91 = .ok (.iload_n 2, 1) := by decide +kernel
theorem dX5_planned_92 : decode cX5_planned 92 = .ok (.invokevirtual 213, 3) := by decide +kernel
theorem dX5_planned_95 : decode cX5_planned 95 = .ok (.ireturn, 1) := by decide +kernel
theorem dX5_way_0 : decode cX5_way 0 = .ok (.aload_n 0, 1) := by decide +kernel
theorem dX5_way_1 : decode cX5_way 1 = .ok (.iload_n 1, 1) := by decide +kernel
theorem dX5_way_2 : decode cX5_way 2 = .ok (.invokevirtual 107, 3) := by decide +kernel
theorem dX5_way_5 : decode cX5_way 5 = .ok (.ifCond .eq 11, 3) := by decide +kernel
theorem dX5_way_8 : decode cX5_way 8 = .ok (.aload_n 0, 1) := by decide +kernel
theorem dX5_way_9 : decode cX5_way 9 = .ok (.iload_n 2, 1) := by decide +kernel
theorem dX5_way_10 : decode cX5_way 10 = .ok (.invokevirtual 56, 3) := by decide +kernel
theorem dX5_way_13 : decode cX5_way 13 = .ok (.ifCond .ne 5, 3) := by decide +kernel
theorem dX5_way_16 : decode cX5_way 16 = .ok (.iconst (-1), 1) := by decide +kernel
theorem dX5_way_17 : decode cX5_way 17 = .ok (.ireturn, 1) := by decide +kernel
theorem dX5_way_18 : decode cX5_way 18 = .ok (.aload_n 0, 1) := by decide +kernel
theorem dX5_way_19 : decode cX5_way 19 = .ok (.getfield 22, 3) := by decide +kernel
theorem dX5_way_22 : decode cX5_way 22 = .ok (.iload_n 1, 1) := by decide +kernel
theorem dX5_way_23 : decode cX5_way 23 = .ok (.invokevirtual 63, 3) := by decide +kernel
theorem dX5_way_26 : decode cX5_way 26 = .ok (.checkcast 102, 3) := by decide +kernel
theorem dX5_way_29 : decode cX5_way 29 = .ok (.astore_n 3, 1) := by decide +kernel
theorem dX5_way_30 : decode cX5_way 30 = .ok (.aload_n 3, 1) := by decide +kernel
theorem dX5_way_31 : decode cX5_way 31 = .ok (.invokevirtual 113, 3) := by decide +kernel
theorem dX5_way_34 : decode cX5_way 34 = .ok (.ifCond .ne 6, 3) := by decide +kernel
theorem dX5_way_37 : decode cX5_way 37 = .ok (.bipush (-4), 2) := by decide +kernel
theorem dX5_way_39 : decode cX5_way 39 = .ok (.ireturn, 1) := by decide +kernel
theorem dX5_way_40 : decode cX5_way 40 = .ok (.aload_n 0, 1) := by decide +kernel
theorem dX5_way_41 : decode cX5_way 41 = .ok (.aload_n 3, 1) := by decide +kernel
theorem dX5_way_42 : decode cX5_way 42 = .ok (.invokevirtual 219, 3) := by decide +kernel
theorem dX5_way_45 : decode cX5_way 45 = .ok (.aload_n 0, 1) := by decide +kernel
theorem dX5_way_46 : decode cX5_way 46 = .ok (.getfield 10, 3) := by decide +kernel
theorem dX5_way_49 : decode cX5_way 49 = .ok (.iload_n 2, 1) := by decide +kernel
theorem dX5_way_50 : decode cX5_way 50 = .ok (.invokevirtual 63, 3) := by decide +kernel
theorem dX5_way_53 : decode cX5_way 53 = .ok (.checkcast 47, 3) := by decide +kernel
theorem dX5_way_56 : decode cX5_way 56 = .ok (.getfield 222, 3) := by decide +kernel
theorem dX5_way_59 : decode cX5_way 59 = .ok (.istore 4, 2) := by decide +kernel
theorem dX5_way_61 : decode cX5_way 61 = .ok (.iload 4, 2) := by decide +kernel
theorem dX5_way_63 : decode cX5_way 63 = .ok (.ldc 225, 2) := by decide +kernel
theorem dX5_way_65 : decode cX5_way 65 = .ok (.if_icmp .ne 8, 3) := by decide +kernel
theorem dX5_way_68 : decode cX5_way 68 = .ok (.bipush (-6), 2) := by decide +kernel
theorem dX5_way_70 : decode cX5_way 70 = .ok (.goto 10, 3) := by decide +kernel
theorem dX5_way_73 : decode cX5_way 73 = .ok (.iload 4, 2) := by decide +kernel
theorem dX5_way_75 : decode cX5_way 75 = .ok (.aload_n 3, 1) := by decide +kernel
theorem dX5_way_76 : decode cX5_way 76 = .ok (.getfield 128, 3) := by decide +kernel
theorem dX5_way_79 : decode cX5_way 79 = .ok (.isub, 1) := by decide +kernel
theorem dX5_way_80 : decode cX5_way 80 = .ok (.ireturn, 1) := by decide +kernel
theorem dX5_reach_0 : decode cX5_reach 0 = .ok (.aload_n 0, 1) := by decide +kernel
theorem dX5_reach_1 : decode cX5_reach 1 = .ok (.iload_n 1, 1) := by decide +kernel
theorem dX5_reach_2 : decode cX5_reach 2 = .ok (.invokevirtual 107, 3) := by decide +kernel
theorem dX5_reach_5 : decode cX5_reach 5 = .ok (.ifCond .ne 5, 3) := by decide +kernel
theorem dX5_reach_8 : decode cX5_reach 8 = .ok (.iconst (-1), 1) := by decide +kernel
theorem dX5_reach_9 : decode cX5_reach 9 = .ok (.ireturn, 1) := by decide +kernel
theorem dX5_reach_10 : decode cX5_reach 10 = .ok (.aload_n 0, 1) := by decide +kernel
theorem dX5_reach_11 : decode cX5_reach 11 = .ok (.getfield 22, 3) := by decide +kernel
theorem dX5_reach_14 : decode cX5_reach 14 = .ok (.iload_n 1, 1) := by decide +kernel
theorem dX5_reach_15 : decode cX5_reach 15 = .ok (.invokevirtual 63, 3) := by decide +kernel
theorem dX5_reach_18 : decode cX5_reach 18 = .ok (.checkcast 102, 3) := by decide +kernel
theorem dX5_reach_21 : decode cX5_reach 21 = .ok (.astore_n 2, 1) := by decide +kernel
theorem dX5_reach_22 : decode cX5_reach 22 = .ok (.aload_n 2, 1) := by decide +kernel
theorem dX5_reach_23 : decode cX5_reach 23 = .ok (.invokevirtual 113, 3) := by decide +kernel
theorem dX5_reach_26 : decode cX5_reach 26 = .ok (.ifCond .ne 6, 3) := by decide +kernel
theorem dX5_reach_29 : decode cX5_reach 29 = .ok (.bipush (-4), 2) := by decide +kernel
theorem dX5_reach_31 : decode cX5_reach 31 = .ok (.ireturn, 1) := by decide +kernel
theorem dX5_reach_32 : decode cX5_reach 32 = .ok (.aload_n 0, 1) := by decide +kernel
theorem dX5_reach_33 : decode cX5_reach 33 = .ok (.getfield 16, 3) := by decide +kernel
theorem dX5_reach_36 : decode cX5_reach 36 = .ok (.aload_n 2, 1) := by decide +kernel
theorem dX5_reach_37 : decode cX5_reach 37 = .ok (.getfield 117, 3) := by decide +kernel
theorem dX5_reach_40 : decode cX5_reach 40 = .ok (.getfield 226, 3) := by decide +kernel
theorem dX5_reach_43 : decode cX5_reach 43 = .ok (.aload_n 0, 1) := by decide +kernel
theorem dX5_reach_44 : decode cX5_reach 44 = .ok (.getfield 16, 3) := by decide +kernel
theorem dX5_reach_47 : decode cX5_reach 47 = .ok (.invokestatic 229, 3) := by decide +kernel
theorem dX5_reach_50 : decode cX5_reach 50 = .ok (.invokestatic 233, 3) := by decide +kernel
theorem dX5_reach_53 : decode cX5_reach 53 = .ok (.ireturn, 1) := by decide +kernel
theorem dX5_door_0 : decode cX5_door 0 = .ok (.aload_n 0, 1) := by decide +kernel
theorem dX5_door_1 : decode cX5_door 1 = .ok (.iload_n 1, 1) := by decide +kernel
theorem dX5_door_2 : decode cX5_door 2 = .ok (.invokevirtual 110, 3) := by decide +kernel
theorem dX5_door_5 : decode cX5_door 5 = .ok (.ifCond .ne 5, 3) := by decide +kernel
theorem dX5_door_8 : decode cX5_door 8 = .ok (.iconst (-1), 1) := by decide +kernel
theorem dX5_door_9 : decode cX5_door 9 = .ok (.ireturn, 1) := by decide +kernel
theorem dX5_door_10 : decode cX5_door 10 = .ok (.aload_n 0, 1) := by decide +kernel
theorem dX5_door_11 : decode cX5_door 11 = .ok (.getfield 16, 3) := by decide +kernel
theorem dX5_door_14 : decode cX5_door 14 = .ok (.iload_n 1, 1) := by decide +kernel
theorem dX5_door_15 : decode cX5_door 15 = .ok (.invokevirtual 63, 3) := by decide +kernel
theorem dX5_door_18 : decode cX5_door 18 = .ok (.checkcast 71, 3) := by decide +kernel
theorem dX5_door_21 : decode cX5_door 21 = .ok (.astore_n 3, 1) := by decide +kernel
theorem dX5_door_22 : decode cX5_door 22 = .ok (.iload_n 2, 1) := by decide +kernel
theorem dX5_door_23 : decode cX5_door 23 = .ok (.tableswitch 85 0 5 #[37, 45, 53, 58, 63, 68], 37) := by decide +kernel
theorem dX5_door_60 : decode cX5_door 60 = .ok (.aload_n 3, 1) := by decide +kernel
theorem dX5_door_61 : decode cX5_door 61 = .ok (.getfield 237, 3) := by decide +kernel
theorem dX5_door_64 : decode cX5_door 64 = .ok (.getfield 240, 3) := by decide +kernel
theorem dX5_door_67 : decode cX5_door 67 = .ok (.ireturn, 1) := by decide +kernel
theorem dX5_door_68 : decode cX5_door 68 = .ok (.aload_n 3, 1) := by decide +kernel
theorem dX5_door_69 : decode cX5_door 69 = .ok (.getfield 241, 3) := by decide +kernel
theorem dX5_door_72 : decode cX5_door 72 = .ok (.getfield 240, 3) := by decide +kernel
theorem dX5_door_75 : decode cX5_door 75 = .ok (.ireturn, 1) := by decide +kernel
theorem dX5_door_76 : decode cX5_door 76 = .ok (.aload_n 3, 1) := by decide +kernel
theorem dX5_door_77 : decode cX5_door 77 = .ok (.getfield 244, 3) := by decide +kernel
theorem dX5_door_80 : decode cX5_door 80 = .ok (.ireturn, 1) := by decide +kernel
theorem dX5_door_81 : decode cX5_door 81 = .ok (.aload_n 3, 1) := by decide +kernel
theorem dX5_door_82 : decode cX5_door 82 = .ok (.getfield 139, 3) := by decide +kernel
theorem dX5_door_85 : decode cX5_door 85 = .ok (.ireturn, 1) := by decide +kernel
theorem dX5_door_86 : decode cX5_door 86 = .ok (.aload_n 3, 1) := by decide +kernel
theorem dX5_door_87 : decode cX5_door 87 = .ok (.getfield 146, 3) := by decide +kernel
theorem dX5_door_90 : decode cX5_door 90 = .ok (.ireturn, 1) := by decide +kernel
theorem dX5_door_91 : decode cX5_door 91 = .ok (.aload_n 3, 1) := by decide +kernel
theorem dX5_door_92 : decode cX5_door 92 = .ok (.getfield 124, 3) := by decide +kernel
theorem dX5_door_95 : decode cX5_door 95 = .ok (.ifCond .eq 10, 3) := by decide +kernel
theorem dX5_door_98 : decode cX5_door 98 = .ok (.aload_n 3, 1) := by decide +kernel
theorem dX5_door_99 : decode cX5_door 99 = .ok (.getfield 247, 3) := by decide +kernel
theorem dX5_door_102 : decode cX5_door 102 = .ok (.goto 5, 3) := by decide +kernel
theorem dX5_door_105 : decode cX5_door 105 = .ok (.bipush (-6), 2) := by decide +kernel
theorem dX5_door_107 : decode cX5_door 107 = .ok (.ireturn, 1) := by decide +kernel
theorem dX5_door_108 : decode cX5_door 108 = .ok (.bipush (-2), 2) := by decide +kernel
theorem dX5_door_110 : decode cX5_door 110 = .ok (.ireturn, 1) := by decide +kernel
theorem dX5_key_0 : decode cX5_key 0 = .ok (.aload_n 0, 1) := by decide +kernel
theorem dX5_key_1 : decode cX5_key 1 = .ok (.iload_n 1, 1) := by decide +kernel
theorem dX5_key_2 : decode cX5_key 2 = .ok (.invokevirtual 159, 3) := by decide +kernel
theorem dX5_key_5 : decode cX5_key 5 = .ok (.ifCond .ne 5, 3) := by decide +kernel
theorem dX5_key_8 : decode cX5_key 8 = .ok (.iconst (-1), 1) := by decide +kernel
theorem dX5_key_9 : decode cX5_key 9 = .ok (.ireturn, 1) := by decide +kernel
theorem dX5_key_10 : decode cX5_key 10 = .ok (.aload_n 0, 1) := by decide +kernel
theorem dX5_key_11 : decode cX5_key 11 = .ok (.getfield 19, 3) := by decide +kernel
theorem dX5_key_14 : decode cX5_key 14 = .ok (.iload_n 1, 1) := by decide +kernel
theorem dX5_key_15 : decode cX5_key 15 = .ok (.invokevirtual 63, 3) := by decide +kernel
theorem dX5_key_18 : decode cX5_key 18 = .ok (.checkcast 93, 3) := by decide +kernel
theorem dX5_key_21 : decode cX5_key 21 = .ok (.astore_n 3, 1) := by decide +kernel
theorem dX5_key_22 : decode cX5_key 22 = .ok (.iload_n 2, 1) := by decide +kernel
theorem dX5_key_23 : decode cX5_key 23 = .ok (.tableswitch 103 0 4 #[33, 38, 43, 63, 83], 33) := by decide +kernel
theorem dX5_key_56 : decode cX5_key 56 = .ok (.aload_n 3, 1) := by decide +kernel
theorem dX5_key_57 : decode cX5_key 57 = .ok (.getfield 250, 3) := by decide +kernel
theorem dX5_key_60 : decode cX5_key 60 = .ok (.ireturn, 1) := by decide +kernel
theorem dX5_key_61 : decode cX5_key 61 = .ok (.aload_n 3, 1) := by decide +kernel
theorem dX5_key_62 : decode cX5_key 62 = .ok (.invokevirtual 251, 3) := by decide +kernel
theorem dX5_key_65 : decode cX5_key 65 = .ok (.ireturn, 1) := by decide +kernel
theorem dX5_key_66 : decode cX5_key 66 = .ok (.aload_n 3, 1) := by decide +kernel
theorem dX5_key_67 : decode cX5_key 67 = .ok (.getfield 162, 3) := by decide +kernel
theorem dX5_key_70 : decode cX5_key 70 = .ok (.ifnonnull 8, 3) := by decide +kernel
theorem dX5_key_73 : decode cX5_key 73 = .ok (.bipush (-6), 2) := by decide +kernel
theorem dX5_key_75 : decode cX5_key 75 = .ok (.goto 10, 3) := by decide +kernel
theorem dX5_key_78 : decode cX5_key 78 = .ok (.aload_n 3, 1) := by decide +kernel
theorem dX5_key_79 : decode cX5_key 79 = .ok (.getfield 162, 3) := by decide +kernel
theorem dX5_key_82 : decode cX5_key 82 = .ok (.getfield 240, 3) := by decide +kernel
theorem dX5_key_85 : decode cX5_key 85 = .ok (.ireturn, 1) := by decide +kernel
theorem dX5_key_86 : decode cX5_key 86 = .ok (.aload_n 3, 1) := by decide +kernel
theorem dX5_key_87 : decode cX5_key 87 = .ok (.getfield 180, 3) := by decide +kernel
theorem dX5_key_90 : decode cX5_key 90 = .ok (.ifnonnull 8, 3) := by decide +kernel
theorem dX5_key_93 : decode cX5_key 93 = .ok (.bipush (-6), 2) := by decide +kernel
theorem dX5_key_95 : decode cX5_key 95 = .ok (.goto 10, 3) := by decide +kernel
theorem dX5_key_98 : decode cX5_key 98 = .ok (.aload_n 3, 1) := by decide +kernel
theorem dX5_key_99 : decode cX5_key 99 = .ok (.getfield 180, 3) := by decide +kernel
theorem dX5_key_102 : decode cX5_key 102 = .ok (.getfield 253, 3) := by decide +kernel
theorem dX5_key_105 : decode cX5_key 105 = .ok (.ireturn, 1) := by decide +kernel
theorem dX5_key_106 : decode cX5_key 106 = .ok (.aload_n 3, 1) := by decide +kernel
theorem dX5_key_107 : decode cX5_key 107 = .ok (.getfield 254, 3) := by decide +kernel
theorem dX5_key_110 : decode cX5_key 110 = .ok (.ifnonnull 8, 3) := by decide +kernel
theorem dX5_key_113 : decode cX5_key 113 = .ok (.bipush (-6), 2) := by decide +kernel
theorem dX5_key_115 : decode cX5_key 115 = .ok (.goto 10, 3) := by decide +kernel
theorem dX5_key_118 : decode cX5_key 118 = .ok (.aload_n 3, 1) := by decide +kernel
theorem dX5_key_119 : decode cX5_key 119 = .ok (.getfield 254, 3) := by decide +kernel
theorem dX5_key_122 : decode cX5_key 122 = .ok (.getfield 258, 3) := by decide +kernel
theorem dX5_key_125 : decode cX5_key 125 = .ok (.ireturn, 1) := by decide +kernel
theorem dX5_key_126 : decode cX5_key 126 = .ok (.bipush (-2), 2) := by decide +kernel
theorem dX5_key_128 : decode cX5_key 128 = .ok (.ireturn, 1) := by decide +kernel
theorem dX5_group_0 : decode cX5_group 0 = .ok (.aload_n 0, 1) := by decide +kernel
theorem dX5_group_1 : decode cX5_group 1 = .ok (.iload_n 1, 1) := by decide +kernel
theorem dX5_group_2 : decode cX5_group 2 = .ok (.invokevirtual 107, 3) := by decide +kernel
theorem dX5_group_5 : decode cX5_group 5 = .ok (.ifCond .ne 5, 3) := by decide +kernel
theorem dX5_group_8 : decode cX5_group 8 = .ok (.iconst (-1), 1) := by decide +kernel
theorem dX5_group_9 : decode cX5_group 9 = .ok (.ireturn, 1) := by decide +kernel
theorem dX5_group_10 : decode cX5_group 10 = .ok (.aload_n 0, 1) := by decide +kernel
theorem dX5_group_11 : decode cX5_group 11 = .ok (.getfield 22, 3) := by decide +kernel
theorem dX5_group_14 : decode cX5_group 14 = .ok (.iload_n 1, 1) := by decide +kernel
theorem dX5_group_15 : decode cX5_group 15 = .ok (.invokevirtual 63, 3) := by decide +kernel
theorem dX5_group_18 : decode cX5_group 18 = .ok (.checkcast 102, 3) := by decide +kernel
theorem dX5_group_21 : decode cX5_group 21 = .ok (.astore_n 3, 1) := by decide +kernel
theorem dX5_group_22 : decode cX5_group 22 = .ok (.iload_n 2, 1) := by decide +kernel
theorem dX5_group_23 : decode cX5_group 23 = .ok (.tableswitch 71 0 5 #[37, 42, 50, 55, 61, 66], 37) := by decide +kernel
theorem dX5_group_60 : decode cX5_group 60 = .ok (.aload_n 3, 1) := by decide +kernel
theorem dX5_group_61 : decode cX5_group 61 = .ok (.getfield 188, 3) := by decide +kernel
theorem dX5_group_64 : decode cX5_group 64 = .ok (.ireturn, 1) := by decide +kernel
theorem dX5_group_65 : decode cX5_group 65 = .ok (.aload_n 3, 1) := by decide +kernel
theorem dX5_group_66 : decode cX5_group 66 = .ok (.getfield 117, 3) := by decide +kernel
theorem dX5_group_69 : decode cX5_group 69 = .ok (.getfield 240, 3) := by decide +kernel
theorem dX5_group_72 : decode cX5_group 72 = .ok (.ireturn, 1) := by decide +kernel
theorem dX5_group_73 : decode cX5_group 73 = .ok (.aload_n 3, 1) := by decide +kernel
theorem dX5_group_74 : decode cX5_group 74 = .ok (.getfield 128, 3) := by decide +kernel
theorem dX5_group_77 : decode cX5_group 77 = .ok (.ireturn, 1) := by decide +kernel
theorem dX5_group_78 : decode cX5_group 78 = .ok (.aload_n 0, 1) := by decide +kernel
theorem dX5_group_79 : decode cX5_group 79 = .ok (.aload_n 3, 1) := by decide +kernel
theorem dX5_group_80 : decode cX5_group 80 = .ok (.invokevirtual 176, 3) := by decide +kernel
theorem dX5_group_83 : decode cX5_group 83 = .ok (.ireturn, 1) := by decide +kernel
theorem dX5_group_84 : decode cX5_group 84 = .ok (.aload_n 3, 1) := by decide +kernel
theorem dX5_group_85 : decode cX5_group 85 = .ok (.getfield 194, 3) := by decide +kernel
theorem dX5_group_88 : decode cX5_group 88 = .ok (.ireturn, 1) := by decide +kernel
theorem dX5_group_89 : decode cX5_group 89 = .ok (.aload_n 3, 1) := by decide +kernel
theorem dX5_group_90 : decode cX5_group 90 = .ok (.getfield 197, 3) := by decide +kernel
theorem dX5_group_93 : decode cX5_group 93 = .ok (.ireturn, 1) := by decide +kernel
theorem dX5_group_94 : decode cX5_group 94 = .ok (.bipush (-2), 2) := by decide +kernel
theorem dX5_group_96 : decode cX5_group 96 = .ok (.ireturn, 1) := by decide +kernel
theorem dX5_color_0 : decode cX5_color 0 = .ok (.iload_n 1, 1) := by decide +kernel
theorem dX5_color_1 : decode cX5_color 1 = .ok (.invokestatic 83, 3) := by decide +kernel
theorem dX5_color_4 : decode cX5_color 4 = .ok (.ifCond .ne 6, 3) := by decide +kernel
theorem dX5_color_7 : decode cX5_color 7 = .ok (.bipush (-2), 2) := by decide +kernel
theorem dX5_color_9 : decode cX5_color 9 = .ok (.ireturn, 1) := by decide +kernel
theorem dX5_color_10 : decode cX5_color 10 = .ok (.iload_n 2, 1) := by decide +kernel
theorem dX5_color_11 : decode cX5_color 11 = .ok (.lookupswitch 37 #[(0, 25), (1, 31)], 25) := by decide +kernel
theorem dX5_color_36 : decode cX5_color 36 = .ok (.aload_n 0, 1) := by decide +kernel
theorem dX5_color_37 : decode cX5_color 37 = .ok (.iload_n 1, 1) := by decide +kernel
theorem dX5_color_38 : decode cX5_color 38 = .ok (.invokevirtual 259, 3) := by decide +kernel
theorem dX5_color_41 : decode cX5_color 41 = .ok (.ireturn, 1) := by decide +kernel
theorem dX5_color_42 : decode cX5_color 42 = .ok (.aload_n 0, 1) := by decide +kernel
theorem dX5_color_43 : decode cX5_color 43 = .ok (.iload_n 1, 1) := by decide +kernel
theorem dX5_color_44 : decode cX5_color 44 = .ok (.invokevirtual 262, 3) := by decide +kernel
theorem dX5_color_47 : decode cX5_color 47 = .ok (.ireturn, 1) := by decide +kernel
theorem dX5_color_48 : decode cX5_color 48 = .ok (.bipush (-2), 2) := by decide +kernel
theorem dX5_color_50 : decode cX5_color 50 = .ok (.ireturn, 1) := by decide +kernel
theorem dX5_count_0 : decode cX5_count 0 = .ok (.iload_n 1, 1) := by decide +kernel
theorem dX5_count_1 : decode cX5_count 1 = .ok (.tableswitch 134 0 10 #[59, 67, 75, 83, 91, 96, 107, 113, 119, 124, 129], 59) := by decide +kernel
theorem dX5_count_60 : decode cX5_count 60 = .ok (.aload_n 0, 1) := by decide +kernel
theorem dX5_count_61 : decode cX5_count 61 = .ok (.getfield 10, 3) := by decide +kernel
theorem dX5_count_64 : decode cX5_count 64 = .ok (.invokevirtual 43, 3) := by decide +kernel
theorem dX5_count_67 : decode cX5_count 67 = .ok (.ireturn, 1) := by decide +kernel
theorem dX5_count_68 : decode cX5_count 68 = .ok (.aload_n 0, 1) := by decide +kernel
theorem dX5_count_69 : decode cX5_count 69 = .ok (.getfield 16, 3) := by decide +kernel
theorem dX5_count_72 : decode cX5_count 72 = .ok (.invokevirtual 43, 3) := by decide +kernel
theorem dX5_count_75 : decode cX5_count 75 = .ok (.ireturn, 1) := by decide +kernel
theorem dX5_count_76 : decode cX5_count 76 = .ok (.aload_n 0, 1) := by decide +kernel
theorem dX5_count_77 : decode cX5_count 77 = .ok (.getfield 19, 3) := by decide +kernel
theorem dX5_count_80 : decode cX5_count 80 = .ok (.invokevirtual 43, 3) := by decide +kernel
theorem dX5_count_83 : decode cX5_count 83 = .ok (.ireturn, 1) := by decide +kernel
theorem dX5_count_84 : decode cX5_count 84 = .ok (.aload_n 0, 1) := by decide +kernel
theorem dX5_count_85 : decode cX5_count 85 = .ok (.getfield 22, 3) := by decide +kernel
theorem dX5_count_88 : decode cX5_count 88 = .ok (.invokevirtual 43, 3) := by decide +kernel
theorem dX5_count_91 : decode cX5_count 91 = .ok (.ireturn, 1) := by decide +kernel
theorem dX5_count_92 : decode cX5_count 92 = .ok (.aload_n 0, 1) := by decide +kernel
theorem dX5_count_93 : decode cX5_count 93 = .ok (.invokevirtual 60, 3) := by decide +kernel
theorem dX5_count_96 : decode cX5_count 96 = .ok (.ireturn, 1) := by decide +kernel
theorem dX5_count_97 : decode cX5_count 97 = .ok (.aload_n 0, 1) := by decide +kernel
theorem dX5_count_98 : decode cX5_count 98 = .ok (.getfield 16, 3) := by decide +kernel
theorem dX5_count_101 : decode cX5_count 101 = .ok (.invokestatic 229, 3) := by decide +kernel
theorem dX5_count_104 : decode cX5_count 104 = .ok (.invokestatic 265, 3) := by decide +kernel
theorem dX5_count_107 : decode cX5_count 107 = .ok (.ireturn, 1) := by decide +kernel
theorem dX5_count_108 : decode cX5_count 108 = .ok (.aload_n 0, 1) := by decide +kernel
theorem dX5_count_109 : decode cX5_count 109 = .ok (.iconst 1, 1) := by decide +kernel
theorem dX5_count_110 : decode cX5_count 110 = .ok (.invokevirtual 98, 3) := by decide +kernel
theorem dX5_count_113 : decode cX5_count 113 = .ok (.ireturn, 1) := by decide +kernel
theorem dX5_count_114 : decode cX5_count 114 = .ok (.aload_n 0, 1) := by decide +kernel
theorem dX5_count_115 : decode cX5_count 115 = .ok (.iconst 0, 1) := by decide +kernel
theorem dX5_count_116 : decode cX5_count 116 = .ok (.invokevirtual 98, 3) := by decide +kernel
theorem dX5_count_119 : decode cX5_count 119 = .ok (.ireturn, 1) := by decide +kernel
theorem dX5_count_120 : decode cX5_count 120 = .ok (.aload_n 0, 1) := by decide +kernel
theorem dX5_count_121 : decode cX5_count 121 = .ok (.invokevirtual 270, 3) := by decide +kernel
theorem dX5_count_124 : decode cX5_count 124 = .ok (.ireturn, 1) := by decide +kernel
theorem dX5_count_125 : decode cX5_count 125 = .ok (.aload_n 0, 1) := by decide +kernel
theorem dX5_count_126 : decode cX5_count 126 = .ok (.getfield 200, 3) := by decide +kernel
theorem dX5_count_129 : decode cX5_count 129 = .ok (.ireturn, 1) := by decide +kernel
theorem dX5_count_130 : decode cX5_count 130 = .ok (.aload_n 0, 1) := by decide +kernel
theorem dX5_count_131 : decode cX5_count 131 = .ok (.invokevirtual 273, 3) := by decide +kernel
theorem dX5_count_134 : decode cX5_count 134 = .ok (.ireturn, 1) := by decide +kernel
theorem dX5_count_135 : decode cX5_count 135 = .ok (.bipush (-2), 2) := by decide +kernel
theorem dX5_count_137 : decode cX5_count 137 = .ok (.ireturn, 1) := by decide +kernel
theorem dX5_isBetween_0 : decode cX5_isBetween 0 = .ok (.iload_n 0, 1) := by decide +kernel
theorem dX5_isBetween_1 : decode cX5_isBetween 1 = .ok (.iload_n 1, 1) := by decide +kernel
theorem dX5_isBetween_2 : decode cX5_isBetween 2 = .ok (.if_icmp .lt 12, 3) := by decide +kernel
theorem dX5_isBetween_5 : decode cX5_isBetween 5 = .ok (.iload_n 0, 1) := by decide +kernel
theorem dX5_isBetween_6 : decode cX5_isBetween 6 = .ok (.iload_n 2, 1) := by decide +kernel
theorem dX5_isBetween_7 : decode cX5_isBetween 7 = .ok (.if_icmp .gt 7, 3) := by decide +kernel
theorem dX5_isBetween_10 : decode cX5_isBetween 10 = .ok (.iconst 1, 1) := by decide +kernel
theorem dX5_isBetween_11 : decode cX5_isBetween 11 = .ok (.goto 4, 3) := by decide +kernel
theorem dX5_isBetween_14 : decode cX5_isBetween 14 = .ok (.iconst 0, 1) := by decide +kernel
theorem dX5_isBetween_15 : decode cX5_isBetween 15 = .ok (.ireturn, 1) := by decide +kernel
theorem dX5_isColor_0 : decode cX5_isColor 0 = .ok (.iload_n 0, 1) := by decide +kernel
theorem dX5_isColor_1 : decode cX5_isColor 1 = .ok (.iconst 0, 1) := by decide +kernel
theorem dX5_isColor_2 : decode cX5_isColor 2 = .ok (.iconst 5, 1) := by decide +kernel
theorem dX5_isColor_3 : decode cX5_isColor 3 = .ok (.invokestatic 67, 3) := by decide +kernel
theorem dX5_isColor_6 : decode cX5_isColor 6 = .ok (.ireturn, 1) := by decide +kernel
theorem dX5_isRoom_0 : decode cX5_isRoom 0 = .ok (.iload_n 1, 1) := by decide +kernel
theorem dX5_isRoom_1 : decode cX5_isRoom 1 = .ok (.ifCond .lt 18, 3) := by decide +kernel
theorem dX5_isRoom_4 : decode cX5_isRoom 4 = .ok (.iload_n 1, 1) := by decide +kernel
theorem dX5_isRoom_5 : decode cX5_isRoom 5 = .ok (.aload_n 0, 1) := by decide +kernel
theorem dX5_isRoom_6 : decode cX5_isRoom 6 = .ok (.getfield 10, 3) := by decide +kernel
theorem dX5_isRoom_9 : decode cX5_isRoom 9 = .ok (.invokevirtual 43, 3) := by decide +kernel
theorem dX5_isRoom_12 : decode cX5_isRoom 12 = .ok (.if_icmp .ge 7, 3) := by decide +kernel
theorem dX5_isRoom_15 : decode cX5_isRoom 15 = .ok (.iconst 1, 1) := by decide +kernel
theorem dX5_isRoom_16 : decode cX5_isRoom 16 = .ok (.goto 4, 3) := by decide +kernel
theorem dX5_isRoom_19 : decode cX5_isRoom 19 = .ok (.iconst 0, 1) := by decide +kernel
theorem dX5_isRoom_20 : decode cX5_isRoom 20 = .ok (.ireturn, 1) := by decide +kernel
theorem dX5_isDoor_0 : decode cX5_isDoor 0 = .ok (.iload_n 1, 1) := by decide +kernel
theorem dX5_isDoor_1 : decode cX5_isDoor 1 = .ok (.ifCond .lt 18, 3) := by decide +kernel
theorem dX5_isDoor_4 : decode cX5_isDoor 4 = .ok (.iload_n 1, 1) := by decide +kernel
theorem dX5_isDoor_5 : decode cX5_isDoor 5 = .ok (.aload_n 0, 1) := by decide +kernel
theorem dX5_isDoor_6 : decode cX5_isDoor 6 = .ok (.getfield 16, 3) := by decide +kernel
theorem dX5_isDoor_9 : decode cX5_isDoor 9 = .ok (.invokevirtual 43, 3) := by decide +kernel
theorem dX5_isDoor_12 : decode cX5_isDoor 12 = .ok (.if_icmp .ge 7, 3) := by decide +kernel
theorem dX5_isDoor_15 : decode cX5_isDoor 15 = .ok (.iconst 1, 1) := by decide +kernel
theorem dX5_isDoor_16 : decode cX5_isDoor 16 = .ok (.goto 4, 3) := by decide +kernel
theorem dX5_isDoor_19 : decode cX5_isDoor 19 = .ok (.iconst 0, 1) := by decide +kernel
theorem dX5_isDoor_20 : decode cX5_isDoor 20 = .ok (.ireturn, 1) := by decide +kernel
theorem dX5_isKey_0 : decode cX5_isKey 0 = .ok (.iload_n 1, 1) := by decide +kernel
theorem dX5_isKey_1 : decode cX5_isKey 1 = .ok (.ifCond .lt 18, 3) := by decide +kernel
theorem dX5_isKey_4 : decode cX5_isKey 4 = .ok (.iload_n 1, 1) := by decide +kernel
theorem dX5_isKey_5 : decode cX5_isKey 5 = .ok (.aload_n 0, 1) := by decide +kernel
theorem dX5_isKey_6 : decode cX5_isKey 6 = .ok (.getfield 19, 3) := by decide +kernel
theorem dX5_isKey_9 : decode cX5_isKey 9 = .ok (.invokevirtual 43, 3) := by decide +kernel
theorem dX5_isKey_12 : decode cX5_isKey 12 = .ok (.if_icmp .ge 7, 3) := by decide +kernel
theorem dX5_isKey_15 : decode cX5_isKey 15 = .ok (.iconst 1, 1) := by decide +kernel
theorem dX5_isKey_16 : decode cX5_isKey 16 = .ok (.goto 4, 3) := by decide +kernel
theorem dX5_isKey_19 : decode cX5_isKey 19 = .ok (.iconst 0, 1) := by decide +kernel
theorem dX5_isKey_20 : decode cX5_isKey 20 = .ok (.ireturn, 1) := by decide +kernel
theorem dX5_isGroup_0 : decode cX5_isGroup 0 = .ok (.iload_n 1, 1) := by decide +kernel
theorem dX5_isGroup_1 : decode cX5_isGroup 1 = .ok (.ifCond .lt 18, 3) := by decide +kernel
theorem dX5_isGroup_4 : decode cX5_isGroup 4 = .ok (.iload_n 1, 1) := by decide +kernel
theorem dX5_isGroup_5 : decode cX5_isGroup 5 = .ok (.aload_n 0, 1) := by decide +kernel
theorem dX5_isGroup_6 : decode cX5_isGroup 6 = .ok (.getfield 22, 3) := by decide +kernel
theorem dX5_isGroup_9 : decode cX5_isGroup 9 = .ok (.invokevirtual 43, 3) := by decide +kernel
theorem dX5_isGroup_12 : decode cX5_isGroup 12 = .ok (.if_icmp .ge 7, 3) := by decide +kernel
theorem dX5_isGroup_15 : decode cX5_isGroup 15 = .ok (.iconst 1, 1) := by decide +kernel
theorem dX5_isGroup_16 : decode cX5_isGroup 16 = .ok (.goto 4, 3) := by decide +kernel
theorem dX5_isGroup_19 : decode cX5_isGroup 19 = .ok (.iconst 0, 1) := by decide +kernel
theorem dX5_isGroup_20 : decode cX5_isGroup 20 = .ok (.ireturn, 1) := by decide +kernel
theorem dX5_lowerRoom_0 : decode cX5_lowerRoom 0 = .ok (.aload_n 0, 1) := by decide +kernel
theorem dX5_lowerRoom_1 : decode cX5_lowerRoom 1 = .ok (.getfield 10, 3) := by decide +kernel
theorem dX5_lowerRoom_4 : decode cX5_lowerRoom 4 = .ok (.iload_n 1, 1) := by decide +kernel
theorem dX5_lowerRoom_5 : decode cX5_lowerRoom 5 = .ok (.iload_n 2, 1) := by decide +kernel
theorem dX5_lowerRoom_6 : decode cX5_lowerRoom 6 = .ok (.invokestatic 276, 3) := by decide +kernel
theorem dX5_lowerRoom_9 : decode cX5_lowerRoom 9 = .ok (.invokevirtual 63, 3) := by decide +kernel
theorem dX5_lowerRoom_12 : decode cX5_lowerRoom 12 = .ok (.checkcast 47, 3) := by decide +kernel
theorem dX5_lowerRoom_15 : decode cX5_lowerRoom 15 = .ok (.areturn, 1) := by decide +kernel
theorem dX5_higherRoom_0 : decode cX5_higherRoom 0 = .ok (.aload_n 0, 1) := by decide +kernel
theorem dX5_higherRoom_1 : decode cX5_higherRoom 1 = .ok (.getfield 10, 3) := by decide +kernel
theorem dX5_higherRoom_4 : decode cX5_higherRoom 4 = .ok (.iload_n 1, 1) := by decide +kernel
theorem dX5_higherRoom_5 : decode cX5_higherRoom 5 = .ok (.iload_n 2, 1) := by decide +kernel
theorem dX5_higherRoom_6 : decode cX5_higherRoom 6 = .ok (.invokestatic 166, 3) := by decide +kernel
theorem dX5_higherRoom_9 : decode cX5_higherRoom 9 = .ok (.invokevirtual 63, 3) := by decide +kernel
theorem dX5_higherRoom_12 : decode cX5_higherRoom 12 = .ok (.checkcast 47, 3) := by decide +kernel
theorem dX5_higherRoom_15 : decode cX5_higherRoom 15 = .ok (.areturn, 1) := by decide +kernel
theorem dX5_exitNumber_0 : decode cX5_exitNumber 0 = .ok (.aload_n 0, 1) := by decide +kernel
theorem dX5_exitNumber_1 : decode cX5_exitNumber 1 = .ok (.getfield 32, 3) := by decide +kernel
theorem dX5_exitNumber_4 : decode cX5_exitNumber 4 = .ok (.ifnonnull 8, 3) := by decide +kernel
theorem dX5_exitNumber_7 : decode cX5_exitNumber 7 = .ok (.bipush (-6), 2) := by decide +kernel
theorem dX5_exitNumber_9 : decode cX5_exitNumber 9 = .ok (.goto 10, 3) := by decide +kernel
theorem dX5_exitNumber_12 : decode cX5_exitNumber 12 = .ok (.aload_n 0, 1) := by decide +kernel
theorem dX5_exitNumber_13 : decode cX5_exitNumber 13 = .ok (.getfield 32, 3) := by decide +kernel
theorem dX5_exitNumber_16 : decode cX5_exitNumber 16 = .ok (.getfield 240, 3) := by decide +kernel
theorem dX5_exitNumber_19 : decode cX5_exitNumber 19 = .ok (.ireturn, 1) := by decide +kernel
theorem dX5_playersThat_0 : decode cX5_playersThat 0 = .ok (.iconst 0, 1) := by decide +kernel
theorem dX5_playersThat_1 : decode cX5_playersThat 1 = .ok (.istore_n 2, 1) := by decide +kernel
theorem dX5_playersThat_2 : decode cX5_playersThat 2 = .ok (.iconst 0, 1) := by decide +kernel
theorem dX5_playersThat_3 : decode cX5_playersThat 3 = .ok (.istore_n 3, 1) := by decide +kernel
theorem dX5_playersThat_4 : decode cX5_playersThat 4 = .ok (.iload_n 3, 1) := by decide +kernel
theorem dX5_playersThat_5 : decode cX5_playersThat 5 = .ok (.aload_n 0, 1) := by decide +kernel
theorem dX5_playersThat_6 : decode cX5_playersThat 6 = .ok (.getfield 22, 3) := by decide +kernel
theorem dX5_playersThat_9 : decode cX5_playersThat 9 = .ok (.invokevirtual 43, 3) := by decide +kernel
theorem dX5_playersThat_12 : decode cX5_playersThat 12 = .ok (.if_icmp .ge 39, 3) := by decide +kernel
theorem dX5_playersThat_15 : decode cX5_playersThat 15 = .ok (.aload_n 0, 1) := by decide +kernel
theorem dX5_playersThat_16 : decode cX5_playersThat 16 = .ok (.getfield 22, 3) := by decide +kernel
theorem dX5_playersThat_19 : decode cX5_playersThat 19 = .ok (.iload_n 3, 1) := by decide +kernel
theorem dX5_playersThat_20 : decode cX5_playersThat 20 = .ok (.invokevirtual 63, 3) := by decide +kernel
theorem dX5_playersThat_23 : decode cX5_playersThat 23 = .ok (.checkcast 102, 3) := by decide +kernel
theorem dX5_playersThat_26 : decode cX5_playersThat 26 = .ok (.astore 4, 2) := by decide +kernel
theorem dX5_playersThat_28 : decode cX5_playersThat 28 = .ok (.aload 4, 2) := by decide +kernel
theorem dX5_playersThat_30 : decode cX5_playersThat 30 = .ok (.getfield 197, 3) := by decide +kernel
theorem dX5_playersThat_33 : decode cX5_playersThat 33 = .ok (.iload_n 1, 1) := by decide +kernel
theorem dX5_playersThat_34 : decode cX5_playersThat 34 = .ok (.if_icmp .ne 11, 3) := by decide +kernel
theorem dX5_playersThat_37 : decode cX5_playersThat 37 = .ok (.iload_n 2, 1) := by decide +kernel
theorem dX5_playersThat_38 : decode cX5_playersThat 38 = .ok (.aload 4, 2) := by decide +kernel
theorem dX5_playersThat_40 : decode cX5_playersThat 40 = .ok (.getfield 188, 3) := by decide +kernel
theorem dX5_playersThat_43 : decode cX5_playersThat 43 = .ok (.iadd, 1) := by decide +kernel
theorem dX5_playersThat_44 : decode cX5_playersThat 44 = .ok (.istore_n 2, 1) := by decide +kernel
theorem dX5_playersThat_45 : decode cX5_playersThat 45 = .ok (.iinc 3 1, 3) := by decide +kernel
theorem dX5_playersThat_48 : decode cX5_playersThat 48 = .ok (.goto (-44), 3) := by decide +kernel
theorem dX5_playersThat_51 : decode cX5_playersThat 51 = .ok (.iload_n 2, 1) := by decide +kernel
theorem dX5_playersThat_52 : decode cX5_playersThat 52 = .ok (.ireturn, 1) := by decide +kernel
theorem dX5_latestEscape_0 : decode cX5_latestEscape 0 = .ok (.bipush (-6), 2) := by decide +kernel
theorem dX5_latestEscape_2 : decode cX5_latestEscape 2 = .ok (.istore_n 1, 1) := by decide +kernel
theorem dX5_latestEscape_3 : decode cX5_latestEscape 3 = .ok (.iconst 0, 1) := by decide +kernel
theorem dX5_latestEscape_4 : decode cX5_latestEscape 4 = .ok (.istore_n 2, 1) := by decide +kernel
theorem dX5_latestEscape_5 : decode cX5_latestEscape 5 = .ok (.iload_n 2, 1) := by decide +kernel
theorem dX5_latestEscape_6 : decode cX5_latestEscape 6 = .ok (.aload_n 0, 1) := by decide +kernel
theorem dX5_latestEscape_7 : decode cX5_latestEscape 7 = .ok (.getfield 22, 3) := by decide +kernel
theorem dX5_latestEscape_10 : decode cX5_latestEscape 10 = .ok (.invokevirtual 43, 3) := by decide +kernel
theorem dX5_latestEscape_13 : decode cX5_latestEscape 13 = .ok (.if_icmp .ge 38, 3) := by decide +kernel
theorem dX5_latestEscape_16 : decode cX5_latestEscape 16 = .ok (.aload_n 0, 1) := by decide +kernel
theorem dX5_latestEscape_17 : decode cX5_latestEscape 17 = .ok (.getfield 22, 3) := by decide +kernel
theorem dX5_latestEscape_20 : decode cX5_latestEscape 20 = .ok (.iload_n 2, 1) := by decide +kernel
theorem dX5_latestEscape_21 : decode cX5_latestEscape 21 = .ok (.invokevirtual 63, 3) := by decide +kernel
theorem dX5_latestEscape_24 : decode cX5_latestEscape 24 = .ok (.checkcast 102, 3) := by decide +kernel
theorem dX5_latestEscape_27 : decode cX5_latestEscape 27 = .ok (.astore_n 3, 1) := by decide +kernel
theorem dX5_latestEscape_28 : decode cX5_latestEscape 28 = .ok (.aload_n 3, 1) := by decide +kernel
theorem dX5_latestEscape_29 : decode cX5_latestEscape 29 = .ok (.getfield 197, 3) := by decide +kernel
theorem dX5_latestEscape_32 : decode cX5_latestEscape 32 = .ok (.iconst 1, 1) := by decide +kernel
theorem dX5_latestEscape_33 : decode cX5_latestEscape 33 = .ok (.if_icmp .ne 12, 3) := by decide +kernel
theorem dX5_latestEscape_36 : decode cX5_latestEscape 36 = .ok (.iload_n 1, 1) := by decide +kernel
theorem dX5_latestEscape_37 : decode cX5_latestEscape 37 = .ok (.aload_n 3, 1) := by decide +kernel
theorem dX5_latestEscape_38 : decode cX5_latestEscape 38 = .ok (.getfield 128, 3) := by decide +kernel
theorem dX5_latestEscape_41 : decode cX5_latestEscape 41 = .ok (.invokestatic 166, 3) := by decide +kernel
theorem dX5_latestEscape_44 : decode cX5_latestEscape 44 = .ok (.istore_n 1, 1) := by decide +kernel
theorem dX5_latestEscape_45 : decode cX5_latestEscape 45 = .ok (.iinc 2 1, 3) := by decide +kernel
theorem dX5_latestEscape_48 : decode cX5_latestEscape 48 = .ok (.goto (-43), 3) := by decide +kernel
theorem dX5_latestEscape_51 : decode cX5_latestEscape 51 = .ok (.iload_n 1, 1) := by decide +kernel
theorem dX5_latestEscape_52 : decode cX5_latestEscape 52 = .ok (.ireturn, 1) := by decide +kernel
theorem dX5_groupsInDeadEnd_0 : decode cX5_groupsInDeadEnd 0 = .ok (.iconst 0, 1) := by decide +kernel
theorem dX5_groupsInDeadEnd_1 : decode cX5_groupsInDeadEnd 1 = .ok (.istore_n 1, 1) := by decide +kernel
theorem dX5_groupsInDeadEnd_2 : decode cX5_groupsInDeadEnd 2 = .ok (.iconst 0, 1) := by decide +kernel
theorem dX5_groupsInDeadEnd_3 : decode cX5_groupsInDeadEnd 3 = .ok (.istore_n 2, 1) := by decide +kernel
theorem dX5_groupsInDeadEnd_4 : decode cX5_groupsInDeadEnd 4 = .ok (.iload_n 2, 1) := by decide +kernel
theorem dX5_groupsInDeadEnd_5 : decode cX5_groupsInDeadEnd 5 = .ok (.aload_n 0, 1) := by decide +kernel
theorem dX5_groupsInDeadEnd_6 : decode cX5_groupsInDeadEnd 6 = .ok (.getfield 22, 3) := by decide +kernel
theorem dX5_groupsInDeadEnd_9 : decode cX5_groupsInDeadEnd 9 = .ok (.invokevirtual 43, 3) := by decide +kernel
theorem dX5_groupsInDeadEnd_12 : decode cX5_groupsInDeadEnd 12 = .ok (.if_icmp .ge 65, 3) := by decide +kernel
theorem dX5_groupsInDeadEnd_15 : decode cX5_groupsInDeadEnd 15 = .ok (.aload_n 0, 1) := by decide +kernel
theorem dX5_groupsInDeadEnd_16 : decode cX5_groupsInDeadEnd 16 = .ok (.getfield 22, 3) := by decide +kernel
theorem dX5_groupsInDeadEnd_19 : decode cX5_groupsInDeadEnd 19 = .ok (.iload_n 2, 1) := by decide +kernel
theorem dX5_groupsInDeadEnd_20 : decode cX5_groupsInDeadEnd 20 = .ok (.invokevirtual 63, 3) := by decide +kernel
theorem dX5_groupsInDeadEnd_23 : decode cX5_groupsInDeadEnd 23 = .ok (.checkcast 102, 3) := by decide +kernel
theorem dX5_groupsInDeadEnd_26 : decode cX5_groupsInDeadEnd 26 = .ok (.astore_n 3, 1) := by decide +kernel
theorem dX5_groupsInDeadEnd_27 : decode cX5_groupsInDeadEnd 27 = .ok (.aload_n 3, 1) := by decide +kernel
theorem dX5_groupsInDeadEnd_28 : decode cX5_groupsInDeadEnd 28 = .ok (.invokevirtual 113, 3) := by decide +kernel
theorem dX5_groupsInDeadEnd_31 : decode cX5_groupsInDeadEnd 31 = .ok (.ifCond .eq 40, 3) := by decide +kernel
theorem dX5_groupsInDeadEnd_34 : decode cX5_groupsInDeadEnd 34 = .ok (.aload_n 0, 1) := by decide +kernel
theorem dX5_groupsInDeadEnd_35 : decode cX5_groupsInDeadEnd 35 = .ok (.getfield 28, 3) := by decide +kernel
theorem dX5_groupsInDeadEnd_38 : decode cX5_groupsInDeadEnd 38 = .ok (.aload_n 3, 1) := by decide +kernel
theorem dX5_groupsInDeadEnd_39 : decode cX5_groupsInDeadEnd 39 = .ok (.aload_n 0, 1) := by decide +kernel
theorem dX5_groupsInDeadEnd_40 : decode cX5_groupsInDeadEnd 40 = .ok (.getfield 32, 3) := by decide +kernel
theorem dX5_groupsInDeadEnd_43 : decode cX5_groupsInDeadEnd 43 = .ok (.aload_n 0, 1) := by decide +kernel
theorem dX5_groupsInDeadEnd_44 : decode cX5_groupsInDeadEnd 44 = .ok (.getfield 16, 3) := by decide +kernel
theorem dX5_groupsInDeadEnd_47 : decode cX5_groupsInDeadEnd 47 = .ok (.aload_n 0, 1) := by decide +kernel
theorem dX5_groupsInDeadEnd_48 : decode cX5_groupsInDeadEnd 48 = .ok (.getfield 19, 3) := by decide +kernel
theorem dX5_groupsInDeadEnd_51 : decode cX5_groupsInDeadEnd 51 = .ok (.aload_n 0, 1) := by decide +kernel
theorem dX5_groupsInDeadEnd_52 : decode cX5_groupsInDeadEnd 52 = .ok (.getfield 86, 3) := by decide +kernel
theorem dX5_groupsInDeadEnd_55 : decode cX5_groupsInDeadEnd 55 = .ok (.invokevirtual 203, 3) := by decide +kernel
theorem dX5_groupsInDeadEnd_58 : decode cX5_groupsInDeadEnd 58 = .ok (.aload_n 0, 1) := by decide +kernel
theorem dX5_groupsInDeadEnd_59 : decode cX5_groupsInDeadEnd 59 = .ok (.getfield 28, 3) := by decide +kernel
theorem dX5_groupsInDeadEnd_62 : decode cX5_groupsInDeadEnd 62 = .ok (.getfield 207, 3) := by decide +kernel
theorem dX5_groupsInDeadEnd_65 : decode cX5_groupsInDeadEnd 65 = .ok (.ifCond .ne 6, 3) := by decide +kernel
theorem dX5_groupsInDeadEnd_68 : decode cX5_groupsInDeadEnd 68 = .ok (.iinc 1 1, 3) := by decide +kernel
theorem dX5_groupsInDeadEnd_71 : decode cX5_groupsInDeadEnd 71 = .ok (.iinc 2 1, 3) := by decide +kernel
theorem dX5_groupsInDeadEnd_74 : decode cX5_groupsInDeadEnd 74 = .ok (.goto (-70), 3) := by decide +kernel
theorem dX5_groupsInDeadEnd_77 : decode cX5_groupsInDeadEnd 77 = .ok (.iload_n 1, 1) := by decide +kernel
theorem dX5_groupsInDeadEnd_78 : decode cX5_groupsInDeadEnd 78 = .ok (.ireturn, 1) := by decide +kernel
theorem dX5_keysHeldBy_0 : decode cX5_keysHeldBy 0 = .ok (.iconst 0, 1) := by decide +kernel
theorem dX5_keysHeldBy_1 : decode cX5_keysHeldBy 1 = .ok (.istore_n 2, 1) := by decide +kernel
theorem dX5_keysHeldBy_2 : decode cX5_keysHeldBy 2 = .ok (.iconst 0, 1) := by decide +kernel
theorem dX5_keysHeldBy_3 : decode cX5_keysHeldBy 3 = .ok (.istore_n 3, 1) := by decide +kernel
theorem dX5_keysHeldBy_4 : decode cX5_keysHeldBy 4 = .ok (.iload_n 3, 1) := by decide +kernel
theorem dX5_keysHeldBy_5 : decode cX5_keysHeldBy 5 = .ok (.aload_n 0, 1) := by decide +kernel
theorem dX5_keysHeldBy_6 : decode cX5_keysHeldBy 6 = .ok (.getfield 19, 3) := by decide +kernel
theorem dX5_keysHeldBy_9 : decode cX5_keysHeldBy 9 = .ok (.invokevirtual 43, 3) := by decide +kernel
theorem dX5_keysHeldBy_12 : decode cX5_keysHeldBy 12 = .ok (.if_icmp .ge 30, 3) := by decide +kernel
theorem dX5_keysHeldBy_15 : decode cX5_keysHeldBy 15 = .ok (.aload_n 0, 1) := by decide +kernel
theorem dX5_keysHeldBy_16 : decode cX5_keysHeldBy 16 = .ok (.getfield 19, 3) := by decide +kernel
theorem dX5_keysHeldBy_19 : decode cX5_keysHeldBy 19 = .ok (.iload_n 3, 1) := by decide +kernel
theorem dX5_keysHeldBy_20 : decode cX5_keysHeldBy 20 = .ok (.invokevirtual 63, 3) := by decide +kernel
theorem dX5_keysHeldBy_23 : decode cX5_keysHeldBy 23 = .ok (.checkcast 93, 3) := by decide +kernel
theorem dX5_keysHeldBy_26 : decode cX5_keysHeldBy 26 = .ok (.getfield 180, 3) := by decide +kernel
theorem dX5_keysHeldBy_29 : decode cX5_keysHeldBy 29 = .ok (.aload_n 1, 1) := by decide +kernel
theorem dX5_keysHeldBy_30 : decode cX5_keysHeldBy 30 = .ok (.if_acmp .ne 6, 3) := by decide +kernel
theorem dX5_keysHeldBy_33 : decode cX5_keysHeldBy 33 = .ok (.iinc 2 1, 3) := by decide +kernel
theorem dX5_keysHeldBy_36 : decode cX5_keysHeldBy 36 = .ok (.iinc 3 1, 3) := by decide +kernel
theorem dX5_keysHeldBy_39 : decode cX5_keysHeldBy 39 = .ok (.goto (-35), 3) := by decide +kernel
theorem dX5_keysHeldBy_42 : decode cX5_keysHeldBy 42 = .ok (.iload_n 2, 1) := by decide +kernel
theorem dX5_keysHeldBy_43 : decode cX5_keysHeldBy 43 = .ok (.ireturn, 1) := by decide +kernel
theorem dX5_lowestHeldKey_0 : decode cX5_lowestHeldKey 0 = .ok (.iconst 0, 1) := by decide +kernel
theorem dX5_lowestHeldKey_1 : decode cX5_lowestHeldKey 1 = .ok (.istore_n 3, 1) := by decide +kernel
theorem dX5_lowestHeldKey_2 : decode cX5_lowestHeldKey 2 = .ok (.iload_n 3, 1) := by decide +kernel
theorem dX5_lowestHeldKey_3 : decode cX5_lowestHeldKey 3 = .ok (.aload_n 0, 1) := by decide +kernel
theorem dX5_lowestHeldKey_4 : decode cX5_lowestHeldKey 4 = .ok (.getfield 19, 3) := by decide +kernel
theorem dX5_lowestHeldKey_7 : decode cX5_lowestHeldKey 7 = .ok (.invokevirtual 43, 3) := by decide +kernel
theorem dX5_lowestHeldKey_10 : decode cX5_lowestHeldKey 10 = .ok (.if_icmp .ge 43, 3) := by decide +kernel
theorem dX5_lowestHeldKey_13 : decode cX5_lowestHeldKey 13 = .ok (.aload_n 0, 1) := by decide +kernel
theorem dX5_lowestHeldKey_14 : decode cX5_lowestHeldKey 14 = .ok (.getfield 19, 3) := by decide +kernel
theorem dX5_lowestHeldKey_17 : decode cX5_lowestHeldKey 17 = .ok (.iload_n 3, 1) := by decide +kernel
theorem dX5_lowestHeldKey_18 : decode cX5_lowestHeldKey 18 = .ok (.invokevirtual 63, 3) := by decide +kernel
theorem dX5_lowestHeldKey_21 : decode cX5_lowestHeldKey 21 = .ok (.checkcast 93, 3) := by decide +kernel
theorem dX5_lowestHeldKey_24 : decode cX5_lowestHeldKey 24 = .ok (.astore 4, 2) := by decide +kernel
theorem dX5_lowestHeldKey_26 : decode cX5_lowestHeldKey 26 = .ok (.aload 4, 2) := by decide +kernel
theorem dX5_lowestHeldKey_28 : decode cX5_lowestHeldKey 28 = .ok (.getfield 180, 3) := by decide +kernel
theorem dX5_lowestHeldKey_31 : decode cX5_lowestHeldKey 31 = .ok (.aload_n 1, 1) := by decide +kernel
theorem dX5_lowestHeldKey_32 : decode cX5_lowestHeldKey 32 = .ok (.if_acmp .ne 15, 3) := by decide +kernel
theorem dX5_lowestHeldKey_35 : decode cX5_lowestHeldKey 35 = .ok (.aload 4, 2) := by decide +kernel
theorem dX5_lowestHeldKey_37 : decode cX5_lowestHeldKey 37 = .ok (.getfield 250, 3) := by decide +kernel
theorem dX5_lowestHeldKey_40 : decode cX5_lowestHeldKey 40 = .ok (.iload_n 2, 1) := by decide +kernel
theorem dX5_lowestHeldKey_41 : decode cX5_lowestHeldKey 41 = .ok (.if_icmp .ne 6, 3) := by decide +kernel
theorem dX5_lowestHeldKey_44 : decode cX5_lowestHeldKey 44 = .ok (.aload 4, 2) := by decide +kernel
theorem dX5_lowestHeldKey_46 : decode cX5_lowestHeldKey 46 = .ok (.areturn, 1) := by decide +kernel
theorem dX5_lowestHeldKey_47 : decode cX5_lowestHeldKey 47 = .ok (.iinc 3 1, 3) := by decide +kernel
theorem dX5_lowestHeldKey_50 : decode cX5_lowestHeldKey 50 = .ok (.goto (-48), 3) := by decide +kernel
theorem dX5_lowestHeldKey_53 : decode cX5_lowestHeldKey 53 = .ok (.aconst_null, 1) := by decide +kernel
theorem dX5_lowestHeldKey_54 : decode cX5_lowestHeldKey 54 = .ok (.areturn, 1) := by decide +kernel
theorem dX5_handOverKeys_0 : decode cX5_handOverKeys 0 = .ok (.iconst 0, 1) := by decide +kernel
theorem dX5_handOverKeys_1 : decode cX5_handOverKeys 1 = .ok (.istore_n 3, 1) := by decide +kernel
theorem dX5_handOverKeys_2 : decode cX5_handOverKeys 2 = .ok (.iload_n 3, 1) := by decide +kernel
theorem dX5_handOverKeys_3 : decode cX5_handOverKeys 3 = .ok (.aload_n 0, 1) := by decide +kernel
theorem dX5_handOverKeys_4 : decode cX5_handOverKeys 4 = .ok (.getfield 19, 3) := by decide +kernel
theorem dX5_handOverKeys_7 : decode cX5_handOverKeys 7 = .ok (.invokevirtual 43, 3) := by decide +kernel
theorem dX5_handOverKeys_10 : decode cX5_handOverKeys 10 = .ok (.if_icmp .ge 37, 3) := by decide +kernel
theorem dX5_handOverKeys_13 : decode cX5_handOverKeys 13 = .ok (.aload_n 0, 1) := by decide +kernel
theorem dX5_handOverKeys_14 : decode cX5_handOverKeys 14 = .ok (.getfield 19, 3) := by decide +kernel
theorem dX5_handOverKeys_17 : decode cX5_handOverKeys 17 = .ok (.iload_n 3, 1) := by decide +kernel
theorem dX5_handOverKeys_18 : decode cX5_handOverKeys 18 = .ok (.invokevirtual 63, 3) := by decide +kernel
theorem dX5_handOverKeys_21 : decode cX5_handOverKeys 21 = .ok (.checkcast 93, 3) := by decide +kernel
theorem dX5_handOverKeys_24 : decode cX5_handOverKeys 24 = .ok (.astore 4, 2) := by decide +kernel
theorem dX5_handOverKeys_26 : decode cX5_handOverKeys 26 = .ok (.aload 4, 2) := by decide +kernel
theorem dX5_handOverKeys_28 : decode cX5_handOverKeys 28 = .ok (.getfield 180, 3) := by decide +kernel
theorem dX5_handOverKeys_31 : decode cX5_handOverKeys 31 = .ok (.aload_n 1, 1) := by decide +kernel
theorem dX5_handOverKeys_32 : decode cX5_handOverKeys 32 = .ok (.if_acmp .ne 9, 3) := by decide +kernel
theorem dX5_handOverKeys_35 : decode cX5_handOverKeys 35 = .ok (.aload 4, 2) := by decide +kernel
theorem dX5_handOverKeys_37 : decode cX5_handOverKeys 37 = .ok (.aload_n 2, 1) := by decide +kernel
theorem dX5_handOverKeys_38 : decode cX5_handOverKeys 38 = .ok (.invokevirtual 172, 3) := by decide +kernel
theorem dX5_handOverKeys_41 : decode cX5_handOverKeys 41 = .ok (.iinc 3 1, 3) := by decide +kernel
theorem dX5_handOverKeys_44 : decode cX5_handOverKeys 44 = .ok (.goto (-42), 3) := by decide +kernel
theorem dX5_handOverKeys_47 : decode cX5_handOverKeys 47 = .ok (.return_, 1) := by decide +kernel
theorem dX5_closedLocksOf_0 : decode cX5_closedLocksOf 0 = .ok (.iconst 0, 1) := by decide +kernel
theorem dX5_closedLocksOf_1 : decode cX5_closedLocksOf 1 = .ok (.istore_n 2, 1) := by decide +kernel
theorem dX5_closedLocksOf_2 : decode cX5_closedLocksOf 2 = .ok (.iconst 0, 1) := by decide +kernel
theorem dX5_closedLocksOf_3 : decode cX5_closedLocksOf 3 = .ok (.istore_n 3, 1) := by decide +kernel
theorem dX5_closedLocksOf_4 : decode cX5_closedLocksOf 4 = .ok (.iload_n 3, 1) := by decide +kernel
theorem dX5_closedLocksOf_5 : decode cX5_closedLocksOf 5 = .ok (.aload_n 0, 1) := by decide +kernel
theorem dX5_closedLocksOf_6 : decode cX5_closedLocksOf 6 = .ok (.getfield 16, 3) := by decide +kernel
theorem dX5_closedLocksOf_9 : decode cX5_closedLocksOf 9 = .ok (.invokevirtual 43, 3) := by decide +kernel
theorem dX5_closedLocksOf_12 : decode cX5_closedLocksOf 12 = .ok (.if_icmp .ge 42, 3) := by decide +kernel
theorem dX5_closedLocksOf_15 : decode cX5_closedLocksOf 15 = .ok (.aload_n 0, 1) := by decide +kernel
theorem dX5_closedLocksOf_16 : decode cX5_closedLocksOf 16 = .ok (.getfield 16, 3) := by decide +kernel
theorem dX5_closedLocksOf_19 : decode cX5_closedLocksOf 19 = .ok (.iload_n 3, 1) := by decide +kernel
theorem dX5_closedLocksOf_20 : decode cX5_closedLocksOf 20 = .ok (.invokevirtual 63, 3) := by decide +kernel
theorem dX5_closedLocksOf_23 : decode cX5_closedLocksOf 23 = .ok (.checkcast 71, 3) := by decide +kernel
theorem dX5_closedLocksOf_26 : decode cX5_closedLocksOf 26 = .ok (.astore 4, 2) := by decide +kernel
theorem dX5_closedLocksOf_28 : decode cX5_closedLocksOf 28 = .ok (.aload 4, 2) := by decide +kernel
theorem dX5_closedLocksOf_30 : decode cX5_closedLocksOf 30 = .ok (.getfield 139, 3) := by decide +kernel
theorem dX5_closedLocksOf_33 : decode cX5_closedLocksOf 33 = .ok (.iload_n 1, 1) := by decide +kernel
theorem dX5_closedLocksOf_34 : decode cX5_closedLocksOf 34 = .ok (.if_icmp .ne 14, 3) := by decide +kernel
theorem dX5_closedLocksOf_37 : decode cX5_closedLocksOf 37 = .ok (.aload 4, 2) := by decide +kernel
theorem dX5_closedLocksOf_39 : decode cX5_closedLocksOf 39 = .ok (.getfield 124, 3) := by decide +kernel
theorem dX5_closedLocksOf_42 : decode cX5_closedLocksOf 42 = .ok (.ifCond .ne 6, 3) := by decide +kernel
theorem dX5_closedLocksOf_45 : decode cX5_closedLocksOf 45 = .ok (.iinc 2 1, 3) := by decide +kernel
theorem dX5_closedLocksOf_48 : decode cX5_closedLocksOf 48 = .ok (.iinc 3 1, 3) := by decide +kernel
theorem dX5_closedLocksOf_51 : decode cX5_closedLocksOf 51 = .ok (.goto (-47), 3) := by decide +kernel
theorem dX5_closedLocksOf_54 : decode cX5_closedLocksOf 54 = .ok (.iload_n 2, 1) := by decide +kernel
theorem dX5_closedLocksOf_55 : decode cX5_closedLocksOf 55 = .ok (.ireturn, 1) := by decide +kernel
theorem dX5_keysLeftOf_0 : decode cX5_keysLeftOf 0 = .ok (.iconst 0, 1) := by decide +kernel
theorem dX5_keysLeftOf_1 : decode cX5_keysLeftOf 1 = .ok (.istore_n 2, 1) := by decide +kernel
theorem dX5_keysLeftOf_2 : decode cX5_keysLeftOf 2 = .ok (.iconst 0, 1) := by decide +kernel
theorem dX5_keysLeftOf_3 : decode cX5_keysLeftOf 3 = .ok (.istore_n 3, 1) := by decide +kernel
theorem dX5_keysLeftOf_4 : decode cX5_keysLeftOf 4 = .ok (.iload_n 3, 1) := by decide +kernel
theorem dX5_keysLeftOf_5 : decode cX5_keysLeftOf 5 = .ok (.aload_n 0, 1) := by decide +kernel
theorem dX5_keysLeftOf_6 : decode cX5_keysLeftOf 6 = .ok (.getfield 19, 3) := by decide +kernel
theorem dX5_keysLeftOf_9 : decode cX5_keysLeftOf 9 = .ok (.invokevirtual 43, 3) := by decide +kernel
theorem dX5_keysLeftOf_12 : decode cX5_keysLeftOf 12 = .ok (.if_icmp .ge 43, 3) := by decide +kernel
theorem dX5_keysLeftOf_15 : decode cX5_keysLeftOf 15 = .ok (.aload_n 0, 1) := by decide +kernel
theorem dX5_keysLeftOf_16 : decode cX5_keysLeftOf 16 = .ok (.getfield 19, 3) := by decide +kernel
theorem dX5_keysLeftOf_19 : decode cX5_keysLeftOf 19 = .ok (.iload_n 3, 1) := by decide +kernel
theorem dX5_keysLeftOf_20 : decode cX5_keysLeftOf 20 = .ok (.invokevirtual 63, 3) := by decide +kernel
theorem dX5_keysLeftOf_23 : decode cX5_keysLeftOf 23 = .ok (.checkcast 93, 3) := by decide +kernel
theorem dX5_keysLeftOf_26 : decode cX5_keysLeftOf 26 = .ok (.astore 4, 2) := by decide +kernel
theorem dX5_keysLeftOf_28 : decode cX5_keysLeftOf 28 = .ok (.aload 4, 2) := by decide +kernel
theorem dX5_keysLeftOf_30 : decode cX5_keysLeftOf 30 = .ok (.getfield 250, 3) := by decide +kernel
theorem dX5_keysLeftOf_33 : decode cX5_keysLeftOf 33 = .ok (.iload_n 1, 1) := by decide +kernel
theorem dX5_keysLeftOf_34 : decode cX5_keysLeftOf 34 = .ok (.if_icmp .ne 15, 3) := by decide +kernel
theorem dX5_keysLeftOf_37 : decode cX5_keysLeftOf 37 = .ok (.aload 4, 2) := by decide +kernel
theorem dX5_keysLeftOf_39 : decode cX5_keysLeftOf 39 = .ok (.invokevirtual 251, 3) := by decide +kernel
theorem dX5_keysLeftOf_42 : decode cX5_keysLeftOf 42 = .ok (.iconst 2, 1) := by decide +kernel
theorem dX5_keysLeftOf_43 : decode cX5_keysLeftOf 43 = .ok (.if_icmp .eq 6, 3) := by decide +kernel
theorem dX5_keysLeftOf_46 : decode cX5_keysLeftOf 46 = .ok (.iinc 2 1, 3) := by decide +kernel
theorem dX5_keysLeftOf_49 : decode cX5_keysLeftOf 49 = .ok (.iinc 3 1, 3) := by decide +kernel
theorem dX5_keysLeftOf_52 : decode cX5_keysLeftOf 52 = .ok (.goto (-48), 3) := by decide +kernel
theorem dX5_keysLeftOf_55 : decode cX5_keysLeftOf 55 = .ok (.iload_n 2, 1) := by decide +kernel
theorem dX5_keysLeftOf_56 : decode cX5_keysLeftOf 56 = .ok (.ireturn, 1) := by decide +kernel
theorem dX5_openLocks_0 : decode cX5_openLocks 0 = .ok (.iconst 0, 1) := by decide +kernel
theorem dX5_openLocks_1 : decode cX5_openLocks 1 = .ok (.istore_n 1, 1) := by decide +kernel
theorem dX5_openLocks_2 : decode cX5_openLocks 2 = .ok (.iconst 0, 1) := by decide +kernel
theorem dX5_openLocks_3 : decode cX5_openLocks 3 = .ok (.istore_n 2, 1) := by decide +kernel
theorem dX5_openLocks_4 : decode cX5_openLocks 4 = .ok (.iload_n 2, 1) := by decide +kernel
theorem dX5_openLocks_5 : decode cX5_openLocks 5 = .ok (.aload_n 0, 1) := by decide +kernel
theorem dX5_openLocks_6 : decode cX5_openLocks 6 = .ok (.invokevirtual 43, 3) := by decide +kernel
theorem dX5_openLocks_9 : decode cX5_openLocks 9 = .ok (.if_icmp .ge 32, 3) := by decide +kernel
theorem dX5_openLocks_12 : decode cX5_openLocks 12 = .ok (.aload_n 0, 1) := by decide +kernel
theorem dX5_openLocks_13 : decode cX5_openLocks 13 = .ok (.iload_n 2, 1) := by decide +kernel
theorem dX5_openLocks_14 : decode cX5_openLocks 14 = .ok (.invokevirtual 63, 3) := by decide +kernel
theorem dX5_openLocks_17 : decode cX5_openLocks 17 = .ok (.checkcast 71, 3) := by decide +kernel
theorem dX5_openLocks_20 : decode cX5_openLocks 20 = .ok (.astore_n 3, 1) := by decide +kernel
theorem dX5_openLocks_21 : decode cX5_openLocks 21 = .ok (.aload_n 3, 1) := by decide +kernel
theorem dX5_openLocks_22 : decode cX5_openLocks 22 = .ok (.getfield 124, 3) := by decide +kernel
theorem dX5_openLocks_25 : decode cX5_openLocks 25 = .ok (.ifCond .eq 10, 3) := by decide +kernel
theorem dX5_openLocks_28 : decode cX5_openLocks 28 = .ok (.iload_n 1, 1) := by decide +kernel
theorem dX5_openLocks_29 : decode cX5_openLocks 29 = .ok (.aload_n 3, 1) := by decide +kernel
theorem dX5_openLocks_30 : decode cX5_openLocks 30 = .ok (.getfield 279, 3) := by decide +kernel
theorem dX5_openLocks_33 : decode cX5_openLocks 33 = .ok (.ior, 1) := by decide +kernel
theorem dX5_openLocks_34 : decode cX5_openLocks 34 = .ok (.istore_n 1, 1) := by decide +kernel
theorem dX5_openLocks_35 : decode cX5_openLocks 35 = .ok (.iinc 2 1, 3) := by decide +kernel
theorem dX5_openLocks_38 : decode cX5_openLocks 38 = .ok (.goto (-34), 3) := by decide +kernel
theorem dX5_openLocks_41 : decode cX5_openLocks 41 = .ok (.iload_n 1, 1) := by decide +kernel
theorem dX5_openLocks_42 : decode cX5_openLocks 42 = .ok (.ireturn, 1) := by decide +kernel
theorem dX5_spread_0 : decode cX5_spread 0 = .ok (.iload_n 1, 1) := by decide +kernel
theorem dX5_spread_1 : decode cX5_spread 1 = .ok (.istore_n 3, 1) := by decide +kernel
theorem dX5_spread_2 : decode cX5_spread 2 = .ok (.iconst 1, 1) := by decide +kernel
theorem dX5_spread_3 : decode cX5_spread 3 = .ok (.istore 4, 2) := by decide +kernel
theorem dX5_spread_5 : decode cX5_spread 5 = .ok (.iconst 0, 1) := by decide +kernel
theorem dX5_spread_6 : decode cX5_spread 6 = .ok (.istore 5, 2) := by decide +kernel
theorem dX5_spread_8 : decode cX5_spread 8 = .ok (.iload 4, 2) := by decide +kernel
theorem dX5_spread_10 : decode cX5_spread 10 = .ok (.ifCond .eq 77, 3) := by decide +kernel
theorem dX5_spread_13 : decode cX5_spread 13 = .ok (.iload 5, 2) := by decide +kernel
theorem dX5_spread_15 : decode cX5_spread 15 = .ok (.bipush 12, 2) := by decide +kernel
theorem dX5_spread_17 : decode cX5_spread 17 = .ok (.if_icmp .ge 70, 3) := by decide +kernel
theorem dX5_spread_20 : decode cX5_spread 20 = .ok (.iconst 0, 1) := by decide +kernel
theorem dX5_spread_21 : decode cX5_spread 21 = .ok (.istore 4, 2) := by decide +kernel
theorem dX5_spread_23 : decode cX5_spread 23 = .ok (.iconst 0, 1) := by decide +kernel
theorem dX5_spread_24 : decode cX5_spread 24 = .ok (.istore 6, 2) := by decide +kernel
theorem dX5_spread_26 : decode cX5_spread 26 = .ok (.iload 6, 2) := by decide +kernel
theorem dX5_spread_28 : decode cX5_spread 28 = .ok (.aload_n 0, 1) := by decide +kernel
theorem dX5_spread_29 : decode cX5_spread 29 = .ok (.invokevirtual 43, 3) := by decide +kernel
theorem dX5_spread_32 : decode cX5_spread 32 = .ok (.if_icmp .ge 49, 3) := by decide +kernel
theorem dX5_spread_35 : decode cX5_spread 35 = .ok (.aload_n 0, 1) := by decide +kernel
theorem dX5_spread_36 : decode cX5_spread 36 = .ok (.iload 6, 2) := by decide +kernel
theorem dX5_spread_38 : decode cX5_spread 38 = .ok (.invokevirtual 63, 3) := by decide +kernel
theorem dX5_spread_41 : decode cX5_spread 41 = .ok (.checkcast 71, 3) := by decide +kernel
theorem dX5_spread_44 : decode cX5_spread 44 = .ok (.astore 7, 2) := by decide +kernel
theorem dX5_spread_46 : decode cX5_spread 46 = .ok (.aload 7, 2) := by decide +kernel
theorem dX5_spread_48 : decode cX5_spread 48 = .ok (.iload_n 2, 1) := by decide +kernel
theorem dX5_spread_49 : decode cX5_spread 49 = .ok (.invokevirtual 282, 3) := by decide +kernel
theorem dX5_spread_52 : decode cX5_spread 52 = .ok (.ifCond .eq 23, 3) := by decide +kernel
theorem dX5_spread_55 : decode cX5_spread 55 = .ok (.aload 7, 2) := by decide +kernel
theorem dX5_spread_57 : decode cX5_spread 57 = .ok (.iload_n 3, 1) := by decide +kernel
theorem dX5_spread_58 : decode cX5_spread 58 = .ok (.invokevirtual 285, 3) := by decide +kernel
theorem dX5_spread_61 : decode cX5_spread 61 = .ok (.ifCond .eq 14, 3) := by decide +kernel
theorem dX5_spread_64 : decode cX5_spread 64 = .ok (.iload_n 3, 1) := by decide +kernel
theorem dX5_spread_65 : decode cX5_spread 65 = .ok (.aload 7, 2) := by decide +kernel
theorem dX5_spread_67 : decode cX5_spread 67 = .ok (.getfield 288, 3) := by decide +kernel
theorem dX5_spread_70 : decode cX5_spread 70 = .ok (.ior, 1) := by decide +kernel
theorem dX5_spread_71 : decode cX5_spread 71 = .ok (.istore_n 3, 1) := by decide +kernel
theorem dX5_spread_72 : decode cX5_spread 72 = .ok (.iconst 1, 1) := by decide +kernel
theorem dX5_spread_73 : decode cX5_spread 73 = .ok (.istore 4, 2) := by decide +kernel
theorem dX5_spread_75 : decode cX5_spread 75 = .ok (.iinc 6 1, 3) := by decide +kernel
theorem dX5_spread_78 : decode cX5_spread 78 = .ok (.goto (-52), 3) := by decide +kernel
theorem dX5_spread_81 : decode cX5_spread 81 = .ok (.iinc 5 1, 3) := by decide +kernel
theorem dX5_spread_84 : decode cX5_spread 84 = .ok (.goto (-76), 3) := by decide +kernel
theorem dX5_spread_87 : decode cX5_spread 87 = .ok (.iload_n 3, 1) := by decide +kernel
theorem dX5_spread_88 : decode cX5_spread 88 = .ok (.ireturn, 1) := by decide +kernel
theorem dX5_findArrivals_0 : decode cX5_findArrivals 0 = .ok (.iconst 0, 1) := by decide +kernel
theorem dX5_findArrivals_1 : decode cX5_findArrivals 1 = .ok (.istore_n 2, 1) := by decide +kernel
theorem dX5_findArrivals_2 : decode cX5_findArrivals 2 = .ok (.iload_n 2, 1) := by decide +kernel
theorem dX5_findArrivals_3 : decode cX5_findArrivals 3 = .ok (.aload_n 0, 1) := by decide +kernel
theorem dX5_findArrivals_4 : decode cX5_findArrivals 4 = .ok (.getfield 10, 3) := by decide +kernel
theorem dX5_findArrivals_7 : decode cX5_findArrivals 7 = .ok (.invokevirtual 43, 3) := by decide +kernel
theorem dX5_findArrivals_10 : decode cX5_findArrivals 10 = .ok (.if_icmp .ge 25, 3) := by decide +kernel
theorem dX5_findArrivals_13 : decode cX5_findArrivals 13 = .ok (.aload_n 0, 1) := by decide +kernel
theorem dX5_findArrivals_14 : decode cX5_findArrivals 14 = .ok (.getfield 10, 3) := by decide +kernel
theorem dX5_findArrivals_17 : decode cX5_findArrivals 17 = .ok (.iload_n 2, 1) := by decide +kernel
theorem dX5_findArrivals_18 : decode cX5_findArrivals 18 = .ok (.invokevirtual 63, 3) := by decide +kernel
theorem dX5_findArrivals_21 : decode cX5_findArrivals 21 = .ok (.checkcast 47, 3) := by decide +kernel
theorem dX5_findArrivals_24 : decode cX5_findArrivals 24 = .ok (.ldc 225, 2) := by decide +kernel
theorem dX5_findArrivals_26 : decode cX5_findArrivals 26 = .ok (.putfield 222, 3) := by decide +kernel
theorem dX5_findArrivals_29 : decode cX5_findArrivals 29 = .ok (.iinc 2 1, 3) := by decide +kernel
theorem dX5_findArrivals_32 : decode cX5_findArrivals 32 = .ok (.goto (-30), 3) := by decide +kernel
theorem dX5_findArrivals_35 : decode cX5_findArrivals 35 = .ok (.aload_n 1, 1) := by decide +kernel
theorem dX5_findArrivals_36 : decode cX5_findArrivals 36 = .ok (.getfield 117, 3) := by decide +kernel
theorem dX5_findArrivals_39 : decode cX5_findArrivals 39 = .ok (.aload_n 1, 1) := by decide +kernel
theorem dX5_findArrivals_40 : decode cX5_findArrivals 40 = .ok (.getfield 128, 3) := by decide +kernel
theorem dX5_findArrivals_43 : decode cX5_findArrivals 43 = .ok (.putfield 222, 3) := by decide +kernel
theorem dX5_findArrivals_46 : decode cX5_findArrivals 46 = .ok (.iconst 1, 1) := by decide +kernel
theorem dX5_findArrivals_47 : decode cX5_findArrivals 47 = .ok (.istore_n 2, 1) := by decide +kernel
theorem dX5_findArrivals_48 : decode cX5_findArrivals 48 = .ok (.iconst 0, 1) := by decide +kernel
theorem dX5_findArrivals_49 : decode cX5_findArrivals 49 = .ok (.istore_n 3, 1) := by decide +kernel
theorem dX5_findArrivals_50 : decode cX5_findArrivals 50 = .ok (.iload_n 2, 1) := by decide +kernel
theorem dX5_findArrivals_51 : decode cX5_findArrivals 51 = .ok (.ifCond .eq 98, 3) := by decide +kernel
theorem dX5_findArrivals_54 : decode cX5_findArrivals 54 = .ok (.iload_n 3, 1) := by decide +kernel
theorem dX5_findArrivals_55 : decode cX5_findArrivals 55 = .ok (.bipush 12, 2) := by decide +kernel
theorem dX5_findArrivals_57 : decode cX5_findArrivals 57 = .ok (.if_icmp .ge 92, 3) := by decide +kernel
theorem dX5_findArrivals_60 : decode cX5_findArrivals 60 = .ok (.iconst 0, 1) := by decide +kernel
theorem dX5_findArrivals_61 : decode cX5_findArrivals 61 = .ok (.istore_n 2, 1) := by decide +kernel
theorem dX5_findArrivals_62 : decode cX5_findArrivals 62 = .ok (.iconst 0, 1) := by decide +kernel
theorem dX5_findArrivals_63 : decode cX5_findArrivals 63 = .ok (.istore 4, 2) := by decide +kernel
theorem dX5_findArrivals_65 : decode cX5_findArrivals 65 = .ok (.iload 4, 2) := by decide +kernel
theorem dX5_findArrivals_67 : decode cX5_findArrivals 67 = .ok (.aload_n 0, 1) := by decide +kernel
theorem dX5_findArrivals_68 : decode cX5_findArrivals 68 = .ok (.getfield 16, 3) := by decide +kernel
theorem dX5_findArrivals_71 : decode cX5_findArrivals 71 = .ok (.invokevirtual 43, 3) := by decide +kernel
theorem dX5_findArrivals_74 : decode cX5_findArrivals 74 = .ok (.if_icmp .ge 69, 3) := by decide +kernel
theorem dX5_findArrivals_77 : decode cX5_findArrivals 77 = .ok (.aload_n 0, 1) := by decide +kernel
theorem dX5_findArrivals_78 : decode cX5_findArrivals 78 = .ok (.getfield 16, 3) := by decide +kernel
theorem dX5_findArrivals_81 : decode cX5_findArrivals 81 = .ok (.iload 4, 2) := by decide +kernel
theorem dX5_findArrivals_83 : decode cX5_findArrivals 83 = .ok (.invokevirtual 63, 3) := by decide +kernel
theorem dX5_findArrivals_86 : decode cX5_findArrivals 86 = .ok (.checkcast 71, 3) := by decide +kernel
theorem dX5_findArrivals_89 : decode cX5_findArrivals 89 = .ok (.astore 5, 2) := by decide +kernel
theorem dX5_findArrivals_91 : decode cX5_findArrivals 91 = .ok (.aload 5, 2) := by decide +kernel
theorem dX5_findArrivals_93 : decode cX5_findArrivals 93 = .ok (.getfield 124, 3) := by decide +kernel
theorem dX5_findArrivals_96 : decode cX5_findArrivals 96 = .ok (.ifCond .eq 41, 3) := by decide +kernel
theorem dX5_findArrivals_99 : decode cX5_findArrivals 99 = .ok (.aload 5, 2) := by decide +kernel
theorem dX5_findArrivals_101 : decode cX5_findArrivals 101 = .ok (.aload 5, 2) := by decide +kernel
theorem dX5_findArrivals_103 : decode cX5_findArrivals 103 = .ok (.getfield 237, 3) := by decide +kernel
theorem dX5_findArrivals_106 : decode cX5_findArrivals 106 = .ok (.aload 5, 2) := by decide +kernel
theorem dX5_findArrivals_108 : decode cX5_findArrivals 108 = .ok (.getfield 241, 3) := by decide +kernel
theorem dX5_findArrivals_111 : decode cX5_findArrivals 111 = .ok (.invokevirtual 291, 3) := by decide +kernel
theorem dX5_findArrivals_114 : decode cX5_findArrivals 114 = .ok (.ifCond .ne 21, 3) := by decide +kernel
theorem dX5_findArrivals_117 : decode cX5_findArrivals 117 = .ok (.aload 5, 2) := by decide +kernel
theorem dX5_findArrivals_119 : decode cX5_findArrivals 119 = .ok (.aload 5, 2) := by decide +kernel
theorem dX5_findArrivals_121 : decode cX5_findArrivals 121 = .ok (.getfield 241, 3) := by decide +kernel
theorem dX5_findArrivals_124 : decode cX5_findArrivals 124 = .ok (.aload 5, 2) := by decide +kernel
theorem dX5_findArrivals_126 : decode cX5_findArrivals 126 = .ok (.getfield 237, 3) := by decide +kernel
theorem dX5_findArrivals_129 : decode cX5_findArrivals 129 = .ok (.invokevirtual 291, 3) := by decide +kernel
theorem dX5_findArrivals_132 : decode cX5_findArrivals 132 = .ok (.ifCond .eq 5, 3) := by decide +kernel
theorem dX5_findArrivals_135 : decode cX5_findArrivals 135 = .ok (.iconst 1, 1) := by decide +kernel
theorem dX5_findArrivals_136 : decode cX5_findArrivals 136 = .ok (.istore_n 2, 1) := by decide +kernel
theorem dX5_findArrivals_137 : decode cX5_findArrivals 137 = .ok (.iinc 4 1, 3) := by decide +kernel
theorem dX5_findArrivals_140 : decode cX5_findArrivals 140 = .ok (.goto (-75), 3) := by decide +kernel
theorem dX5_findArrivals_143 : decode cX5_findArrivals 143 = .ok (.iinc 3 1, 3) := by decide +kernel
theorem dX5_findArrivals_146 : decode cX5_findArrivals 146 = .ok (.goto (-96), 3) := by decide +kernel
theorem dX5_findArrivals_149 : decode cX5_findArrivals 149 = .ok (.return_, 1) := by decide +kernel
end
section
theorem dX6_init_0 : decode cX6_init 0 = .ok (.aload_n 0, 1) := by decide +kernel
theorem dX6_init_1 : decode cX6_init 1 = .ok (.invokespecial 1, 3) := by decide +kernel
theorem dX6_init_4 : decode cX6_init 4 = .ok (.aload_n 0, 1) := by decide +kernel
theorem dX6_init_5 : decode cX6_init 5 = .ok (.bipush (-6), 2) := by decide +kernel
theorem dX6_init_7 : decode cX6_init 7 = .ok (.putfield 9, 3) := by decide +kernel
theorem dX6_init_10 : decode cX6_init 10 = .ok (.aload_n 0, 1) := by decide +kernel
theorem dX6_init_11 : decode cX6_init 11 = .ok (.bipush 16, 2) := by decide +kernel
theorem dX6_init_13 : decode cX6_init 13 = .ok (.newarray .int, 2) := by decide +kernel
theorem dX6_init_15 : decode cX6_init 15 = .ok (.putfield 13, 3) := by decide +kernel
theorem dX6_init_18 : decode cX6_init 18 = .ok (.aload_n 0, 1) := by decide +kernel
theorem dX6_init_19 : decode cX6_init 19 = .ok (.bipush 16, 2) := by decide +kernel
theorem dX6_init_21 : decode cX6_init 21 = .ok (.newarray .int, 2) := by decide +kernel
theorem dX6_init_23 : decode cX6_init 23 = .ok (.putfield 17, 3) := by decide +kernel
theorem dX6_init_26 : decode cX6_init 26 = .ok (.aload_n 0, 1) := by decide +kernel
theorem dX6_init_27 : decode cX6_init 27 = .ok (.bipush 16, 2) := by decide +kernel
theorem dX6_init_29 : decode cX6_init 29 = .ok (.newarray .int, 2) := by decide +kernel
theorem dX6_init_31 : decode cX6_init 31 = .ok (.putfield 20, 3) := by decide +kernel
theorem dX6_init_34 : decode cX6_init 34 = .ok (.aload_n 0, 1) := by decide +kernel
theorem dX6_init_35 : decode cX6_init 35 = .ok (.bipush 16, 2) := by decide +kernel
theorem dX6_init_37 : decode cX6_init 37 = .ok (.newarray .int, 2) := by decide +kernel
theorem dX6_init_39 : decode cX6_init 39 = .ok (.putfield 23, 3) := by decide +kernel
theorem dX6_init_42 : decode cX6_init 42 = .ok (.aload_n 0, 1) := by decide +kernel
theorem dX6_init_43 : decode cX6_init 43 = .ok (.bipush 16, 2) := by decide +kernel
theorem dX6_init_45 : decode cX6_init 45 = .ok (.newarray .int, 2) := by decide +kernel
theorem dX6_init_47 : decode cX6_init 47 = .ok (.putfield 26, 3) := by decide +kernel
theorem dX6_init_50 : decode cX6_init 50 = .ok (.aload_n 0, 1) := by decide +kernel
theorem dX6_init_51 : decode cX6_init 51 = .ok (.bipush 16, 2) := by decide +kernel
theorem dX6_init_53 : decode cX6_init 53 = .ok (.newarray .int, 2) := by decide +kernel
theorem dX6_init_55 : decode cX6_init 55 = .ok (.putfield 29, 3) := by decide +kernel
theorem dX6_init_58 : decode cX6_init 58 = .ok (.aload_n 0, 1) := by decide +kernel
theorem dX6_init_59 : decode cX6_init 59 = .ok (.bipush 16, 2) := by decide +kernel
theorem dX6_init_61 : decode cX6_init 61 = .ok (.newarray .int, 2) := by decide +kernel
theorem dX6_init_63 : decode cX6_init 63 = .ok (.putfield 32, 3) := by decide +kernel
theorem dX6_init_66 : decode cX6_init 66 = .ok (.aload_n 0, 1) := by decide +kernel
theorem dX6_init_67 : decode cX6_init 67 = .ok (.bipush 16, 2) := by decide +kernel
theorem dX6_init_69 : decode cX6_init 69 = .ok (.newarray .int, 2) := by decide +kernel
theorem dX6_init_71 : decode cX6_init 71 = .ok (.putfield 35, 3) := by decide +kernel
theorem dX6_init_74 : decode cX6_init 74 = .ok (.aload_n 0, 1) := by decide +kernel
theorem dX6_init_75 : decode cX6_init 75 = .ok (.bipush 16, 2) := by decide +kernel
theorem dX6_init_77 : decode cX6_init 77 = .ok (.newarray .int, 2) := by decide +kernel
theorem dX6_init_79 : decode cX6_init 79 = .ok (.putfield 38, 3) := by decide +kernel
theorem dX6_init_82 : decode cX6_init 82 = .ok (.aload_n 0, 1) := by decide +kernel
theorem dX6_init_83 : decode cX6_init 83 = .ok (.bipush 16, 2) := by decide +kernel
theorem dX6_init_85 : decode cX6_init 85 = .ok (.newarray .int, 2) := by decide +kernel
theorem dX6_init_87 : decode cX6_init 87 = .ok (.putfield 41, 3) := by decide +kernel
theorem dX6_init_90 : decode cX6_init 90 = .ok (.aload_n 0, 1) := by decide +kernel
theorem dX6_init_91 : decode cX6_init 91 = .ok (.bipush 6, 2) := by decide +kernel
theorem dX6_init_93 : decode cX6_init 93 = .ok (.newarray .int, 2) := by decide +kernel
theorem dX6_init_95 : decode cX6_init 95 = .ok (.putfield 44, 3) := by decide +kernel
theorem dX6_init_98 : decode cX6_init 98 = .ok (.aload_n 0, 1) := by decide +kernel
theorem dX6_init_99 : decode cX6_init 99 = .ok (.bipush 6, 2) := by decide +kernel
theorem dX6_init_101 : decode cX6_init 101 = .ok (.newarray .int, 2) := by decide +kernel
theorem dX6_init_103 : decode cX6_init 103 = .ok (.putfield 47, 3) := by decide +kernel
theorem dX6_init_106 : decode cX6_init 106 = .ok (.aload_n 0, 1) := by decide +kernel
theorem dX6_init_107 : decode cX6_init 107 = .ok (.bipush 6, 2) := by decide +kernel
theorem dX6_init_109 : decode cX6_init 109 = .ok (.newarray .int, 2) := by decide +kernel
theorem dX6_init_111 : decode cX6_init 111 = .ok (.putfield 50, 3) := by decide +kernel
theorem dX6_init_114 : decode cX6_init 114 = .ok (.aload_n 0, 1) := by decide +kernel
theorem dX6_init_115 : decode cX6_init 115 = .ok (.bipush 6, 2) := by decide +kernel
theorem dX6_init_117 : decode cX6_init 117 = .ok (.newarray .int, 2) := by decide +kernel
theorem dX6_init_119 : decode cX6_init 119 = .ok (.putfield 53, 3) := by decide +kernel
theorem dX6_init_122 : decode cX6_init 122 = .ok (.aload_n 0, 1) := by decide +kernel
theorem dX6_init_123 : decode cX6_init 123 = .ok (.bipush 6, 2) := by decide +kernel
theorem dX6_init_125 : decode cX6_init 125 = .ok (.newarray .int, 2) := by decide +kernel
theorem dX6_init_127 : decode cX6_init 127 = .ok (.putfield 56, 3) := by decide +kernel
theorem dX6_init_130 : decode cX6_init 130 = .ok (.aload_n 0, 1) := by decide +kernel
theorem dX6_init_131 : decode cX6_init 131 = .ok (.iconst 5, 1) := by decide +kernel
theorem dX6_init_132 : decode cX6_init 132 = .ok (.putfield 59, 3) := by decide +kernel
theorem dX6_init_135 : decode cX6_init 135 = .ok (.aload_n 0, 1) := by decide +kernel
theorem dX6_init_136 : decode cX6_init 136 = .ok (.iconst 5, 1) := by decide +kernel
theorem dX6_init_137 : decode cX6_init 137 = .ok (.putfield 62, 3) := by decide +kernel
theorem dX6_init_140 : decode cX6_init 140 = .ok (.aload_n 0, 1) := by decide +kernel
theorem dX6_init_141 : decode cX6_init 141 = .ok (.bipush 10, 2) := by decide +kernel
theorem dX6_init_143 : decode cX6_init 143 = .ok (.newarray .int, 2) := by decide +kernel
theorem dX6_init_145 : decode cX6_init 145 = .ok (.putfield 65, 3) := by decide +kernel
theorem dX6_init_148 : decode cX6_init 148 = .ok (.aload_n 0, 1) := by decide +kernel
theorem dX6_init_149 : decode cX6_init 149 = .ok (.sipush 1024, 3) := by decide +kernel
theorem dX6_init_152 : decode cX6_init 152 = .ok (.newarray .int, 2) := by decide +kernel
theorem dX6_init_154 : decode cX6_init 154 = .ok (.putfield 68, 3) := by decide +kernel
theorem dX6_init_157 : decode cX6_init 157 = .ok (.aload_n 0, 1) := by decide +kernel
theorem dX6_init_158 : decode cX6_init 158 = .ok (.sipush 1024, 3) := by decide +kernel
theorem dX6_init_161 : decode cX6_init 161 = .ok (.newarray .int, 2) := by decide +kernel
theorem dX6_init_163 : decode cX6_init 163 = .ok (.putfield 71, 3) := by decide +kernel
theorem dX6_init_166 : decode cX6_init 166 = .ok (.aload_n 0, 1) := by decide +kernel
theorem dX6_init_167 : decode cX6_init 167 = .ok (.sipush 1024, 3) := by decide +kernel
theorem dX6_init_170 : decode cX6_init 170 = .ok (.newarray .boolean, 2) := by decide +kernel
theorem dX6_init_172 : decode cX6_init 172 = .ok (.putfield 74, 3) := by decide +kernel
theorem dX6_init_175 : decode cX6_init 175 = .ok (.aload_n 0, 1) := by decide +kernel
theorem dX6_init_176 : decode cX6_init 176 = .ok (.sipush 1024, 3) := by decide +kernel
theorem dX6_init_179 : decode cX6_init 179 = .ok (.newarray .boolean, 2) := by decide +kernel
theorem dX6_init_181 : decode cX6_init 181 = .ok (.putfield 78, 3) := by decide +kernel
theorem dX6_init_184 : decode cX6_init 184 = .ok (.aload_n 0, 1) := by decide +kernel
theorem dX6_init_185 : decode cX6_init 185 = .ok (.bipush 10, 2) := by decide +kernel
theorem dX6_init_187 : decode cX6_init 187 = .ok (.newarray .int, 2) := by decide +kernel
theorem dX6_init_189 : decode cX6_init 189 = .ok (.putfield 81, 3) := by decide +kernel
theorem dX6_init_192 : decode cX6_init 192 = .ok (.aload_n 0, 1) := by decide +kernel
theorem dX6_init_193 : decode cX6_init 193 = .ok (.bipush 12, 2) := by decide +kernel
theorem dX6_init_195 : decode cX6_init 195 = .ok (.newarray .int, 2) := by decide +kernel
theorem dX6_init_197 : decode cX6_init 197 = .ok (.putfield 84, 3) := by decide +kernel
theorem dX6_init_200 : decode cX6_init 200 = .ok (.return_, 1) := by decide +kernel
theorem dX6_in_0 : decode cX6_in 0 = .ok (.iload_n 0, 1) := by decide +kernel
theorem dX6_in_1 : decode cX6_in 1 = .ok (.iload_n 1, 1) := by decide +kernel
theorem dX6_in_2 : decode cX6_in 2 = .ok (.if_icmp .lt 12, 3) := by decide +kernel
theorem dX6_in_5 : decode cX6_in 5 = .ok (.iload_n 0, 1) := by decide +kernel
theorem dX6_in_6 : decode cX6_in 6 = .ok (.iload_n 2, 1) := by decide +kernel
theorem dX6_in_7 : decode cX6_in 7 = .ok (.if_icmp .gt 7, 3) := by decide +kernel
theorem dX6_in_10 : decode cX6_in 10 = .ok (.iconst 1, 1) := by decide +kernel
theorem dX6_in_11 : decode cX6_in 11 = .ok (.goto 4, 3) := by decide +kernel
theorem dX6_in_14 : decode cX6_in 14 = .ok (.iconst 0, 1) := by decide +kernel
theorem dX6_in_15 : decode cX6_in 15 = .ok (.ireturn, 1) := by decide +kernel
theorem dX6_noRoom_0 : decode cX6_noRoom 0 = .ok (.iload_n 1, 1) := by decide +kernel
theorem dX6_noRoom_1 : decode cX6_noRoom 1 = .ok (.iconst 0, 1) := by decide +kernel
theorem dX6_noRoom_2 : decode cX6_noRoom 2 = .ok (.aload_n 0, 1) := by decide +kernel
theorem dX6_noRoom_3 : decode cX6_noRoom 3 = .ok (.getfield 87, 3) := by decide +kernel
theorem dX6_noRoom_6 : decode cX6_noRoom 6 = .ok (.iconst 1, 1) := by decide +kernel
theorem dX6_noRoom_7 : decode cX6_noRoom 7 = .ok (.isub, 1) := by decide +kernel
theorem dX6_noRoom_8 : decode cX6_noRoom 8 = .ok (.invokestatic 90, 3) := by decide +kernel
theorem dX6_noRoom_11 : decode cX6_noRoom 11 = .ok (.ifCond .ne 7, 3) := by decide +kernel
theorem dX6_noRoom_14 : decode cX6_noRoom 14 = .ok (.iconst 1, 1) := by decide +kernel
theorem dX6_noRoom_15 : decode cX6_noRoom 15 = .ok (.goto 4, 3) := by decide +kernel
theorem dX6_noRoom_18 : decode cX6_noRoom 18 = .ok (.iconst 0, 1) := by decide +kernel
theorem dX6_noRoom_19 : decode cX6_noRoom 19 = .ok (.ireturn, 1) := by decide +kernel
theorem dX6_noDoor_0 : decode cX6_noDoor 0 = .ok (.iload_n 1, 1) := by decide +kernel
theorem dX6_noDoor_1 : decode cX6_noDoor 1 = .ok (.iconst 0, 1) := by decide +kernel
theorem dX6_noDoor_2 : decode cX6_noDoor 2 = .ok (.aload_n 0, 1) := by decide +kernel
theorem dX6_noDoor_3 : decode cX6_noDoor 3 = .ok (.getfield 94, 3) := by decide +kernel
theorem dX6_noDoor_6 : decode cX6_noDoor 6 = .ok (.iconst 1, 1) := by decide +kernel
theorem dX6_noDoor_7 : decode cX6_noDoor 7 = .ok (.isub, 1) := by decide +kernel
theorem dX6_noDoor_8 : decode cX6_noDoor 8 = .ok (.invokestatic 90, 3) := by decide +kernel
theorem dX6_noDoor_11 : decode cX6_noDoor 11 = .ok (.ifCond .ne 7, 3) := by decide +kernel
theorem dX6_noDoor_14 : decode cX6_noDoor 14 = .ok (.iconst 1, 1) := by decide +kernel
theorem dX6_noDoor_15 : decode cX6_noDoor 15 = .ok (.goto 4, 3) := by decide +kernel
theorem dX6_noDoor_18 : decode cX6_noDoor 18 = .ok (.iconst 0, 1) := by decide +kernel
theorem dX6_noDoor_19 : decode cX6_noDoor 19 = .ok (.ireturn, 1) := by decide +kernel
theorem dX6_noKey_0 : decode cX6_noKey 0 = .ok (.iload_n 1, 1) := by decide +kernel
theorem dX6_noKey_1 : decode cX6_noKey 1 = .ok (.iconst 0, 1) := by decide +kernel
theorem dX6_noKey_2 : decode cX6_noKey 2 = .ok (.aload_n 0, 1) := by decide +kernel
theorem dX6_noKey_3 : decode cX6_noKey 3 = .ok (.getfield 97, 3) := by decide +kernel
theorem dX6_noKey_6 : decode cX6_noKey 6 = .ok (.iconst 1, 1) := by decide +kernel
theorem dX6_noKey_7 : decode cX6_noKey 7 = .ok (.isub, 1) := by decide +kernel
theorem dX6_noKey_8 : decode cX6_noKey 8 = .ok (.invokestatic 90, 3) := by decide +kernel
theorem dX6_noKey_11 : decode cX6_noKey 11 = .ok (.ifCond .ne 7, 3) := by decide +kernel
theorem dX6_noKey_14 : decode cX6_noKey 14 = .ok (.iconst 1, 1) := by decide +kernel
theorem dX6_noKey_15 : decode cX6_noKey 15 = .ok (.goto 4, 3) := by decide +kernel
theorem dX6_noKey_18 : decode cX6_noKey 18 = .ok (.iconst 0, 1) := by decide +kernel
theorem dX6_noKey_19 : decode cX6_noKey 19 = .ok (.ireturn, 1) := by decide +kernel
theorem dX6_noGroup_0 : decode cX6_noGroup 0 = .ok (.iload_n 1, 1) := by decide +kernel
theorem dX6_noGroup_1 : decode cX6_noGroup 1 = .ok (.iconst 0, 1) := by decide +kernel
theorem dX6_noGroup_2 : decode cX6_noGroup 2 = .ok (.aload_n 0, 1) := by decide +kernel
theorem dX6_noGroup_3 : decode cX6_noGroup 3 = .ok (.getfield 100, 3) := by decide +kernel
theorem dX6_noGroup_6 : decode cX6_noGroup 6 = .ok (.iconst 1, 1) := by decide +kernel
theorem dX6_noGroup_7 : decode cX6_noGroup 7 = .ok (.isub, 1) := by decide +kernel
theorem dX6_noGroup_8 : decode cX6_noGroup 8 = .ok (.invokestatic 90, 3) := by decide +kernel
theorem dX6_noGroup_11 : decode cX6_noGroup 11 = .ok (.ifCond .ne 7, 3) := by decide +kernel
theorem dX6_noGroup_14 : decode cX6_noGroup 14 = .ok (.iconst 1, 1) := by decide +kernel
theorem dX6_noGroup_15 : decode cX6_noGroup 15 = .ok (.goto 4, 3) := by decide +kernel
theorem dX6_noGroup_18 : decode cX6_noGroup 18 = .ok (.iconst 0, 1) := by decide +kernel
theorem dX6_noGroup_19 : decode cX6_noGroup 19 = .ok (.ireturn, 1) := by decide +kernel
theorem dX6_addRoom_0 : decode cX6_addRoom 0 = .ok (.aload_n 0, 1) := by decide +kernel
theorem dX6_addRoom_1 : decode cX6_addRoom 1 = .ok (.getfield 87, 3) := by decide +kernel
theorem dX6_addRoom_4 : decode cX6_addRoom 4 = .ok (.bipush 12, 2) := by decide +kernel
theorem dX6_addRoom_6 : decode cX6_addRoom 6 = .ok (.if_icmp .ne 6, 3) := by decide +kernel
theorem dX6_addRoom_9 : decode cX6_addRoom 9 = .ok (.bipush (-3), 2) := by decide +kernel
theorem dX6_addRoom_11 : decode cX6_addRoom 11 = .ok (.ireturn, 1) := by decide +kernel
theorem dX6_addRoom_12 : decode cX6_addRoom 12 = .ok (.aload_n 0, 1) := by decide +kernel
theorem dX6_addRoom_13 : decode cX6_addRoom 13 = .ok (.dup, 1) := by decide +kernel
theorem dX6_addRoom_14 : decode cX6_addRoom 14 = .ok (.getfield 87, 3) := by decide +kernel
theorem dX6_addRoom_17 : decode cX6_addRoom 17 = .ok (.iconst 1, 1) := by decide +kernel
theorem dX6_addRoom_18 : decode cX6_addRoom 18 = .ok (.iadd, 1) := by decide +kernel
theorem dX6_addRoom_19 : decode cX6_addRoom 19 = .ok (.putfield 87, 3) := by decide +kernel
theorem dX6_addRoom_22 : decode cX6_addRoom 22 = .ok (.aload_n 0, 1) := by decide +kernel
theorem dX6_addRoom_23 : decode cX6_addRoom 23 = .ok (.getfield 87, 3) := by decide +kernel
theorem dX6_addRoom_26 : decode cX6_addRoom 26 = .ok (.iconst 1, 1) := by decide +kernel
theorem dX6_addRoom_27 : decode cX6_addRoom 27 = .ok (.isub, 1) := by decide +kernel
theorem dX6_addRoom_28 : decode cX6_addRoom 28 = .ok (.ireturn, 1) := by decide +kernel
theorem dX6_setExit_0 : decode cX6_setExit 0 = .ok (.aload_n 0, 1) := by decide +kernel
theorem dX6_setExit_1 : decode cX6_setExit 1 = .ok (.iload_n 1, 1) := by decide +kernel
theorem dX6_setExit_2 : decode cX6_setExit 2 = .ok (.invokevirtual 103, 3) := by decide +kernel
theorem dX6_setExit_5 : decode cX6_setExit 5 = .ok (.ifCond .eq 5, 3) := by decide +kernel
theorem dX6_setExit_8 : decode cX6_setExit 8 = .ok (.iconst (-1), 1) := by decide +kernel
theorem dX6_setExit_9 : decode cX6_setExit 9 = .ok (.ireturn, 1) := by decide +kernel
theorem dX6_setExit_10 : decode cX6_setExit 10 = .ok (.aload_n 0, 1) := by decide +kernel
theorem dX6_setExit_11 : decode cX6_setExit 11 = .ok (.getfield 9, 3) := by decide +kernel
theorem dX6_setExit_14 : decode cX6_setExit 14 = .ok (.istore_n 2, 1) := by decide +kernel
theorem dX6_setExit_15 : decode cX6_setExit 15 = .ok (.aload_n 0, 1) := by decide +kernel
theorem dX6_setExit_16 : decode cX6_setExit 16 = .ok (.iload_n 1, 1) := by decide +kernel
theorem dX6_setExit_17 : decode cX6_setExit 17 = .ok (.putfield 9, 3) := by decide +kernel
theorem dX6_setExit_20 : decode cX6_setExit 20 = .ok (.iload_n 2, 1) := by decide +kernel
theorem dX6_setExit_21 : decode cX6_setExit 21 = .ok (.ireturn, 1) := by decide +kernel
theorem dX6_putDoor_0 : decode cX6_putDoor 0 = .ok (.aload_n 0, 1) := by decide +kernel
theorem dX6_putDoor_1 : decode cX6_putDoor 1 = .ok (.getfield 13, 3) := by decide +kernel
theorem dX6_putDoor_4 : decode cX6_putDoor 4 = .ok (.aload_n 0, 1) := by decide +kernel
theorem dX6_putDoor_5 : decode cX6_putDoor 5 = .ok (.getfield 94, 3) := by decide +kernel
theorem dX6_putDoor_8 : decode cX6_putDoor 8 = .ok (.iload_n 1, 1) := by decide +kernel
theorem dX6_putDoor_9 : decode cX6_putDoor 9 = .ok (.iload_n 2, 1) := by decide +kernel
theorem dX6_putDoor_10 : decode cX6_putDoor 10 = .ok (.if_icmp .ge 7, 3) := by decide +kernel
theorem dX6_putDoor_13 : decode cX6_putDoor 13 = .ok (.iload_n 1, 1) := by decide +kernel
theorem dX6_putDoor_14 : decode cX6_putDoor 14 = .ok (.goto 4, 3) := by decide +kernel
theorem dX6_putDoor_17 : decode cX6_putDoor 17 = .ok (.iload_n 2, 1) := by decide +kernel
theorem dX6_putDoor_18 : decode cX6_putDoor 18 = .ok (.iastore, 1) := by decide +kernel
theorem dX6_putDoor_19 : decode cX6_putDoor 19 = .ok (.aload_n 0, 1) := by decide +kernel
theorem dX6_putDoor_20 : decode cX6_putDoor 20 = .ok (.getfield 17, 3) := by decide +kernel
theorem dX6_putDoor_23 : decode cX6_putDoor 23 = .ok (.aload_n 0, 1) := by decide +kernel
theorem dX6_putDoor_24 : decode cX6_putDoor 24 = .ok (.getfield 94, 3) := by decide +kernel
theorem dX6_putDoor_27 : decode cX6_putDoor 27 = .ok (.iload_n 1, 1) := by decide +kernel
theorem dX6_putDoor_28 : decode cX6_putDoor 28 = .ok (.iload_n 2, 1) := by decide +kernel
theorem dX6_putDoor_29 : decode cX6_putDoor 29 = .ok (.if_icmp .ge 7, 3) := by decide +kernel
theorem dX6_putDoor_32 : decode cX6_putDoor 32 = .ok (.iload_n 2, 1) := by decide +kernel
theorem dX6_putDoor_33 : decode cX6_putDoor 33 = .ok (.goto 4, 3) := by decide +kernel
theorem dX6_putDoor_36 : decode cX6_putDoor 36 = .ok (.iload_n 1, 1) := by decide +kernel
theorem dX6_putDoor_37 : decode cX6_putDoor 37 = .ok (.iastore, 1) := by decide +kernel
theorem dX6_putDoor_38 : decode cX6_putDoor 38 = .ok (.aload_n 0, 1) := by decide +kernel
theorem dX6_putDoor_39 : decode cX6_putDoor 39 = .ok (.getfield 20, 3) := by decide +kernel
theorem dX6_putDoor_42 : decode cX6_putDoor 42 = .ok (.aload_n 0, 1) := by decide +kernel
theorem dX6_putDoor_43 : decode cX6_putDoor 43 = .ok (.getfield 94, 3) := by decide +kernel
theorem dX6_putDoor_46 : decode cX6_putDoor 46 = .ok (.iload_n 3, 1) := by decide +kernel
theorem dX6_putDoor_47 : decode cX6_putDoor 47 = .ok (.iastore, 1) := by decide +kernel
theorem dX6_putDoor_48 : decode cX6_putDoor 48 = .ok (.aload_n 0, 1) := by decide +kernel
theorem dX6_putDoor_49 : decode cX6_putDoor 49 = .ok (.getfield 23, 3) := by decide +kernel
theorem dX6_putDoor_52 : decode cX6_putDoor 52 = .ok (.aload_n 0, 1) := by decide +kernel
theorem dX6_putDoor_53 : decode cX6_putDoor 53 = .ok (.getfield 94, 3) := by decide +kernel
theorem dX6_putDoor_56 : decode cX6_putDoor 56 = .ok (.iload 4, 2) := by decide +kernel
theorem dX6_putDoor_58 : decode cX6_putDoor 58 = .ok (.iastore, 1) := by decide +kernel
theorem dX6_putDoor_59 : decode cX6_putDoor 59 = .ok (.aload_n 0, 1) := by decide +kernel
theorem dX6_putDoor_60 : decode cX6_putDoor 60 = .ok (.getfield 26, 3) := by decide +kernel
theorem dX6_putDoor_63 : decode cX6_putDoor 63 = .ok (.aload_n 0, 1) := by decide +kernel
theorem dX6_putDoor_64 : decode cX6_putDoor 64 = .ok (.getfield 94, 3) := by decide +kernel
theorem dX6_putDoor_67 : decode cX6_putDoor 67 = .ok (.iload 5, 2) := by decide +kernel
theorem dX6_putDoor_69 : decode cX6_putDoor 69 = .ok (.iastore, 1) := by decide +kernel
theorem dX6_putDoor_70 : decode cX6_putDoor 70 = .ok (.aload_n 0, 1) := by decide +kernel
theorem dX6_putDoor_71 : decode cX6_putDoor 71 = .ok (.getfield 29, 3) := by decide +kernel
theorem dX6_putDoor_74 : decode cX6_putDoor 74 = .ok (.aload_n 0, 1) := by decide +kernel
theorem dX6_putDoor_75 : decode cX6_putDoor 75 = .ok (.getfield 94, 3) := by decide +kernel
theorem dX6_putDoor_78 : decode cX6_putDoor 78 = .ok (.iload 4, 2) := by decide +kernel
theorem dX6_putDoor_80 : decode cX6_putDoor 80 = .ok (.ifCond .ge 7, 3) := by decide +kernel
theorem dX6_putDoor_83 : decode cX6_putDoor 83 = .ok (.iconst 0, 1) := by decide +kernel
theorem dX6_putDoor_84 : decode cX6_putDoor 84 = .ok (.goto 5, 3) := by decide +kernel
theorem dX6_putDoor_87 : decode cX6_putDoor 87 = .ok (.bipush (-6), 2) := by decide +kernel
theorem dX6_putDoor_89 : decode cX6_putDoor 89 = .ok (.iastore, 1) := by decide +kernel
theorem dX6_putDoor_90 : decode cX6_putDoor 90 = .ok (.aload_n 0, 1) := by decide +kernel
theorem dX6_putDoor_91 : decode cX6_putDoor 91 = .ok (.dup, 1) := by decide +kernel
theorem dX6_putDoor_92 : decode cX6_putDoor 92 = .ok (.getfield 94, 3) := by decide +kernel
theorem dX6_putDoor_95 : decode cX6_putDoor 95 = .ok (.iconst 1, 1) := by decide +kernel
theorem dX6_putDoor_96 : decode cX6_putDoor 96 = .ok (.iadd, 1) := by decide +kernel
theorem dX6_putDoor_97 : decode cX6_putDoor 97 = .ok (.putfield 94, 3) := by decide +kernel
theorem dX6_putDoor_100 : decode cX6_putDoor 100 = .ok (.aload_n 0, 1) := by decide +kernel
theorem dX6_putDoor_101 : decode cX6_putDoor 101 = .ok (.getfield 94, 3) := by decide +kernel
theorem dX6_putDoor_104 : decode cX6_putDoor 104 = .ok (.iconst 1, 1) := by decide +kernel
theorem dX6_putDoor_105 : decode cX6_putDoor 105 = .ok (.isub, 1) := by decide +kernel
theorem dX6_putDoor_106 : decode cX6_putDoor 106 = .ok (.ireturn, 1) := by decide +kernel
theorem dX6_addDoor_0 : decode cX6_addDoor 0 = .ok (.aload_n 0, 1) := by decide +kernel
theorem dX6_addDoor_1 : decode cX6_addDoor 1 = .ok (.iload_n 1, 1) := by decide +kernel
theorem dX6_addDoor_2 : decode cX6_addDoor 2 = .ok (.invokevirtual 103, 3) := by decide +kernel
theorem dX6_addDoor_5 : decode cX6_addDoor 5 = .ok (.ifCond .ne 11, 3) := by decide +kernel
theorem dX6_addDoor_8 : decode cX6_addDoor 8 = .ok (.aload_n 0, 1) := by decide +kernel
theorem dX6_addDoor_9 : decode cX6_addDoor 9 = .ok (.iload_n 2, 1) := by decide +kernel
theorem dX6_addDoor_10 : decode cX6_addDoor 10 = .ok (.invokevirtual 103, 3) := by decide +kernel
theorem dX6_addDoor_13 : decode cX6_addDoor 13 = .ok (.ifCond .eq 5, 3) := by decide +kernel
theorem dX6_addDoor_16 : decode cX6_addDoor 16 = .ok (.iconst (-1), 1) := by decide +kernel
theorem dX6_addDoor_17 : decode cX6_addDoor 17 = .ok (.ireturn, 1) := by decide +kernel
theorem dX6_addDoor_18 : decode cX6_addDoor 18 = .ok (.iload_n 1, 1) := by decide +kernel
theorem dX6_addDoor_19 : decode cX6_addDoor 19 = .ok (.iload_n 2, 1) := by decide +kernel
theorem dX6_addDoor_20 : decode cX6_addDoor 20 = .ok (.if_icmp .eq 13, 3) := by decide +kernel
theorem dX6_addDoor_23 : decode cX6_addDoor 23 = .ok (.iload_n 3, 1) := by decide +kernel
theorem dX6_addDoor_24 : decode cX6_addDoor 24 = .ok (.iconst 1, 1) := by decide +kernel
theorem dX6_addDoor_25 : decode cX6_addDoor 25 = .ok (.bipush 30, 2) := by decide +kernel
theorem dX6_addDoor_27 : decode cX6_addDoor 27 = .ok (.invokestatic 90, 3) := by decide +kernel
theorem dX6_addDoor_30 : decode cX6_addDoor 30 = .ok (.ifCond .ne 6, 3) := by decide +kernel
theorem dX6_addDoor_33 : decode cX6_addDoor 33 = .ok (.bipush (-2), 2) := by decide +kernel
theorem dX6_addDoor_35 : decode cX6_addDoor 35 = .ok (.ireturn, 1) := by decide +kernel
theorem dX6_addDoor_36 : decode cX6_addDoor 36 = .ok (.aload_n 0, 1) := by decide +kernel
theorem dX6_addDoor_37 : decode cX6_addDoor 37 = .ok (.getfield 94, 3) := by decide +kernel
theorem dX6_addDoor_40 : decode cX6_addDoor 40 = .ok (.bipush 16, 2) := by decide +kernel
theorem dX6_addDoor_42 : decode cX6_addDoor 42 = .ok (.if_icmp .ne 8, 3) := by decide +kernel
theorem dX6_addDoor_45 : decode cX6_addDoor 45 = .ok (.bipush (-3), 2) := by decide +kernel
theorem dX6_addDoor_47 : decode cX6_addDoor 47 = .ok (.goto 13, 3) := by decide +kernel
theorem dX6_addDoor_50 : decode cX6_addDoor 50 = .ok (.aload_n 0, 1) := by decide +kernel
theorem dX6_addDoor_51 : decode cX6_addDoor 51 = .ok (.iload_n 1, 1) := by decide +kernel
theorem dX6_addDoor_52 : decode cX6_addDoor 52 = .ok (.iload_n 2, 1) := by decide +kernel
theorem dX6_addDoor_53 : decode cX6_addDoor 53 = .ok (.iload_n 3, 1) := by decide +kernel
theorem dX6_addDoor_54 : decode cX6_addDoor 54 = .ok (.bipush (-6), 2) := by decide +kernel
theorem dX6_addDoor_56 : decode cX6_addDoor 56 = .ok (.iconst 0, 1) := by decide +kernel
theorem dX6_addDoor_57 : decode cX6_addDoor 57 = .ok (.invokevirtual 107, 3) := by decide +kernel
theorem dX6_addDoor_60 : decode cX6_addDoor 60 = .ok (.ireturn, 1) := by decide +kernel
theorem dX6_locks_0 : decode cX6_locks 0 = .ok (.iconst 0, 1) := by decide +kernel
theorem dX6_locks_1 : decode cX6_locks 1 = .ok (.istore_n 1, 1) := by decide +kernel
theorem dX6_locks_2 : decode cX6_locks 2 = .ok (.iconst 0, 1) := by decide +kernel
theorem dX6_locks_3 : decode cX6_locks 3 = .ok (.istore_n 2, 1) := by decide +kernel
theorem dX6_locks_4 : decode cX6_locks 4 = .ok (.iload_n 2, 1) := by decide +kernel
theorem dX6_locks_5 : decode cX6_locks 5 = .ok (.aload_n 0, 1) := by decide +kernel
theorem dX6_locks_6 : decode cX6_locks 6 = .ok (.getfield 94, 3) := by decide +kernel
theorem dX6_locks_9 : decode cX6_locks 9 = .ok (.if_icmp .ge 26, 3) := by decide +kernel
theorem dX6_locks_12 : decode cX6_locks 12 = .ok (.iload_n 1, 1) := by decide +kernel
theorem dX6_locks_13 : decode cX6_locks 13 = .ok (.aload_n 0, 1) := by decide +kernel
theorem dX6_locks_14 : decode cX6_locks 14 = .ok (.getfield 23, 3) := by decide +kernel
theorem dX6_locks_17 : decode cX6_locks 17 = .ok (.iload_n 2, 1) := by decide +kernel
theorem dX6_locks_18 : decode cX6_locks 18 = .ok (.iaload, 1) := by decide +kernel
theorem dX6_locks_19 : decode cX6_locks 19 = .ok (.ifCond .lt 7, 3) := by decide +kernel
theorem dX6_locks_22 : decode cX6_locks 22 = .ok (.iconst 1, 1) := by decide +kernel
theorem dX6_locks_23 : decode cX6_locks 23 = .ok (.goto 4, 3) := by decide +kernel
theorem dX6_locks_26 : decode cX6_locks 26 = .ok (.iconst 0, 1) := by decide +kernel
theorem dX6_locks_27 : decode cX6_locks 27 = .ok (.iadd, 1) := by decide +kernel
theorem dX6_locks_28 : decode cX6_locks 28 = .ok (.istore_n 1, 1) := by decide +kernel
theorem dX6_locks_29 : decode cX6_locks 29 = .ok (.iinc 2 1, 3) := by decide +kernel
theorem dX6_locks_32 : decode cX6_locks 32 = .ok (.goto (-28), 3) := by decide +kernel
theorem dX6_locks_35 : decode cX6_locks 35 = .ok (.iload_n 1, 1) := by decide +kernel
theorem dX6_locks_36 : decode cX6_locks 36 = .ok (.ireturn, 1) := by decide +kernel
theorem dX6_addLock_0 : decode cX6_addLock 0 = .ok (.aload_n 0, 1) := by decide +kernel
theorem dX6_addLock_1 : decode cX6_addLock 1 = .ok (.iload_n 1, 1) := by decide +kernel
theorem dX6_addLock_2 : decode cX6_addLock 2 = .ok (.invokevirtual 103, 3) := by decide +kernel
theorem dX6_addLock_5 : decode cX6_addLock 5 = .ok (.ifCond .ne 11, 3) := by decide +kernel
theorem dX6_addLock_8 : decode cX6_addLock 8 = .ok (.aload_n 0, 1) := by decide +kernel
theorem dX6_addLock_9 : decode cX6_addLock 9 = .ok (.iload_n 2, 1) := by decide +kernel
theorem dX6_addLock_10 : decode cX6_addLock 10 = .ok (.invokevirtual 103, 3) := by decide +kernel
theorem dX6_addLock_13 : decode cX6_addLock 13 = .ok (.ifCond .eq 5, 3) := by decide +kernel
theorem dX6_addLock_16 : decode cX6_addLock 16 = .ok (.iconst (-1), 1) := by decide +kernel
theorem dX6_addLock_17 : decode cX6_addLock 17 = .ok (.ireturn, 1) := by decide +kernel
theorem dX6_addLock_18 : decode cX6_addLock 18 = .ok (.iload_n 1, 1) := by decide +kernel
theorem dX6_addLock_19 : decode cX6_addLock 19 = .ok (.iload_n 2, 1) := by decide +kernel
theorem dX6_addLock_20 : decode cX6_addLock 20 = .ok (.if_icmp .eq 34, 3) := by decide +kernel
theorem dX6_addLock_23 : decode cX6_addLock 23 = .ok (.iload_n 3, 1) := by decide +kernel
theorem dX6_addLock_24 : decode cX6_addLock 24 = .ok (.iconst 1, 1) := by decide +kernel
theorem dX6_addLock_25 : decode cX6_addLock 25 = .ok (.bipush 30, 2) := by decide +kernel
theorem dX6_addLock_27 : decode cX6_addLock 27 = .ok (.invokestatic 90, 3) := by decide +kernel
theorem dX6_addLock_30 : decode cX6_addLock 30 = .ok (.ifCond .eq 24, 3) := by decide +kernel
theorem dX6_addLock_33 : decode cX6_addLock 33 = .ok (.iload 4, 2) := by decide +kernel
theorem dX6_addLock_35 : decode cX6_addLock 35 = .ok (.iconst 0, 1) := by decide +kernel
theorem dX6_addLock_36 : decode cX6_addLock 36 = .ok (.iconst 5, 1) := by decide +kernel
theorem dX6_addLock_37 : decode cX6_addLock 37 = .ok (.invokestatic 90, 3) := by decide +kernel
theorem dX6_addLock_40 : decode cX6_addLock 40 = .ok (.ifCond .eq 14, 3) := by decide +kernel
theorem dX6_addLock_43 : decode cX6_addLock 43 = .ok (.iload 5, 2) := by decide +kernel
theorem dX6_addLock_45 : decode cX6_addLock 45 = .ok (.iconst 1, 1) := by decide +kernel
theorem dX6_addLock_46 : decode cX6_addLock 46 = .ok (.bipush 60, 2) := by decide +kernel
theorem dX6_addLock_48 : decode cX6_addLock 48 = .ok (.invokestatic 90, 3) := by decide +kernel
theorem dX6_addLock_51 : decode cX6_addLock 51 = .ok (.ifCond .ne 6, 3) := by decide +kernel
theorem dX6_addLock_54 : decode cX6_addLock 54 = .ok (.bipush (-2), 2) := by decide +kernel
theorem dX6_addLock_56 : decode cX6_addLock 56 = .ok (.ireturn, 1) := by decide +kernel
theorem dX6_addLock_57 : decode cX6_addLock 57 = .ok (.aload_n 0, 1) := by decide +kernel
theorem dX6_addLock_58 : decode cX6_addLock 58 = .ok (.getfield 94, 3) := by decide +kernel
theorem dX6_addLock_61 : decode cX6_addLock 61 = .ok (.bipush 16, 2) := by decide +kernel
theorem dX6_addLock_63 : decode cX6_addLock 63 = .ok (.if_icmp .eq 12, 3) := by decide +kernel
theorem dX6_addLock_66 : decode cX6_addLock 66 = .ok (.aload_n 0, 1) := by decide +kernel
theorem dX6_addLock_67 : decode cX6_addLock 67 = .ok (.invokevirtual 111, 3) := by decide +kernel
theorem dX6_addLock_70 : decode cX6_addLock 70 = .ok (.bipush 10, 2) := by decide +kernel
theorem dX6_addLock_72 : decode cX6_addLock 72 = .ok (.if_icmp .ne 8, 3) := by decide +kernel
theorem dX6_addLock_75 : decode cX6_addLock 75 = .ok (.bipush (-3), 2) := by decide +kernel
theorem dX6_addLock_77 : decode cX6_addLock 77 = .ok (.goto 14, 3) := by decide +kernel
theorem dX6_addLock_80 : decode cX6_addLock 80 = .ok (.aload_n 0, 1) := by decide +kernel
theorem dX6_addLock_81 : decode cX6_addLock 81 = .ok (.iload_n 1, 1) := by decide +kernel
theorem dX6_addLock_82 : decode cX6_addLock 82 = .ok (.iload_n 2, 1) := by decide +kernel
theorem dX6_addLock_83 : decode cX6_addLock 83 = .ok (.iload_n 3, 1) := by decide +kernel
theorem dX6_addLock_84 : decode cX6_addLock 84 = .ok (.iload 4, 2) := by decide +kernel
theorem dX6_addLock_86 : decode cX6_addLock 86 = .ok (.iload 5, 2) := by decide +kernel
theorem dX6_addLock_88 : decode cX6_addLock 88 = .ok (.invokevirtual 107, 3) := by decide +kernel
theorem dX6_addLock_91 : decode cX6_addLock 91 = .ok (.ireturn, 1) := by decide +kernel
theorem dX6_addKey_0 : decode cX6_addKey 0 = .ok (.aload_n 0, 1) := by decide +kernel
theorem dX6_addKey_1 : decode cX6_addKey 1 = .ok (.iload_n 1, 1) := by decide +kernel
theorem dX6_addKey_2 : decode cX6_addKey 2 = .ok (.invokevirtual 103, 3) := by decide +kernel
theorem dX6_addKey_5 : decode cX6_addKey 5 = .ok (.ifCond .eq 5, 3) := by decide +kernel
theorem dX6_addKey_8 : decode cX6_addKey 8 = .ok (.iconst (-1), 1) := by decide +kernel
theorem dX6_addKey_9 : decode cX6_addKey 9 = .ok (.ireturn, 1) := by decide +kernel
theorem dX6_addKey_10 : decode cX6_addKey 10 = .ok (.iload_n 2, 1) := by decide +kernel
theorem dX6_addKey_11 : decode cX6_addKey 11 = .ok (.iconst 0, 1) := by decide +kernel
theorem dX6_addKey_12 : decode cX6_addKey 12 = .ok (.iconst 5, 1) := by decide +kernel
theorem dX6_addKey_13 : decode cX6_addKey 13 = .ok (.invokestatic 90, 3) := by decide +kernel
theorem dX6_addKey_16 : decode cX6_addKey 16 = .ok (.ifCond .ne 6, 3) := by decide +kernel
theorem dX6_addKey_19 : decode cX6_addKey 19 = .ok (.bipush (-2), 2) := by decide +kernel
theorem dX6_addKey_21 : decode cX6_addKey 21 = .ok (.ireturn, 1) := by decide +kernel
theorem dX6_addKey_22 : decode cX6_addKey 22 = .ok (.aload_n 0, 1) := by decide +kernel
theorem dX6_addKey_23 : decode cX6_addKey 23 = .ok (.getfield 97, 3) := by decide +kernel
theorem dX6_addKey_26 : decode cX6_addKey 26 = .ok (.bipush 16, 2) := by decide +kernel
theorem dX6_addKey_28 : decode cX6_addKey 28 = .ok (.if_icmp .ne 6, 3) := by decide +kernel
theorem dX6_addKey_31 : decode cX6_addKey 31 = .ok (.bipush (-3), 2) := by decide +kernel
theorem dX6_addKey_33 : decode cX6_addKey 33 = .ok (.ireturn, 1) := by decide +kernel
theorem dX6_addKey_34 : decode cX6_addKey 34 = .ok (.aload_n 0, 1) := by decide +kernel
theorem dX6_addKey_35 : decode cX6_addKey 35 = .ok (.getfield 32, 3) := by decide +kernel
theorem dX6_addKey_38 : decode cX6_addKey 38 = .ok (.aload_n 0, 1) := by decide +kernel
theorem dX6_addKey_39 : decode cX6_addKey 39 = .ok (.getfield 97, 3) := by decide +kernel
theorem dX6_addKey_42 : decode cX6_addKey 42 = .ok (.iload_n 2, 1) := by decide +kernel
theorem dX6_addKey_43 : decode cX6_addKey 43 = .ok (.iastore, 1) := by decide +kernel
theorem dX6_addKey_44 : decode cX6_addKey 44 = .ok (.aload_n 0, 1) := by decide +kernel
theorem dX6_addKey_45 : decode cX6_addKey 45 = .ok (.getfield 35, 3) := by decide +kernel
theorem dX6_addKey_48 : decode cX6_addKey 48 = .ok (.aload_n 0, 1) := by decide +kernel
theorem dX6_addKey_49 : decode cX6_addKey 49 = .ok (.getfield 97, 3) := by decide +kernel
theorem dX6_addKey_52 : decode cX6_addKey 52 = .ok (.iconst 0, 1) := by decide +kernel
theorem dX6_addKey_53 : decode cX6_addKey 53 = .ok (.iastore, 1) := by decide +kernel
theorem dX6_addKey_54 : decode cX6_addKey 54 = .ok (.aload_n 0, 1) := by decide +kernel
theorem dX6_addKey_55 : decode cX6_addKey 55 = .ok (.getfield 38, 3) := by decide +kernel
theorem dX6_addKey_58 : decode cX6_addKey 58 = .ok (.aload_n 0, 1) := by decide +kernel
theorem dX6_addKey_59 : decode cX6_addKey 59 = .ok (.getfield 97, 3) := by decide +kernel
theorem dX6_addKey_62 : decode cX6_addKey 62 = .ok (.iload_n 1, 1) := by decide +kernel
theorem dX6_addKey_63 : decode cX6_addKey 63 = .ok (.iastore, 1) := by decide +kernel
theorem dX6_addKey_64 : decode cX6_addKey 64 = .ok (.aload_n 0, 1) := by decide +kernel
theorem dX6_addKey_65 : decode cX6_addKey 65 = .ok (.getfield 41, 3) := by decide +kernel
theorem dX6_addKey_68 : decode cX6_addKey 68 = .ok (.aload_n 0, 1) := by decide +kernel
theorem dX6_addKey_69 : decode cX6_addKey 69 = .ok (.getfield 97, 3) := by decide +kernel
theorem dX6_addKey_72 : decode cX6_addKey 72 = .ok (.iconst 0, 1) := by decide +kernel
theorem dX6_addKey_73 : decode cX6_addKey 73 = .ok (.iastore, 1) := by decide +kernel
theorem dX6_addKey_74 : decode cX6_addKey 74 = .ok (.aload_n 0, 1) := by decide +kernel
theorem dX6_addKey_75 : decode cX6_addKey 75 = .ok (.dup, 1) := by decide +kernel
theorem dX6_addKey_76 : decode cX6_addKey 76 = .ok (.getfield 97, 3) := by decide +kernel
theorem dX6_addKey_79 : decode cX6_addKey 79 = .ok (.iconst 1, 1) := by decide +kernel
theorem dX6_addKey_80 : decode cX6_addKey 80 = .ok (.iadd, 1) := by decide +kernel
theorem dX6_addKey_81 : decode cX6_addKey 81 = .ok (.putfield 97, 3) := by decide +kernel
theorem dX6_addKey_84 : decode cX6_addKey 84 = .ok (.aload_n 0, 1) := by decide +kernel
theorem dX6_addKey_85 : decode cX6_addKey 85 = .ok (.getfield 97, 3) := by decide +kernel
theorem dX6_addKey_88 : decode cX6_addKey 88 = .ok (.iconst 1, 1) := by decide +kernel
theorem dX6_addKey_89 : decode cX6_addKey 89 = .ok (.isub, 1) := by decide +kernel
theorem dX6_addKey_90 : decode cX6_addKey 90 = .ok (.ireturn, 1) := by decide +kernel
theorem dX6_players_0 : decode cX6_players 0 = .ok (.iconst 0, 1) := by decide +kernel
theorem dX6_players_1 : decode cX6_players 1 = .ok (.istore_n 1, 1) := by decide +kernel
theorem dX6_players_2 : decode cX6_players 2 = .ok (.iconst 0, 1) := by decide +kernel
theorem dX6_players_3 : decode cX6_players 3 = .ok (.istore_n 2, 1) := by decide +kernel
theorem dX6_players_4 : decode cX6_players 4 = .ok (.iload_n 2, 1) := by decide +kernel
theorem dX6_players_5 : decode cX6_players 5 = .ok (.aload_n 0, 1) := by decide +kernel
theorem dX6_players_6 : decode cX6_players 6 = .ok (.getfield 100, 3) := by decide +kernel
theorem dX6_players_9 : decode cX6_players 9 = .ok (.if_icmp .ge 18, 3) := by decide +kernel
theorem dX6_players_12 : decode cX6_players 12 = .ok (.iload_n 1, 1) := by decide +kernel
theorem dX6_players_13 : decode cX6_players 13 = .ok (.aload_n 0, 1) := by decide +kernel
theorem dX6_players_14 : decode cX6_players 14 = .ok (.getfield 44, 3) := by decide +kernel
theorem dX6_players_17 : decode cX6_players 17 = .ok (.iload_n 2, 1) := by decide +kernel
theorem dX6_players_18 : decode cX6_players 18 = .ok (.iaload, 1) := by decide +kernel
theorem dX6_players_19 : decode cX6_players 19 = .ok (.iadd, 1) := by decide +kernel
theorem dX6_players_20 : decode cX6_players 20 = .ok (.istore_n 1, 1) := by decide +kernel
theorem dX6_players_21 : decode cX6_players 21 = .ok (.iinc 2 1, 3) := by decide +kernel
theorem dX6_players_24 : decode cX6_players 24 = .ok (.goto (-20), 3) := by decide +kernel
theorem dX6_players_27 : decode cX6_players 27 = .ok (.iload_n 1, 1) := by decide +kernel
theorem dX6_players_28 : decode cX6_players 28 = .ok (.ireturn, 1) := by decide +kernel
theorem dX6_putGroup_0 : decode cX6_putGroup 0 = .ok (.aload_n 0, 1) := by decide +kernel
theorem dX6_putGroup_1 : decode cX6_putGroup 1 = .ok (.getfield 44, 3) := by decide +kernel
theorem dX6_putGroup_4 : decode cX6_putGroup 4 = .ok (.aload_n 0, 1) := by decide +kernel
theorem dX6_putGroup_5 : decode cX6_putGroup 5 = .ok (.getfield 100, 3) := by decide +kernel
theorem dX6_putGroup_8 : decode cX6_putGroup 8 = .ok (.iload_n 1, 1) := by decide +kernel
theorem dX6_putGroup_9 : decode cX6_putGroup 9 = .ok (.iastore, 1) := by decide +kernel
theorem dX6_putGroup_10 : decode cX6_putGroup 10 = .ok (.aload_n 0, 1) := by decide +kernel
theorem dX6_putGroup_11 : decode cX6_putGroup 11 = .ok (.getfield 47, 3) := by decide +kernel
theorem dX6_putGroup_14 : decode cX6_putGroup 14 = .ok (.aload_n 0, 1) := by decide +kernel
theorem dX6_putGroup_15 : decode cX6_putGroup 15 = .ok (.getfield 100, 3) := by decide +kernel
theorem dX6_putGroup_18 : decode cX6_putGroup 18 = .ok (.iload_n 2, 1) := by decide +kernel
theorem dX6_putGroup_19 : decode cX6_putGroup 19 = .ok (.iastore, 1) := by decide +kernel
theorem dX6_putGroup_20 : decode cX6_putGroup 20 = .ok (.aload_n 0, 1) := by decide +kernel
theorem dX6_putGroup_21 : decode cX6_putGroup 21 = .ok (.getfield 50, 3) := by decide +kernel
theorem dX6_putGroup_24 : decode cX6_putGroup 24 = .ok (.aload_n 0, 1) := by decide +kernel
theorem dX6_putGroup_25 : decode cX6_putGroup 25 = .ok (.getfield 100, 3) := by decide +kernel
theorem dX6_putGroup_28 : decode cX6_putGroup 28 = .ok (.iload_n 3, 1) := by decide +kernel
theorem dX6_putGroup_29 : decode cX6_putGroup 29 = .ok (.iastore, 1) := by decide +kernel
theorem dX6_putGroup_30 : decode cX6_putGroup 30 = .ok (.aload_n 0, 1) := by decide +kernel
theorem dX6_putGroup_31 : decode cX6_putGroup 31 = .ok (.getfield 53, 3) := by decide +kernel
theorem dX6_putGroup_34 : decode cX6_putGroup 34 = .ok (.aload_n 0, 1) := by decide +kernel
theorem dX6_putGroup_35 : decode cX6_putGroup 35 = .ok (.getfield 100, 3) := by decide +kernel
theorem dX6_putGroup_38 : decode cX6_putGroup 38 = .ok (.iconst 0, 1) := by decide +kernel
theorem dX6_putGroup_39 : decode cX6_putGroup 39 = .ok (.iastore, 1) := by decide +kernel
theorem dX6_putGroup_40 : decode cX6_putGroup 40 = .ok (.aload_n 0, 1) := by decide +kernel
theorem dX6_putGroup_41 : decode cX6_putGroup 41 = .ok (.getfield 56, 3) := by decide +kernel
theorem dX6_putGroup_44 : decode cX6_putGroup 44 = .ok (.aload_n 0, 1) := by decide +kernel
theorem dX6_putGroup_45 : decode cX6_putGroup 45 = .ok (.getfield 100, 3) := by decide +kernel
theorem dX6_putGroup_48 : decode cX6_putGroup 48 = .ok (.iconst 0, 1) := by decide +kernel
theorem dX6_putGroup_49 : decode cX6_putGroup 49 = .ok (.iastore, 1) := by decide +kernel
theorem dX6_putGroup_50 : decode cX6_putGroup 50 = .ok (.aload_n 0, 1) := by decide +kernel
theorem dX6_putGroup_51 : decode cX6_putGroup 51 = .ok (.dup, 1) := by decide +kernel
theorem dX6_putGroup_52 : decode cX6_putGroup 52 = .ok (.getfield 100, 3) := by decide +kernel
theorem dX6_putGroup_55 : decode cX6_putGroup 55 = .ok (.iconst 1, 1) := by decide +kernel
theorem dX6_putGroup_56 : decode cX6_putGroup 56 = .ok (.iadd, 1) := by decide +kernel
theorem dX6_putGroup_57 : decode cX6_putGroup 57 = .ok (.putfield 100, 3) := by decide +kernel
theorem dX6_putGroup_60 : decode cX6_putGroup 60 = .ok (.aload_n 0, 1) := by decide +kernel
theorem dX6_putGroup_61 : decode cX6_putGroup 61 = .ok (.getfield 100, 3) := by decide +kernel
theorem dX6_putGroup_64 : decode cX6_putGroup 64 = .ok (.iconst 1, 1) := by decide +kernel
theorem dX6_putGroup_65 : decode cX6_putGroup 65 = .ok (.isub, 1) := by decide +kernel
theorem dX6_putGroup_66 : decode cX6_putGroup 66 = .ok (.ireturn, 1) := by decide +kernel
theorem dX6_addGroup_0 : decode cX6_addGroup 0 = .ok (.aload_n 0, 1) := by decide +kernel
theorem dX6_addGroup_1 : decode cX6_addGroup 1 = .ok (.iload_n 2, 1) := by decide +kernel
theorem dX6_addGroup_2 : decode cX6_addGroup 2 = .ok (.invokevirtual 103, 3) := by decide +kernel
theorem dX6_addGroup_5 : decode cX6_addGroup 5 = .ok (.ifCond .eq 5, 3) := by decide +kernel
theorem dX6_addGroup_8 : decode cX6_addGroup 8 = .ok (.iconst (-1), 1) := by decide +kernel
theorem dX6_addGroup_9 : decode cX6_addGroup 9 = .ok (.ireturn, 1) := by decide +kernel
theorem dX6_addGroup_10 : decode cX6_addGroup 10 = .ok (.iload_n 1, 1) := by decide +kernel
theorem dX6_addGroup_11 : decode cX6_addGroup 11 = .ok (.iconst 1, 1) := by decide +kernel
theorem dX6_addGroup_12 : decode cX6_addGroup 12 = .ok (.bipush 24, 2) := by decide +kernel
theorem dX6_addGroup_14 : decode cX6_addGroup 14 = .ok (.invokestatic 90, 3) := by decide +kernel
theorem dX6_addGroup_17 : decode cX6_addGroup 17 = .ok (.ifCond .ne 6, 3) := by decide +kernel
theorem dX6_addGroup_20 : decode cX6_addGroup 20 = .ok (.bipush (-2), 2) := by decide +kernel
theorem dX6_addGroup_22 : decode cX6_addGroup 22 = .ok (.ireturn, 1) := by decide +kernel
theorem dX6_addGroup_23 : decode cX6_addGroup 23 = .ok (.aload_n 0, 1) := by decide +kernel
theorem dX6_addGroup_24 : decode cX6_addGroup 24 = .ok (.getfield 100, 3) := by decide +kernel
theorem dX6_addGroup_27 : decode cX6_addGroup 27 = .ok (.bipush 6, 2) := by decide +kernel
theorem dX6_addGroup_29 : decode cX6_addGroup 29 = .ok (.if_icmp .eq 14, 3) := by decide +kernel
theorem dX6_addGroup_32 : decode cX6_addGroup 32 = .ok (.aload_n 0, 1) := by decide +kernel
theorem dX6_addGroup_33 : decode cX6_addGroup 33 = .ok (.invokevirtual 115, 3) := by decide +kernel
theorem dX6_addGroup_36 : decode cX6_addGroup 36 = .ok (.iload_n 1, 1) := by decide +kernel
theorem dX6_addGroup_37 : decode cX6_addGroup 37 = .ok (.iadd, 1) := by decide +kernel
theorem dX6_addGroup_38 : decode cX6_addGroup 38 = .ok (.bipush 24, 2) := by decide +kernel
theorem dX6_addGroup_40 : decode cX6_addGroup 40 = .ok (.if_icmp .le 8, 3) := by decide +kernel
theorem dX6_addGroup_43 : decode cX6_addGroup 43 = .ok (.bipush (-3), 2) := by decide +kernel
theorem dX6_addGroup_45 : decode cX6_addGroup 45 = .ok (.goto 10, 3) := by decide +kernel
theorem dX6_addGroup_48 : decode cX6_addGroup 48 = .ok (.aload_n 0, 1) := by decide +kernel
theorem dX6_addGroup_49 : decode cX6_addGroup 49 = .ok (.iload_n 1, 1) := by decide +kernel
theorem dX6_addGroup_50 : decode cX6_addGroup 50 = .ok (.iload_n 2, 1) := by decide +kernel
theorem dX6_addGroup_51 : decode cX6_addGroup 51 = .ok (.iconst 0, 1) := by decide +kernel
theorem dX6_addGroup_52 : decode cX6_addGroup 52 = .ok (.invokevirtual 118, 3) := by decide +kernel
theorem dX6_addGroup_55 : decode cX6_addGroup 55 = .ok (.ireturn, 1) := by decide +kernel
theorem dX6_setHints_0 : decode cX6_setHints 0 = .ok (.iload_n 1, 1) := by decide +kernel
theorem dX6_setHints_1 : decode cX6_setHints 1 = .ok (.iconst 1, 1) := by decide +kernel
theorem dX6_setHints_2 : decode cX6_setHints 2 = .ok (.bipush 30, 2) := by decide +kernel
theorem dX6_setHints_4 : decode cX6_setHints 4 = .ok (.invokestatic 90, 3) := by decide +kernel
theorem dX6_setHints_7 : decode cX6_setHints 7 = .ok (.ifCond .eq 13, 3) := by decide +kernel
theorem dX6_setHints_10 : decode cX6_setHints 10 = .ok (.iload_n 2, 1) := by decide +kernel
theorem dX6_setHints_11 : decode cX6_setHints 11 = .ok (.iconst 0, 1) := by decide +kernel
theorem dX6_setHints_12 : decode cX6_setHints 12 = .ok (.bipush 30, 2) := by decide +kernel
theorem dX6_setHints_14 : decode cX6_setHints 14 = .ok (.invokestatic 90, 3) := by decide +kernel
theorem dX6_setHints_17 : decode cX6_setHints 17 = .ok (.ifCond .ne 6, 3) := by decide +kernel
theorem dX6_setHints_20 : decode cX6_setHints 20 = .ok (.bipush (-2), 2) := by decide +kernel
theorem dX6_setHints_22 : decode cX6_setHints 22 = .ok (.ireturn, 1) := by decide +kernel
theorem dX6_setHints_23 : decode cX6_setHints 23 = .ok (.aload_n 0, 1) := by decide +kernel
theorem dX6_setHints_24 : decode cX6_setHints 24 = .ok (.getfield 59, 3) := by decide +kernel
theorem dX6_setHints_27 : decode cX6_setHints 27 = .ok (.istore_n 3, 1) := by decide +kernel
theorem dX6_setHints_28 : decode cX6_setHints 28 = .ok (.aload_n 0, 1) := by decide +kernel
theorem dX6_setHints_29 : decode cX6_setHints 29 = .ok (.iload_n 1, 1) := by decide +kernel
theorem dX6_setHints_30 : decode cX6_setHints 30 = .ok (.putfield 59, 3) := by decide +kernel
theorem dX6_setHints_33 : decode cX6_setHints 33 = .ok (.aload_n 0, 1) := by decide +kernel
theorem dX6_setHints_34 : decode cX6_setHints 34 = .ok (.iload_n 2, 1) := by decide +kernel
theorem dX6_setHints_35 : decode cX6_setHints 35 = .ok (.putfield 62, 3) := by decide +kernel
theorem dX6_setHints_38 : decode cX6_setHints 38 = .ok (.iload_n 3, 1) := by decide +kernel
theorem dX6_setHints_39 : decode cX6_setHints 39 = .ok (.ireturn, 1) := by decide +kernel
theorem dX6_plays_0 : decode cX6_plays 0 = .ok (.aload_n 0, 1) := by decide +kernel
theorem dX6_plays_1 : decode cX6_plays 1 = .ok (.getfield 56, 3) := by decide +kernel
theorem dX6_plays_4 : decode cX6_plays 4 = .ok (.iload_n 1, 1) := by decide +kernel
theorem dX6_plays_5 : decode cX6_plays 5 = .ok (.iaload, 1) := by decide +kernel
theorem dX6_plays_6 : decode cX6_plays 6 = .ok (.ifCond .ne 7, 3) := by decide +kernel
theorem dX6_plays_9 : decode cX6_plays 9 = .ok (.iconst 1, 1) := by decide +kernel
theorem dX6_plays_10 : decode cX6_plays 10 = .ok (.goto 4, 3) := by decide +kernel
theorem dX6_plays_13 : decode cX6_plays 13 = .ok (.iconst 0, 1) := by decide +kernel
theorem dX6_plays_14 : decode cX6_plays 14 = .ok (.ireturn, 1) := by decide +kernel
theorem dX6_isAt_0 : decode cX6_isAt 0 = .ok (.aload_n 0, 1) := by decide +kernel
theorem dX6_isAt_1 : decode cX6_isAt 1 = .ok (.getfield 13, 3) := by decide +kernel
theorem dX6_isAt_4 : decode cX6_isAt 4 = .ok (.iload_n 1, 1) := by decide +kernel
theorem dX6_isAt_5 : decode cX6_isAt 5 = .ok (.iaload, 1) := by decide +kernel
theorem dX6_isAt_6 : decode cX6_isAt 6 = .ok (.iload_n 2, 1) := by decide +kernel
theorem dX6_isAt_7 : decode cX6_isAt 7 = .ok (.if_icmp .eq 13, 3) := by decide +kernel
theorem dX6_isAt_10 : decode cX6_isAt 10 = .ok (.aload_n 0, 1) := by decide +kernel
theorem dX6_isAt_11 : decode cX6_isAt 11 = .ok (.getfield 17, 3) := by decide +kernel
theorem dX6_isAt_14 : decode cX6_isAt 14 = .ok (.iload_n 1, 1) := by decide +kernel
theorem dX6_isAt_15 : decode cX6_isAt 15 = .ok (.iaload, 1) := by decide +kernel
theorem dX6_isAt_16 : decode cX6_isAt 16 = .ok (.iload_n 2, 1) := by decide +kernel
theorem dX6_isAt_17 : decode cX6_isAt 17 = .ok (.if_icmp .ne 7, 3) := by decide +kernel
theorem dX6_isAt_20 : decode cX6_isAt 20 = .ok (.iconst 1, 1) := by decide +kernel
theorem dX6_isAt_21 : decode cX6_isAt 21 = .ok (.goto 4, 3) := by decide +kernel
theorem dX6_isAt_24 : decode cX6_isAt 24 = .ok (.iconst 0, 1) := by decide +kernel
theorem dX6_isAt_25 : decode cX6_isAt 25 = .ok (.ireturn, 1) := by decide +kernel
theorem dX6_walk_0 : decode cX6_walk 0 = .ok (.aload_n 0, 1) := by decide +kernel
theorem dX6_walk_1 : decode cX6_walk 1 = .ok (.iload_n 1, 1) := by decide +kernel
theorem dX6_walk_2 : decode cX6_walk 2 = .ok (.invokevirtual 122, 3) := by decide +kernel
theorem dX6_walk_5 : decode cX6_walk 5 = .ok (.ifCond .ne 11, 3) := by decide +kernel
theorem dX6_walk_8 : decode cX6_walk 8 = .ok (.aload_n 0, 1) := by decide +kernel
theorem dX6_walk_9 : decode cX6_walk 9 = .ok (.iload_n 2, 1) := by decide +kernel
theorem dX6_walk_10 : decode cX6_walk 10 = .ok (.invokevirtual 125, 3) := by decide +kernel
theorem dX6_walk_13 : decode cX6_walk 13 = .ok (.ifCond .eq 5, 3) := by decide +kernel
theorem dX6_walk_16 : decode cX6_walk 16 = .ok (.iconst (-1), 1) := by decide +kernel
theorem dX6_walk_17 : decode cX6_walk 17 = .ok (.ireturn, 1) := by decide +kernel
theorem dX6_walk_18 : decode cX6_walk 18 = .ok (.aload_n 0, 1) := by decide +kernel
theorem dX6_walk_19 : decode cX6_walk 19 = .ok (.iload_n 1, 1) := by decide +kernel
theorem dX6_walk_20 : decode cX6_walk 20 = .ok (.invokevirtual 128, 3) := by decide +kernel
theorem dX6_walk_23 : decode cX6_walk 23 = .ok (.ifCond .eq 26, 3) := by decide +kernel
theorem dX6_walk_26 : decode cX6_walk 26 = .ok (.aload_n 0, 1) := by decide +kernel
theorem dX6_walk_27 : decode cX6_walk 27 = .ok (.iload_n 2, 1) := by decide +kernel
theorem dX6_walk_28 : decode cX6_walk 28 = .ok (.aload_n 0, 1) := by decide +kernel
theorem dX6_walk_29 : decode cX6_walk 29 = .ok (.getfield 47, 3) := by decide +kernel
theorem dX6_walk_32 : decode cX6_walk 32 = .ok (.iload_n 1, 1) := by decide +kernel
theorem dX6_walk_33 : decode cX6_walk 33 = .ok (.iaload, 1) := by decide +kernel
theorem dX6_walk_34 : decode cX6_walk 34 = .ok (.invokevirtual 131, 3) := by decide +kernel
theorem dX6_walk_37 : decode cX6_walk 37 = .ok (.ifCond .eq 12, 3) := by decide +kernel
theorem dX6_walk_40 : decode cX6_walk 40 = .ok (.aload_n 0, 1) := by decide +kernel
theorem dX6_walk_41 : decode cX6_walk 41 = .ok (.getfield 29, 3) := by decide +kernel
theorem dX6_walk_44 : decode cX6_walk 44 = .ok (.iload_n 2, 1) := by decide +kernel
theorem dX6_walk_45 : decode cX6_walk 45 = .ok (.iaload, 1) := by decide +kernel
theorem dX6_walk_46 : decode cX6_walk 46 = .ok (.ifCond .ge 6, 3) := by decide +kernel
theorem dX6_walk_49 : decode cX6_walk 49 = .ok (.bipush (-4), 2) := by decide +kernel
theorem dX6_walk_51 : decode cX6_walk 51 = .ok (.ireturn, 1) := by decide +kernel
theorem dX6_walk_52 : decode cX6_walk 52 = .ok (.aload_n 0, 1) := by decide +kernel
theorem dX6_walk_53 : decode cX6_walk 53 = .ok (.getfield 50, 3) := by decide +kernel
theorem dX6_walk_56 : decode cX6_walk 56 = .ok (.iload_n 1, 1) := by decide +kernel
theorem dX6_walk_57 : decode cX6_walk 57 = .ok (.iaload, 1) := by decide +kernel
theorem dX6_walk_58 : decode cX6_walk 58 = .ok (.aload_n 0, 1) := by decide +kernel
theorem dX6_walk_59 : decode cX6_walk 59 = .ok (.getfield 29, 3) := by decide +kernel
theorem dX6_walk_62 : decode cX6_walk 62 = .ok (.iload_n 2, 1) := by decide +kernel
theorem dX6_walk_63 : decode cX6_walk 63 = .ok (.iaload, 1) := by decide +kernel
theorem dX6_walk_64 : decode cX6_walk 64 = .ok (.if_icmp .ge 12, 3) := by decide +kernel
theorem dX6_walk_67 : decode cX6_walk 67 = .ok (.aload_n 0, 1) := by decide +kernel
theorem dX6_walk_68 : decode cX6_walk 68 = .ok (.getfield 29, 3) := by decide +kernel
theorem dX6_walk_71 : decode cX6_walk 71 = .ok (.iload_n 2, 1) := by decide +kernel
theorem dX6_walk_72 : decode cX6_walk 72 = .ok (.iaload, 1) := by decide +kernel
theorem dX6_walk_73 : decode cX6_walk 73 = .ok (.goto 9, 3) := by decide +kernel
theorem dX6_walk_76 : decode cX6_walk 76 = .ok (.aload_n 0, 1) := by decide +kernel
theorem dX6_walk_77 : decode cX6_walk 77 = .ok (.getfield 50, 3) := by decide +kernel
theorem dX6_walk_80 : decode cX6_walk 80 = .ok (.iload_n 1, 1) := by decide +kernel
theorem dX6_walk_81 : decode cX6_walk 81 = .ok (.iaload, 1) := by decide +kernel
theorem dX6_walk_82 : decode cX6_walk 82 = .ok (.aload_n 0, 1) := by decide +kernel
theorem dX6_walk_83 : decode cX6_walk 83 = .ok (.getfield 20, 3) := by decide +kernel
theorem dX6_walk_86 : decode cX6_walk 86 = .ok (.iload_n 2, 1) := by decide +kernel
theorem dX6_walk_87 : decode cX6_walk 87 = .ok (.iaload, 1) := by decide +kernel
theorem dX6_walk_88 : decode cX6_walk 88 = .ok (.iadd, 1) := by decide +kernel
theorem dX6_walk_89 : decode cX6_walk 89 = .ok (.istore_n 3, 1) := by decide +kernel
theorem dX6_walk_90 : decode cX6_walk 90 = .ok (.iload_n 3, 1) := by decide +kernel
theorem dX6_walk_91 : decode cX6_walk 91 = .ok (.ldc 135, 2) := by decide +kernel
theorem dX6_walk_93 : decode cX6_walk 93 = .ok (.if_icmp .le 6, 3) := by decide +kernel
theorem dX6_walk_96 : decode cX6_walk 96 = .ok (.bipush (-5), 2) := by decide +kernel
theorem dX6_walk_98 : decode cX6_walk 98 = .ok (.ireturn, 1) := by decide +kernel
theorem dX6_walk_99 : decode cX6_walk 99 = .ok (.aload_n 0, 1) := by decide +kernel
theorem dX6_walk_100 : decode cX6_walk 100 = .ok (.getfield 50, 3) := by decide +kernel
theorem dX6_walk_103 : decode cX6_walk 103 = .ok (.iload_n 1, 1) := by decide +kernel
theorem dX6_walk_104 : decode cX6_walk 104 = .ok (.iload_n 3, 1) := by decide +kernel
theorem dX6_walk_105 : decode cX6_walk 105 = .ok (.iastore, 1) := by decide +kernel
theorem dX6_walk_106 : decode cX6_walk 106 = .ok (.aload_n 0, 1) := by decide +kernel
theorem dX6_walk_107 : decode cX6_walk 107 = .ok (.getfield 47, 3) := by decide +kernel
theorem dX6_walk_110 : decode cX6_walk 110 = .ok (.iload_n 1, 1) := by decide +kernel
theorem dX6_walk_111 : decode cX6_walk 111 = .ok (.aload_n 0, 1) := by decide +kernel
theorem dX6_walk_112 : decode cX6_walk 112 = .ok (.getfield 13, 3) := by decide +kernel
theorem dX6_walk_115 : decode cX6_walk 115 = .ok (.iload_n 2, 1) := by decide +kernel
theorem dX6_walk_116 : decode cX6_walk 116 = .ok (.iaload, 1) := by decide +kernel
theorem dX6_walk_117 : decode cX6_walk 117 = .ok (.aload_n 0, 1) := by decide +kernel
theorem dX6_walk_118 : decode cX6_walk 118 = .ok (.getfield 17, 3) := by decide +kernel
theorem dX6_walk_121 : decode cX6_walk 121 = .ok (.iload_n 2, 1) := by decide +kernel
theorem dX6_walk_122 : decode cX6_walk 122 = .ok (.iaload, 1) := by decide +kernel
theorem dX6_walk_123 : decode cX6_walk 123 = .ok (.iadd, 1) := by decide +kernel
theorem dX6_walk_124 : decode cX6_walk 124 = .ok (.aload_n 0, 1) := by decide +kernel
theorem dX6_walk_125 : decode cX6_walk 125 = .ok (.getfield 47, 3) := by decide +kernel
theorem dX6_walk_128 : decode cX6_walk 128 = .ok (.iload_n 1, 1) := by decide +kernel
theorem dX6_walk_129 : decode cX6_walk 129 = .ok (.iaload, 1) := by decide +kernel
theorem dX6_walk_130 : decode cX6_walk 130 = .ok (.isub, 1) := by decide +kernel
theorem dX6_walk_131 : decode cX6_walk 131 = .ok (.iastore, 1) := by decide +kernel
theorem dX6_walk_132 : decode cX6_walk 132 = .ok (.iload_n 3, 1) := by decide +kernel
theorem dX6_walk_133 : decode cX6_walk 133 = .ok (.ireturn, 1) := by decide +kernel
theorem dX6_holds_0 : decode cX6_holds 0 = .ok (.aload_n 0, 1) := by decide +kernel
theorem dX6_holds_1 : decode cX6_holds 1 = .ok (.getfield 35, 3) := by decide +kernel
theorem dX6_holds_4 : decode cX6_holds 4 = .ok (.iload_n 2, 1) := by decide +kernel
theorem dX6_holds_5 : decode cX6_holds 5 = .ok (.iaload, 1) := by decide +kernel
theorem dX6_holds_6 : decode cX6_holds 6 = .ok (.iconst 1, 1) := by decide +kernel
theorem dX6_holds_7 : decode cX6_holds 7 = .ok (.if_icmp .ne 17, 3) := by decide +kernel
theorem dX6_holds_10 : decode cX6_holds 10 = .ok (.aload_n 0, 1) := by decide +kernel
theorem dX6_holds_11 : decode cX6_holds 11 = .ok (.getfield 38, 3) := by decide +kernel
theorem dX6_holds_14 : decode cX6_holds 14 = .ok (.iload_n 2, 1) := by decide +kernel
theorem dX6_holds_15 : decode cX6_holds 15 = .ok (.iaload, 1) := by decide +kernel
theorem dX6_holds_16 : decode cX6_holds 16 = .ok (.iload_n 1, 1) := by decide +kernel
theorem dX6_holds_17 : decode cX6_holds 17 = .ok (.if_icmp .ne 7, 3) := by decide +kernel
theorem dX6_holds_20 : decode cX6_holds 20 = .ok (.iconst 1, 1) := by decide +kernel
theorem dX6_holds_21 : decode cX6_holds 21 = .ok (.goto 4, 3) := by decide +kernel
theorem dX6_holds_24 : decode cX6_holds 24 = .ok (.iconst 0, 1) := by decide +kernel
theorem dX6_holds_25 : decode cX6_holds 25 = .ok (.ireturn, 1) := by decide +kernel
theorem dX6_keyFor_0 : decode cX6_keyFor 0 = .ok (.iconst 0, 1) := by decide +kernel
theorem dX6_keyFor_1 : decode cX6_keyFor 1 = .ok (.istore_n 3, 1) := by decide +kernel
theorem dX6_keyFor_2 : decode cX6_keyFor 2 = .ok (.iload_n 3, 1) := by decide +kernel
theorem dX6_keyFor_3 : decode cX6_keyFor 3 = .ok (.aload_n 0, 1) := by decide +kernel
theorem dX6_keyFor_4 : decode cX6_keyFor 4 = .ok (.getfield 97, 3) := by decide +kernel
theorem dX6_keyFor_7 : decode cX6_keyFor 7 = .ok (.if_icmp .ge 30, 3) := by decide +kernel
theorem dX6_keyFor_10 : decode cX6_keyFor 10 = .ok (.aload_n 0, 1) := by decide +kernel
theorem dX6_keyFor_11 : decode cX6_keyFor 11 = .ok (.iload_n 1, 1) := by decide +kernel
theorem dX6_keyFor_12 : decode cX6_keyFor 12 = .ok (.iload_n 3, 1) := by decide +kernel
theorem dX6_keyFor_13 : decode cX6_keyFor 13 = .ok (.invokevirtual 136, 3) := by decide +kernel
theorem dX6_keyFor_16 : decode cX6_keyFor 16 = .ok (.ifCond .eq 15, 3) := by decide +kernel
theorem dX6_keyFor_19 : decode cX6_keyFor 19 = .ok (.aload_n 0, 1) := by decide +kernel
theorem dX6_keyFor_20 : decode cX6_keyFor 20 = .ok (.getfield 32, 3) := by decide +kernel
theorem dX6_keyFor_23 : decode cX6_keyFor 23 = .ok (.iload_n 3, 1) := by decide +kernel
theorem dX6_keyFor_24 : decode cX6_keyFor 24 = .ok (.iaload, 1) := by decide +kernel
theorem dX6_keyFor_25 : decode cX6_keyFor 25 = .ok (.iload_n 2, 1) := by decide +kernel
theorem dX6_keyFor_26 : decode cX6_keyFor 26 = .ok (.if_icmp .ne 5, 3) := by decide +kernel
theorem dX6_keyFor_29 : decode cX6_keyFor 29 = .ok (.iload_n 3, 1) := by decide +kernel
theorem dX6_keyFor_30 : decode cX6_keyFor 30 = .ok (.ireturn, 1) := by decide +kernel
theorem dX6_keyFor_31 : decode cX6_keyFor 31 = .ok (.iinc 3 1, 3) := by decide +kernel
theorem dX6_keyFor_34 : decode cX6_keyFor 34 = .ok (.goto (-32), 3) := by decide +kernel
theorem dX6_keyFor_37 : decode cX6_keyFor 37 = .ok (.bipush (-6), 2) := by decide +kernel
theorem dX6_keyFor_39 : decode cX6_keyFor 39 = .ok (.ireturn, 1) := by decide +kernel
theorem dX6_unlock_0 : decode cX6_unlock 0 = .ok (.aload_n 0, 1) := by decide +kernel
theorem dX6_unlock_1 : decode cX6_unlock 1 = .ok (.iload_n 1, 1) := by decide +kernel
theorem dX6_unlock_2 : decode cX6_unlock 2 = .ok (.invokevirtual 122, 3) := by decide +kernel
theorem dX6_unlock_5 : decode cX6_unlock 5 = .ok (.ifCond .ne 11, 3) := by decide +kernel
theorem dX6_unlock_8 : decode cX6_unlock 8 = .ok (.aload_n 0, 1) := by decide +kernel
theorem dX6_unlock_9 : decode cX6_unlock 9 = .ok (.iload_n 2, 1) := by decide +kernel
theorem dX6_unlock_10 : decode cX6_unlock 10 = .ok (.invokevirtual 125, 3) := by decide +kernel
theorem dX6_unlock_13 : decode cX6_unlock 13 = .ok (.ifCond .eq 5, 3) := by decide +kernel
theorem dX6_unlock_16 : decode cX6_unlock 16 = .ok (.iconst (-1), 1) := by decide +kernel
theorem dX6_unlock_17 : decode cX6_unlock 17 = .ok (.ireturn, 1) := by decide +kernel
theorem dX6_unlock_18 : decode cX6_unlock 18 = .ok (.aload_n 0, 1) := by decide +kernel
theorem dX6_unlock_19 : decode cX6_unlock 19 = .ok (.iload_n 1, 1) := by decide +kernel
theorem dX6_unlock_20 : decode cX6_unlock 20 = .ok (.invokevirtual 128, 3) := by decide +kernel
theorem dX6_unlock_23 : decode cX6_unlock 23 = .ok (.ifCond .eq 26, 3) := by decide +kernel
theorem dX6_unlock_26 : decode cX6_unlock 26 = .ok (.aload_n 0, 1) := by decide +kernel
theorem dX6_unlock_27 : decode cX6_unlock 27 = .ok (.iload_n 2, 1) := by decide +kernel
theorem dX6_unlock_28 : decode cX6_unlock 28 = .ok (.aload_n 0, 1) := by decide +kernel
theorem dX6_unlock_29 : decode cX6_unlock 29 = .ok (.getfield 47, 3) := by decide +kernel
theorem dX6_unlock_32 : decode cX6_unlock 32 = .ok (.iload_n 1, 1) := by decide +kernel
theorem dX6_unlock_33 : decode cX6_unlock 33 = .ok (.iaload, 1) := by decide +kernel
theorem dX6_unlock_34 : decode cX6_unlock 34 = .ok (.invokevirtual 131, 3) := by decide +kernel
theorem dX6_unlock_37 : decode cX6_unlock 37 = .ok (.ifCond .eq 12, 3) := by decide +kernel
theorem dX6_unlock_40 : decode cX6_unlock 40 = .ok (.aload_n 0, 1) := by decide +kernel
theorem dX6_unlock_41 : decode cX6_unlock 41 = .ok (.getfield 29, 3) := by decide +kernel
theorem dX6_unlock_44 : decode cX6_unlock 44 = .ok (.iload_n 2, 1) := by decide +kernel
theorem dX6_unlock_45 : decode cX6_unlock 45 = .ok (.iaload, 1) := by decide +kernel
theorem dX6_unlock_46 : decode cX6_unlock 46 = .ok (.ifCond .lt 6, 3) := by decide +kernel
theorem dX6_unlock_49 : decode cX6_unlock 49 = .ok (.bipush (-4), 2) := by decide +kernel
theorem dX6_unlock_51 : decode cX6_unlock 51 = .ok (.ireturn, 1) := by decide +kernel
theorem dX6_unlock_52 : decode cX6_unlock 52 = .ok (.aload_n 0, 1) := by decide +kernel
theorem dX6_unlock_53 : decode cX6_unlock 53 = .ok (.iload_n 1, 1) := by decide +kernel
theorem dX6_unlock_54 : decode cX6_unlock 54 = .ok (.aload_n 0, 1) := by decide +kernel
theorem dX6_unlock_55 : decode cX6_unlock 55 = .ok (.getfield 23, 3) := by decide +kernel
theorem dX6_unlock_58 : decode cX6_unlock 58 = .ok (.iload_n 2, 1) := by decide +kernel
theorem dX6_unlock_59 : decode cX6_unlock 59 = .ok (.iaload, 1) := by decide +kernel
theorem dX6_unlock_60 : decode cX6_unlock 60 = .ok (.invokevirtual 139, 3) := by decide +kernel
theorem dX6_unlock_63 : decode cX6_unlock 63 = .ok (.istore_n 3, 1) := by decide +kernel
theorem dX6_unlock_64 : decode cX6_unlock 64 = .ok (.iload_n 3, 1) := by decide +kernel
theorem dX6_unlock_65 : decode cX6_unlock 65 = .ok (.ifCond .ge 6, 3) := by decide +kernel
theorem dX6_unlock_68 : decode cX6_unlock 68 = .ok (.bipush (-4), 2) := by decide +kernel
theorem dX6_unlock_70 : decode cX6_unlock 70 = .ok (.ireturn, 1) := by decide +kernel
theorem dX6_unlock_71 : decode cX6_unlock 71 = .ok (.aload_n 0, 1) := by decide +kernel
theorem dX6_unlock_72 : decode cX6_unlock 72 = .ok (.getfield 50, 3) := by decide +kernel
theorem dX6_unlock_75 : decode cX6_unlock 75 = .ok (.iload_n 1, 1) := by decide +kernel
theorem dX6_unlock_76 : decode cX6_unlock 76 = .ok (.iaload, 1) := by decide +kernel
theorem dX6_unlock_77 : decode cX6_unlock 77 = .ok (.aload_n 0, 1) := by decide +kernel
theorem dX6_unlock_78 : decode cX6_unlock 78 = .ok (.getfield 26, 3) := by decide +kernel
theorem dX6_unlock_81 : decode cX6_unlock 81 = .ok (.iload_n 2, 1) := by decide +kernel
theorem dX6_unlock_82 : decode cX6_unlock 82 = .ok (.iaload, 1) := by decide +kernel
theorem dX6_unlock_83 : decode cX6_unlock 83 = .ok (.iadd, 1) := by decide +kernel
theorem dX6_unlock_84 : decode cX6_unlock 84 = .ok (.ldc 135, 2) := by decide +kernel
theorem dX6_unlock_86 : decode cX6_unlock 86 = .ok (.if_icmp .le 6, 3) := by decide +kernel
theorem dX6_unlock_89 : decode cX6_unlock 89 = .ok (.bipush (-5), 2) := by decide +kernel
theorem dX6_unlock_91 : decode cX6_unlock 91 = .ok (.ireturn, 1) := by decide +kernel
theorem dX6_unlock_92 : decode cX6_unlock 92 = .ok (.aload_n 0, 1) := by decide +kernel
theorem dX6_unlock_93 : decode cX6_unlock 93 = .ok (.getfield 50, 3) := by decide +kernel
theorem dX6_unlock_96 : decode cX6_unlock 96 = .ok (.iload_n 1, 1) := by decide +kernel
theorem dX6_unlock_97 : decode cX6_unlock 97 = .ok (.dup2, 1) := by decide +kernel
theorem dX6_unlock_98 : decode cX6_unlock 98 = .ok (.iaload, 1) := by decide +kernel
theorem dX6_unlock_99 : decode cX6_unlock 99 = .ok (.aload_n 0, 1) := by decide +kernel
theorem dX6_unlock_100 : decode cX6_unlock 100 = .ok (.getfield 26, 3) := by decide +kernel
theorem dX6_unlock_103 : decode cX6_unlock 103 = .ok (.iload_n 2, 1) := by decide +kernel
theorem dX6_unlock_104 : decode cX6_unlock 104 = .ok (.iaload, 1) := by decide +kernel
theorem dX6_unlock_105 : decode cX6_unlock 105 = .ok (.iadd, 1) := by decide +kernel
theorem dX6_unlock_106 : decode cX6_unlock 106 = .ok (.iastore, 1) := by decide +kernel
theorem dX6_unlock_107 : decode cX6_unlock 107 = .ok (.aload_n 0, 1) := by decide +kernel
theorem dX6_unlock_108 : decode cX6_unlock 108 = .ok (.getfield 29, 3) := by decide +kernel
theorem dX6_unlock_111 : decode cX6_unlock 111 = .ok (.iload_n 2, 1) := by decide +kernel
theorem dX6_unlock_112 : decode cX6_unlock 112 = .ok (.aload_n 0, 1) := by decide +kernel
theorem dX6_unlock_113 : decode cX6_unlock 113 = .ok (.getfield 50, 3) := by decide +kernel
theorem dX6_unlock_116 : decode cX6_unlock 116 = .ok (.iload_n 1, 1) := by decide +kernel
theorem dX6_unlock_117 : decode cX6_unlock 117 = .ok (.iaload, 1) := by decide +kernel
theorem dX6_unlock_118 : decode cX6_unlock 118 = .ok (.iastore, 1) := by decide +kernel
theorem dX6_unlock_119 : decode cX6_unlock 119 = .ok (.aload_n 0, 1) := by decide +kernel
theorem dX6_unlock_120 : decode cX6_unlock 120 = .ok (.getfield 35, 3) := by decide +kernel
theorem dX6_unlock_123 : decode cX6_unlock 123 = .ok (.iload_n 3, 1) := by decide +kernel
theorem dX6_unlock_124 : decode cX6_unlock 124 = .ok (.iconst 2, 1) := by decide +kernel
theorem dX6_unlock_125 : decode cX6_unlock 125 = .ok (.iastore, 1) := by decide +kernel
theorem dX6_unlock_126 : decode cX6_unlock 126 = .ok (.aload_n 0, 1) := by decide +kernel
theorem dX6_unlock_127 : decode cX6_unlock 127 = .ok (.getfield 38, 3) := by decide +kernel
theorem dX6_unlock_130 : decode cX6_unlock 130 = .ok (.iload_n 3, 1) := by decide +kernel
theorem dX6_unlock_131 : decode cX6_unlock 131 = .ok (.iload_n 2, 1) := by decide +kernel
theorem dX6_unlock_132 : decode cX6_unlock 132 = .ok (.iastore, 1) := by decide +kernel
theorem dX6_unlock_133 : decode cX6_unlock 133 = .ok (.iload_n 3, 1) := by decide +kernel
theorem dX6_unlock_134 : decode cX6_unlock 134 = .ok (.ireturn, 1) := by decide +kernel
theorem dX6_held_0 : decode cX6_held 0 = .ok (.iconst 0, 1) := by decide +kernel
theorem dX6_held_1 : decode cX6_held 1 = .ok (.istore_n 2, 1) := by decide +kernel
theorem dX6_held_2 : decode cX6_held 2 = .ok (.iconst 0, 1) := by decide +kernel
theorem dX6_held_3 : decode cX6_held 3 = .ok (.istore_n 3, 1) := by decide +kernel
theorem dX6_held_4 : decode cX6_held 4 = .ok (.iload_n 3, 1) := by decide +kernel
theorem dX6_held_5 : decode cX6_held 5 = .ok (.aload_n 0, 1) := by decide +kernel
theorem dX6_held_6 : decode cX6_held 6 = .ok (.getfield 97, 3) := by decide +kernel
theorem dX6_held_9 : decode cX6_held 9 = .ok (.if_icmp .ge 26, 3) := by decide +kernel
theorem dX6_held_12 : decode cX6_held 12 = .ok (.iload_n 2, 1) := by decide +kernel
theorem dX6_held_13 : decode cX6_held 13 = .ok (.aload_n 0, 1) := by decide +kernel
theorem dX6_held_14 : decode cX6_held 14 = .ok (.iload_n 1, 1) := by decide +kernel
theorem dX6_held_15 : decode cX6_held 15 = .ok (.iload_n 3, 1) := by decide +kernel
theorem dX6_held_16 : decode cX6_held 16 = .ok (.invokevirtual 136, 3) := by decide +kernel
theorem dX6_held_19 : decode cX6_held 19 = .ok (.ifCond .eq 7, 3) := by decide +kernel
theorem dX6_held_22 : decode cX6_held 22 = .ok (.iconst 1, 1) := by decide +kernel
theorem dX6_held_23 : decode cX6_held 23 = .ok (.goto 4, 3) := by decide +kernel
theorem dX6_held_26 : decode cX6_held 26 = .ok (.iconst 0, 1) := by decide +kernel
theorem dX6_held_27 : decode cX6_held 27 = .ok (.iadd, 1) := by decide +kernel
theorem dX6_held_28 : decode cX6_held 28 = .ok (.istore_n 2, 1) := by decide +kernel
theorem dX6_held_29 : decode cX6_held 29 = .ok (.iinc 3 1, 3) := by decide +kernel
theorem dX6_held_32 : decode cX6_held 32 = .ok (.goto (-28), 3) := by decide +kernel
theorem dX6_held_35 : decode cX6_held 35 = .ok (.iload_n 2, 1) := by decide +kernel
theorem dX6_held_36 : decode cX6_held 36 = .ok (.ireturn, 1) := by decide +kernel
theorem dX6_take_0 : decode cX6_take 0 = .ok (.aload_n 0, 1) := by decide +kernel
theorem dX6_take_1 : decode cX6_take 1 = .ok (.iload_n 1, 1) := by decide +kernel
theorem dX6_take_2 : decode cX6_take 2 = .ok (.invokevirtual 122, 3) := by decide +kernel
theorem dX6_take_5 : decode cX6_take 5 = .ok (.ifCond .ne 11, 3) := by decide +kernel
theorem dX6_take_8 : decode cX6_take 8 = .ok (.aload_n 0, 1) := by decide +kernel
theorem dX6_take_9 : decode cX6_take 9 = .ok (.iload_n 2, 1) := by decide +kernel
theorem dX6_take_10 : decode cX6_take 10 = .ok (.invokevirtual 143, 3) := by decide +kernel
theorem dX6_take_13 : decode cX6_take 13 = .ok (.ifCond .eq 5, 3) := by decide +kernel
theorem dX6_take_16 : decode cX6_take 16 = .ok (.iconst (-1), 1) := by decide +kernel
theorem dX6_take_17 : decode cX6_take 17 = .ok (.ireturn, 1) := by decide +kernel
theorem dX6_take_18 : decode cX6_take 18 = .ok (.aload_n 0, 1) := by decide +kernel
theorem dX6_take_19 : decode cX6_take 19 = .ok (.iload_n 1, 1) := by decide +kernel
theorem dX6_take_20 : decode cX6_take 20 = .ok (.invokevirtual 128, 3) := by decide +kernel
theorem dX6_take_23 : decode cX6_take 23 = .ok (.ifCond .eq 27, 3) := by decide +kernel
theorem dX6_take_26 : decode cX6_take 26 = .ok (.aload_n 0, 1) := by decide +kernel
theorem dX6_take_27 : decode cX6_take 27 = .ok (.getfield 35, 3) := by decide +kernel
theorem dX6_take_30 : decode cX6_take 30 = .ok (.iload_n 2, 1) := by decide +kernel
theorem dX6_take_31 : decode cX6_take 31 = .ok (.iaload, 1) := by decide +kernel
theorem dX6_take_32 : decode cX6_take 32 = .ok (.ifCond .ne 18, 3) := by decide +kernel
theorem dX6_take_35 : decode cX6_take 35 = .ok (.aload_n 0, 1) := by decide +kernel
theorem dX6_take_36 : decode cX6_take 36 = .ok (.getfield 38, 3) := by decide +kernel
theorem dX6_take_39 : decode cX6_take 39 = .ok (.iload_n 2, 1) := by decide +kernel
theorem dX6_take_40 : decode cX6_take 40 = .ok (.iaload, 1) := by decide +kernel
theorem dX6_take_41 : decode cX6_take 41 = .ok (.aload_n 0, 1) := by decide +kernel
theorem dX6_take_42 : decode cX6_take 42 = .ok (.getfield 47, 3) := by decide +kernel
theorem dX6_take_45 : decode cX6_take 45 = .ok (.iload_n 1, 1) := by decide +kernel
theorem dX6_take_46 : decode cX6_take 46 = .ok (.iaload, 1) := by decide +kernel
theorem dX6_take_47 : decode cX6_take 47 = .ok (.if_icmp .eq 6, 3) := by decide +kernel
theorem dX6_take_50 : decode cX6_take 50 = .ok (.bipush (-4), 2) := by decide +kernel
theorem dX6_take_52 : decode cX6_take 52 = .ok (.ireturn, 1) := by decide +kernel
theorem dX6_take_53 : decode cX6_take 53 = .ok (.aload_n 0, 1) := by decide +kernel
theorem dX6_take_54 : decode cX6_take 54 = .ok (.getfield 50, 3) := by decide +kernel
theorem dX6_take_57 : decode cX6_take 57 = .ok (.iload_n 1, 1) := by decide +kernel
theorem dX6_take_58 : decode cX6_take 58 = .ok (.aload_n 0, 1) := by decide +kernel
theorem dX6_take_59 : decode cX6_take 59 = .ok (.getfield 50, 3) := by decide +kernel
theorem dX6_take_62 : decode cX6_take 62 = .ok (.iload_n 1, 1) := by decide +kernel
theorem dX6_take_63 : decode cX6_take 63 = .ok (.iaload, 1) := by decide +kernel
theorem dX6_take_64 : decode cX6_take 64 = .ok (.aload_n 0, 1) := by decide +kernel
theorem dX6_take_65 : decode cX6_take 65 = .ok (.getfield 41, 3) := by decide +kernel
theorem dX6_take_68 : decode cX6_take 68 = .ok (.iload_n 2, 1) := by decide +kernel
theorem dX6_take_69 : decode cX6_take 69 = .ok (.iaload, 1) := by decide +kernel
theorem dX6_take_70 : decode cX6_take 70 = .ok (.if_icmp .ge 12, 3) := by decide +kernel
theorem dX6_take_73 : decode cX6_take 73 = .ok (.aload_n 0, 1) := by decide +kernel
theorem dX6_take_74 : decode cX6_take 74 = .ok (.getfield 41, 3) := by decide +kernel
theorem dX6_take_77 : decode cX6_take 77 = .ok (.iload_n 2, 1) := by decide +kernel
theorem dX6_take_78 : decode cX6_take 78 = .ok (.iaload, 1) := by decide +kernel
theorem dX6_take_79 : decode cX6_take 79 = .ok (.goto 9, 3) := by decide +kernel
theorem dX6_take_82 : decode cX6_take 82 = .ok (.aload_n 0, 1) := by decide +kernel
theorem dX6_take_83 : decode cX6_take 83 = .ok (.getfield 50, 3) := by decide +kernel
theorem dX6_take_86 : decode cX6_take 86 = .ok (.iload_n 1, 1) := by decide +kernel
theorem dX6_take_87 : decode cX6_take 87 = .ok (.iaload, 1) := by decide +kernel
theorem dX6_take_88 : decode cX6_take 88 = .ok (.iastore, 1) := by decide +kernel
theorem dX6_take_89 : decode cX6_take 89 = .ok (.aload_n 0, 1) := by decide +kernel
theorem dX6_take_90 : decode cX6_take 90 = .ok (.getfield 35, 3) := by decide +kernel
theorem dX6_take_93 : decode cX6_take 93 = .ok (.iload_n 2, 1) := by decide +kernel
theorem dX6_take_94 : decode cX6_take 94 = .ok (.iconst 1, 1) := by decide +kernel
theorem dX6_take_95 : decode cX6_take 95 = .ok (.iastore, 1) := by decide +kernel
theorem dX6_take_96 : decode cX6_take 96 = .ok (.aload_n 0, 1) := by decide +kernel
theorem dX6_take_97 : decode cX6_take 97 = .ok (.getfield 38, 3) := by decide +kernel
theorem dX6_take_100 : decode cX6_take 100 = .ok (.iload_n 2, 1) := by decide +kernel
theorem dX6_take_101 : decode cX6_take 101 = .ok (.iload_n 1, 1) := by decide +kernel
theorem dX6_take_102 : decode cX6_take 102 = .ok (.iastore, 1) := by decide +kernel
theorem dX6_take_103 : decode cX6_take 103 = .ok (.aload_n 0, 1) := by decide +kernel
theorem dX6_take_104 : decode cX6_take 104 = .ok (.iload_n 1, 1) := by decide +kernel
theorem dX6_take_105 : decode cX6_take 105 = .ok (.invokevirtual 146, 3) := by decide +kernel
theorem dX6_take_108 : decode cX6_take 108 = .ok (.ireturn, 1) := by decide +kernel
theorem dX6_drop_0 : decode cX6_drop 0 = .ok (.aload_n 0, 1) := by decide +kernel
theorem dX6_drop_1 : decode cX6_drop 1 = .ok (.iload_n 1, 1) := by decide +kernel
theorem dX6_drop_2 : decode cX6_drop 2 = .ok (.invokevirtual 122, 3) := by decide +kernel
theorem dX6_drop_5 : decode cX6_drop 5 = .ok (.ifCond .ne 11, 3) := by decide +kernel
theorem dX6_drop_8 : decode cX6_drop 8 = .ok (.aload_n 0, 1) := by decide +kernel
theorem dX6_drop_9 : decode cX6_drop 9 = .ok (.iload_n 2, 1) := by decide +kernel
theorem dX6_drop_10 : decode cX6_drop 10 = .ok (.invokevirtual 143, 3) := by decide +kernel
theorem dX6_drop_13 : decode cX6_drop 13 = .ok (.ifCond .eq 5, 3) := by decide +kernel
theorem dX6_drop_16 : decode cX6_drop 16 = .ok (.iconst (-1), 1) := by decide +kernel
theorem dX6_drop_17 : decode cX6_drop 17 = .ok (.ireturn, 1) := by decide +kernel
theorem dX6_drop_18 : decode cX6_drop 18 = .ok (.aload_n 0, 1) := by decide +kernel
theorem dX6_drop_19 : decode cX6_drop 19 = .ok (.iload_n 1, 1) := by decide +kernel
theorem dX6_drop_20 : decode cX6_drop 20 = .ok (.invokevirtual 128, 3) := by decide +kernel
theorem dX6_drop_23 : decode cX6_drop 23 = .ok (.ifCond .eq 12, 3) := by decide +kernel
theorem dX6_drop_26 : decode cX6_drop 26 = .ok (.aload_n 0, 1) := by decide +kernel
theorem dX6_drop_27 : decode cX6_drop 27 = .ok (.iload_n 1, 1) := by decide +kernel
theorem dX6_drop_28 : decode cX6_drop 28 = .ok (.iload_n 2, 1) := by decide +kernel
theorem dX6_drop_29 : decode cX6_drop 29 = .ok (.invokevirtual 136, 3) := by decide +kernel
theorem dX6_drop_32 : decode cX6_drop 32 = .ok (.ifCond .ne 6, 3) := by decide +kernel
theorem dX6_drop_35 : decode cX6_drop 35 = .ok (.bipush (-4), 2) := by decide +kernel
theorem dX6_drop_37 : decode cX6_drop 37 = .ok (.ireturn, 1) := by decide +kernel
theorem dX6_drop_38 : decode cX6_drop 38 = .ok (.aload_n 0, 1) := by decide +kernel
theorem dX6_drop_39 : decode cX6_drop 39 = .ok (.getfield 35, 3) := by decide +kernel
theorem dX6_drop_42 : decode cX6_drop 42 = .ok (.iload_n 2, 1) := by decide +kernel
theorem dX6_drop_43 : decode cX6_drop 43 = .ok (.iconst 0, 1) := by decide +kernel
theorem dX6_drop_44 : decode cX6_drop 44 = .ok (.iastore, 1) := by decide +kernel
theorem dX6_drop_45 : decode cX6_drop 45 = .ok (.aload_n 0, 1) := by decide +kernel
theorem dX6_drop_46 : decode cX6_drop 46 = .ok (.getfield 38, 3) := by decide +kernel
theorem dX6_drop_49 : decode cX6_drop 49 = .ok (.iload_n 2, 1) := by decide +kernel
theorem dX6_drop_50 : decode cX6_drop 50 = .ok (.aload_n 0, 1) := by decide +kernel
theorem dX6_drop_51 : decode cX6_drop 51 = .ok (.getfield 47, 3) := by decide +kernel
theorem dX6_drop_54 : decode cX6_drop 54 = .ok (.iload_n 1, 1) := by decide +kernel
theorem dX6_drop_55 : decode cX6_drop 55 = .ok (.iaload, 1) := by decide +kernel
theorem dX6_drop_56 : decode cX6_drop 56 = .ok (.iastore, 1) := by decide +kernel
theorem dX6_drop_57 : decode cX6_drop 57 = .ok (.aload_n 0, 1) := by decide +kernel
theorem dX6_drop_58 : decode cX6_drop 58 = .ok (.getfield 41, 3) := by decide +kernel
theorem dX6_drop_61 : decode cX6_drop 61 = .ok (.iload_n 2, 1) := by decide +kernel
theorem dX6_drop_62 : decode cX6_drop 62 = .ok (.aload_n 0, 1) := by decide +kernel
theorem dX6_drop_63 : decode cX6_drop 63 = .ok (.getfield 50, 3) := by decide +kernel
theorem dX6_drop_66 : decode cX6_drop 66 = .ok (.iload_n 1, 1) := by decide +kernel
theorem dX6_drop_67 : decode cX6_drop 67 = .ok (.iaload, 1) := by decide +kernel
theorem dX6_drop_68 : decode cX6_drop 68 = .ok (.iastore, 1) := by decide +kernel
theorem dX6_drop_69 : decode cX6_drop 69 = .ok (.aload_n 0, 1) := by decide +kernel
theorem dX6_drop_70 : decode cX6_drop 70 = .ok (.iload_n 1, 1) := by decide +kernel
theorem dX6_drop_71 : decode cX6_drop 71 = .ok (.invokevirtual 146, 3) := by decide +kernel
theorem dX6_drop_74 : decode cX6_drop 74 = .ok (.ireturn, 1) := by decide +kernel
theorem dX6_idle_0 : decode cX6_idle 0 = .ok (.aload_n 0, 1) := by decide +kernel
theorem dX6_idle_1 : decode cX6_idle 1 = .ok (.iload_n 1, 1) := by decide +kernel
theorem dX6_idle_2 : decode cX6_idle 2 = .ok (.invokevirtual 122, 3) := by decide +kernel
theorem dX6_idle_5 : decode cX6_idle 5 = .ok (.ifCond .eq 5, 3) := by decide +kernel
theorem dX6_idle_8 : decode cX6_idle 8 = .ok (.iconst (-1), 1) := by decide +kernel
theorem dX6_idle_9 : decode cX6_idle 9 = .ok (.ireturn, 1) := by decide +kernel
theorem dX6_idle_10 : decode cX6_idle 10 = .ok (.iload_n 2, 1) := by decide +kernel
theorem dX6_idle_11 : decode cX6_idle 11 = .ok (.iconst 1, 1) := by decide +kernel
theorem dX6_idle_12 : decode cX6_idle 12 = .ok (.sipush 1000, 3) := by decide +kernel
theorem dX6_idle_15 : decode cX6_idle 15 = .ok (.invokestatic 90, 3) := by decide +kernel
theorem dX6_idle_18 : decode cX6_idle 18 = .ok (.ifCond .ne 6, 3) := by decide +kernel
theorem dX6_idle_21 : decode cX6_idle 21 = .ok (.bipush (-2), 2) := by decide +kernel
theorem dX6_idle_23 : decode cX6_idle 23 = .ok (.ireturn, 1) := by decide +kernel
theorem dX6_idle_24 : decode cX6_idle 24 = .ok (.aload_n 0, 1) := by decide +kernel
theorem dX6_idle_25 : decode cX6_idle 25 = .ok (.iload_n 1, 1) := by decide +kernel
theorem dX6_idle_26 : decode cX6_idle 26 = .ok (.invokevirtual 128, 3) := by decide +kernel
theorem dX6_idle_29 : decode cX6_idle 29 = .ok (.ifCond .ne 6, 3) := by decide +kernel
theorem dX6_idle_32 : decode cX6_idle 32 = .ok (.bipush (-4), 2) := by decide +kernel
theorem dX6_idle_34 : decode cX6_idle 34 = .ok (.ireturn, 1) := by decide +kernel
theorem dX6_idle_35 : decode cX6_idle 35 = .ok (.aload_n 0, 1) := by decide +kernel
theorem dX6_idle_36 : decode cX6_idle 36 = .ok (.getfield 50, 3) := by decide +kernel
theorem dX6_idle_39 : decode cX6_idle 39 = .ok (.iload_n 1, 1) := by decide +kernel
theorem dX6_idle_40 : decode cX6_idle 40 = .ok (.iaload, 1) := by decide +kernel
theorem dX6_idle_41 : decode cX6_idle 41 = .ok (.iload_n 2, 1) := by decide +kernel
theorem dX6_idle_42 : decode cX6_idle 42 = .ok (.iadd, 1) := by decide +kernel
theorem dX6_idle_43 : decode cX6_idle 43 = .ok (.ldc 135, 2) := by decide +kernel
theorem dX6_idle_45 : decode cX6_idle 45 = .ok (.if_icmp .le 6, 3) := by decide +kernel
theorem dX6_idle_48 : decode cX6_idle 48 = .ok (.bipush (-5), 2) := by decide +kernel
theorem dX6_idle_50 : decode cX6_idle 50 = .ok (.ireturn, 1) := by decide +kernel
theorem dX6_idle_51 : decode cX6_idle 51 = .ok (.aload_n 0, 1) := by decide +kernel
theorem dX6_idle_52 : decode cX6_idle 52 = .ok (.getfield 50, 3) := by decide +kernel
theorem dX6_idle_55 : decode cX6_idle 55 = .ok (.iload_n 1, 1) := by decide +kernel
theorem dX6_idle_56 : decode cX6_idle 56 = .ok (.dup2, 1) := by decide +kernel
theorem dX6_idle_57 : decode cX6_idle 57 = .ok (.iaload, 1) := by decide +kernel
theorem dX6_idle_58 : decode cX6_idle 58 = .ok (.iload_n 2, 1) := by decide +kernel
theorem dX6_idle_59 : decode cX6_idle 59 = .ok (.iadd, 1) := by decide +kernel
theorem dX6_idle_60 : decode cX6_idle 60 = .ok (.iastore, 1) := by decide +kernel
theorem dX6_idle_61 : decode cX6_idle 61 = .ok (.aload_n 0, 1) := by decide +kernel
theorem dX6_idle_62 : decode cX6_idle 62 = .ok (.getfield 50, 3) := by decide +kernel
theorem dX6_idle_65 : decode cX6_idle 65 = .ok (.iload_n 1, 1) := by decide +kernel
theorem dX6_idle_66 : decode cX6_idle 66 = .ok (.iaload, 1) := by decide +kernel
theorem dX6_idle_67 : decode cX6_idle 67 = .ok (.ireturn, 1) := by decide +kernel
theorem dX6_part_0 : decode cX6_part 0 = .ok (.aload_n 0, 1) := by decide +kernel
theorem dX6_part_1 : decode cX6_part 1 = .ok (.iload_n 1, 1) := by decide +kernel
theorem dX6_part_2 : decode cX6_part 2 = .ok (.invokevirtual 122, 3) := by decide +kernel
theorem dX6_part_5 : decode cX6_part 5 = .ok (.ifCond .eq 5, 3) := by decide +kernel
theorem dX6_part_8 : decode cX6_part 8 = .ok (.iconst (-1), 1) := by decide +kernel
theorem dX6_part_9 : decode cX6_part 9 = .ok (.ireturn, 1) := by decide +kernel
theorem dX6_part_10 : decode cX6_part 10 = .ok (.iload_n 2, 1) := by decide +kernel
theorem dX6_part_11 : decode cX6_part 11 = .ok (.iconst 1, 1) := by decide +kernel
theorem dX6_part_12 : decode cX6_part 12 = .ok (.bipush 23, 2) := by decide +kernel
theorem dX6_part_14 : decode cX6_part 14 = .ok (.invokestatic 90, 3) := by decide +kernel
theorem dX6_part_17 : decode cX6_part 17 = .ok (.ifCond .ne 6, 3) := by decide +kernel
theorem dX6_part_20 : decode cX6_part 20 = .ok (.bipush (-2), 2) := by decide +kernel
theorem dX6_part_22 : decode cX6_part 22 = .ok (.ireturn, 1) := by decide +kernel
theorem dX6_part_23 : decode cX6_part 23 = .ok (.aload_n 0, 1) := by decide +kernel
theorem dX6_part_24 : decode cX6_part 24 = .ok (.iload_n 1, 1) := by decide +kernel
theorem dX6_part_25 : decode cX6_part 25 = .ok (.invokevirtual 128, 3) := by decide +kernel
theorem dX6_part_28 : decode cX6_part 28 = .ok (.ifCond .eq 13, 3) := by decide +kernel
theorem dX6_part_31 : decode cX6_part 31 = .ok (.aload_n 0, 1) := by decide +kernel
theorem dX6_part_32 : decode cX6_part 32 = .ok (.getfield 44, 3) := by decide +kernel
theorem dX6_part_35 : decode cX6_part 35 = .ok (.iload_n 1, 1) := by decide +kernel
theorem dX6_part_36 : decode cX6_part 36 = .ok (.iaload, 1) := by decide +kernel
theorem dX6_part_37 : decode cX6_part 37 = .ok (.iload_n 2, 1) := by decide +kernel
theorem dX6_part_38 : decode cX6_part 38 = .ok (.if_icmp .gt 6, 3) := by decide +kernel
theorem dX6_part_41 : decode cX6_part 41 = .ok (.bipush (-4), 2) := by decide +kernel
theorem dX6_part_43 : decode cX6_part 43 = .ok (.ireturn, 1) := by decide +kernel
theorem dX6_part_44 : decode cX6_part 44 = .ok (.aload_n 0, 1) := by decide +kernel
theorem dX6_part_45 : decode cX6_part 45 = .ok (.getfield 100, 3) := by decide +kernel
theorem dX6_part_48 : decode cX6_part 48 = .ok (.bipush 6, 2) := by decide +kernel
theorem dX6_part_50 : decode cX6_part 50 = .ok (.if_icmp .ne 6, 3) := by decide +kernel
theorem dX6_part_53 : decode cX6_part 53 = .ok (.bipush (-3), 2) := by decide +kernel
theorem dX6_part_55 : decode cX6_part 55 = .ok (.ireturn, 1) := by decide +kernel
theorem dX6_part_56 : decode cX6_part 56 = .ok (.aload_n 0, 1) := by decide +kernel
theorem dX6_part_57 : decode cX6_part 57 = .ok (.getfield 44, 3) := by decide +kernel
theorem dX6_part_60 : decode cX6_part 60 = .ok (.iload_n 1, 1) := by decide +kernel
theorem dX6_part_61 : decode cX6_part 61 = .ok (.dup2, 1) := by decide +kernel
theorem dX6_part_62 : decode cX6_part 62 = .ok (.iaload, 1) := by decide +kernel
theorem dX6_part_63 : decode cX6_part 63 = .ok (.iload_n 2, 1) := by decide +kernel
theorem dX6_part_64 : decode cX6_part 64 = .ok (.isub, 1) := by decide +kernel
theorem dX6_part_65 : decode cX6_part 65 = .ok (.iastore, 1) := by decide +kernel
theorem dX6_part_66 : decode cX6_part 66 = .ok (.aload_n 0, 1) := by decide +kernel
theorem dX6_part_67 : decode cX6_part 67 = .ok (.iload_n 2, 1) := by decide +kernel
theorem dX6_part_68 : decode cX6_part 68 = .ok (.aload_n 0, 1) := by decide +kernel
theorem dX6_part_69 : decode cX6_part 69 = .ok (.getfield 47, 3) := by decide +kernel
theorem dX6_part_72 : decode cX6_part 72 = .ok (.iload_n 1, 1) := by decide +kernel
theorem dX6_part_73 : decode cX6_part 73 = .ok (.iaload, 1) := by decide +kernel
theorem dX6_part_74 : decode cX6_part 74 = .ok (.aload_n 0, 1) := by decide +kernel
theorem dX6_part_75 : decode cX6_part 75 = .ok (.getfield 50, 3) := by decide +kernel
theorem dX6_part_78 : decode cX6_part 78 = .ok (.iload_n 1, 1) := by decide +kernel
theorem dX6_part_79 : decode cX6_part 79 = .ok (.iaload, 1) := by decide +kernel
theorem dX6_part_80 : decode cX6_part 80 = .ok (.invokevirtual 118, 3) := by decide +kernel
theorem dX6_part_83 : decode cX6_part 83 = .ok (.ireturn, 1) := by decide +kernel
theorem dX6_join_0 : decode cX6_join 0 = .ok (.aload_n 0, 1) := by decide +kernel
theorem dX6_join_1 : decode cX6_join 1 = .ok (.iload_n 1, 1) := by decide +kernel
theorem dX6_join_2 : decode cX6_join 2 = .ok (.invokevirtual 122, 3) := by decide +kernel
theorem dX6_join_5 : decode cX6_join 5 = .ok (.ifCond .ne 11, 3) := by decide +kernel
theorem dX6_join_8 : decode cX6_join 8 = .ok (.aload_n 0, 1) := by decide +kernel
theorem dX6_join_9 : decode cX6_join 9 = .ok (.iload_n 2, 1) := by decide +kernel
theorem dX6_join_10 : decode cX6_join 10 = .ok (.invokevirtual 122, 3) := by decide +kernel
theorem dX6_join_13 : decode cX6_join 13 = .ok (.ifCond .eq 5, 3) := by decide +kernel
theorem dX6_join_16 : decode cX6_join 16 = .ok (.iconst (-1), 1) := by decide +kernel
theorem dX6_join_17 : decode cX6_join 17 = .ok (.ireturn, 1) := by decide +kernel
theorem dX6_join_18 : decode cX6_join 18 = .ok (.iload_n 1, 1) := by decide +kernel
theorem dX6_join_19 : decode cX6_join 19 = .ok (.iload_n 2, 1) := by decide +kernel
theorem dX6_join_20 : decode cX6_join 20 = .ok (.if_icmp .ne 6, 3) := by decide +kernel
theorem dX6_join_23 : decode cX6_join 23 = .ok (.bipush (-2), 2) := by decide +kernel
theorem dX6_join_25 : decode cX6_join 25 = .ok (.ireturn, 1) := by decide +kernel
theorem dX6_join_26 : decode cX6_join 26 = .ok (.aload_n 0, 1) := by decide +kernel
theorem dX6_join_27 : decode cX6_join 27 = .ok (.iload_n 1, 1) := by decide +kernel
theorem dX6_join_28 : decode cX6_join 28 = .ok (.invokevirtual 128, 3) := by decide +kernel
theorem dX6_join_31 : decode cX6_join 31 = .ok (.ifCond .eq 26, 3) := by decide +kernel
theorem dX6_join_34 : decode cX6_join 34 = .ok (.aload_n 0, 1) := by decide +kernel
theorem dX6_join_35 : decode cX6_join 35 = .ok (.iload_n 2, 1) := by decide +kernel
theorem dX6_join_36 : decode cX6_join 36 = .ok (.invokevirtual 128, 3) := by decide +kernel
theorem dX6_join_39 : decode cX6_join 39 = .ok (.ifCond .eq 18, 3) := by decide +kernel
theorem dX6_join_42 : decode cX6_join 42 = .ok (.aload_n 0, 1) := by decide +kernel
theorem dX6_join_43 : decode cX6_join 43 = .ok (.getfield 47, 3) := by decide +kernel
theorem dX6_join_46 : decode cX6_join 46 = .ok (.iload_n 1, 1) := by decide +kernel
theorem dX6_join_47 : decode cX6_join 47 = .ok (.iaload, 1) := by decide +kernel
theorem dX6_join_48 : decode cX6_join 48 = .ok (.aload_n 0, 1) := by decide +kernel
theorem dX6_join_49 : decode cX6_join 49 = .ok (.getfield 47, 3) := by decide +kernel
theorem dX6_join_52 : decode cX6_join 52 = .ok (.iload_n 2, 1) := by decide +kernel
theorem dX6_join_53 : decode cX6_join 53 = .ok (.iaload, 1) := by decide +kernel
theorem dX6_join_54 : decode cX6_join 54 = .ok (.if_icmp .eq 6, 3) := by decide +kernel
theorem dX6_join_57 : decode cX6_join 57 = .ok (.bipush (-4), 2) := by decide +kernel
theorem dX6_join_59 : decode cX6_join 59 = .ok (.ireturn, 1) := by decide +kernel
theorem dX6_join_60 : decode cX6_join 60 = .ok (.aload_n 0, 1) := by decide +kernel
theorem dX6_join_61 : decode cX6_join 61 = .ok (.getfield 44, 3) := by decide +kernel
theorem dX6_join_64 : decode cX6_join 64 = .ok (.iload_n 2, 1) := by decide +kernel
theorem dX6_join_65 : decode cX6_join 65 = .ok (.dup2, 1) := by decide +kernel
theorem dX6_join_66 : decode cX6_join 66 = .ok (.iaload, 1) := by decide +kernel
theorem dX6_join_67 : decode cX6_join 67 = .ok (.aload_n 0, 1) := by decide +kernel
theorem dX6_join_68 : decode cX6_join 68 = .ok (.getfield 44, 3) := by decide +kernel
theorem dX6_join_71 : decode cX6_join 71 = .ok (.iload_n 1, 1) := by decide +kernel
theorem dX6_join_72 : decode cX6_join 72 = .ok (.iaload, 1) := by decide +kernel
theorem dX6_join_73 : decode cX6_join 73 = .ok (.iadd, 1) := by decide +kernel
theorem dX6_join_74 : decode cX6_join 74 = .ok (.iastore, 1) := by decide +kernel
theorem dX6_join_75 : decode cX6_join 75 = .ok (.aload_n 0, 1) := by decide +kernel
theorem dX6_join_76 : decode cX6_join 76 = .ok (.getfield 44, 3) := by decide +kernel
theorem dX6_join_79 : decode cX6_join 79 = .ok (.iload_n 1, 1) := by decide +kernel
theorem dX6_join_80 : decode cX6_join 80 = .ok (.iconst 0, 1) := by decide +kernel
theorem dX6_join_81 : decode cX6_join 81 = .ok (.iastore, 1) := by decide +kernel
theorem dX6_join_82 : decode cX6_join 82 = .ok (.aload_n 0, 1) := by decide +kernel
theorem dX6_join_83 : decode cX6_join 83 = .ok (.getfield 56, 3) := by decide +kernel
theorem dX6_join_86 : decode cX6_join 86 = .ok (.iload_n 1, 1) := by decide +kernel
theorem dX6_join_87 : decode cX6_join 87 = .ok (.iconst 2, 1) := by decide +kernel
theorem dX6_join_88 : decode cX6_join 88 = .ok (.iastore, 1) := by decide +kernel
theorem dX6_join_89 : decode cX6_join 89 = .ok (.aload_n 0, 1) := by decide +kernel
theorem dX6_join_90 : decode cX6_join 90 = .ok (.getfield 50, 3) := by decide +kernel
theorem dX6_join_93 : decode cX6_join 93 = .ok (.iload_n 2, 1) := by decide +kernel
theorem dX6_join_94 : decode cX6_join 94 = .ok (.aload_n 0, 1) := by decide +kernel
theorem dX6_join_95 : decode cX6_join 95 = .ok (.getfield 50, 3) := by decide +kernel
theorem dX6_join_98 : decode cX6_join 98 = .ok (.iload_n 2, 1) := by decide +kernel
theorem dX6_join_99 : decode cX6_join 99 = .ok (.iaload, 1) := by decide +kernel
theorem dX6_join_100 : decode cX6_join 100 = .ok (.aload_n 0, 1) := by decide +kernel
theorem dX6_join_101 : decode cX6_join 101 = .ok (.getfield 50, 3) := by decide +kernel
theorem dX6_join_104 : decode cX6_join 104 = .ok (.iload_n 1, 1) := by decide +kernel
theorem dX6_join_105 : decode cX6_join 105 = .ok (.iaload, 1) := by decide +kernel
theorem dX6_join_106 : decode cX6_join 106 = .ok (.if_icmp .ge 12, 3) := by decide +kernel
theorem dX6_join_109 : decode cX6_join 109 = .ok (.aload_n 0, 1) := by decide +kernel
theorem dX6_join_110 : decode cX6_join 110 = .ok (.getfield 50, 3) := by decide +kernel
theorem dX6_join_113 : decode cX6_join 113 = .ok (.iload_n 1, 1) := by decide +kernel
theorem dX6_join_114 : decode cX6_join 114 = .ok (.iaload, 1) := by decide +kernel
theorem dX6_join_115 : decode cX6_join 115 = .ok (.goto 9, 3) := by decide +kernel
theorem dX6_join_118 : decode cX6_join 118 = .ok (.aload_n 0, 1) := by decide +kernel
theorem dX6_join_119 : decode cX6_join 119 = .ok (.getfield 50, 3) := by decide +kernel
theorem dX6_join_122 : decode cX6_join 122 = .ok (.iload_n 2, 1) := by decide +kernel
theorem dX6_join_123 : decode cX6_join 123 = .ok (.iaload, 1) := by decide +kernel
theorem dX6_join_124 : decode cX6_join 124 = .ok (.iastore, 1) := by decide +kernel
theorem dX6_join_125 : decode cX6_join 125 = .ok (.aload_n 0, 1) := by decide +kernel
theorem dX6_join_126 : decode cX6_join 126 = .ok (.getfield 53, 3) := by decide +kernel
theorem dX6_join_129 : decode cX6_join 129 = .ok (.iload_n 2, 1) := by decide +kernel
theorem dX6_join_130 : decode cX6_join 130 = .ok (.dup2, 1) := by decide +kernel
theorem dX6_join_131 : decode cX6_join 131 = .ok (.iaload, 1) := by decide +kernel
theorem dX6_join_132 : decode cX6_join 132 = .ok (.aload_n 0, 1) := by decide +kernel
theorem dX6_join_133 : decode cX6_join 133 = .ok (.getfield 53, 3) := by decide +kernel
theorem dX6_join_136 : decode cX6_join 136 = .ok (.iload_n 1, 1) := by decide +kernel
theorem dX6_join_137 : decode cX6_join 137 = .ok (.iaload, 1) := by decide +kernel
theorem dX6_join_138 : decode cX6_join 138 = .ok (.iadd, 1) := by decide +kernel
theorem dX6_join_139 : decode cX6_join 139 = .ok (.iastore, 1) := by decide +kernel
theorem dX6_join_140 : decode cX6_join 140 = .ok (.iconst 0, 1) := by decide +kernel
theorem dX6_join_141 : decode cX6_join 141 = .ok (.istore_n 3, 1) := by decide +kernel
theorem dX6_join_142 : decode cX6_join 142 = .ok (.iload_n 3, 1) := by decide +kernel
theorem dX6_join_143 : decode cX6_join 143 = .ok (.aload_n 0, 1) := by decide +kernel
theorem dX6_join_144 : decode cX6_join 144 = .ok (.getfield 97, 3) := by decide +kernel
theorem dX6_join_147 : decode cX6_join 147 = .ok (.if_icmp .ge 34, 3) := by decide +kernel
theorem dX6_join_150 : decode cX6_join 150 = .ok (.aload_n 0, 1) := by decide +kernel
theorem dX6_join_151 : decode cX6_join 151 = .ok (.getfield 38, 3) := by decide +kernel
theorem dX6_join_154 : decode cX6_join 154 = .ok (.iload_n 3, 1) := by decide +kernel
theorem dX6_join_155 : decode cX6_join 155 = .ok (.aload_n 0, 1) := by decide +kernel
theorem dX6_join_156 : decode cX6_join 156 = .ok (.iload_n 1, 1) := by decide +kernel
theorem dX6_join_157 : decode cX6_join 157 = .ok (.iload_n 3, 1) := by decide +kernel
theorem dX6_join_158 : decode cX6_join 158 = .ok (.invokevirtual 136, 3) := by decide +kernel
theorem dX6_join_161 : decode cX6_join 161 = .ok (.ifCond .eq 7, 3) := by decide +kernel
theorem dX6_join_164 : decode cX6_join 164 = .ok (.iload_n 2, 1) := by decide +kernel
theorem dX6_join_165 : decode cX6_join 165 = .ok (.goto 9, 3) := by decide +kernel
theorem dX6_join_168 : decode cX6_join 168 = .ok (.aload_n 0, 1) := by decide +kernel
theorem dX6_join_169 : decode cX6_join 169 = .ok (.getfield 38, 3) := by decide +kernel
theorem dX6_join_172 : decode cX6_join 172 = .ok (.iload_n 3, 1) := by decide +kernel
theorem dX6_join_173 : decode cX6_join 173 = .ok (.iaload, 1) := by decide +kernel
theorem dX6_join_174 : decode cX6_join 174 = .ok (.iastore, 1) := by decide +kernel
theorem dX6_join_175 : decode cX6_join 175 = .ok (.iinc 3 1, 3) := by decide +kernel
theorem dX6_join_178 : decode cX6_join 178 = .ok (.goto (-36), 3) := by decide +kernel
theorem dX6_join_181 : decode cX6_join 181 = .ok (.aload_n 0, 1) := by decide +kernel
theorem dX6_join_182 : decode cX6_join 182 = .ok (.getfield 44, 3) := by decide +kernel
theorem dX6_join_185 : decode cX6_join 185 = .ok (.iload_n 2, 1) := by decide +kernel
theorem dX6_join_186 : decode cX6_join 186 = .ok (.iaload, 1) := by decide +kernel
theorem dX6_join_187 : decode cX6_join 187 = .ok (.ireturn, 1) := by decide +kernel
theorem dX6_leave_0 : decode cX6_leave 0 = .ok (.aload_n 0, 1) := by decide +kernel
theorem dX6_leave_1 : decode cX6_leave 1 = .ok (.iload_n 1, 1) := by decide +kernel
theorem dX6_leave_2 : decode cX6_leave 2 = .ok (.invokevirtual 122, 3) := by decide +kernel
theorem dX6_leave_5 : decode cX6_leave 5 = .ok (.ifCond .eq 5, 3) := by decide +kernel
theorem dX6_leave_8 : decode cX6_leave 8 = .ok (.iconst (-1), 1) := by decide +kernel
theorem dX6_leave_9 : decode cX6_leave 9 = .ok (.ireturn, 1) := by decide +kernel
theorem dX6_leave_10 : decode cX6_leave 10 = .ok (.aload_n 0, 1) := by decide +kernel
theorem dX6_leave_11 : decode cX6_leave 11 = .ok (.iload_n 1, 1) := by decide +kernel
theorem dX6_leave_12 : decode cX6_leave 12 = .ok (.invokevirtual 128, 3) := by decide +kernel
theorem dX6_leave_15 : decode cX6_leave 15 = .ok (.ifCond .eq 16, 3) := by decide +kernel
theorem dX6_leave_18 : decode cX6_leave 18 = .ok (.aload_n 0, 1) := by decide +kernel
theorem dX6_leave_19 : decode cX6_leave 19 = .ok (.getfield 47, 3) := by decide +kernel
theorem dX6_leave_22 : decode cX6_leave 22 = .ok (.iload_n 1, 1) := by decide +kernel
theorem dX6_leave_23 : decode cX6_leave 23 = .ok (.iaload, 1) := by decide +kernel
theorem dX6_leave_24 : decode cX6_leave 24 = .ok (.aload_n 0, 1) := by decide +kernel
theorem dX6_leave_25 : decode cX6_leave 25 = .ok (.getfield 9, 3) := by decide +kernel
theorem dX6_leave_28 : decode cX6_leave 28 = .ok (.if_icmp .eq 6, 3) := by decide +kernel
theorem dX6_leave_31 : decode cX6_leave 31 = .ok (.bipush (-4), 2) := by decide +kernel
theorem dX6_leave_33 : decode cX6_leave 33 = .ok (.ireturn, 1) := by decide +kernel
theorem dX6_leave_34 : decode cX6_leave 34 = .ok (.aload_n 0, 1) := by decide +kernel
theorem dX6_leave_35 : decode cX6_leave 35 = .ok (.getfield 56, 3) := by decide +kernel
theorem dX6_leave_38 : decode cX6_leave 38 = .ok (.iload_n 1, 1) := by decide +kernel
theorem dX6_leave_39 : decode cX6_leave 39 = .ok (.iconst 1, 1) := by decide +kernel
theorem dX6_leave_40 : decode cX6_leave 40 = .ok (.iastore, 1) := by decide +kernel
theorem dX6_leave_41 : decode cX6_leave 41 = .ok (.aload_n 0, 1) := by decide +kernel
theorem dX6_leave_42 : decode cX6_leave 42 = .ok (.getfield 50, 3) := by decide +kernel
theorem dX6_leave_45 : decode cX6_leave 45 = .ok (.iload_n 1, 1) := by decide +kernel
theorem dX6_leave_46 : decode cX6_leave 46 = .ok (.iaload, 1) := by decide +kernel
theorem dX6_leave_47 : decode cX6_leave 47 = .ok (.ireturn, 1) := by decide +kernel
theorem dX6_has_0 : decode cX6_has 0 = .ok (.iload_n 0, 1) := by decide +kernel
theorem dX6_has_1 : decode cX6_has 1 = .ok (.iload_n 1, 1) := by decide +kernel
theorem dX6_has_2 : decode cX6_has 2 = .ok (.ishr, 1) := by decide +kernel
theorem dX6_has_3 : decode cX6_has 3 = .ok (.iconst 1, 1) := by decide +kernel
theorem dX6_has_4 : decode cX6_has 4 = .ok (.iand, 1) := by decide +kernel
theorem dX6_has_5 : decode cX6_has 5 = .ok (.iconst 1, 1) := by decide +kernel
theorem dX6_has_6 : decode cX6_has 6 = .ok (.if_icmp .ne 7, 3) := by decide +kernel
theorem dX6_has_9 : decode cX6_has 9 = .ok (.iconst 1, 1) := by decide +kernel
theorem dX6_has_10 : decode cX6_has 10 = .ok (.goto 4, 3) := by decide +kernel
theorem dX6_has_13 : decode cX6_has 13 = .ok (.iconst 0, 1) := by decide +kernel
theorem dX6_has_14 : decode cX6_has 14 = .ok (.ireturn, 1) := by decide +kernel
theorem dX6_reachable_0 : decode cX6_reachable 0 = .ok (.iconst 1, 1) := by decide +kernel
theorem dX6_reachable_1 : decode cX6_reachable 1 = .ok (.iload_n 1, 1) := by decide +kernel
theorem dX6_reachable_2 : decode cX6_reachable 2 = .ok (.ishl, 1) := by decide +kernel
theorem dX6_reachable_3 : decode cX6_reachable 3 = .ok (.istore_n 3, 1) := by decide +kernel
theorem dX6_reachable_4 : decode cX6_reachable 4 = .ok (.iconst 1, 1) := by decide +kernel
theorem dX6_reachable_5 : decode cX6_reachable 5 = .ok (.istore 4, 2) := by decide +kernel
theorem dX6_reachable_7 : decode cX6_reachable 7 = .ok (.iload 4, 2) := by decide +kernel
theorem dX6_reachable_9 : decode cX6_reachable 9 = .ok (.ifCond .eq 108, 3) := by decide +kernel
theorem dX6_reachable_12 : decode cX6_reachable 12 = .ok (.iconst 0, 1) := by decide +kernel
theorem dX6_reachable_13 : decode cX6_reachable 13 = .ok (.istore 4, 2) := by decide +kernel
theorem dX6_reachable_15 : decode cX6_reachable 15 = .ok (.iconst 0, 1) := by decide +kernel
theorem dX6_reachable_16 : decode cX6_reachable 16 = .ok (.istore 5, 2) := by decide +kernel
theorem dX6_reachable_18 : decode cX6_reachable 18 = .ok (.iload 5, 2) := by decide +kernel
theorem dX6_reachable_20 : decode cX6_reachable 20 = .ok (.aload_n 0, 1) := by decide +kernel
theorem dX6_reachable_21 : decode cX6_reachable 21 = .ok (.getfield 94, 3) := by decide +kernel
theorem dX6_reachable_24 : decode cX6_reachable 24 = .ok (.if_icmp .ge 90, 3) := by decide +kernel
theorem dX6_reachable_27 : decode cX6_reachable 27 = .ok (.aload_n 0, 1) := by decide +kernel
theorem dX6_reachable_28 : decode cX6_reachable 28 = .ok (.getfield 29, 3) := by decide +kernel
theorem dX6_reachable_31 : decode cX6_reachable 31 = .ok (.iload 5, 2) := by decide +kernel
theorem dX6_reachable_33 : decode cX6_reachable 33 = .ok (.iaload, 1) := by decide +kernel
theorem dX6_reachable_34 : decode cX6_reachable 34 = .ok (.ifCond .ge 12, 3) := by decide +kernel
theorem dX6_reachable_37 : decode cX6_reachable 37 = .ok (.iload_n 2, 1) := by decide +kernel
theorem dX6_reachable_38 : decode cX6_reachable 38 = .ok (.iload 5, 2) := by decide +kernel
theorem dX6_reachable_40 : decode cX6_reachable 40 = .ok (.invokestatic 150, 3) := by decide +kernel
theorem dX6_reachable_43 : decode cX6_reachable 43 = .ok (.ifCond .eq 7, 3) := by decide +kernel
theorem dX6_reachable_46 : decode cX6_reachable 46 = .ok (.iconst 1, 1) := by decide +kernel
theorem dX6_reachable_47 : decode cX6_reachable 47 = .ok (.goto 4, 3) := by decide +kernel
theorem dX6_reachable_50 : decode cX6_reachable 50 = .ok (.iconst 0, 1) := by decide +kernel
theorem dX6_reachable_51 : decode cX6_reachable 51 = .ok (.istore 6, 2) := by decide +kernel
theorem dX6_reachable_53 : decode cX6_reachable 53 = .ok (.iload 6, 2) := by decide +kernel
theorem dX6_reachable_55 : decode cX6_reachable 55 = .ok (.ifCond .eq 53, 3) := by decide +kernel
theorem dX6_reachable_58 : decode cX6_reachable 58 = .ok (.iload_n 3, 1) := by decide +kernel
theorem dX6_reachable_59 : decode cX6_reachable 59 = .ok (.aload_n 0, 1) := by decide +kernel
theorem dX6_reachable_60 : decode cX6_reachable 60 = .ok (.getfield 13, 3) := by decide +kernel
theorem dX6_reachable_63 : decode cX6_reachable 63 = .ok (.iload 5, 2) := by decide +kernel
theorem dX6_reachable_65 : decode cX6_reachable 65 = .ok (.iaload, 1) := by decide +kernel
theorem dX6_reachable_66 : decode cX6_reachable 66 = .ok (.invokestatic 150, 3) := by decide +kernel
theorem dX6_reachable_69 : decode cX6_reachable 69 = .ok (.iload_n 3, 1) := by decide +kernel
theorem dX6_reachable_70 : decode cX6_reachable 70 = .ok (.aload_n 0, 1) := by decide +kernel
theorem dX6_reachable_71 : decode cX6_reachable 71 = .ok (.getfield 17, 3) := by decide +kernel
theorem dX6_reachable_74 : decode cX6_reachable 74 = .ok (.iload 5, 2) := by decide +kernel
theorem dX6_reachable_76 : decode cX6_reachable 76 = .ok (.iaload, 1) := by decide +kernel
theorem dX6_reachable_77 : decode cX6_reachable 77 = .ok (.invokestatic 150, 3) := by decide +kernel
theorem dX6_reachable_80 : decode cX6_reachable 80 = .ok (.if_icmp .eq 28, 3) := by decide +kernel
theorem dX6_reachable_83 : decode cX6_reachable 83 = .ok (.iload_n 3, 1) := by decide +kernel
theorem dX6_reachable_84 : decode cX6_reachable 84 = .ok (.iconst 1, 1) := by decide +kernel
theorem dX6_reachable_85 : decode cX6_reachable 85 = .ok (.aload_n 0, 1) := by decide +kernel
theorem dX6_reachable_86 : decode cX6_reachable 86 = .ok (.getfield 13, 3) := by decide +kernel
theorem dX6_reachable_89 : decode cX6_reachable 89 = .ok (.iload 5, 2) := by decide +kernel
theorem dX6_reachable_91 : decode cX6_reachable 91 = .ok (.iaload, 1) := by decide +kernel
theorem dX6_reachable_92 : decode cX6_reachable 92 = .ok (.ishl, 1) := by decide +kernel
theorem dX6_reachable_93 : decode cX6_reachable 93 = .ok (.iconst 1, 1) := by decide +kernel
theorem dX6_reachable_94 : decode cX6_reachable 94 = .ok (.aload_n 0, 1) := by decide +kernel
theorem dX6_reachable_95 : decode cX6_reachable 95 = .ok (.getfield 17, 3) := by decide +kernel
theorem dX6_reachable_98 : decode cX6_reachable 98 = .ok (.iload 5, 2) := by decide +kernel
theorem dX6_reachable_100 : decode cX6_reachable 100 = .ok (.iaload, 1) := by decide +kernel
theorem dX6_reachable_101 : decode cX6_reachable 101 = .ok (.ishl, 1) := by decide +kernel
theorem dX6_reachable_102 : decode cX6_reachable 102 = .ok (.ior, 1) := by decide +kernel
theorem dX6_reachable_103 : decode cX6_reachable 103 = .ok (.ior, 1) := by decide +kernel
theorem dX6_reachable_104 : decode cX6_reachable 104 = .ok (.istore_n 3, 1) := by decide +kernel
theorem dX6_reachable_105 : decode cX6_reachable 105 = .ok (.iconst 1, 1) := by decide +kernel
theorem dX6_reachable_106 : decode cX6_reachable 106 = .ok (.istore 4, 2) := by decide +kernel
theorem dX6_reachable_108 : decode cX6_reachable 108 = .ok (.iinc 5 1, 3) := by decide +kernel
theorem dX6_reachable_111 : decode cX6_reachable 111 = .ok (.goto (-93), 3) := by decide +kernel
theorem dX6_reachable_114 : decode cX6_reachable 114 = .ok (.goto (-107), 3) := by decide +kernel
theorem dX6_reachable_117 : decode cX6_reachable 117 = .ok (.iload_n 3, 1) := by decide +kernel
theorem dX6_reachable_118 : decode cX6_reachable 118 = .ok (.ireturn, 1) := by decide +kernel
theorem dX6_layLocks_0 : decode cX6_layLocks 0 = .ok (.aload_n 0, 1) := by decide +kernel
theorem dX6_layLocks_1 : decode cX6_layLocks 1 = .ok (.iconst 0, 1) := by decide +kernel
theorem dX6_layLocks_2 : decode cX6_layLocks 2 = .ok (.putfield 153, 3) := by decide +kernel
theorem dX6_layLocks_5 : decode cX6_layLocks 5 = .ok (.iconst 0, 1) := by decide +kernel
theorem dX6_layLocks_6 : decode cX6_layLocks 6 = .ok (.istore_n 1, 1) := by decide +kernel
theorem dX6_layLocks_7 : decode cX6_layLocks 7 = .ok (.iload_n 1, 1) := by decide +kernel
theorem dX6_layLocks_8 : decode cX6_layLocks 8 = .ok (.aload_n 0, 1) := by decide +kernel
theorem dX6_layLocks_9 : decode cX6_layLocks 9 = .ok (.getfield 94, 3) := by decide +kernel
theorem dX6_layLocks_12 : decode cX6_layLocks 12 = .ok (.if_icmp .ge 38, 3) := by decide +kernel
theorem dX6_layLocks_15 : decode cX6_layLocks 15 = .ok (.aload_n 0, 1) := by decide +kernel
theorem dX6_layLocks_16 : decode cX6_layLocks 16 = .ok (.getfield 29, 3) := by decide +kernel
theorem dX6_layLocks_19 : decode cX6_layLocks 19 = .ok (.iload_n 1, 1) := by decide +kernel
theorem dX6_layLocks_20 : decode cX6_layLocks 20 = .ok (.iaload, 1) := by decide +kernel
theorem dX6_layLocks_21 : decode cX6_layLocks 21 = .ok (.ifCond .ge 23, 3) := by decide +kernel
theorem dX6_layLocks_24 : decode cX6_layLocks 24 = .ok (.aload_n 0, 1) := by decide +kernel
theorem dX6_layLocks_25 : decode cX6_layLocks 25 = .ok (.getfield 65, 3) := by decide +kernel
theorem dX6_layLocks_28 : decode cX6_layLocks 28 = .ok (.aload_n 0, 1) := by decide +kernel
theorem dX6_layLocks_29 : decode cX6_layLocks 29 = .ok (.getfield 153, 3) := by decide +kernel
theorem dX6_layLocks_32 : decode cX6_layLocks 32 = .ok (.iload_n 1, 1) := by decide +kernel
theorem dX6_layLocks_33 : decode cX6_layLocks 33 = .ok (.iastore, 1) := by decide +kernel
theorem dX6_layLocks_34 : decode cX6_layLocks 34 = .ok (.aload_n 0, 1) := by decide +kernel
theorem dX6_layLocks_35 : decode cX6_layLocks 35 = .ok (.dup, 1) := by decide +kernel
theorem dX6_layLocks_36 : decode cX6_layLocks 36 = .ok (.getfield 153, 3) := by decide +kernel
theorem dX6_layLocks_39 : decode cX6_layLocks 39 = .ok (.iconst 1, 1) := by decide +kernel
theorem dX6_layLocks_40 : decode cX6_layLocks 40 = .ok (.iadd, 1) := by decide +kernel
theorem dX6_layLocks_41 : decode cX6_layLocks 41 = .ok (.putfield 153, 3) := by decide +kernel
theorem dX6_layLocks_44 : decode cX6_layLocks 44 = .ok (.iinc 1 1, 3) := by decide +kernel
theorem dX6_layLocks_47 : decode cX6_layLocks 47 = .ok (.goto (-40), 3) := by decide +kernel
theorem dX6_layLocks_50 : decode cX6_layLocks 50 = .ok (.return_, 1) := by decide +kernel
theorem dX6_costOf_0 : decode cX6_costOf 0 = .ok (.iconst 0, 1) := by decide +kernel
theorem dX6_costOf_1 : decode cX6_costOf 1 = .ok (.istore_n 2, 1) := by decide +kernel
theorem dX6_costOf_2 : decode cX6_costOf 2 = .ok (.iconst 0, 1) := by decide +kernel
theorem dX6_costOf_3 : decode cX6_costOf 3 = .ok (.istore_n 3, 1) := by decide +kernel
theorem dX6_costOf_4 : decode cX6_costOf 4 = .ok (.iload_n 3, 1) := by decide +kernel
theorem dX6_costOf_5 : decode cX6_costOf 5 = .ok (.aload_n 0, 1) := by decide +kernel
theorem dX6_costOf_6 : decode cX6_costOf 6 = .ok (.getfield 153, 3) := by decide +kernel
theorem dX6_costOf_9 : decode cX6_costOf 9 = .ok (.if_icmp .ge 35, 3) := by decide +kernel
theorem dX6_costOf_12 : decode cX6_costOf 12 = .ok (.iload_n 2, 1) := by decide +kernel
theorem dX6_costOf_13 : decode cX6_costOf 13 = .ok (.iload_n 1, 1) := by decide +kernel
theorem dX6_costOf_14 : decode cX6_costOf 14 = .ok (.iload_n 3, 1) := by decide +kernel
theorem dX6_costOf_15 : decode cX6_costOf 15 = .ok (.invokestatic 150, 3) := by decide +kernel
theorem dX6_costOf_18 : decode cX6_costOf 18 = .ok (.ifCond .eq 17, 3) := by decide +kernel
theorem dX6_costOf_21 : decode cX6_costOf 21 = .ok (.aload_n 0, 1) := by decide +kernel
theorem dX6_costOf_22 : decode cX6_costOf 22 = .ok (.getfield 26, 3) := by decide +kernel
theorem dX6_costOf_25 : decode cX6_costOf 25 = .ok (.aload_n 0, 1) := by decide +kernel
theorem dX6_costOf_26 : decode cX6_costOf 26 = .ok (.getfield 65, 3) := by decide +kernel
theorem dX6_costOf_29 : decode cX6_costOf 29 = .ok (.iload_n 3, 1) := by decide +kernel
theorem dX6_costOf_30 : decode cX6_costOf 30 = .ok (.iaload, 1) := by decide +kernel
theorem dX6_costOf_31 : decode cX6_costOf 31 = .ok (.iaload, 1) := by decide +kernel
theorem dX6_costOf_32 : decode cX6_costOf 32 = .ok (.goto 4, 3) := by decide +kernel
theorem dX6_costOf_35 : decode cX6_costOf 35 = .ok (.iconst 0, 1) := by decide +kernel
theorem dX6_costOf_36 : decode cX6_costOf 36 = .ok (.iadd, 1) := by decide +kernel
theorem dX6_costOf_37 : decode cX6_costOf 37 = .ok (.istore_n 2, 1) := by decide +kernel
theorem dX6_costOf_38 : decode cX6_costOf 38 = .ok (.iinc 3 1, 3) := by decide +kernel
theorem dX6_costOf_41 : decode cX6_costOf 41 = .ok (.goto (-37), 3) := by decide +kernel
theorem dX6_costOf_44 : decode cX6_costOf 44 = .ok (.iload_n 2, 1) := by decide +kernel
theorem dX6_costOf_45 : decode cX6_costOf 45 = .ok (.ireturn, 1) := by decide +kernel
theorem dX6_sizeOfSet_0 : decode cX6_sizeOfSet 0 = .ok (.iconst 0, 1) := by decide +kernel
theorem dX6_sizeOfSet_1 : decode cX6_sizeOfSet 1 = .ok (.istore_n 2, 1) := by decide +kernel
theorem dX6_sizeOfSet_2 : decode cX6_sizeOfSet 2 = .ok (.iconst 0, 1) := by decide +kernel
theorem dX6_sizeOfSet_3 : decode cX6_sizeOfSet 3 = .ok (.istore_n 3, 1) := by decide +kernel
theorem dX6_sizeOfSet_4 : decode cX6_sizeOfSet 4 = .ok (.iload_n 3, 1) := by decide +kernel
theorem dX6_sizeOfSet_5 : decode cX6_sizeOfSet 5 = .ok (.aload_n 0, 1) := by decide +kernel
theorem dX6_sizeOfSet_6 : decode cX6_sizeOfSet 6 = .ok (.getfield 153, 3) := by decide +kernel
theorem dX6_sizeOfSet_9 : decode cX6_sizeOfSet 9 = .ok (.if_icmp .ge 25, 3) := by decide +kernel
theorem dX6_sizeOfSet_12 : decode cX6_sizeOfSet 12 = .ok (.iload_n 2, 1) := by decide +kernel
theorem dX6_sizeOfSet_13 : decode cX6_sizeOfSet 13 = .ok (.iload_n 1, 1) := by decide +kernel
theorem dX6_sizeOfSet_14 : decode cX6_sizeOfSet 14 = .ok (.iload_n 3, 1) := by decide +kernel
theorem dX6_sizeOfSet_15 : decode cX6_sizeOfSet 15 = .ok (.invokestatic 150, 3) := by decide +kernel
theorem dX6_sizeOfSet_18 : decode cX6_sizeOfSet 18 = .ok (.ifCond .eq 7, 3) := by decide +kernel
theorem dX6_sizeOfSet_21 : decode cX6_sizeOfSet 21 = .ok (.iconst 1, 1) := by decide +kernel
theorem dX6_sizeOfSet_22 : decode cX6_sizeOfSet 22 = .ok (.goto 4, 3) := by decide +kernel
theorem dX6_sizeOfSet_25 : decode cX6_sizeOfSet 25 = .ok (.iconst 0, 1) := by decide +kernel
theorem dX6_sizeOfSet_26 : decode cX6_sizeOfSet 26 = .ok (.iadd, 1) := by decide +kernel
theorem dX6_sizeOfSet_27 : decode cX6_sizeOfSet 27 = .ok (.istore_n 2, 1) := by decide +kernel
theorem dX6_sizeOfSet_28 : decode cX6_sizeOfSet 28 = .ok (.iinc 3 1, 3) := by decide +kernel
theorem dX6_sizeOfSet_31 : decode cX6_sizeOfSet 31 = .ok (.goto (-27), 3) := by decide +kernel
theorem dX6_sizeOfSet_34 : decode cX6_sizeOfSet 34 = .ok (.iload_n 2, 1) := by decide +kernel
theorem dX6_sizeOfSet_35 : decode cX6_sizeOfSet 35 = .ok (.ireturn, 1) := by decide +kernel
theorem dX6_canAdd_0 : decode cX6_canAdd 0 = .ok (.aload_n 0, 1) := by decide +kernel
theorem dX6_canAdd_1 : decode cX6_canAdd 1 = .ok (.getfield 65, 3) := by decide +kernel
theorem dX6_canAdd_4 : decode cX6_canAdd 4 = .ok (.iload_n 3, 1) := by decide +kernel
theorem dX6_canAdd_5 : decode cX6_canAdd 5 = .ok (.iaload, 1) := by decide +kernel
theorem dX6_canAdd_6 : decode cX6_canAdd 6 = .ok (.istore 4, 2) := by decide +kernel
theorem dX6_canAdd_8 : decode cX6_canAdd 8 = .ok (.aload_n 0, 1) := by decide +kernel
theorem dX6_canAdd_9 : decode cX6_canAdd 9 = .ok (.getfield 71, 3) := by decide +kernel
theorem dX6_canAdd_12 : decode cX6_canAdd 12 = .ok (.iload_n 2, 1) := by decide +kernel
theorem dX6_canAdd_13 : decode cX6_canAdd 13 = .ok (.iaload, 1) := by decide +kernel
theorem dX6_canAdd_14 : decode cX6_canAdd 14 = .ok (.aload_n 0, 1) := by decide +kernel
theorem dX6_canAdd_15 : decode cX6_canAdd 15 = .ok (.getfield 13, 3) := by decide +kernel
theorem dX6_canAdd_18 : decode cX6_canAdd 18 = .ok (.iload 4, 2) := by decide +kernel
theorem dX6_canAdd_20 : decode cX6_canAdd 20 = .ok (.iaload, 1) := by decide +kernel
theorem dX6_canAdd_21 : decode cX6_canAdd 21 = .ok (.invokestatic 150, 3) := by decide +kernel
theorem dX6_canAdd_24 : decode cX6_canAdd 24 = .ok (.ifCond .ne 22, 3) := by decide +kernel
theorem dX6_canAdd_27 : decode cX6_canAdd 27 = .ok (.aload_n 0, 1) := by decide +kernel
theorem dX6_canAdd_28 : decode cX6_canAdd 28 = .ok (.getfield 71, 3) := by decide +kernel
theorem dX6_canAdd_31 : decode cX6_canAdd 31 = .ok (.iload_n 2, 1) := by decide +kernel
theorem dX6_canAdd_32 : decode cX6_canAdd 32 = .ok (.iaload, 1) := by decide +kernel
theorem dX6_canAdd_33 : decode cX6_canAdd 33 = .ok (.aload_n 0, 1) := by decide +kernel
theorem dX6_canAdd_34 : decode cX6_canAdd 34 = .ok (.getfield 17, 3) := by decide +kernel
theorem dX6_canAdd_37 : decode cX6_canAdd 37 = .ok (.iload 4, 2) := by decide +kernel
theorem dX6_canAdd_39 : decode cX6_canAdd 39 = .ok (.iaload, 1) := by decide +kernel
theorem dX6_canAdd_40 : decode cX6_canAdd 40 = .ok (.invokestatic 150, 3) := by decide +kernel
theorem dX6_canAdd_43 : decode cX6_canAdd 43 = .ok (.ifCond .eq 7, 3) := by decide +kernel
theorem dX6_canAdd_46 : decode cX6_canAdd 46 = .ok (.iconst 1, 1) := by decide +kernel
theorem dX6_canAdd_47 : decode cX6_canAdd 47 = .ok (.goto 4, 3) := by decide +kernel
theorem dX6_canAdd_50 : decode cX6_canAdd 50 = .ok (.iconst 0, 1) := by decide +kernel
theorem dX6_canAdd_51 : decode cX6_canAdd 51 = .ok (.istore 5, 2) := by decide +kernel
theorem dX6_canAdd_53 : decode cX6_canAdd 53 = .ok (.iconst 0, 1) := by decide +kernel
theorem dX6_canAdd_54 : decode cX6_canAdd 54 = .ok (.istore 6, 2) := by decide +kernel
theorem dX6_canAdd_56 : decode cX6_canAdd 56 = .ok (.iconst 0, 1) := by decide +kernel
theorem dX6_canAdd_57 : decode cX6_canAdd 57 = .ok (.istore 7, 2) := by decide +kernel
theorem dX6_canAdd_59 : decode cX6_canAdd 59 = .ok (.iload 7, 2) := by decide +kernel
theorem dX6_canAdd_61 : decode cX6_canAdd 61 = .ok (.aload_n 0, 1) := by decide +kernel
theorem dX6_canAdd_62 : decode cX6_canAdd 62 = .ok (.getfield 97, 3) := by decide +kernel
theorem dX6_canAdd_65 : decode cX6_canAdd 65 = .ok (.if_icmp .ge 87, 3) := by decide +kernel
theorem dX6_canAdd_68 : decode cX6_canAdd 68 = .ok (.aload_n 0, 1) := by decide +kernel
theorem dX6_canAdd_69 : decode cX6_canAdd 69 = .ok (.getfield 35, 3) := by decide +kernel
theorem dX6_canAdd_72 : decode cX6_canAdd 72 = .ok (.iload 7, 2) := by decide +kernel
theorem dX6_canAdd_74 : decode cX6_canAdd 74 = .ok (.iaload, 1) := by decide +kernel
theorem dX6_canAdd_75 : decode cX6_canAdd 75 = .ok (.ifCond .ne 26, 3) := by decide +kernel
theorem dX6_canAdd_78 : decode cX6_canAdd 78 = .ok (.aload_n 0, 1) := by decide +kernel
theorem dX6_canAdd_79 : decode cX6_canAdd 79 = .ok (.getfield 71, 3) := by decide +kernel
theorem dX6_canAdd_82 : decode cX6_canAdd 82 = .ok (.iload_n 2, 1) := by decide +kernel
theorem dX6_canAdd_83 : decode cX6_canAdd 83 = .ok (.iaload, 1) := by decide +kernel
theorem dX6_canAdd_84 : decode cX6_canAdd 84 = .ok (.aload_n 0, 1) := by decide +kernel
theorem dX6_canAdd_85 : decode cX6_canAdd 85 = .ok (.getfield 38, 3) := by decide +kernel
theorem dX6_canAdd_88 : decode cX6_canAdd 88 = .ok (.iload 7, 2) := by decide +kernel
theorem dX6_canAdd_90 : decode cX6_canAdd 90 = .ok (.iaload, 1) := by decide +kernel
theorem dX6_canAdd_91 : decode cX6_canAdd 91 = .ok (.invokestatic 150, 3) := by decide +kernel
theorem dX6_canAdd_94 : decode cX6_canAdd 94 = .ok (.ifCond .eq 7, 3) := by decide +kernel
theorem dX6_canAdd_97 : decode cX6_canAdd 97 = .ok (.iconst 1, 1) := by decide +kernel
theorem dX6_canAdd_98 : decode cX6_canAdd 98 = .ok (.goto 4, 3) := by decide +kernel
theorem dX6_canAdd_101 : decode cX6_canAdd 101 = .ok (.iconst 0, 1) := by decide +kernel
theorem dX6_canAdd_102 : decode cX6_canAdd 102 = .ok (.istore 8, 2) := by decide +kernel
theorem dX6_canAdd_104 : decode cX6_canAdd 104 = .ok (.iload 6, 2) := by decide +kernel
theorem dX6_canAdd_106 : decode cX6_canAdd 106 = .ok (.aload_n 0, 1) := by decide +kernel
theorem dX6_canAdd_107 : decode cX6_canAdd 107 = .ok (.getfield 32, 3) := by decide +kernel
theorem dX6_canAdd_110 : decode cX6_canAdd 110 = .ok (.iload 7, 2) := by decide +kernel
theorem dX6_canAdd_112 : decode cX6_canAdd 112 = .ok (.iaload, 1) := by decide +kernel
theorem dX6_canAdd_113 : decode cX6_canAdd 113 = .ok (.aload_n 0, 1) := by decide +kernel
theorem dX6_canAdd_114 : decode cX6_canAdd 114 = .ok (.getfield 23, 3) := by decide +kernel
theorem dX6_canAdd_117 : decode cX6_canAdd 117 = .ok (.iload 4, 2) := by decide +kernel
theorem dX6_canAdd_119 : decode cX6_canAdd 119 = .ok (.iaload, 1) := by decide +kernel
theorem dX6_canAdd_120 : decode cX6_canAdd 120 = .ok (.if_icmp .ne 22, 3) := by decide +kernel
theorem dX6_canAdd_123 : decode cX6_canAdd 123 = .ok (.iload 8, 2) := by decide +kernel
theorem dX6_canAdd_125 : decode cX6_canAdd 125 = .ok (.ifCond .ne 13, 3) := by decide +kernel
theorem dX6_canAdd_128 : decode cX6_canAdd 128 = .ok (.aload_n 0, 1) := by decide +kernel
theorem dX6_canAdd_129 : decode cX6_canAdd 129 = .ok (.iload_n 1, 1) := by decide +kernel
theorem dX6_canAdd_130 : decode cX6_canAdd 130 = .ok (.iload 7, 2) := by decide +kernel
theorem dX6_canAdd_132 : decode cX6_canAdd 132 = .ok (.invokevirtual 136, 3) := by decide +kernel
theorem dX6_canAdd_135 : decode cX6_canAdd 135 = .ok (.ifCond .eq 7, 3) := by decide +kernel
theorem dX6_canAdd_138 : decode cX6_canAdd 138 = .ok (.iconst 1, 1) := by decide +kernel
theorem dX6_canAdd_139 : decode cX6_canAdd 139 = .ok (.goto 4, 3) := by decide +kernel
theorem dX6_canAdd_142 : decode cX6_canAdd 142 = .ok (.iconst 0, 1) := by decide +kernel
theorem dX6_canAdd_143 : decode cX6_canAdd 143 = .ok (.iadd, 1) := by decide +kernel
theorem dX6_canAdd_144 : decode cX6_canAdd 144 = .ok (.istore 6, 2) := by decide +kernel
theorem dX6_canAdd_146 : decode cX6_canAdd 146 = .ok (.iinc 7 1, 3) := by decide +kernel
theorem dX6_canAdd_149 : decode cX6_canAdd 149 = .ok (.goto (-90), 3) := by decide +kernel
theorem dX6_canAdd_152 : decode cX6_canAdd 152 = .ok (.iconst 0, 1) := by decide +kernel
theorem dX6_canAdd_153 : decode cX6_canAdd 153 = .ok (.istore 7, 2) := by decide +kernel
theorem dX6_canAdd_155 : decode cX6_canAdd 155 = .ok (.iload 7, 2) := by decide +kernel
theorem dX6_canAdd_157 : decode cX6_canAdd 157 = .ok (.aload_n 0, 1) := by decide +kernel
theorem dX6_canAdd_158 : decode cX6_canAdd 158 = .ok (.getfield 153, 3) := by decide +kernel
theorem dX6_canAdd_161 : decode cX6_canAdd 161 = .ok (.if_icmp .ge 50, 3) := by decide +kernel
theorem dX6_canAdd_164 : decode cX6_canAdd 164 = .ok (.iload 6, 2) := by decide +kernel
theorem dX6_canAdd_166 : decode cX6_canAdd 166 = .ok (.iload_n 2, 1) := by decide +kernel
theorem dX6_canAdd_167 : decode cX6_canAdd 167 = .ok (.iload 7, 2) := by decide +kernel
theorem dX6_canAdd_169 : decode cX6_canAdd 169 = .ok (.invokestatic 150, 3) := by decide +kernel
theorem dX6_canAdd_172 : decode cX6_canAdd 172 = .ok (.ifCond .eq 29, 3) := by decide +kernel
theorem dX6_canAdd_175 : decode cX6_canAdd 175 = .ok (.aload_n 0, 1) := by decide +kernel
theorem dX6_canAdd_176 : decode cX6_canAdd 176 = .ok (.getfield 23, 3) := by decide +kernel
theorem dX6_canAdd_179 : decode cX6_canAdd 179 = .ok (.aload_n 0, 1) := by decide +kernel
theorem dX6_canAdd_180 : decode cX6_canAdd 180 = .ok (.getfield 65, 3) := by decide +kernel
theorem dX6_canAdd_183 : decode cX6_canAdd 183 = .ok (.iload 7, 2) := by decide +kernel
theorem dX6_canAdd_185 : decode cX6_canAdd 185 = .ok (.iaload, 1) := by decide +kernel
theorem dX6_canAdd_186 : decode cX6_canAdd 186 = .ok (.iaload, 1) := by decide +kernel
theorem dX6_canAdd_187 : decode cX6_canAdd 187 = .ok (.aload_n 0, 1) := by decide +kernel
theorem dX6_canAdd_188 : decode cX6_canAdd 188 = .ok (.getfield 23, 3) := by decide +kernel
theorem dX6_canAdd_191 : decode cX6_canAdd 191 = .ok (.iload 4, 2) := by decide +kernel
theorem dX6_canAdd_193 : decode cX6_canAdd 193 = .ok (.iaload, 1) := by decide +kernel
theorem dX6_canAdd_194 : decode cX6_canAdd 194 = .ok (.if_icmp .ne 7, 3) := by decide +kernel
theorem dX6_canAdd_197 : decode cX6_canAdd 197 = .ok (.iconst 1, 1) := by decide +kernel
theorem dX6_canAdd_198 : decode cX6_canAdd 198 = .ok (.goto 4, 3) := by decide +kernel
theorem dX6_canAdd_201 : decode cX6_canAdd 201 = .ok (.iconst 0, 1) := by decide +kernel
theorem dX6_canAdd_202 : decode cX6_canAdd 202 = .ok (.isub, 1) := by decide +kernel
theorem dX6_canAdd_203 : decode cX6_canAdd 203 = .ok (.istore 6, 2) := by decide +kernel
theorem dX6_canAdd_205 : decode cX6_canAdd 205 = .ok (.iinc 7 1, 3) := by decide +kernel
theorem dX6_canAdd_208 : decode cX6_canAdd 208 = .ok (.goto (-53), 3) := by decide +kernel
theorem dX6_canAdd_211 : decode cX6_canAdd 211 = .ok (.iload_n 2, 1) := by decide +kernel
theorem dX6_canAdd_212 : decode cX6_canAdd 212 = .ok (.iload_n 3, 1) := by decide +kernel
theorem dX6_canAdd_213 : decode cX6_canAdd 213 = .ok (.invokestatic 150, 3) := by decide +kernel
theorem dX6_canAdd_216 : decode cX6_canAdd 216 = .ok (.ifCond .ne 17, 3) := by decide +kernel
theorem dX6_canAdd_219 : decode cX6_canAdd 219 = .ok (.iload 5, 2) := by decide +kernel
theorem dX6_canAdd_221 : decode cX6_canAdd 221 = .ok (.ifCond .eq 12, 3) := by decide +kernel
theorem dX6_canAdd_224 : decode cX6_canAdd 224 = .ok (.iload 6, 2) := by decide +kernel
theorem dX6_canAdd_226 : decode cX6_canAdd 226 = .ok (.ifCond .le 7, 3) := by decide +kernel
theorem dX6_canAdd_229 : decode cX6_canAdd 229 = .ok (.iconst 1, 1) := by decide +kernel
theorem dX6_canAdd_230 : decode cX6_canAdd 230 = .ok (.goto 4, 3) := by decide +kernel
theorem dX6_canAdd_233 : decode cX6_canAdd 233 = .ok (.iconst 0, 1) := by decide +kernel
theorem dX6_canAdd_234 : decode cX6_canAdd 234 = .ok (.ireturn, 1) := by decide +kernel
theorem dX6_escapes_0 : decode cX6_escapes 0 = .ok (.aload_n 0, 1) := by decide +kernel
theorem dX6_escapes_1 : decode cX6_escapes 1 = .ok (.getfield 9, 3) := by decide +kernel
theorem dX6_escapes_4 : decode cX6_escapes 4 = .ok (.ifCond .lt 23, 3) := by decide +kernel
theorem dX6_escapes_7 : decode cX6_escapes 7 = .ok (.aload_n 0, 1) := by decide +kernel
theorem dX6_escapes_8 : decode cX6_escapes 8 = .ok (.getfield 71, 3) := by decide +kernel
theorem dX6_escapes_11 : decode cX6_escapes 11 = .ok (.iload_n 1, 1) := by decide +kernel
theorem dX6_escapes_12 : decode cX6_escapes 12 = .ok (.iaload, 1) := by decide +kernel
theorem dX6_escapes_13 : decode cX6_escapes 13 = .ok (.aload_n 0, 1) := by decide +kernel
theorem dX6_escapes_14 : decode cX6_escapes 14 = .ok (.getfield 9, 3) := by decide +kernel
theorem dX6_escapes_17 : decode cX6_escapes 17 = .ok (.invokestatic 150, 3) := by decide +kernel
theorem dX6_escapes_20 : decode cX6_escapes 20 = .ok (.ifCond .eq 7, 3) := by decide +kernel
theorem dX6_escapes_23 : decode cX6_escapes 23 = .ok (.iconst 1, 1) := by decide +kernel
theorem dX6_escapes_24 : decode cX6_escapes 24 = .ok (.goto 4, 3) := by decide +kernel
theorem dX6_escapes_27 : decode cX6_escapes 27 = .ok (.iconst 0, 1) := by decide +kernel
theorem dX6_escapes_28 : decode cX6_escapes 28 = .ok (.ireturn, 1) := by decide +kernel
theorem dX6_findPlan_0 : decode cX6_findPlan 0 = .ok (.aload_n 0, 1) := by decide +kernel
theorem dX6_findPlan_1 : decode cX6_findPlan 1 = .ok (.invokevirtual 156, 3) := by decide +kernel
theorem dX6_findPlan_4 : decode cX6_findPlan 4 = .ok (.iconst 1, 1) := by decide +kernel
theorem dX6_findPlan_5 : decode cX6_findPlan 5 = .ok (.aload_n 0, 1) := by decide +kernel
theorem dX6_findPlan_6 : decode cX6_findPlan 6 = .ok (.getfield 153, 3) := by decide +kernel
theorem dX6_findPlan_9 : decode cX6_findPlan 9 = .ok (.ishl, 1) := by decide +kernel
theorem dX6_findPlan_10 : decode cX6_findPlan 10 = .ok (.istore_n 2, 1) := by decide +kernel
theorem dX6_findPlan_11 : decode cX6_findPlan 11 = .ok (.iconst 0, 1) := by decide +kernel
theorem dX6_findPlan_12 : decode cX6_findPlan 12 = .ok (.istore_n 3, 1) := by decide +kernel
theorem dX6_findPlan_13 : decode cX6_findPlan 13 = .ok (.iload_n 3, 1) := by decide +kernel
theorem dX6_findPlan_14 : decode cX6_findPlan 14 = .ok (.iload_n 2, 1) := by decide +kernel
theorem dX6_findPlan_15 : decode cX6_findPlan 15 = .ok (.if_icmp .ge 102, 3) := by decide +kernel
theorem dX6_findPlan_18 : decode cX6_findPlan 18 = .ok (.aload_n 0, 1) := by decide +kernel
theorem dX6_findPlan_19 : decode cX6_findPlan 19 = .ok (.getfield 68, 3) := by decide +kernel
theorem dX6_findPlan_22 : decode cX6_findPlan 22 = .ok (.iload_n 3, 1) := by decide +kernel
theorem dX6_findPlan_23 : decode cX6_findPlan 23 = .ok (.iconst 0, 1) := by decide +kernel
theorem dX6_findPlan_24 : decode cX6_findPlan 24 = .ok (.iastore, 1) := by decide +kernel
theorem dX6_findPlan_25 : decode cX6_findPlan 25 = .ok (.iconst 0, 1) := by decide +kernel
theorem dX6_findPlan_26 : decode cX6_findPlan 26 = .ok (.istore 4, 2) := by decide +kernel
theorem dX6_findPlan_28 : decode cX6_findPlan 28 = .ok (.iload 4, 2) := by decide +kernel
theorem dX6_findPlan_30 : decode cX6_findPlan 30 = .ok (.aload_n 0, 1) := by decide +kernel
theorem dX6_findPlan_31 : decode cX6_findPlan 31 = .ok (.getfield 153, 3) := by decide +kernel
theorem dX6_findPlan_34 : decode cX6_findPlan 34 = .ok (.if_icmp .ge 40, 3) := by decide +kernel
theorem dX6_findPlan_37 : decode cX6_findPlan 37 = .ok (.aload_n 0, 1) := by decide +kernel
theorem dX6_findPlan_38 : decode cX6_findPlan 38 = .ok (.getfield 68, 3) := by decide +kernel
theorem dX6_findPlan_41 : decode cX6_findPlan 41 = .ok (.iload_n 3, 1) := by decide +kernel
theorem dX6_findPlan_42 : decode cX6_findPlan 42 = .ok (.dup2, 1) := by decide +kernel
theorem dX6_findPlan_43 : decode cX6_findPlan 43 = .ok (.iaload, 1) := by decide +kernel
theorem dX6_findPlan_44 : decode cX6_findPlan 44 = .ok (.iload_n 3, 1) := by decide +kernel
theorem dX6_findPlan_45 : decode cX6_findPlan 45 = .ok (.iload 4, 2) := by decide +kernel
theorem dX6_findPlan_47 : decode cX6_findPlan 47 = .ok (.invokestatic 150, 3) := by decide +kernel
theorem dX6_findPlan_50 : decode cX6_findPlan 50 = .ok (.ifCond .eq 15, 3) := by decide +kernel
theorem dX6_findPlan_53 : decode cX6_findPlan 53 = .ok (.iconst 1, 1) := by decide +kernel
theorem dX6_findPlan_54 : decode cX6_findPlan 54 = .ok (.aload_n 0, 1) := by decide +kernel
theorem dX6_findPlan_55 : decode cX6_findPlan 55 = .ok (.getfield 65, 3) := by decide +kernel
theorem dX6_findPlan_58 : decode cX6_findPlan 58 = .ok (.iload 4, 2) := by decide +kernel
theorem dX6_findPlan_60 : decode cX6_findPlan 60 = .ok (.iaload, 1) := by decide +kernel
theorem dX6_findPlan_61 : decode cX6_findPlan 61 = .ok (.ishl, 1) := by decide +kernel
theorem dX6_findPlan_62 : decode cX6_findPlan 62 = .ok (.goto 4, 3) := by decide +kernel
theorem dX6_findPlan_65 : decode cX6_findPlan 65 = .ok (.iconst 0, 1) := by decide +kernel
theorem dX6_findPlan_66 : decode cX6_findPlan 66 = .ok (.ior, 1) := by decide +kernel
theorem dX6_findPlan_67 : decode cX6_findPlan 67 = .ok (.iastore, 1) := by decide +kernel
theorem dX6_findPlan_68 : decode cX6_findPlan 68 = .ok (.iinc 4 1, 3) := by decide +kernel
theorem dX6_findPlan_71 : decode cX6_findPlan 71 = .ok (.goto (-43), 3) := by decide +kernel
theorem dX6_findPlan_74 : decode cX6_findPlan 74 = .ok (.aload_n 0, 1) := by decide +kernel
theorem dX6_findPlan_75 : decode cX6_findPlan 75 = .ok (.getfield 71, 3) := by decide +kernel
theorem dX6_findPlan_78 : decode cX6_findPlan 78 = .ok (.iload_n 3, 1) := by decide +kernel
theorem dX6_findPlan_79 : decode cX6_findPlan 79 = .ok (.aload_n 0, 1) := by decide +kernel
theorem dX6_findPlan_80 : decode cX6_findPlan 80 = .ok (.aload_n 0, 1) := by decide +kernel
theorem dX6_findPlan_81 : decode cX6_findPlan 81 = .ok (.getfield 47, 3) := by decide +kernel
theorem dX6_findPlan_84 : decode cX6_findPlan 84 = .ok (.iload_n 1, 1) := by decide +kernel
theorem dX6_findPlan_85 : decode cX6_findPlan 85 = .ok (.iaload, 1) := by decide +kernel
theorem dX6_findPlan_86 : decode cX6_findPlan 86 = .ok (.aload_n 0, 1) := by decide +kernel
theorem dX6_findPlan_87 : decode cX6_findPlan 87 = .ok (.getfield 68, 3) := by decide +kernel
theorem dX6_findPlan_90 : decode cX6_findPlan 90 = .ok (.iload_n 3, 1) := by decide +kernel
theorem dX6_findPlan_91 : decode cX6_findPlan 91 = .ok (.iaload, 1) := by decide +kernel
theorem dX6_findPlan_92 : decode cX6_findPlan 92 = .ok (.invokevirtual 159, 3) := by decide +kernel
theorem dX6_findPlan_95 : decode cX6_findPlan 95 = .ok (.iastore, 1) := by decide +kernel
theorem dX6_findPlan_96 : decode cX6_findPlan 96 = .ok (.aload_n 0, 1) := by decide +kernel
theorem dX6_findPlan_97 : decode cX6_findPlan 97 = .ok (.getfield 74, 3) := by decide +kernel
theorem dX6_findPlan_100 : decode cX6_findPlan 100 = .ok (.iload_n 3, 1) := by decide +kernel
theorem dX6_findPlan_101 : decode cX6_findPlan 101 = .ok (.iload_n 3, 1) := by decide +kernel
theorem dX6_findPlan_102 : decode cX6_findPlan 102 = .ok (.ifCond .ne 7, 3) := by decide +kernel
theorem dX6_findPlan_105 : decode cX6_findPlan 105 = .ok (.iconst 1, 1) := by decide +kernel
theorem dX6_findPlan_106 : decode cX6_findPlan 106 = .ok (.goto 4, 3) := by decide +kernel
theorem dX6_findPlan_109 : decode cX6_findPlan 109 = .ok (.iconst 0, 1) := by decide +kernel
theorem dX6_findPlan_110 : decode cX6_findPlan 110 = .ok (.bastore, 1) := by decide +kernel
theorem dX6_findPlan_111 : decode cX6_findPlan 111 = .ok (.iinc 3 1, 3) := by decide +kernel
theorem dX6_findPlan_114 : decode cX6_findPlan 114 = .ok (.goto (-101), 3) := by decide +kernel
theorem dX6_findPlan_117 : decode cX6_findPlan 117 = .ok (.aload_n 0, 1) := by decide +kernel
theorem dX6_findPlan_118 : decode cX6_findPlan 118 = .ok (.bipush (-6), 2) := by decide +kernel
theorem dX6_findPlan_120 : decode cX6_findPlan 120 = .ok (.putfield 162, 3) := by decide +kernel
theorem dX6_findPlan_123 : decode cX6_findPlan 123 = .ok (.aload_n 0, 1) := by decide +kernel
theorem dX6_findPlan_124 : decode cX6_findPlan 124 = .ok (.iconst 0, 1) := by decide +kernel
theorem dX6_findPlan_125 : decode cX6_findPlan 125 = .ok (.putfield 165, 3) := by decide +kernel
theorem dX6_findPlan_128 : decode cX6_findPlan 128 = .ok (.iconst 0, 1) := by decide +kernel
theorem dX6_findPlan_129 : decode cX6_findPlan 129 = .ok (.istore_n 3, 1) := by decide +kernel
theorem dX6_findPlan_130 : decode cX6_findPlan 130 = .ok (.iload_n 3, 1) := by decide +kernel
theorem dX6_findPlan_131 : decode cX6_findPlan 131 = .ok (.iload_n 2, 1) := by decide +kernel
theorem dX6_findPlan_132 : decode cX6_findPlan 132 = .ok (.if_icmp .ge 138, 3) := by decide +kernel
theorem dX6_findPlan_135 : decode cX6_findPlan 135 = .ok (.aload_n 0, 1) := by decide +kernel
theorem dX6_findPlan_136 : decode cX6_findPlan 136 = .ok (.getfield 74, 3) := by decide +kernel
theorem dX6_findPlan_139 : decode cX6_findPlan 139 = .ok (.iload_n 3, 1) := by decide +kernel
theorem dX6_findPlan_140 : decode cX6_findPlan 140 = .ok (.baload, 1) := by decide +kernel
theorem dX6_findPlan_141 : decode cX6_findPlan 141 = .ok (.ifCond .eq 123, 3) := by decide +kernel
theorem dX6_findPlan_144 : decode cX6_findPlan 144 = .ok (.iconst 0, 1) := by decide +kernel
theorem dX6_findPlan_145 : decode cX6_findPlan 145 = .ok (.istore 4, 2) := by decide +kernel
theorem dX6_findPlan_147 : decode cX6_findPlan 147 = .ok (.iload 4, 2) := by decide +kernel
theorem dX6_findPlan_149 : decode cX6_findPlan 149 = .ok (.aload_n 0, 1) := by decide +kernel
theorem dX6_findPlan_150 : decode cX6_findPlan 150 = .ok (.getfield 153, 3) := by decide +kernel
theorem dX6_findPlan_153 : decode cX6_findPlan 153 = .ok (.if_icmp .ge 32, 3) := by decide +kernel
theorem dX6_findPlan_156 : decode cX6_findPlan 156 = .ok (.aload_n 0, 1) := by decide +kernel
theorem dX6_findPlan_157 : decode cX6_findPlan 157 = .ok (.iload_n 1, 1) := by decide +kernel
theorem dX6_findPlan_158 : decode cX6_findPlan 158 = .ok (.iload_n 3, 1) := by decide +kernel
theorem dX6_findPlan_159 : decode cX6_findPlan 159 = .ok (.iload 4, 2) := by decide +kernel
theorem dX6_findPlan_161 : decode cX6_findPlan 161 = .ok (.invokevirtual 168, 3) := by decide +kernel
theorem dX6_findPlan_164 : decode cX6_findPlan 164 = .ok (.ifCond .eq 15, 3) := by decide +kernel
theorem dX6_findPlan_167 : decode cX6_findPlan 167 = .ok (.aload_n 0, 1) := by decide +kernel
theorem dX6_findPlan_168 : decode cX6_findPlan 168 = .ok (.getfield 74, 3) := by decide +kernel
theorem dX6_findPlan_171 : decode cX6_findPlan 171 = .ok (.iload_n 3, 1) := by decide +kernel
theorem dX6_findPlan_172 : decode cX6_findPlan 172 = .ok (.iconst 1, 1) := by decide +kernel
theorem dX6_findPlan_173 : decode cX6_findPlan 173 = .ok (.iload 4, 2) := by decide +kernel
theorem dX6_findPlan_175 : decode cX6_findPlan 175 = .ok (.ishl, 1) := by decide +kernel
theorem dX6_findPlan_176 : decode cX6_findPlan 176 = .ok (.ior, 1) := by decide +kernel
theorem dX6_findPlan_177 : decode cX6_findPlan 177 = .ok (.iconst 1, 1) := by decide +kernel
theorem dX6_findPlan_178 : decode cX6_findPlan 178 = .ok (.bastore, 1) := by decide +kernel
theorem dX6_findPlan_179 : decode cX6_findPlan 179 = .ok (.iinc 4 1, 3) := by decide +kernel
theorem dX6_findPlan_182 : decode cX6_findPlan 182 = .ok (.goto (-35), 3) := by decide +kernel
theorem dX6_findPlan_185 : decode cX6_findPlan 185 = .ok (.aload_n 0, 1) := by decide +kernel
theorem dX6_findPlan_186 : decode cX6_findPlan 186 = .ok (.iload_n 3, 1) := by decide +kernel
theorem dX6_findPlan_187 : decode cX6_findPlan 187 = .ok (.invokevirtual 171, 3) := by decide +kernel
theorem dX6_findPlan_190 : decode cX6_findPlan 190 = .ok (.istore 4, 2) := by decide +kernel
theorem dX6_findPlan_192 : decode cX6_findPlan 192 = .ok (.aload_n 0, 1) := by decide +kernel
theorem dX6_findPlan_193 : decode cX6_findPlan 193 = .ok (.getfield 162, 3) := by decide +kernel
theorem dX6_findPlan_196 : decode cX6_findPlan 196 = .ok (.ifCond .lt 33, 3) := by decide +kernel
theorem dX6_findPlan_199 : decode cX6_findPlan 199 = .ok (.iload 4, 2) := by decide +kernel
theorem dX6_findPlan_201 : decode cX6_findPlan 201 = .ok (.aload_n 0, 1) := by decide +kernel
theorem dX6_findPlan_202 : decode cX6_findPlan 202 = .ok (.getfield 162, 3) := by decide +kernel
theorem dX6_findPlan_205 : decode cX6_findPlan 205 = .ok (.if_icmp .lt 24, 3) := by decide +kernel
theorem dX6_findPlan_208 : decode cX6_findPlan 208 = .ok (.iload 4, 2) := by decide +kernel
theorem dX6_findPlan_210 : decode cX6_findPlan 210 = .ok (.aload_n 0, 1) := by decide +kernel
theorem dX6_findPlan_211 : decode cX6_findPlan 211 = .ok (.getfield 162, 3) := by decide +kernel
theorem dX6_findPlan_214 : decode cX6_findPlan 214 = .ok (.if_icmp .ne 19, 3) := by decide +kernel
theorem dX6_findPlan_217 : decode cX6_findPlan 217 = .ok (.aload_n 0, 1) := by decide +kernel
theorem dX6_findPlan_218 : decode cX6_findPlan 218 = .ok (.iload_n 3, 1) := by decide +kernel
theorem dX6_findPlan_219 : decode cX6_findPlan 219 = .ok (.invokevirtual 174, 3) := by decide +kernel
theorem dX6_findPlan_222 : decode cX6_findPlan 222 = .ok (.aload_n 0, 1) := by decide +kernel
theorem dX6_findPlan_223 : decode cX6_findPlan 223 = .ok (.getfield 165, 3) := by decide +kernel
theorem dX6_findPlan_226 : decode cX6_findPlan 226 = .ok (.if_icmp .ge 7, 3) := by decide +kernel
theorem dX6_findPlan_229 : decode cX6_findPlan 229 = .ok (.iconst 1, 1) := by decide +kernel
theorem dX6_findPlan_230 : decode cX6_findPlan 230 = .ok (.goto 4, 3) := by decide +kernel
theorem dX6_findPlan_233 : decode cX6_findPlan 233 = .ok (.iconst 0, 1) := by decide +kernel
theorem dX6_findPlan_234 : decode cX6_findPlan 234 = .ok (.istore 5, 2) := by decide +kernel
theorem dX6_findPlan_236 : decode cX6_findPlan 236 = .ok (.aload_n 0, 1) := by decide +kernel
theorem dX6_findPlan_237 : decode cX6_findPlan 237 = .ok (.iload_n 3, 1) := by decide +kernel
theorem dX6_findPlan_238 : decode cX6_findPlan 238 = .ok (.invokevirtual 177, 3) := by decide +kernel
theorem dX6_findPlan_241 : decode cX6_findPlan 241 = .ok (.ifCond .eq 23, 3) := by decide +kernel
theorem dX6_findPlan_244 : decode cX6_findPlan 244 = .ok (.iload 5, 2) := by decide +kernel
theorem dX6_findPlan_246 : decode cX6_findPlan 246 = .ok (.ifCond .eq 18, 3) := by decide +kernel
theorem dX6_findPlan_249 : decode cX6_findPlan 249 = .ok (.aload_n 0, 1) := by decide +kernel
theorem dX6_findPlan_250 : decode cX6_findPlan 250 = .ok (.iload 4, 2) := by decide +kernel
theorem dX6_findPlan_252 : decode cX6_findPlan 252 = .ok (.putfield 162, 3) := by decide +kernel
theorem dX6_findPlan_255 : decode cX6_findPlan 255 = .ok (.aload_n 0, 1) := by decide +kernel
theorem dX6_findPlan_256 : decode cX6_findPlan 256 = .ok (.aload_n 0, 1) := by decide +kernel
theorem dX6_findPlan_257 : decode cX6_findPlan 257 = .ok (.iload_n 3, 1) := by decide +kernel
theorem dX6_findPlan_258 : decode cX6_findPlan 258 = .ok (.invokevirtual 174, 3) := by decide +kernel
theorem dX6_findPlan_261 : decode cX6_findPlan 261 = .ok (.putfield 165, 3) := by decide +kernel
theorem dX6_findPlan_264 : decode cX6_findPlan 264 = .ok (.iinc 3 1, 3) := by decide +kernel
theorem dX6_findPlan_267 : decode cX6_findPlan 267 = .ok (.goto (-137), 3) := by decide +kernel
theorem dX6_findPlan_270 : decode cX6_findPlan 270 = .ok (.aload_n 0, 1) := by decide +kernel
theorem dX6_findPlan_271 : decode cX6_findPlan 271 = .ok (.getfield 162, 3) := by decide +kernel
theorem dX6_findPlan_274 : decode cX6_findPlan 274 = .ok (.ifCond .lt 9, 3) := by decide +kernel
theorem dX6_findPlan_277 : decode cX6_findPlan 277 = .ok (.aload_n 0, 1) := by decide +kernel
theorem dX6_findPlan_278 : decode cX6_findPlan 278 = .ok (.iload_n 1, 1) := by decide +kernel
theorem dX6_findPlan_279 : decode cX6_findPlan 279 = .ok (.iload_n 2, 1) := by decide +kernel
theorem dX6_findPlan_280 : decode cX6_findPlan 280 = .ok (.invokevirtual 180, 3) := by decide +kernel
theorem dX6_findPlan_283 : decode cX6_findPlan 283 = .ok (.return_, 1) := by decide +kernel
theorem dX6_findDoors_0 : decode cX6_findDoors 0 = .ok (.iload_n 2, 1) := by decide +kernel
theorem dX6_findDoors_1 : decode cX6_findDoors 1 = .ok (.iconst 1, 1) := by decide +kernel
theorem dX6_findDoors_2 : decode cX6_findDoors 2 = .ok (.isub, 1) := by decide +kernel
theorem dX6_findDoors_3 : decode cX6_findDoors 3 = .ok (.istore_n 3, 1) := by decide +kernel
theorem dX6_findDoors_4 : decode cX6_findDoors 4 = .ok (.iload_n 3, 1) := by decide +kernel
theorem dX6_findDoors_5 : decode cX6_findDoors 5 = .ok (.ifCond .lt 133, 3) := by decide +kernel
theorem dX6_findDoors_8 : decode cX6_findDoors 8 = .ok (.aload_n 0, 1) := by decide +kernel
theorem dX6_findDoors_9 : decode cX6_findDoors 9 = .ok (.getfield 78, 3) := by decide +kernel
theorem dX6_findDoors_12 : decode cX6_findDoors 12 = .ok (.iload_n 3, 1) := by decide +kernel
theorem dX6_findDoors_13 : decode cX6_findDoors 13 = .ok (.aload_n 0, 1) := by decide +kernel
theorem dX6_findDoors_14 : decode cX6_findDoors 14 = .ok (.getfield 74, 3) := by decide +kernel
theorem dX6_findDoors_17 : decode cX6_findDoors 17 = .ok (.iload_n 3, 1) := by decide +kernel
theorem dX6_findDoors_18 : decode cX6_findDoors 18 = .ok (.baload, 1) := by decide +kernel
theorem dX6_findDoors_19 : decode cX6_findDoors 19 = .ok (.ifCond .eq 39, 3) := by decide +kernel
theorem dX6_findDoors_22 : decode cX6_findDoors 22 = .ok (.aload_n 0, 1) := by decide +kernel
theorem dX6_findDoors_23 : decode cX6_findDoors 23 = .ok (.iload_n 3, 1) := by decide +kernel
theorem dX6_findDoors_24 : decode cX6_findDoors 24 = .ok (.invokevirtual 177, 3) := by decide +kernel
theorem dX6_findDoors_27 : decode cX6_findDoors 27 = .ok (.ifCond .eq 31, 3) := by decide +kernel
theorem dX6_findDoors_30 : decode cX6_findDoors 30 = .ok (.aload_n 0, 1) := by decide +kernel
theorem dX6_findDoors_31 : decode cX6_findDoors 31 = .ok (.iload_n 3, 1) := by decide +kernel
theorem dX6_findDoors_32 : decode cX6_findDoors 32 = .ok (.invokevirtual 171, 3) := by decide +kernel
theorem dX6_findDoors_35 : decode cX6_findDoors 35 = .ok (.aload_n 0, 1) := by decide +kernel
theorem dX6_findDoors_36 : decode cX6_findDoors 36 = .ok (.getfield 162, 3) := by decide +kernel
theorem dX6_findDoors_39 : decode cX6_findDoors 39 = .ok (.if_icmp .ne 19, 3) := by decide +kernel
theorem dX6_findDoors_42 : decode cX6_findDoors 42 = .ok (.aload_n 0, 1) := by decide +kernel
theorem dX6_findDoors_43 : decode cX6_findDoors 43 = .ok (.iload_n 3, 1) := by decide +kernel
theorem dX6_findDoors_44 : decode cX6_findDoors 44 = .ok (.invokevirtual 174, 3) := by decide +kernel
theorem dX6_findDoors_47 : decode cX6_findDoors 47 = .ok (.aload_n 0, 1) := by decide +kernel
theorem dX6_findDoors_48 : decode cX6_findDoors 48 = .ok (.getfield 165, 3) := by decide +kernel
theorem dX6_findDoors_51 : decode cX6_findDoors 51 = .ok (.if_icmp .ne 7, 3) := by decide +kernel
theorem dX6_findDoors_54 : decode cX6_findDoors 54 = .ok (.iconst 1, 1) := by decide +kernel
theorem dX6_findDoors_55 : decode cX6_findDoors 55 = .ok (.goto 4, 3) := by decide +kernel
theorem dX6_findDoors_58 : decode cX6_findDoors 58 = .ok (.iconst 0, 1) := by decide +kernel
theorem dX6_findDoors_59 : decode cX6_findDoors 59 = .ok (.bastore, 1) := by decide +kernel
theorem dX6_findDoors_60 : decode cX6_findDoors 60 = .ok (.iconst 0, 1) := by decide +kernel
theorem dX6_findDoors_61 : decode cX6_findDoors 61 = .ok (.istore 4, 2) := by decide +kernel
theorem dX6_findDoors_63 : decode cX6_findDoors 63 = .ok (.iload 4, 2) := by decide +kernel
theorem dX6_findDoors_65 : decode cX6_findDoors 65 = .ok (.aload_n 0, 1) := by decide +kernel
theorem dX6_findDoors_66 : decode cX6_findDoors 66 = .ok (.getfield 153, 3) := by decide +kernel
theorem dX6_findDoors_69 : decode cX6_findDoors 69 = .ok (.if_icmp .ge 63, 3) := by decide +kernel
theorem dX6_findDoors_72 : decode cX6_findDoors 72 = .ok (.aload_n 0, 1) := by decide +kernel
theorem dX6_findDoors_73 : decode cX6_findDoors 73 = .ok (.getfield 74, 3) := by decide +kernel
theorem dX6_findDoors_76 : decode cX6_findDoors 76 = .ok (.iload_n 3, 1) := by decide +kernel
theorem dX6_findDoors_77 : decode cX6_findDoors 77 = .ok (.baload, 1) := by decide +kernel
theorem dX6_findDoors_78 : decode cX6_findDoors 78 = .ok (.ifCond .eq 54, 3) := by decide +kernel
theorem dX6_findDoors_81 : decode cX6_findDoors 81 = .ok (.aload_n 0, 1) := by decide +kernel
theorem dX6_findDoors_82 : decode cX6_findDoors 82 = .ok (.iload_n 1, 1) := by decide +kernel
theorem dX6_findDoors_83 : decode cX6_findDoors 83 = .ok (.iload_n 3, 1) := by decide +kernel
theorem dX6_findDoors_84 : decode cX6_findDoors 84 = .ok (.iload 4, 2) := by decide +kernel
theorem dX6_findDoors_86 : decode cX6_findDoors 86 = .ok (.invokevirtual 168, 3) := by decide +kernel
theorem dX6_findDoors_89 : decode cX6_findDoors 89 = .ok (.ifCond .eq 37, 3) := by decide +kernel
theorem dX6_findDoors_92 : decode cX6_findDoors 92 = .ok (.aload_n 0, 1) := by decide +kernel
theorem dX6_findDoors_93 : decode cX6_findDoors 93 = .ok (.getfield 78, 3) := by decide +kernel
theorem dX6_findDoors_96 : decode cX6_findDoors 96 = .ok (.iload_n 3, 1) := by decide +kernel
theorem dX6_findDoors_97 : decode cX6_findDoors 97 = .ok (.aload_n 0, 1) := by decide +kernel
theorem dX6_findDoors_98 : decode cX6_findDoors 98 = .ok (.getfield 78, 3) := by decide +kernel
theorem dX6_findDoors_101 : decode cX6_findDoors 101 = .ok (.iload_n 3, 1) := by decide +kernel
theorem dX6_findDoors_102 : decode cX6_findDoors 102 = .ok (.baload, 1) := by decide +kernel
theorem dX6_findDoors_103 : decode cX6_findDoors 103 = .ok (.ifCond .ne 17, 3) := by decide +kernel
theorem dX6_findDoors_106 : decode cX6_findDoors 106 = .ok (.aload_n 0, 1) := by decide +kernel
theorem dX6_findDoors_107 : decode cX6_findDoors 107 = .ok (.getfield 78, 3) := by decide +kernel
theorem dX6_findDoors_110 : decode cX6_findDoors 110 = .ok (.iload_n 3, 1) := by decide +kernel
theorem dX6_findDoors_111 : decode cX6_findDoors 111 = .ok (.iconst 1, 1) := by decide +kernel
theorem dX6_findDoors_112 : decode cX6_findDoors 112 = .ok (.iload 4, 2) := by decide +kernel
theorem dX6_findDoors_114 : decode cX6_findDoors 114 = .ok (.ishl, 1) := by decide +kernel
theorem dX6_findDoors_115 : decode cX6_findDoors 115 = .ok (.ior, 1) := by decide +kernel
theorem dX6_findDoors_116 : decode cX6_findDoors 116 = .ok (.baload, 1) := by decide +kernel
theorem dX6_findDoors_117 : decode cX6_findDoors 117 = .ok (.ifCond .eq 7, 3) := by decide +kernel
theorem dX6_findDoors_120 : decode cX6_findDoors 120 = .ok (.iconst 1, 1) := by decide +kernel
theorem dX6_findDoors_121 : decode cX6_findDoors 121 = .ok (.goto 4, 3) := by decide +kernel
theorem dX6_findDoors_124 : decode cX6_findDoors 124 = .ok (.iconst 0, 1) := by decide +kernel
theorem dX6_findDoors_125 : decode cX6_findDoors 125 = .ok (.bastore, 1) := by decide +kernel
theorem dX6_findDoors_126 : decode cX6_findDoors 126 = .ok (.iinc 4 1, 3) := by decide +kernel
theorem dX6_findDoors_129 : decode cX6_findDoors 129 = .ok (.goto (-66), 3) := by decide +kernel
theorem dX6_findDoors_132 : decode cX6_findDoors 132 = .ok (.iinc 3 (-1), 3) := by decide +kernel
theorem dX6_findDoors_135 : decode cX6_findDoors 135 = .ok (.goto (-131), 3) := by decide +kernel
theorem dX6_findDoors_138 : decode cX6_findDoors 138 = .ok (.iconst 0, 1) := by decide +kernel
theorem dX6_findDoors_139 : decode cX6_findDoors 139 = .ok (.istore_n 3, 1) := by decide +kernel
theorem dX6_findDoors_140 : decode cX6_findDoors 140 = .ok (.iconst 0, 1) := by decide +kernel
theorem dX6_findDoors_141 : decode cX6_findDoors 141 = .ok (.istore 4, 2) := by decide +kernel
theorem dX6_findDoors_143 : decode cX6_findDoors 143 = .ok (.iload 4, 2) := by decide +kernel
theorem dX6_findDoors_145 : decode cX6_findDoors 145 = .ok (.aload_n 0, 1) := by decide +kernel
theorem dX6_findDoors_146 : decode cX6_findDoors 146 = .ok (.getfield 165, 3) := by decide +kernel
theorem dX6_findDoors_149 : decode cX6_findDoors 149 = .ok (.if_icmp .ge 64, 3) := by decide +kernel
theorem dX6_findDoors_152 : decode cX6_findDoors 152 = .ok (.iconst 0, 1) := by decide +kernel
theorem dX6_findDoors_153 : decode cX6_findDoors 153 = .ok (.istore 5, 2) := by decide +kernel
theorem dX6_findDoors_155 : decode cX6_findDoors 155 = .ok (.aload_n 0, 1) := by decide +kernel
theorem dX6_findDoors_156 : decode cX6_findDoors 156 = .ok (.iload_n 1, 1) := by decide +kernel
theorem dX6_findDoors_157 : decode cX6_findDoors 157 = .ok (.iload_n 3, 1) := by decide +kernel
theorem dX6_findDoors_158 : decode cX6_findDoors 158 = .ok (.iload 5, 2) := by decide +kernel
theorem dX6_findDoors_160 : decode cX6_findDoors 160 = .ok (.invokevirtual 168, 3) := by decide +kernel
theorem dX6_findDoors_163 : decode cX6_findDoors 163 = .ok (.ifCond .eq 17, 3) := by decide +kernel
theorem dX6_findDoors_166 : decode cX6_findDoors 166 = .ok (.aload_n 0, 1) := by decide +kernel
theorem dX6_findDoors_167 : decode cX6_findDoors 167 = .ok (.getfield 78, 3) := by decide +kernel
theorem dX6_findDoors_170 : decode cX6_findDoors 170 = .ok (.iload_n 3, 1) := by decide +kernel
theorem dX6_findDoors_171 : decode cX6_findDoors 171 = .ok (.iconst 1, 1) := by decide +kernel
theorem dX6_findDoors_172 : decode cX6_findDoors 172 = .ok (.iload 5, 2) := by decide +kernel
theorem dX6_findDoors_174 : decode cX6_findDoors 174 = .ok (.ishl, 1) := by decide +kernel
theorem dX6_findDoors_175 : decode cX6_findDoors 175 = .ok (.ior, 1) := by decide +kernel
theorem dX6_findDoors_176 : decode cX6_findDoors 176 = .ok (.baload, 1) := by decide +kernel
theorem dX6_findDoors_177 : decode cX6_findDoors 177 = .ok (.ifCond .ne 9, 3) := by decide +kernel
theorem dX6_findDoors_180 : decode cX6_findDoors 180 = .ok (.iinc 5 1, 3) := by decide +kernel
theorem dX6_findDoors_183 : decode cX6_findDoors 183 = .ok (.goto (-28), 3) := by decide +kernel
theorem dX6_findDoors_186 : decode cX6_findDoors 186 = .ok (.aload_n 0, 1) := by decide +kernel
theorem dX6_findDoors_187 : decode cX6_findDoors 187 = .ok (.getfield 81, 3) := by decide +kernel
theorem dX6_findDoors_190 : decode cX6_findDoors 190 = .ok (.iload 4, 2) := by decide +kernel
theorem dX6_findDoors_192 : decode cX6_findDoors 192 = .ok (.aload_n 0, 1) := by decide +kernel
theorem dX6_findDoors_193 : decode cX6_findDoors 193 = .ok (.getfield 65, 3) := by decide +kernel
theorem dX6_findDoors_196 : decode cX6_findDoors 196 = .ok (.iload 5, 2) := by decide +kernel
theorem dX6_findDoors_198 : decode cX6_findDoors 198 = .ok (.iaload, 1) := by decide +kernel
theorem dX6_findDoors_199 : decode cX6_findDoors 199 = .ok (.iastore, 1) := by decide +kernel
theorem dX6_findDoors_200 : decode cX6_findDoors 200 = .ok (.iload_n 3, 1) := by decide +kernel
theorem dX6_findDoors_201 : decode cX6_findDoors 201 = .ok (.iconst 1, 1) := by decide +kernel
theorem dX6_findDoors_202 : decode cX6_findDoors 202 = .ok (.iload 5, 2) := by decide +kernel
theorem dX6_findDoors_204 : decode cX6_findDoors 204 = .ok (.ishl, 1) := by decide +kernel
theorem dX6_findDoors_205 : decode cX6_findDoors 205 = .ok (.ior, 1) := by decide +kernel
theorem dX6_findDoors_206 : decode cX6_findDoors 206 = .ok (.istore_n 3, 1) := by decide +kernel
theorem dX6_findDoors_207 : decode cX6_findDoors 207 = .ok (.iinc 4 1, 3) := by decide +kernel
theorem dX6_findDoors_210 : decode cX6_findDoors 210 = .ok (.goto (-67), 3) := by decide +kernel
theorem dX6_findDoors_213 : decode cX6_findDoors 213 = .ok (.return_, 1) := by decide +kernel
theorem dX6_hint_0 : decode cX6_hint 0 = .ok (.aload_n 0, 1) := by decide +kernel
theorem dX6_hint_1 : decode cX6_hint 1 = .ok (.iload_n 1, 1) := by decide +kernel
theorem dX6_hint_2 : decode cX6_hint 2 = .ok (.invokevirtual 122, 3) := by decide +kernel
theorem dX6_hint_5 : decode cX6_hint 5 = .ok (.ifCond .eq 5, 3) := by decide +kernel
theorem dX6_hint_8 : decode cX6_hint 8 = .ok (.iconst (-1), 1) := by decide +kernel
theorem dX6_hint_9 : decode cX6_hint 9 = .ok (.ireturn, 1) := by decide +kernel
theorem dX6_hint_10 : decode cX6_hint 10 = .ok (.aload_n 0, 1) := by decide +kernel
theorem dX6_hint_11 : decode cX6_hint 11 = .ok (.iload_n 1, 1) := by decide +kernel
theorem dX6_hint_12 : decode cX6_hint 12 = .ok (.invokevirtual 128, 3) := by decide +kernel
theorem dX6_hint_15 : decode cX6_hint 15 = .ok (.ifCond .ne 6, 3) := by decide +kernel
theorem dX6_hint_18 : decode cX6_hint 18 = .ok (.bipush (-4), 2) := by decide +kernel
theorem dX6_hint_20 : decode cX6_hint 20 = .ok (.ireturn, 1) := by decide +kernel
theorem dX6_hint_21 : decode cX6_hint 21 = .ok (.aload_n 0, 1) := by decide +kernel
theorem dX6_hint_22 : decode cX6_hint 22 = .ok (.getfield 50, 3) := by decide +kernel
theorem dX6_hint_25 : decode cX6_hint 25 = .ok (.iload_n 1, 1) := by decide +kernel
theorem dX6_hint_26 : decode cX6_hint 26 = .ok (.iaload, 1) := by decide +kernel
theorem dX6_hint_27 : decode cX6_hint 27 = .ok (.aload_n 0, 1) := by decide +kernel
theorem dX6_hint_28 : decode cX6_hint 28 = .ok (.getfield 59, 3) := by decide +kernel
theorem dX6_hint_31 : decode cX6_hint 31 = .ok (.iadd, 1) := by decide +kernel
theorem dX6_hint_32 : decode cX6_hint 32 = .ok (.aload_n 0, 1) := by decide +kernel
theorem dX6_hint_33 : decode cX6_hint 33 = .ok (.getfield 62, 3) := by decide +kernel
theorem dX6_hint_36 : decode cX6_hint 36 = .ok (.aload_n 0, 1) := by decide +kernel
theorem dX6_hint_37 : decode cX6_hint 37 = .ok (.getfield 53, 3) := by decide +kernel
theorem dX6_hint_40 : decode cX6_hint 40 = .ok (.iload_n 1, 1) := by decide +kernel
theorem dX6_hint_41 : decode cX6_hint 41 = .ok (.iaload, 1) := by decide +kernel
theorem dX6_hint_42 : decode cX6_hint 42 = .ok (.imul, 1) := by decide +kernel
theorem dX6_hint_43 : decode cX6_hint 43 = .ok (.iadd, 1) := by decide +kernel
theorem dX6_hint_44 : decode cX6_hint 44 = .ok (.istore_n 2, 1) := by decide +kernel
theorem dX6_hint_45 : decode cX6_hint 45 = .ok (.iload_n 2, 1) := by decide +kernel
theorem dX6_hint_46 : decode cX6_hint 46 = .ok (.ldc 135, 2) := by decide +kernel
theorem dX6_hint_48 : decode cX6_hint 48 = .ok (.if_icmp .le 6, 3) := by decide +kernel
theorem dX6_hint_51 : decode cX6_hint 51 = .ok (.bipush (-5), 2) := by decide +kernel
theorem dX6_hint_53 : decode cX6_hint 53 = .ok (.ireturn, 1) := by decide +kernel
theorem dX6_hint_54 : decode cX6_hint 54 = .ok (.aload_n 0, 1) := by decide +kernel
theorem dX6_hint_55 : decode cX6_hint 55 = .ok (.getfield 50, 3) := by decide +kernel
theorem dX6_hint_58 : decode cX6_hint 58 = .ok (.iload_n 1, 1) := by decide +kernel
theorem dX6_hint_59 : decode cX6_hint 59 = .ok (.iload_n 2, 1) := by decide +kernel
theorem dX6_hint_60 : decode cX6_hint 60 = .ok (.iastore, 1) := by decide +kernel
theorem dX6_hint_61 : decode cX6_hint 61 = .ok (.aload_n 0, 1) := by decide +kernel
theorem dX6_hint_62 : decode cX6_hint 62 = .ok (.getfield 53, 3) := by decide +kernel
theorem dX6_hint_65 : decode cX6_hint 65 = .ok (.iload_n 1, 1) := by decide +kernel
theorem dX6_hint_66 : decode cX6_hint 66 = .ok (.dup2, 1) := by decide +kernel
theorem dX6_hint_67 : decode cX6_hint 67 = .ok (.iaload, 1) := by decide +kernel
theorem dX6_hint_68 : decode cX6_hint 68 = .ok (.iconst 1, 1) := by decide +kernel
theorem dX6_hint_69 : decode cX6_hint 69 = .ok (.iadd, 1) := by decide +kernel
theorem dX6_hint_70 : decode cX6_hint 70 = .ok (.iastore, 1) := by decide +kernel
theorem dX6_hint_71 : decode cX6_hint 71 = .ok (.aload_n 0, 1) := by decide +kernel
theorem dX6_hint_72 : decode cX6_hint 72 = .ok (.iload_n 1, 1) := by decide +kernel
theorem dX6_hint_73 : decode cX6_hint 73 = .ok (.invokevirtual 184, 3) := by decide +kernel
theorem dX6_hint_76 : decode cX6_hint 76 = .ok (.aload_n 0, 1) := by decide +kernel
theorem dX6_hint_77 : decode cX6_hint 77 = .ok (.getfield 162, 3) := by decide +kernel
theorem dX6_hint_80 : decode cX6_hint 80 = .ok (.ifCond .ge 8, 3) := by decide +kernel
theorem dX6_hint_83 : decode cX6_hint 83 = .ok (.bipush 17, 2) := by decide +kernel
theorem dX6_hint_85 : decode cX6_hint 85 = .ok (.goto 21, 3) := by decide +kernel
theorem dX6_hint_88 : decode cX6_hint 88 = .ok (.aload_n 0, 1) := by decide +kernel
theorem dX6_hint_89 : decode cX6_hint 89 = .ok (.getfield 165, 3) := by decide +kernel
theorem dX6_hint_92 : decode cX6_hint 92 = .ok (.ifCond .ne 8, 3) := by decide +kernel
theorem dX6_hint_95 : decode cX6_hint 95 = .ok (.bipush 16, 2) := by decide +kernel
theorem dX6_hint_97 : decode cX6_hint 97 = .ok (.goto 9, 3) := by decide +kernel
theorem dX6_hint_100 : decode cX6_hint 100 = .ok (.aload_n 0, 1) := by decide +kernel
theorem dX6_hint_101 : decode cX6_hint 101 = .ok (.getfield 81, 3) := by decide +kernel
theorem dX6_hint_104 : decode cX6_hint 104 = .ok (.iconst 0, 1) := by decide +kernel
theorem dX6_hint_105 : decode cX6_hint 105 = .ok (.iaload, 1) := by decide +kernel
theorem dX6_hint_106 : decode cX6_hint 106 = .ok (.ireturn, 1) := by decide +kernel
theorem dX6_plan_0 : decode cX6_plan 0 = .ok (.aload_n 0, 1) := by decide +kernel
theorem dX6_plan_1 : decode cX6_plan 1 = .ok (.iload_n 1, 1) := by decide +kernel
theorem dX6_plan_2 : decode cX6_plan 2 = .ok (.invokevirtual 122, 3) := by decide +kernel
theorem dX6_plan_5 : decode cX6_plan 5 = .ok (.ifCond .eq 5, 3) := by decide +kernel
theorem dX6_plan_8 : decode cX6_plan 8 = .ok (.iconst (-1), 1) := by decide +kernel
theorem dX6_plan_9 : decode cX6_plan 9 = .ok (.ireturn, 1) := by decide +kernel
theorem dX6_plan_10 : decode cX6_plan 10 = .ok (.iload_n 2, 1) := by decide +kernel
theorem dX6_plan_11 : decode cX6_plan 11 = .ok (.iconst 0, 1) := by decide +kernel
theorem dX6_plan_12 : decode cX6_plan 12 = .ok (.iconst 1, 1) := by decide +kernel
theorem dX6_plan_13 : decode cX6_plan 13 = .ok (.invokestatic 90, 3) := by decide +kernel
theorem dX6_plan_16 : decode cX6_plan 16 = .ok (.ifCond .ne 6, 3) := by decide +kernel
theorem dX6_plan_19 : decode cX6_plan 19 = .ok (.bipush (-2), 2) := by decide +kernel
theorem dX6_plan_21 : decode cX6_plan 21 = .ok (.ireturn, 1) := by decide +kernel
theorem dX6_plan_22 : decode cX6_plan 22 = .ok (.aload_n 0, 1) := by decide +kernel
theorem dX6_plan_23 : decode cX6_plan 23 = .ok (.iload_n 1, 1) := by decide +kernel
theorem dX6_plan_24 : decode cX6_plan 24 = .ok (.invokevirtual 128, 3) := by decide +kernel
theorem dX6_plan_27 : decode cX6_plan 27 = .ok (.ifCond .ne 6, 3) := by decide +kernel
theorem dX6_plan_30 : decode cX6_plan 30 = .ok (.bipush (-4), 2) := by decide +kernel
theorem dX6_plan_32 : decode cX6_plan 32 = .ok (.ireturn, 1) := by decide +kernel
theorem dX6_plan_33 : decode cX6_plan 33 = .ok (.aload_n 0, 1) := by decide +kernel
theorem dX6_plan_34 : decode cX6_plan 34 = .ok (.iload_n 1, 1) := by decide +kernel
theorem dX6_plan_35 : decode cX6_plan 35 = .ok (.invokevirtual 184, 3) := by decide +kernel
theorem dX6_plan_38 : decode cX6_plan 38 = .ok (.aload_n 0, 1) := by decide +kernel
theorem dX6_plan_39 : decode cX6_plan 39 = .ok (.getfield 162, 3) := by decide +kernel
theorem dX6_plan_42 : decode cX6_plan 42 = .ok (.ifCond .ge 8, 3) := by decide +kernel
theorem dX6_plan_45 : decode cX6_plan 45 = .ok (.bipush (-6), 2) := by decide +kernel
theorem dX6_plan_47 : decode cX6_plan 47 = .ok (.goto 18, 3) := by decide +kernel
theorem dX6_plan_50 : decode cX6_plan 50 = .ok (.iload_n 2, 1) := by decide +kernel
theorem dX6_plan_51 : decode cX6_plan 51 = .ok (.ifCond .ne 10, 3) := by decide +kernel
theorem dX6_plan_54 : decode cX6_plan 54 = .ok (.aload_n 0, 1) := by decide +kernel
theorem dX6_plan_55 : decode cX6_plan 55 = .ok (.getfield 162, 3) := by decide +kernel
theorem dX6_plan_58 : decode cX6_plan 58 = .ok (.goto 7, 3) := by decide +kernel
theorem dX6_plan_61 : decode cX6_plan 61 = .ok (.aload_n 0, 1) := by decide +kernel
theorem dX6_plan_62 : decode cX6_plan 62 = .ok (.getfield 165, 3) := by decide +kernel
theorem dX6_plan_65 : decode cX6_plan 65 = .ok (.ireturn, 1) := by decide +kernel
theorem dX6_planned_0 : decode cX6_planned 0 = .ok (.aload_n 0, 1) := by decide +kernel
theorem dX6_planned_1 : decode cX6_planned 1 = .ok (.iload_n 1, 1) := by decide +kernel
theorem dX6_planned_2 : decode cX6_planned 2 = .ok (.invokevirtual 122, 3) := by decide +kernel
theorem dX6_planned_5 : decode cX6_planned 5 = .ok (.ifCond .eq 5, 3) := by decide +kernel
theorem dX6_planned_8 : decode cX6_planned 8 = .ok (.iconst (-1), 1) := by decide +kernel
theorem dX6_planned_9 : decode cX6_planned 9 = .ok (.ireturn, 1) := by decide +kernel
theorem dX6_planned_10 : decode cX6_planned 10 = .ok (.iload_n 2, 1) := by decide +kernel
theorem dX6_planned_11 : decode cX6_planned 11 = .ok (.ifCond .ge 6, 3) := by decide +kernel
theorem dX6_planned_14 : decode cX6_planned 14 = .ok (.bipush (-2), 2) := by decide +kernel
theorem dX6_planned_16 : decode cX6_planned 16 = .ok (.ireturn, 1) := by decide +kernel
theorem dX6_planned_17 : decode cX6_planned 17 = .ok (.aload_n 0, 1) := by decide +kernel
theorem dX6_planned_18 : decode cX6_planned 18 = .ok (.iload_n 1, 1) := by decide +kernel
theorem dX6_planned_19 : decode cX6_planned 19 = .ok (.invokevirtual 128, 3) := by decide +kernel
theorem dX6_planned_22 : decode cX6_planned 22 = .ok (.ifCond .ne 6, 3) := by decide +kernel
theorem dX6_planned_25 : decode cX6_planned 25 = .ok (.bipush (-4), 2) := by decide +kernel
theorem dX6_planned_27 : decode cX6_planned 27 = .ok (.ireturn, 1) := by decide +kernel
theorem dX6_planned_28 : decode cX6_planned 28 = .ok (.aload_n 0, 1) := by decide +kernel
theorem dX6_planned_29 : decode cX6_planned 29 = .ok (.iload_n 1, 1) := by decide +kernel
theorem dX6_planned_30 : decode cX6_planned 30 = .ok (.invokevirtual 184, 3) := by decide +kernel
theorem dX6_planned_33 : decode cX6_planned 33 = .ok (.aload_n 0, 1) := by decide +kernel
theorem dX6_planned_34 : decode cX6_planned 34 = .ok (.getfield 162, 3) := by decide +kernel
theorem dX6_planned_37 : decode cX6_planned 37 = .ok (.ifCond .lt 20, 3) := by decide +kernel
theorem dX6_planned_40 : decode cX6_planned 40 = .ok (.iload_n 2, 1) := by decide +kernel
theorem dX6_planned_41 : decode cX6_planned 41 = .ok (.aload_n 0, 1) := by decide +kernel
theorem dX6_planned_42 : decode cX6_planned 42 = .ok (.getfield 165, 3) := by decide +kernel
theorem dX6_planned_45 : decode cX6_planned 45 = .ok (.if_icmp .ge 12, 3) := by decide +kernel
theorem dX6_planned_48 : decode cX6_planned 48 = .ok (.aload_n 0, 1) := by decide +kernel
theorem dX6_planned_49 : decode cX6_planned 49 = .ok (.getfield 81, 3) := by decide +kernel
theorem dX6_planned_52 : decode cX6_planned 52 = .ok (.iload_n 2, 1) := by decide +kernel
theorem dX6_planned_53 : decode cX6_planned 53 = .ok (.iaload, 1) := by decide +kernel
theorem dX6_planned_54 : decode cX6_planned 54 = .ok (.goto 5, 3) := by decide +kernel
theorem dX6_planned_57 : decode cX6_planned 57 = .ok (.bipush (-6), 2) := by decide +kernel
theorem dX6_planned_59 : decode cX6_planned 59 = .ok (.ireturn, 1) := by decide +kernel
theorem dX6_way_0 : decode cX6_way 0 = .ok (.aload_n 0, 1) := by decide +kernel
theorem dX6_way_1 : decode cX6_way 1 = .ok (.iload_n 1, 1) := by decide +kernel
theorem dX6_way_2 : decode cX6_way 2 = .ok (.invokevirtual 122, 3) := by decide +kernel
theorem dX6_way_5 : decode cX6_way 5 = .ok (.ifCond .ne 11, 3) := by decide +kernel
theorem dX6_way_8 : decode cX6_way 8 = .ok (.aload_n 0, 1) := by decide +kernel
theorem dX6_way_9 : decode cX6_way 9 = .ok (.iload_n 2, 1) := by decide +kernel
theorem dX6_way_10 : decode cX6_way 10 = .ok (.invokevirtual 103, 3) := by decide +kernel
theorem dX6_way_13 : decode cX6_way 13 = .ok (.ifCond .eq 5, 3) := by decide +kernel
theorem dX6_way_16 : decode cX6_way 16 = .ok (.iconst (-1), 1) := by decide +kernel
theorem dX6_way_17 : decode cX6_way 17 = .ok (.ireturn, 1) := by decide +kernel
theorem dX6_way_18 : decode cX6_way 18 = .ok (.aload_n 0, 1) := by decide +kernel
theorem dX6_way_19 : decode cX6_way 19 = .ok (.iload_n 1, 1) := by decide +kernel
theorem dX6_way_20 : decode cX6_way 20 = .ok (.invokevirtual 128, 3) := by decide +kernel
theorem dX6_way_23 : decode cX6_way 23 = .ok (.ifCond .ne 6, 3) := by decide +kernel
theorem dX6_way_26 : decode cX6_way 26 = .ok (.bipush (-4), 2) := by decide +kernel
theorem dX6_way_28 : decode cX6_way 28 = .ok (.ireturn, 1) := by decide +kernel
theorem dX6_way_29 : decode cX6_way 29 = .ok (.iconst 0, 1) := by decide +kernel
theorem dX6_way_30 : decode cX6_way 30 = .ok (.istore_n 3, 1) := by decide +kernel
theorem dX6_way_31 : decode cX6_way 31 = .ok (.iload_n 3, 1) := by decide +kernel
theorem dX6_way_32 : decode cX6_way 32 = .ok (.aload_n 0, 1) := by decide +kernel
theorem dX6_way_33 : decode cX6_way 33 = .ok (.getfield 87, 3) := by decide +kernel
theorem dX6_way_36 : decode cX6_way 36 = .ok (.if_icmp .ge 36, 3) := by decide +kernel
theorem dX6_way_39 : decode cX6_way 39 = .ok (.aload_n 0, 1) := by decide +kernel
theorem dX6_way_40 : decode cX6_way 40 = .ok (.getfield 84, 3) := by decide +kernel
theorem dX6_way_43 : decode cX6_way 43 = .ok (.iload_n 3, 1) := by decide +kernel
theorem dX6_way_44 : decode cX6_way 44 = .ok (.iload_n 3, 1) := by decide +kernel
theorem dX6_way_45 : decode cX6_way 45 = .ok (.aload_n 0, 1) := by decide +kernel
theorem dX6_way_46 : decode cX6_way 46 = .ok (.getfield 47, 3) := by decide +kernel
theorem dX6_way_49 : decode cX6_way 49 = .ok (.iload_n 1, 1) := by decide +kernel
theorem dX6_way_50 : decode cX6_way 50 = .ok (.iaload, 1) := by decide +kernel
theorem dX6_way_51 : decode cX6_way 51 = .ok (.if_icmp .ne 12, 3) := by decide +kernel
theorem dX6_way_54 : decode cX6_way 54 = .ok (.aload_n 0, 1) := by decide +kernel
theorem dX6_way_55 : decode cX6_way 55 = .ok (.getfield 50, 3) := by decide +kernel
theorem dX6_way_58 : decode cX6_way 58 = .ok (.iload_n 1, 1) := by decide +kernel
theorem dX6_way_59 : decode cX6_way 59 = .ok (.iaload, 1) := by decide +kernel
theorem dX6_way_60 : decode cX6_way 60 = .ok (.goto 5, 3) := by decide +kernel
theorem dX6_way_63 : decode cX6_way 63 = .ok (.ldc 188, 2) := by decide +kernel
theorem dX6_way_65 : decode cX6_way 65 = .ok (.iastore, 1) := by decide +kernel
theorem dX6_way_66 : decode cX6_way 66 = .ok (.iinc 3 1, 3) := by decide +kernel
theorem dX6_way_69 : decode cX6_way 69 = .ok (.goto (-38), 3) := by decide +kernel
theorem dX6_way_72 : decode cX6_way 72 = .ok (.iconst 1, 1) := by decide +kernel
theorem dX6_way_73 : decode cX6_way 73 = .ok (.istore_n 3, 1) := by decide +kernel
theorem dX6_way_74 : decode cX6_way 74 = .ok (.iload_n 3, 1) := by decide +kernel
theorem dX6_way_75 : decode cX6_way 75 = .ok (.ifCond .eq 102, 3) := by decide +kernel
theorem dX6_way_78 : decode cX6_way 78 = .ok (.iconst 0, 1) := by decide +kernel
theorem dX6_way_79 : decode cX6_way 79 = .ok (.istore_n 3, 1) := by decide +kernel
theorem dX6_way_80 : decode cX6_way 80 = .ok (.iconst 0, 1) := by decide +kernel
theorem dX6_way_81 : decode cX6_way 81 = .ok (.istore 4, 2) := by decide +kernel
theorem dX6_way_83 : decode cX6_way 83 = .ok (.iload 4, 2) := by decide +kernel
theorem dX6_way_85 : decode cX6_way 85 = .ok (.aload_n 0, 1) := by decide +kernel
theorem dX6_way_86 : decode cX6_way 86 = .ok (.getfield 94, 3) := by decide +kernel
theorem dX6_way_89 : decode cX6_way 89 = .ok (.if_icmp .ge 85, 3) := by decide +kernel
theorem dX6_way_92 : decode cX6_way 92 = .ok (.aload_n 0, 1) := by decide +kernel
theorem dX6_way_93 : decode cX6_way 93 = .ok (.getfield 29, 3) := by decide +kernel
theorem dX6_way_96 : decode cX6_way 96 = .ok (.iload 4, 2) := by decide +kernel
theorem dX6_way_98 : decode cX6_way 98 = .ok (.iaload, 1) := by decide +kernel
theorem dX6_way_99 : decode cX6_way 99 = .ok (.ifCond .lt 69, 3) := by decide +kernel
theorem dX6_way_102 : decode cX6_way 102 = .ok (.aload_n 0, 1) := by decide +kernel
theorem dX6_way_103 : decode cX6_way 103 = .ok (.aload_n 0, 1) := by decide +kernel
theorem dX6_way_104 : decode cX6_way 104 = .ok (.getfield 13, 3) := by decide +kernel
theorem dX6_way_107 : decode cX6_way 107 = .ok (.iload 4, 2) := by decide +kernel
theorem dX6_way_109 : decode cX6_way 109 = .ok (.iaload, 1) := by decide +kernel
theorem dX6_way_110 : decode cX6_way 110 = .ok (.aload_n 0, 1) := by decide +kernel
theorem dX6_way_111 : decode cX6_way 111 = .ok (.getfield 17, 3) := by decide +kernel
theorem dX6_way_114 : decode cX6_way 114 = .ok (.iload 4, 2) := by decide +kernel
theorem dX6_way_116 : decode cX6_way 116 = .ok (.iaload, 1) := by decide +kernel
theorem dX6_way_117 : decode cX6_way 117 = .ok (.iload 4, 2) := by decide +kernel
theorem dX6_way_119 : decode cX6_way 119 = .ok (.invokevirtual 189, 3) := by decide +kernel
theorem dX6_way_122 : decode cX6_way 122 = .ok (.ifCond .ne 7, 3) := by decide +kernel
theorem dX6_way_125 : decode cX6_way 125 = .ok (.iload_n 3, 1) := by decide +kernel
theorem dX6_way_126 : decode cX6_way 126 = .ok (.ifCond .eq 7, 3) := by decide +kernel
theorem dX6_way_129 : decode cX6_way 129 = .ok (.iconst 1, 1) := by decide +kernel
theorem dX6_way_130 : decode cX6_way 130 = .ok (.goto 4, 3) := by decide +kernel
theorem dX6_way_133 : decode cX6_way 133 = .ok (.iconst 0, 1) := by decide +kernel
theorem dX6_way_134 : decode cX6_way 134 = .ok (.istore_n 3, 1) := by decide +kernel
theorem dX6_way_135 : decode cX6_way 135 = .ok (.aload_n 0, 1) := by decide +kernel
theorem dX6_way_136 : decode cX6_way 136 = .ok (.aload_n 0, 1) := by decide +kernel
theorem dX6_way_137 : decode cX6_way 137 = .ok (.getfield 17, 3) := by decide +kernel
theorem dX6_way_140 : decode cX6_way 140 = .ok (.iload 4, 2) := by decide +kernel
theorem dX6_way_142 : decode cX6_way 142 = .ok (.iaload, 1) := by decide +kernel
theorem dX6_way_143 : decode cX6_way 143 = .ok (.aload_n 0, 1) := by decide +kernel
theorem dX6_way_144 : decode cX6_way 144 = .ok (.getfield 13, 3) := by decide +kernel
theorem dX6_way_147 : decode cX6_way 147 = .ok (.iload 4, 2) := by decide +kernel
theorem dX6_way_149 : decode cX6_way 149 = .ok (.iaload, 1) := by decide +kernel
theorem dX6_way_150 : decode cX6_way 150 = .ok (.iload 4, 2) := by decide +kernel
theorem dX6_way_152 : decode cX6_way 152 = .ok (.invokevirtual 189, 3) := by decide +kernel
theorem dX6_way_155 : decode cX6_way 155 = .ok (.ifCond .ne 7, 3) := by decide +kernel
theorem dX6_way_158 : decode cX6_way 158 = .ok (.iload_n 3, 1) := by decide +kernel
theorem dX6_way_159 : decode cX6_way 159 = .ok (.ifCond .eq 7, 3) := by decide +kernel
theorem dX6_way_162 : decode cX6_way 162 = .ok (.iconst 1, 1) := by decide +kernel
theorem dX6_way_163 : decode cX6_way 163 = .ok (.goto 4, 3) := by decide +kernel
theorem dX6_way_166 : decode cX6_way 166 = .ok (.iconst 0, 1) := by decide +kernel
theorem dX6_way_167 : decode cX6_way 167 = .ok (.istore_n 3, 1) := by decide +kernel
theorem dX6_way_168 : decode cX6_way 168 = .ok (.iinc 4 1, 3) := by decide +kernel
theorem dX6_way_171 : decode cX6_way 171 = .ok (.goto (-88), 3) := by decide +kernel
theorem dX6_way_174 : decode cX6_way 174 = .ok (.goto (-100), 3) := by decide +kernel
theorem dX6_way_177 : decode cX6_way 177 = .ok (.aload_n 0, 1) := by decide +kernel
theorem dX6_way_178 : decode cX6_way 178 = .ok (.getfield 84, 3) := by decide +kernel
theorem dX6_way_181 : decode cX6_way 181 = .ok (.iload_n 2, 1) := by decide +kernel
theorem dX6_way_182 : decode cX6_way 182 = .ok (.iaload, 1) := by decide +kernel
theorem dX6_way_183 : decode cX6_way 183 = .ok (.ldc 188, 2) := by decide +kernel
theorem dX6_way_185 : decode cX6_way 185 = .ok (.if_icmp .ne 8, 3) := by decide +kernel
theorem dX6_way_188 : decode cX6_way 188 = .ok (.bipush (-6), 2) := by decide +kernel
theorem dX6_way_190 : decode cX6_way 190 = .ok (.goto 16, 3) := by decide +kernel
theorem dX6_way_193 : decode cX6_way 193 = .ok (.aload_n 0, 1) := by decide +kernel
theorem dX6_way_194 : decode cX6_way 194 = .ok (.getfield 84, 3) := by decide +kernel
theorem dX6_way_197 : decode cX6_way 197 = .ok (.iload_n 2, 1) := by decide +kernel
theorem dX6_way_198 : decode cX6_way 198 = .ok (.iaload, 1) := by decide +kernel
theorem dX6_way_199 : decode cX6_way 199 = .ok (.aload_n 0, 1) := by decide +kernel
theorem dX6_way_200 : decode cX6_way 200 = .ok (.getfield 50, 3) := by decide +kernel
theorem dX6_way_203 : decode cX6_way 203 = .ok (.iload_n 1, 1) := by decide +kernel
theorem dX6_way_204 : decode cX6_way 204 = .ok (.iaload, 1) := by decide +kernel
theorem dX6_way_205 : decode cX6_way 205 = .ok (.isub, 1) := by decide +kernel
theorem dX6_way_206 : decode cX6_way 206 = .ok (.ireturn, 1) := by decide +kernel
theorem dX6_passes_0 : decode cX6_passes 0 = .ok (.aload_n 0, 1) := by decide +kernel
theorem dX6_passes_1 : decode cX6_passes 1 = .ok (.getfield 84, 3) := by decide +kernel
theorem dX6_passes_4 : decode cX6_passes 4 = .ok (.iload_n 1, 1) := by decide +kernel
theorem dX6_passes_5 : decode cX6_passes 5 = .ok (.iaload, 1) := by decide +kernel
theorem dX6_passes_6 : decode cX6_passes 6 = .ok (.ldc 188, 2) := by decide +kernel
theorem dX6_passes_8 : decode cX6_passes 8 = .ok (.if_icmp .ne 5, 3) := by decide +kernel
theorem dX6_passes_11 : decode cX6_passes 11 = .ok (.iconst 0, 1) := by decide +kernel
theorem dX6_passes_12 : decode cX6_passes 12 = .ok (.ireturn, 1) := by decide +kernel
theorem dX6_passes_13 : decode cX6_passes 13 = .ok (.aload_n 0, 1) := by decide +kernel
theorem dX6_passes_14 : decode cX6_passes 14 = .ok (.getfield 84, 3) := by decide +kernel
theorem dX6_passes_17 : decode cX6_passes 17 = .ok (.iload_n 1, 1) := by decide +kernel
theorem dX6_passes_18 : decode cX6_passes 18 = .ok (.iaload, 1) := by decide +kernel
theorem dX6_passes_19 : decode cX6_passes 19 = .ok (.aload_n 0, 1) := by decide +kernel
theorem dX6_passes_20 : decode cX6_passes 20 = .ok (.getfield 29, 3) := by decide +kernel
theorem dX6_passes_23 : decode cX6_passes 23 = .ok (.iload_n 3, 1) := by decide +kernel
theorem dX6_passes_24 : decode cX6_passes 24 = .ok (.iaload, 1) := by decide +kernel
theorem dX6_passes_25 : decode cX6_passes 25 = .ok (.if_icmp .ge 12, 3) := by decide +kernel
theorem dX6_passes_28 : decode cX6_passes 28 = .ok (.aload_n 0, 1) := by decide +kernel
theorem dX6_passes_29 : decode cX6_passes 29 = .ok (.getfield 29, 3) := by decide +kernel
theorem dX6_passes_32 : decode cX6_passes 32 = .ok (.iload_n 3, 1) := by decide +kernel
theorem dX6_passes_33 : decode cX6_passes 33 = .ok (.iaload, 1) := by decide +kernel
theorem dX6_passes_34 : decode cX6_passes 34 = .ok (.goto 9, 3) := by decide +kernel
theorem dX6_passes_37 : decode cX6_passes 37 = .ok (.aload_n 0, 1) := by decide +kernel
theorem dX6_passes_38 : decode cX6_passes 38 = .ok (.getfield 84, 3) := by decide +kernel
theorem dX6_passes_41 : decode cX6_passes 41 = .ok (.iload_n 1, 1) := by decide +kernel
theorem dX6_passes_42 : decode cX6_passes 42 = .ok (.iaload, 1) := by decide +kernel
theorem dX6_passes_43 : decode cX6_passes 43 = .ok (.aload_n 0, 1) := by decide +kernel
theorem dX6_passes_44 : decode cX6_passes 44 = .ok (.getfield 20, 3) := by decide +kernel
theorem dX6_passes_47 : decode cX6_passes 47 = .ok (.iload_n 3, 1) := by decide +kernel
theorem dX6_passes_48 : decode cX6_passes 48 = .ok (.iaload, 1) := by decide +kernel
theorem dX6_passes_49 : decode cX6_passes 49 = .ok (.iadd, 1) := by decide +kernel
theorem dX6_passes_50 : decode cX6_passes 50 = .ok (.istore 4, 2) := by decide +kernel
theorem dX6_passes_52 : decode cX6_passes 52 = .ok (.iload 4, 2) := by decide +kernel
theorem dX6_passes_54 : decode cX6_passes 54 = .ok (.aload_n 0, 1) := by decide +kernel
theorem dX6_passes_55 : decode cX6_passes 55 = .ok (.getfield 84, 3) := by decide +kernel
theorem dX6_passes_58 : decode cX6_passes 58 = .ok (.iload_n 2, 1) := by decide +kernel
theorem dX6_passes_59 : decode cX6_passes 59 = .ok (.iaload, 1) := by decide +kernel
theorem dX6_passes_60 : decode cX6_passes 60 = .ok (.if_icmp .lt 5, 3) := by decide +kernel
theorem dX6_passes_63 : decode cX6_passes 63 = .ok (.iconst 0, 1) := by decide +kernel
theorem dX6_passes_64 : decode cX6_passes 64 = .ok (.ireturn, 1) := by decide +kernel
theorem dX6_passes_65 : decode cX6_passes 65 = .ok (.aload_n 0, 1) := by decide +kernel
theorem dX6_passes_66 : decode cX6_passes 66 = .ok (.getfield 84, 3) := by decide +kernel
theorem dX6_passes_69 : decode cX6_passes 69 = .ok (.iload_n 2, 1) := by decide +kernel
theorem dX6_passes_70 : decode cX6_passes 70 = .ok (.iload 4, 2) := by decide +kernel
theorem dX6_passes_72 : decode cX6_passes 72 = .ok (.iastore, 1) := by decide +kernel
theorem dX6_passes_73 : decode cX6_passes 73 = .ok (.iconst 1, 1) := by decide +kernel
theorem dX6_passes_74 : decode cX6_passes 74 = .ok (.ireturn, 1) := by decide +kernel
theorem dX6_reach_0 : decode cX6_reach 0 = .ok (.aload_n 0, 1) := by decide +kernel
theorem dX6_reach_1 : decode cX6_reach 1 = .ok (.iload_n 1, 1) := by decide +kernel
theorem dX6_reach_2 : decode cX6_reach 2 = .ok (.invokevirtual 122, 3) := by decide +kernel
theorem dX6_reach_5 : decode cX6_reach 5 = .ok (.ifCond .eq 5, 3) := by decide +kernel
theorem dX6_reach_8 : decode cX6_reach 8 = .ok (.iconst (-1), 1) := by decide +kernel
theorem dX6_reach_9 : decode cX6_reach 9 = .ok (.ireturn, 1) := by decide +kernel
theorem dX6_reach_10 : decode cX6_reach 10 = .ok (.aload_n 0, 1) := by decide +kernel
theorem dX6_reach_11 : decode cX6_reach 11 = .ok (.iload_n 1, 1) := by decide +kernel
theorem dX6_reach_12 : decode cX6_reach 12 = .ok (.invokevirtual 128, 3) := by decide +kernel
theorem dX6_reach_15 : decode cX6_reach 15 = .ok (.ifCond .eq 17, 3) := by decide +kernel
theorem dX6_reach_18 : decode cX6_reach 18 = .ok (.aload_n 0, 1) := by decide +kernel
theorem dX6_reach_19 : decode cX6_reach 19 = .ok (.aload_n 0, 1) := by decide +kernel
theorem dX6_reach_20 : decode cX6_reach 20 = .ok (.getfield 47, 3) := by decide +kernel
theorem dX6_reach_23 : decode cX6_reach 23 = .ok (.iload_n 1, 1) := by decide +kernel
theorem dX6_reach_24 : decode cX6_reach 24 = .ok (.iaload, 1) := by decide +kernel
theorem dX6_reach_25 : decode cX6_reach 25 = .ok (.iconst 0, 1) := by decide +kernel
theorem dX6_reach_26 : decode cX6_reach 26 = .ok (.invokevirtual 159, 3) := by decide +kernel
theorem dX6_reach_29 : decode cX6_reach 29 = .ok (.goto 5, 3) := by decide +kernel
theorem dX6_reach_32 : decode cX6_reach 32 = .ok (.bipush (-4), 2) := by decide +kernel
theorem dX6_reach_34 : decode cX6_reach 34 = .ok (.ireturn, 1) := by decide +kernel
theorem dX6_door_0 : decode cX6_door 0 = .ok (.aload_n 0, 1) := by decide +kernel
theorem dX6_door_1 : decode cX6_door 1 = .ok (.iload_n 1, 1) := by decide +kernel
theorem dX6_door_2 : decode cX6_door 2 = .ok (.invokevirtual 125, 3) := by decide +kernel
theorem dX6_door_5 : decode cX6_door 5 = .ok (.ifCond .eq 5, 3) := by decide +kernel
theorem dX6_door_8 : decode cX6_door 8 = .ok (.iconst (-1), 1) := by decide +kernel
theorem dX6_door_9 : decode cX6_door 9 = .ok (.ireturn, 1) := by decide +kernel
theorem dX6_door_10 : decode cX6_door 10 = .ok (.iload_n 2, 1) := by decide +kernel
theorem dX6_door_11 : decode cX6_door 11 = .ok (.tableswitch 79 0 5 #[37, 44, 51, 58, 65, 72], 37) := by decide +kernel
theorem dX6_door_48 : decode cX6_door 48 = .ok (.aload_n 0, 1) := by decide +kernel
theorem dX6_door_49 : decode cX6_door 49 = .ok (.getfield 13, 3) := by decide +kernel
theorem dX6_door_52 : decode cX6_door 52 = .ok (.iload_n 1, 1) := by decide +kernel
theorem dX6_door_53 : decode cX6_door 53 = .ok (.iaload, 1) := by decide +kernel
theorem dX6_door_54 : decode cX6_door 54 = .ok (.ireturn, 1) := by decide +kernel
theorem dX6_door_55 : decode cX6_door 55 = .ok (.aload_n 0, 1) := by decide +kernel
theorem dX6_door_56 : decode cX6_door 56 = .ok (.getfield 17, 3) := by decide +kernel
theorem dX6_door_59 : decode cX6_door 59 = .ok (.iload_n 1, 1) := by decide +kernel
theorem dX6_door_60 : decode cX6_door 60 = .ok (.iaload, 1) := by decide +kernel
theorem dX6_door_61 : decode cX6_door 61 = .ok (.ireturn, 1) := by decide +kernel
theorem dX6_door_62 : decode cX6_door 62 = .ok (.aload_n 0, 1) := by decide +kernel
theorem dX6_door_63 : decode cX6_door 63 = .ok (.getfield 20, 3) := by decide +kernel
theorem dX6_door_66 : decode cX6_door 66 = .ok (.iload_n 1, 1) := by decide +kernel
theorem dX6_door_67 : decode cX6_door 67 = .ok (.iaload, 1) := by decide +kernel
theorem dX6_door_68 : decode cX6_door 68 = .ok (.ireturn, 1) := by decide +kernel
theorem dX6_door_69 : decode cX6_door 69 = .ok (.aload_n 0, 1) := by decide +kernel
theorem dX6_door_70 : decode cX6_door 70 = .ok (.getfield 23, 3) := by decide +kernel
theorem dX6_door_73 : decode cX6_door 73 = .ok (.iload_n 1, 1) := by decide +kernel
theorem dX6_door_74 : decode cX6_door 74 = .ok (.iaload, 1) := by decide +kernel
theorem dX6_door_75 : decode cX6_door 75 = .ok (.ireturn, 1) := by decide +kernel
theorem dX6_door_76 : decode cX6_door 76 = .ok (.aload_n 0, 1) := by decide +kernel
theorem dX6_door_77 : decode cX6_door 77 = .ok (.getfield 26, 3) := by decide +kernel
theorem dX6_door_80 : decode cX6_door 80 = .ok (.iload_n 1, 1) := by decide +kernel
theorem dX6_door_81 : decode cX6_door 81 = .ok (.iaload, 1) := by decide +kernel
theorem dX6_door_82 : decode cX6_door 82 = .ok (.ireturn, 1) := by decide +kernel
theorem dX6_door_83 : decode cX6_door 83 = .ok (.aload_n 0, 1) := by decide +kernel
theorem dX6_door_84 : decode cX6_door 84 = .ok (.getfield 29, 3) := by decide +kernel
theorem dX6_door_87 : decode cX6_door 87 = .ok (.iload_n 1, 1) := by decide +kernel
theorem dX6_door_88 : decode cX6_door 88 = .ok (.iaload, 1) := by decide +kernel
theorem dX6_door_89 : decode cX6_door 89 = .ok (.ireturn, 1) := by decide +kernel
theorem dX6_door_90 : decode cX6_door 90 = .ok (.bipush (-2), 2) := by decide +kernel
theorem dX6_door_92 : decode cX6_door 92 = .ok (.ireturn, 1) := by decide +kernel
theorem dX6_key_0 : decode cX6_key 0 = .ok (.aload_n 0, 1) := by decide +kernel
theorem dX6_key_1 : decode cX6_key 1 = .ok (.iload_n 1, 1) := by decide +kernel
theorem dX6_key_2 : decode cX6_key 2 = .ok (.invokevirtual 143, 3) := by decide +kernel
theorem dX6_key_5 : decode cX6_key 5 = .ok (.ifCond .eq 5, 3) := by decide +kernel
theorem dX6_key_8 : decode cX6_key 8 = .ok (.iconst (-1), 1) := by decide +kernel
theorem dX6_key_9 : decode cX6_key 9 = .ok (.ireturn, 1) := by decide +kernel
theorem dX6_key_10 : decode cX6_key 10 = .ok (.iload_n 2, 1) := by decide +kernel
theorem dX6_key_11 : decode cX6_key 11 = .ok (.tableswitch 112 0 4 #[33, 40, 47, 68, 90], 33) := by decide +kernel
theorem dX6_key_44 : decode cX6_key 44 = .ok (.aload_n 0, 1) := by decide +kernel
theorem dX6_key_45 : decode cX6_key 45 = .ok (.getfield 32, 3) := by decide +kernel
theorem dX6_key_48 : decode cX6_key 48 = .ok (.iload_n 1, 1) := by decide +kernel
theorem dX6_key_49 : decode cX6_key 49 = .ok (.iaload, 1) := by decide +kernel
theorem dX6_key_50 : decode cX6_key 50 = .ok (.ireturn, 1) := by decide +kernel
theorem dX6_key_51 : decode cX6_key 51 = .ok (.aload_n 0, 1) := by decide +kernel
theorem dX6_key_52 : decode cX6_key 52 = .ok (.getfield 35, 3) := by decide +kernel
theorem dX6_key_55 : decode cX6_key 55 = .ok (.iload_n 1, 1) := by decide +kernel
theorem dX6_key_56 : decode cX6_key 56 = .ok (.iaload, 1) := by decide +kernel
theorem dX6_key_57 : decode cX6_key 57 = .ok (.ireturn, 1) := by decide +kernel
theorem dX6_key_58 : decode cX6_key 58 = .ok (.aload_n 0, 1) := by decide +kernel
theorem dX6_key_59 : decode cX6_key 59 = .ok (.getfield 35, 3) := by decide +kernel
theorem dX6_key_62 : decode cX6_key 62 = .ok (.iload_n 1, 1) := by decide +kernel
theorem dX6_key_63 : decode cX6_key 63 = .ok (.iaload, 1) := by decide +kernel
theorem dX6_key_64 : decode cX6_key 64 = .ok (.ifCond .ne 12, 3) := by decide +kernel
theorem dX6_key_67 : decode cX6_key 67 = .ok (.aload_n 0, 1) := by decide +kernel
theorem dX6_key_68 : decode cX6_key 68 = .ok (.getfield 38, 3) := by decide +kernel
theorem dX6_key_71 : decode cX6_key 71 = .ok (.iload_n 1, 1) := by decide +kernel
theorem dX6_key_72 : decode cX6_key 72 = .ok (.iaload, 1) := by decide +kernel
theorem dX6_key_73 : decode cX6_key 73 = .ok (.goto 5, 3) := by decide +kernel
theorem dX6_key_76 : decode cX6_key 76 = .ok (.bipush (-6), 2) := by decide +kernel
theorem dX6_key_78 : decode cX6_key 78 = .ok (.ireturn, 1) := by decide +kernel
theorem dX6_key_79 : decode cX6_key 79 = .ok (.aload_n 0, 1) := by decide +kernel
theorem dX6_key_80 : decode cX6_key 80 = .ok (.getfield 35, 3) := by decide +kernel
theorem dX6_key_83 : decode cX6_key 83 = .ok (.iload_n 1, 1) := by decide +kernel
theorem dX6_key_84 : decode cX6_key 84 = .ok (.iaload, 1) := by decide +kernel
theorem dX6_key_85 : decode cX6_key 85 = .ok (.iconst 1, 1) := by decide +kernel
theorem dX6_key_86 : decode cX6_key 86 = .ok (.if_icmp .ne 12, 3) := by decide +kernel
theorem dX6_key_89 : decode cX6_key 89 = .ok (.aload_n 0, 1) := by decide +kernel
theorem dX6_key_90 : decode cX6_key 90 = .ok (.getfield 38, 3) := by decide +kernel
theorem dX6_key_93 : decode cX6_key 93 = .ok (.iload_n 1, 1) := by decide +kernel
theorem dX6_key_94 : decode cX6_key 94 = .ok (.iaload, 1) := by decide +kernel
theorem dX6_key_95 : decode cX6_key 95 = .ok (.goto 5, 3) := by decide +kernel
theorem dX6_key_98 : decode cX6_key 98 = .ok (.bipush (-6), 2) := by decide +kernel
theorem dX6_key_100 : decode cX6_key 100 = .ok (.ireturn, 1) := by decide +kernel
theorem dX6_key_101 : decode cX6_key 101 = .ok (.aload_n 0, 1) := by decide +kernel
theorem dX6_key_102 : decode cX6_key 102 = .ok (.getfield 35, 3) := by decide +kernel
theorem dX6_key_105 : decode cX6_key 105 = .ok (.iload_n 1, 1) := by decide +kernel
theorem dX6_key_106 : decode cX6_key 106 = .ok (.iaload, 1) := by decide +kernel
theorem dX6_key_107 : decode cX6_key 107 = .ok (.iconst 2, 1) := by decide +kernel
theorem dX6_key_108 : decode cX6_key 108 = .ok (.if_icmp .ne 12, 3) := by decide +kernel
theorem dX6_key_111 : decode cX6_key 111 = .ok (.aload_n 0, 1) := by decide +kernel
theorem dX6_key_112 : decode cX6_key 112 = .ok (.getfield 38, 3) := by decide +kernel
theorem dX6_key_115 : decode cX6_key 115 = .ok (.iload_n 1, 1) := by decide +kernel
theorem dX6_key_116 : decode cX6_key 116 = .ok (.iaload, 1) := by decide +kernel
theorem dX6_key_117 : decode cX6_key 117 = .ok (.goto 5, 3) := by decide +kernel
theorem dX6_key_120 : decode cX6_key 120 = .ok (.bipush (-6), 2) := by decide +kernel
theorem dX6_key_122 : decode cX6_key 122 = .ok (.ireturn, 1) := by decide +kernel
theorem dX6_key_123 : decode cX6_key 123 = .ok (.bipush (-2), 2) := by decide +kernel
theorem dX6_key_125 : decode cX6_key 125 = .ok (.ireturn, 1) := by decide +kernel
theorem dX6_group_0 : decode cX6_group 0 = .ok (.aload_n 0, 1) := by decide +kernel
theorem dX6_group_1 : decode cX6_group 1 = .ok (.iload_n 1, 1) := by decide +kernel
theorem dX6_group_2 : decode cX6_group 2 = .ok (.invokevirtual 122, 3) := by decide +kernel
theorem dX6_group_5 : decode cX6_group 5 = .ok (.ifCond .eq 5, 3) := by decide +kernel
theorem dX6_group_8 : decode cX6_group 8 = .ok (.iconst (-1), 1) := by decide +kernel
theorem dX6_group_9 : decode cX6_group 9 = .ok (.ireturn, 1) := by decide +kernel
theorem dX6_group_10 : decode cX6_group 10 = .ok (.iload_n 2, 1) := by decide +kernel
theorem dX6_group_11 : decode cX6_group 11 = .ok (.tableswitch 78 0 5 #[37, 44, 51, 58, 64, 71], 37) := by decide +kernel
theorem dX6_group_48 : decode cX6_group 48 = .ok (.aload_n 0, 1) := by decide +kernel
theorem dX6_group_49 : decode cX6_group 49 = .ok (.getfield 44, 3) := by decide +kernel
theorem dX6_group_52 : decode cX6_group 52 = .ok (.iload_n 1, 1) := by decide +kernel
theorem dX6_group_53 : decode cX6_group 53 = .ok (.iaload, 1) := by decide +kernel
theorem dX6_group_54 : decode cX6_group 54 = .ok (.ireturn, 1) := by decide +kernel
theorem dX6_group_55 : decode cX6_group 55 = .ok (.aload_n 0, 1) := by decide +kernel
theorem dX6_group_56 : decode cX6_group 56 = .ok (.getfield 47, 3) := by decide +kernel
theorem dX6_group_59 : decode cX6_group 59 = .ok (.iload_n 1, 1) := by decide +kernel
theorem dX6_group_60 : decode cX6_group 60 = .ok (.iaload, 1) := by decide +kernel
theorem dX6_group_61 : decode cX6_group 61 = .ok (.ireturn, 1) := by decide +kernel
theorem dX6_group_62 : decode cX6_group 62 = .ok (.aload_n 0, 1) := by decide +kernel
theorem dX6_group_63 : decode cX6_group 63 = .ok (.getfield 50, 3) := by decide +kernel
theorem dX6_group_66 : decode cX6_group 66 = .ok (.iload_n 1, 1) := by decide +kernel
theorem dX6_group_67 : decode cX6_group 67 = .ok (.iaload, 1) := by decide +kernel
theorem dX6_group_68 : decode cX6_group 68 = .ok (.ireturn, 1) := by decide +kernel
theorem dX6_group_69 : decode cX6_group 69 = .ok (.aload_n 0, 1) := by decide +kernel
theorem dX6_group_70 : decode cX6_group 70 = .ok (.iload_n 1, 1) := by decide +kernel
theorem dX6_group_71 : decode cX6_group 71 = .ok (.invokevirtual 146, 3) := by decide +kernel
theorem dX6_group_74 : decode cX6_group 74 = .ok (.ireturn, 1) := by decide +kernel
theorem dX6_group_75 : decode cX6_group 75 = .ok (.aload_n 0, 1) := by decide +kernel
theorem dX6_group_76 : decode cX6_group 76 = .ok (.getfield 53, 3) := by decide +kernel
theorem dX6_group_79 : decode cX6_group 79 = .ok (.iload_n 1, 1) := by decide +kernel
theorem dX6_group_80 : decode cX6_group 80 = .ok (.iaload, 1) := by decide +kernel
theorem dX6_group_81 : decode cX6_group 81 = .ok (.ireturn, 1) := by decide +kernel
theorem dX6_group_82 : decode cX6_group 82 = .ok (.aload_n 0, 1) := by decide +kernel
theorem dX6_group_83 : decode cX6_group 83 = .ok (.getfield 56, 3) := by decide +kernel
theorem dX6_group_86 : decode cX6_group 86 = .ok (.iload_n 1, 1) := by decide +kernel
theorem dX6_group_87 : decode cX6_group 87 = .ok (.iaload, 1) := by decide +kernel
theorem dX6_group_88 : decode cX6_group 88 = .ok (.ireturn, 1) := by decide +kernel
theorem dX6_group_89 : decode cX6_group 89 = .ok (.bipush (-2), 2) := by decide +kernel
theorem dX6_group_91 : decode cX6_group 91 = .ok (.ireturn, 1) := by decide +kernel
theorem dX6_color_0 : decode cX6_color 0 = .ok (.iload_n 1, 1) := by decide +kernel
theorem dX6_color_1 : decode cX6_color 1 = .ok (.iconst 0, 1) := by decide +kernel
theorem dX6_color_2 : decode cX6_color 2 = .ok (.iconst 5, 1) := by decide +kernel
theorem dX6_color_3 : decode cX6_color 3 = .ok (.invokestatic 90, 3) := by decide +kernel
theorem dX6_color_6 : decode cX6_color 6 = .ok (.ifCond .eq 12, 3) := by decide +kernel
theorem dX6_color_9 : decode cX6_color 9 = .ok (.iload_n 2, 1) := by decide +kernel
theorem dX6_color_10 : decode cX6_color 10 = .ok (.iconst 0, 1) := by decide +kernel
theorem dX6_color_11 : decode cX6_color 11 = .ok (.iconst 1, 1) := by decide +kernel
theorem dX6_color_12 : decode cX6_color 12 = .ok (.invokestatic 90, 3) := by decide +kernel
theorem dX6_color_15 : decode cX6_color 15 = .ok (.ifCond .ne 6, 3) := by decide +kernel
theorem dX6_color_18 : decode cX6_color 18 = .ok (.bipush (-2), 2) := by decide +kernel
theorem dX6_color_20 : decode cX6_color 20 = .ok (.ireturn, 1) := by decide +kernel
theorem dX6_color_21 : decode cX6_color 21 = .ok (.iconst 0, 1) := by decide +kernel
theorem dX6_color_22 : decode cX6_color 22 = .ok (.istore_n 3, 1) := by decide +kernel
theorem dX6_color_23 : decode cX6_color 23 = .ok (.iconst 0, 1) := by decide +kernel
theorem dX6_color_24 : decode cX6_color 24 = .ok (.istore 4, 2) := by decide +kernel
theorem dX6_color_26 : decode cX6_color 26 = .ok (.iload 4, 2) := by decide +kernel
theorem dX6_color_28 : decode cX6_color 28 = .ok (.aload_n 0, 1) := by decide +kernel
theorem dX6_color_29 : decode cX6_color 29 = .ok (.getfield 94, 3) := by decide +kernel
theorem dX6_color_32 : decode cX6_color 32 = .ok (.if_icmp .ge 42, 3) := by decide +kernel
theorem dX6_color_35 : decode cX6_color 35 = .ok (.iload_n 2, 1) := by decide +kernel
theorem dX6_color_36 : decode cX6_color 36 = .ok (.ifCond .ne 38, 3) := by decide +kernel
theorem dX6_color_39 : decode cX6_color 39 = .ok (.iload_n 3, 1) := by decide +kernel
theorem dX6_color_40 : decode cX6_color 40 = .ok (.aload_n 0, 1) := by decide +kernel
theorem dX6_color_41 : decode cX6_color 41 = .ok (.getfield 23, 3) := by decide +kernel
theorem dX6_color_44 : decode cX6_color 44 = .ok (.iload 4, 2) := by decide +kernel
theorem dX6_color_46 : decode cX6_color 46 = .ok (.iaload, 1) := by decide +kernel
theorem dX6_color_47 : decode cX6_color 47 = .ok (.iload_n 1, 1) := by decide +kernel
theorem dX6_color_48 : decode cX6_color 48 = .ok (.if_icmp .ne 17, 3) := by decide +kernel
theorem dX6_color_51 : decode cX6_color 51 = .ok (.aload_n 0, 1) := by decide +kernel
theorem dX6_color_52 : decode cX6_color 52 = .ok (.getfield 29, 3) := by decide +kernel
theorem dX6_color_55 : decode cX6_color 55 = .ok (.iload 4, 2) := by decide +kernel
theorem dX6_color_57 : decode cX6_color 57 = .ok (.iaload, 1) := by decide +kernel
theorem dX6_color_58 : decode cX6_color 58 = .ok (.ifCond .ge 7, 3) := by decide +kernel
theorem dX6_color_61 : decode cX6_color 61 = .ok (.iconst 1, 1) := by decide +kernel
theorem dX6_color_62 : decode cX6_color 62 = .ok (.goto 4, 3) := by decide +kernel
theorem dX6_color_65 : decode cX6_color 65 = .ok (.iconst 0, 1) := by decide +kernel
theorem dX6_color_66 : decode cX6_color 66 = .ok (.iadd, 1) := by decide +kernel
theorem dX6_color_67 : decode cX6_color 67 = .ok (.istore_n 3, 1) := by decide +kernel
theorem dX6_color_68 : decode cX6_color 68 = .ok (.iinc 4 1, 3) := by decide +kernel
theorem dX6_color_71 : decode cX6_color 71 = .ok (.goto (-45), 3) := by decide +kernel
theorem dX6_color_74 : decode cX6_color 74 = .ok (.iconst 0, 1) := by decide +kernel
theorem dX6_color_75 : decode cX6_color 75 = .ok (.istore 4, 2) := by decide +kernel
theorem dX6_color_77 : decode cX6_color 77 = .ok (.iload 4, 2) := by decide +kernel
theorem dX6_color_79 : decode cX6_color 79 = .ok (.aload_n 0, 1) := by decide +kernel
theorem dX6_color_80 : decode cX6_color 80 = .ok (.getfield 97, 3) := by decide +kernel
theorem dX6_color_83 : decode cX6_color 83 = .ok (.if_icmp .ge 44, 3) := by decide +kernel
theorem dX6_color_86 : decode cX6_color 86 = .ok (.iload_n 2, 1) := by decide +kernel
theorem dX6_color_87 : decode cX6_color 87 = .ok (.iconst 1, 1) := by decide +kernel
theorem dX6_color_88 : decode cX6_color 88 = .ok (.if_icmp .ne 39, 3) := by decide +kernel
theorem dX6_color_91 : decode cX6_color 91 = .ok (.iload_n 3, 1) := by decide +kernel
theorem dX6_color_92 : decode cX6_color 92 = .ok (.aload_n 0, 1) := by decide +kernel
theorem dX6_color_93 : decode cX6_color 93 = .ok (.getfield 32, 3) := by decide +kernel
theorem dX6_color_96 : decode cX6_color 96 = .ok (.iload 4, 2) := by decide +kernel
theorem dX6_color_98 : decode cX6_color 98 = .ok (.iaload, 1) := by decide +kernel
theorem dX6_color_99 : decode cX6_color 99 = .ok (.iload_n 1, 1) := by decide +kernel
theorem dX6_color_100 : decode cX6_color 100 = .ok (.if_icmp .ne 18, 3) := by decide +kernel
theorem dX6_color_103 : decode cX6_color 103 = .ok (.aload_n 0, 1) := by decide +kernel
theorem dX6_color_104 : decode cX6_color 104 = .ok (.getfield 35, 3) := by decide +kernel
theorem dX6_color_107 : decode cX6_color 107 = .ok (.iload 4, 2) := by decide +kernel
theorem dX6_color_109 : decode cX6_color 109 = .ok (.iaload, 1) := by decide +kernel
theorem dX6_color_110 : decode cX6_color 110 = .ok (.iconst 2, 1) := by decide +kernel
theorem dX6_color_111 : decode cX6_color 111 = .ok (.if_icmp .eq 7, 3) := by decide +kernel
theorem dX6_color_114 : decode cX6_color 114 = .ok (.iconst 1, 1) := by decide +kernel
theorem dX6_color_115 : decode cX6_color 115 = .ok (.goto 4, 3) := by decide +kernel
theorem dX6_color_118 : decode cX6_color 118 = .ok (.iconst 0, 1) := by decide +kernel
theorem dX6_color_119 : decode cX6_color 119 = .ok (.iadd, 1) := by decide +kernel
theorem dX6_color_120 : decode cX6_color 120 = .ok (.istore_n 3, 1) := by decide +kernel
theorem dX6_color_121 : decode cX6_color 121 = .ok (.iinc 4 1, 3) := by decide +kernel
theorem dX6_color_124 : decode cX6_color 124 = .ok (.goto (-47), 3) := by decide +kernel
theorem dX6_color_127 : decode cX6_color 127 = .ok (.iload_n 3, 1) := by decide +kernel
theorem dX6_color_128 : decode cX6_color 128 = .ok (.ireturn, 1) := by decide +kernel
theorem dX6_sizes_0 : decode cX6_sizes 0 = .ok (.iconst 0, 1) := by decide +kernel
theorem dX6_sizes_1 : decode cX6_sizes 1 = .ok (.istore_n 2, 1) := by decide +kernel
theorem dX6_sizes_2 : decode cX6_sizes 2 = .ok (.iconst 0, 1) := by decide +kernel
theorem dX6_sizes_3 : decode cX6_sizes 3 = .ok (.istore_n 3, 1) := by decide +kernel
theorem dX6_sizes_4 : decode cX6_sizes 4 = .ok (.iload_n 3, 1) := by decide +kernel
theorem dX6_sizes_5 : decode cX6_sizes 5 = .ok (.aload_n 0, 1) := by decide +kernel
theorem dX6_sizes_6 : decode cX6_sizes 6 = .ok (.getfield 100, 3) := by decide +kernel
theorem dX6_sizes_9 : decode cX6_sizes 9 = .ok (.if_icmp .ge 32, 3) := by decide +kernel
theorem dX6_sizes_12 : decode cX6_sizes 12 = .ok (.iload_n 2, 1) := by decide +kernel
theorem dX6_sizes_13 : decode cX6_sizes 13 = .ok (.aload_n 0, 1) := by decide +kernel
theorem dX6_sizes_14 : decode cX6_sizes 14 = .ok (.getfield 56, 3) := by decide +kernel
theorem dX6_sizes_17 : decode cX6_sizes 17 = .ok (.iload_n 3, 1) := by decide +kernel
theorem dX6_sizes_18 : decode cX6_sizes 18 = .ok (.iaload, 1) := by decide +kernel
theorem dX6_sizes_19 : decode cX6_sizes 19 = .ok (.iload_n 1, 1) := by decide +kernel
theorem dX6_sizes_20 : decode cX6_sizes 20 = .ok (.if_icmp .ne 12, 3) := by decide +kernel
theorem dX6_sizes_23 : decode cX6_sizes 23 = .ok (.aload_n 0, 1) := by decide +kernel
theorem dX6_sizes_24 : decode cX6_sizes 24 = .ok (.getfield 44, 3) := by decide +kernel
theorem dX6_sizes_27 : decode cX6_sizes 27 = .ok (.iload_n 3, 1) := by decide +kernel
theorem dX6_sizes_28 : decode cX6_sizes 28 = .ok (.iaload, 1) := by decide +kernel
theorem dX6_sizes_29 : decode cX6_sizes 29 = .ok (.goto 4, 3) := by decide +kernel
theorem dX6_sizes_32 : decode cX6_sizes 32 = .ok (.iconst 0, 1) := by decide +kernel
theorem dX6_sizes_33 : decode cX6_sizes 33 = .ok (.iadd, 1) := by decide +kernel
theorem dX6_sizes_34 : decode cX6_sizes 34 = .ok (.istore_n 2, 1) := by decide +kernel
theorem dX6_sizes_35 : decode cX6_sizes 35 = .ok (.iinc 3 1, 3) := by decide +kernel
theorem dX6_sizes_38 : decode cX6_sizes 38 = .ok (.goto (-34), 3) := by decide +kernel
theorem dX6_sizes_41 : decode cX6_sizes 41 = .ok (.iload_n 2, 1) := by decide +kernel
theorem dX6_sizes_42 : decode cX6_sizes 42 = .ok (.ireturn, 1) := by decide +kernel
theorem dX6_unlocked_0 : decode cX6_unlocked 0 = .ok (.iconst 0, 1) := by decide +kernel
theorem dX6_unlocked_1 : decode cX6_unlocked 1 = .ok (.istore_n 1, 1) := by decide +kernel
theorem dX6_unlocked_2 : decode cX6_unlocked 2 = .ok (.iconst 0, 1) := by decide +kernel
theorem dX6_unlocked_3 : decode cX6_unlocked 3 = .ok (.istore_n 2, 1) := by decide +kernel
theorem dX6_unlocked_4 : decode cX6_unlocked 4 = .ok (.iload_n 2, 1) := by decide +kernel
theorem dX6_unlocked_5 : decode cX6_unlocked 5 = .ok (.aload_n 0, 1) := by decide +kernel
theorem dX6_unlocked_6 : decode cX6_unlocked 6 = .ok (.getfield 94, 3) := by decide +kernel
theorem dX6_unlocked_9 : decode cX6_unlocked 9 = .ok (.if_icmp .ge 35, 3) := by decide +kernel
theorem dX6_unlocked_12 : decode cX6_unlocked 12 = .ok (.iload_n 1, 1) := by decide +kernel
theorem dX6_unlocked_13 : decode cX6_unlocked 13 = .ok (.aload_n 0, 1) := by decide +kernel
theorem dX6_unlocked_14 : decode cX6_unlocked 14 = .ok (.getfield 23, 3) := by decide +kernel
theorem dX6_unlocked_17 : decode cX6_unlocked 17 = .ok (.iload_n 2, 1) := by decide +kernel
theorem dX6_unlocked_18 : decode cX6_unlocked 18 = .ok (.iaload, 1) := by decide +kernel
theorem dX6_unlocked_19 : decode cX6_unlocked 19 = .ok (.ifCond .lt 16, 3) := by decide +kernel
theorem dX6_unlocked_22 : decode cX6_unlocked 22 = .ok (.aload_n 0, 1) := by decide +kernel
theorem dX6_unlocked_23 : decode cX6_unlocked 23 = .ok (.getfield 29, 3) := by decide +kernel
theorem dX6_unlocked_26 : decode cX6_unlocked 26 = .ok (.iload_n 2, 1) := by decide +kernel
theorem dX6_unlocked_27 : decode cX6_unlocked 27 = .ok (.iaload, 1) := by decide +kernel
theorem dX6_unlocked_28 : decode cX6_unlocked 28 = .ok (.ifCond .lt 7, 3) := by decide +kernel
theorem dX6_unlocked_31 : decode cX6_unlocked 31 = .ok (.iconst 1, 1) := by decide +kernel
theorem dX6_unlocked_32 : decode cX6_unlocked 32 = .ok (.goto 4, 3) := by decide +kernel
theorem dX6_unlocked_35 : decode cX6_unlocked 35 = .ok (.iconst 0, 1) := by decide +kernel
theorem dX6_unlocked_36 : decode cX6_unlocked 36 = .ok (.iadd, 1) := by decide +kernel
theorem dX6_unlocked_37 : decode cX6_unlocked 37 = .ok (.istore_n 1, 1) := by decide +kernel
theorem dX6_unlocked_38 : decode cX6_unlocked 38 = .ok (.iinc 2 1, 3) := by decide +kernel
theorem dX6_unlocked_41 : decode cX6_unlocked 41 = .ok (.goto (-37), 3) := by decide +kernel
theorem dX6_unlocked_44 : decode cX6_unlocked 44 = .ok (.iload_n 1, 1) := by decide +kernel
theorem dX6_unlocked_45 : decode cX6_unlocked 45 = .ok (.ireturn, 1) := by decide +kernel
theorem dX6_latest_0 : decode cX6_latest 0 = .ok (.bipush (-6), 2) := by decide +kernel
theorem dX6_latest_2 : decode cX6_latest 2 = .ok (.istore_n 1, 1) := by decide +kernel
theorem dX6_latest_3 : decode cX6_latest 3 = .ok (.iconst 0, 1) := by decide +kernel
theorem dX6_latest_4 : decode cX6_latest 4 = .ok (.istore_n 2, 1) := by decide +kernel
theorem dX6_latest_5 : decode cX6_latest 5 = .ok (.iload_n 2, 1) := by decide +kernel
theorem dX6_latest_6 : decode cX6_latest 6 = .ok (.aload_n 0, 1) := by decide +kernel
theorem dX6_latest_7 : decode cX6_latest 7 = .ok (.getfield 100, 3) := by decide +kernel
theorem dX6_latest_10 : decode cX6_latest 10 = .ok (.if_icmp .ge 40, 3) := by decide +kernel
theorem dX6_latest_13 : decode cX6_latest 13 = .ok (.aload_n 0, 1) := by decide +kernel
theorem dX6_latest_14 : decode cX6_latest 14 = .ok (.getfield 56, 3) := by decide +kernel
theorem dX6_latest_17 : decode cX6_latest 17 = .ok (.iload_n 2, 1) := by decide +kernel
theorem dX6_latest_18 : decode cX6_latest 18 = .ok (.iaload, 1) := by decide +kernel
theorem dX6_latest_19 : decode cX6_latest 19 = .ok (.iconst 1, 1) := by decide +kernel
theorem dX6_latest_20 : decode cX6_latest 20 = .ok (.if_icmp .ne 22, 3) := by decide +kernel
theorem dX6_latest_23 : decode cX6_latest 23 = .ok (.aload_n 0, 1) := by decide +kernel
theorem dX6_latest_24 : decode cX6_latest 24 = .ok (.getfield 50, 3) := by decide +kernel
theorem dX6_latest_27 : decode cX6_latest 27 = .ok (.iload_n 2, 1) := by decide +kernel
theorem dX6_latest_28 : decode cX6_latest 28 = .ok (.iaload, 1) := by decide +kernel
theorem dX6_latest_29 : decode cX6_latest 29 = .ok (.iload_n 1, 1) := by decide +kernel
theorem dX6_latest_30 : decode cX6_latest 30 = .ok (.if_icmp .le 12, 3) := by decide +kernel
theorem dX6_latest_33 : decode cX6_latest 33 = .ok (.aload_n 0, 1) := by decide +kernel
theorem dX6_latest_34 : decode cX6_latest 34 = .ok (.getfield 50, 3) := by decide +kernel
theorem dX6_latest_37 : decode cX6_latest 37 = .ok (.iload_n 2, 1) := by decide +kernel
theorem dX6_latest_38 : decode cX6_latest 38 = .ok (.iaload, 1) := by decide +kernel
theorem dX6_latest_39 : decode cX6_latest 39 = .ok (.goto 4, 3) := by decide +kernel
theorem dX6_latest_42 : decode cX6_latest 42 = .ok (.iload_n 1, 1) := by decide +kernel
theorem dX6_latest_43 : decode cX6_latest 43 = .ok (.istore_n 1, 1) := by decide +kernel
theorem dX6_latest_44 : decode cX6_latest 44 = .ok (.iinc 2 1, 3) := by decide +kernel
theorem dX6_latest_47 : decode cX6_latest 47 = .ok (.goto (-42), 3) := by decide +kernel
theorem dX6_latest_50 : decode cX6_latest 50 = .ok (.iload_n 1, 1) := by decide +kernel
theorem dX6_latest_51 : decode cX6_latest 51 = .ok (.ireturn, 1) := by decide +kernel
theorem dX6_hints_0 : decode cX6_hints 0 = .ok (.iconst 0, 1) := by decide +kernel
theorem dX6_hints_1 : decode cX6_hints 1 = .ok (.istore_n 1, 1) := by decide +kernel
theorem dX6_hints_2 : decode cX6_hints 2 = .ok (.iconst 0, 1) := by decide +kernel
theorem dX6_hints_3 : decode cX6_hints 3 = .ok (.istore_n 2, 1) := by decide +kernel
theorem dX6_hints_4 : decode cX6_hints 4 = .ok (.iload_n 2, 1) := by decide +kernel
theorem dX6_hints_5 : decode cX6_hints 5 = .ok (.aload_n 0, 1) := by decide +kernel
theorem dX6_hints_6 : decode cX6_hints 6 = .ok (.getfield 100, 3) := by decide +kernel
theorem dX6_hints_9 : decode cX6_hints 9 = .ok (.if_icmp .ge 32, 3) := by decide +kernel
theorem dX6_hints_12 : decode cX6_hints 12 = .ok (.iload_n 1, 1) := by decide +kernel
theorem dX6_hints_13 : decode cX6_hints 13 = .ok (.aload_n 0, 1) := by decide +kernel
theorem dX6_hints_14 : decode cX6_hints 14 = .ok (.getfield 56, 3) := by decide +kernel
theorem dX6_hints_17 : decode cX6_hints 17 = .ok (.iload_n 2, 1) := by decide +kernel
theorem dX6_hints_18 : decode cX6_hints 18 = .ok (.iaload, 1) := by decide +kernel
theorem dX6_hints_19 : decode cX6_hints 19 = .ok (.iconst 2, 1) := by decide +kernel
theorem dX6_hints_20 : decode cX6_hints 20 = .ok (.if_icmp .ne 7, 3) := by decide +kernel
theorem dX6_hints_23 : decode cX6_hints 23 = .ok (.iconst 0, 1) := by decide +kernel
theorem dX6_hints_24 : decode cX6_hints 24 = .ok (.goto 9, 3) := by decide +kernel
theorem dX6_hints_27 : decode cX6_hints 27 = .ok (.aload_n 0, 1) := by decide +kernel
theorem dX6_hints_28 : decode cX6_hints 28 = .ok (.getfield 53, 3) := by decide +kernel
theorem dX6_hints_31 : decode cX6_hints 31 = .ok (.iload_n 2, 1) := by decide +kernel
theorem dX6_hints_32 : decode cX6_hints 32 = .ok (.iaload, 1) := by decide +kernel
theorem dX6_hints_33 : decode cX6_hints 33 = .ok (.iadd, 1) := by decide +kernel
theorem dX6_hints_34 : decode cX6_hints 34 = .ok (.istore_n 1, 1) := by decide +kernel
theorem dX6_hints_35 : decode cX6_hints 35 = .ok (.iinc 2 1, 3) := by decide +kernel
theorem dX6_hints_38 : decode cX6_hints 38 = .ok (.goto (-34), 3) := by decide +kernel
theorem dX6_hints_41 : decode cX6_hints 41 = .ok (.iload_n 1, 1) := by decide +kernel
theorem dX6_hints_42 : decode cX6_hints 42 = .ok (.ireturn, 1) := by decide +kernel
theorem dX6_deadEnds_0 : decode cX6_deadEnds 0 = .ok (.iconst 0, 1) := by decide +kernel
theorem dX6_deadEnds_1 : decode cX6_deadEnds 1 = .ok (.istore_n 1, 1) := by decide +kernel
theorem dX6_deadEnds_2 : decode cX6_deadEnds 2 = .ok (.iconst 0, 1) := by decide +kernel
theorem dX6_deadEnds_3 : decode cX6_deadEnds 3 = .ok (.istore_n 2, 1) := by decide +kernel
theorem dX6_deadEnds_4 : decode cX6_deadEnds 4 = .ok (.iload_n 2, 1) := by decide +kernel
theorem dX6_deadEnds_5 : decode cX6_deadEnds 5 = .ok (.aload_n 0, 1) := by decide +kernel
theorem dX6_deadEnds_6 : decode cX6_deadEnds 6 = .ok (.getfield 100, 3) := by decide +kernel
theorem dX6_deadEnds_9 : decode cX6_deadEnds 9 = .ok (.if_icmp .ge 37, 3) := by decide +kernel
theorem dX6_deadEnds_12 : decode cX6_deadEnds 12 = .ok (.aload_n 0, 1) := by decide +kernel
theorem dX6_deadEnds_13 : decode cX6_deadEnds 13 = .ok (.iload_n 2, 1) := by decide +kernel
theorem dX6_deadEnds_14 : decode cX6_deadEnds 14 = .ok (.invokevirtual 128, 3) := by decide +kernel
theorem dX6_deadEnds_17 : decode cX6_deadEnds 17 = .ok (.ifCond .eq 23, 3) := by decide +kernel
theorem dX6_deadEnds_20 : decode cX6_deadEnds 20 = .ok (.aload_n 0, 1) := by decide +kernel
theorem dX6_deadEnds_21 : decode cX6_deadEnds 21 = .ok (.iload_n 2, 1) := by decide +kernel
theorem dX6_deadEnds_22 : decode cX6_deadEnds 22 = .ok (.invokevirtual 184, 3) := by decide +kernel
theorem dX6_deadEnds_25 : decode cX6_deadEnds 25 = .ok (.iload_n 1, 1) := by decide +kernel
theorem dX6_deadEnds_26 : decode cX6_deadEnds 26 = .ok (.aload_n 0, 1) := by decide +kernel
theorem dX6_deadEnds_27 : decode cX6_deadEnds 27 = .ok (.getfield 162, 3) := by decide +kernel
theorem dX6_deadEnds_30 : decode cX6_deadEnds 30 = .ok (.ifCond .ge 7, 3) := by decide +kernel
theorem dX6_deadEnds_33 : decode cX6_deadEnds 33 = .ok (.iconst 1, 1) := by decide +kernel
theorem dX6_deadEnds_34 : decode cX6_deadEnds 34 = .ok (.goto 4, 3) := by decide +kernel
theorem dX6_deadEnds_37 : decode cX6_deadEnds 37 = .ok (.iconst 0, 1) := by decide +kernel
theorem dX6_deadEnds_38 : decode cX6_deadEnds 38 = .ok (.iadd, 1) := by decide +kernel
theorem dX6_deadEnds_39 : decode cX6_deadEnds 39 = .ok (.istore_n 1, 1) := by decide +kernel
theorem dX6_deadEnds_40 : decode cX6_deadEnds 40 = .ok (.iinc 2 1, 3) := by decide +kernel
theorem dX6_deadEnds_43 : decode cX6_deadEnds 43 = .ok (.goto (-39), 3) := by decide +kernel
theorem dX6_deadEnds_46 : decode cX6_deadEnds 46 = .ok (.iload_n 1, 1) := by decide +kernel
theorem dX6_deadEnds_47 : decode cX6_deadEnds 47 = .ok (.ireturn, 1) := by decide +kernel
theorem dX6_count_0 : decode cX6_count 0 = .ok (.iload_n 1, 1) := by decide +kernel
theorem dX6_count_1 : decode cX6_count 1 = .ok (.tableswitch 116 0 10 #[59, 64, 69, 74, 79, 84, 89, 95, 101, 106, 111], 59) := by decide +kernel
theorem dX6_count_60 : decode cX6_count 60 = .ok (.aload_n 0, 1) := by decide +kernel
theorem dX6_count_61 : decode cX6_count 61 = .ok (.getfield 87, 3) := by decide +kernel
theorem dX6_count_64 : decode cX6_count 64 = .ok (.ireturn, 1) := by decide +kernel
theorem dX6_count_65 : decode cX6_count 65 = .ok (.aload_n 0, 1) := by decide +kernel
theorem dX6_count_66 : decode cX6_count 66 = .ok (.getfield 94, 3) := by decide +kernel
theorem dX6_count_69 : decode cX6_count 69 = .ok (.ireturn, 1) := by decide +kernel
theorem dX6_count_70 : decode cX6_count 70 = .ok (.aload_n 0, 1) := by decide +kernel
theorem dX6_count_71 : decode cX6_count 71 = .ok (.getfield 97, 3) := by decide +kernel
theorem dX6_count_74 : decode cX6_count 74 = .ok (.ireturn, 1) := by decide +kernel
theorem dX6_count_75 : decode cX6_count 75 = .ok (.aload_n 0, 1) := by decide +kernel
theorem dX6_count_76 : decode cX6_count 76 = .ok (.getfield 100, 3) := by decide +kernel
theorem dX6_count_79 : decode cX6_count 79 = .ok (.ireturn, 1) := by decide +kernel
theorem dX6_count_80 : decode cX6_count 80 = .ok (.aload_n 0, 1) := by decide +kernel
theorem dX6_count_81 : decode cX6_count 81 = .ok (.getfield 9, 3) := by decide +kernel
theorem dX6_count_84 : decode cX6_count 84 = .ok (.ireturn, 1) := by decide +kernel
theorem dX6_count_85 : decode cX6_count 85 = .ok (.aload_n 0, 1) := by decide +kernel
theorem dX6_count_86 : decode cX6_count 86 = .ok (.invokevirtual 192, 3) := by decide +kernel
theorem dX6_count_89 : decode cX6_count 89 = .ok (.ireturn, 1) := by decide +kernel
theorem dX6_count_90 : decode cX6_count 90 = .ok (.aload_n 0, 1) := by decide +kernel
theorem dX6_count_91 : decode cX6_count 91 = .ok (.iconst 1, 1) := by decide +kernel
theorem dX6_count_92 : decode cX6_count 92 = .ok (.invokevirtual 195, 3) := by decide +kernel
theorem dX6_count_95 : decode cX6_count 95 = .ok (.ireturn, 1) := by decide +kernel
theorem dX6_count_96 : decode cX6_count 96 = .ok (.aload_n 0, 1) := by decide +kernel
theorem dX6_count_97 : decode cX6_count 97 = .ok (.iconst 0, 1) := by decide +kernel
theorem dX6_count_98 : decode cX6_count 98 = .ok (.invokevirtual 195, 3) := by decide +kernel
theorem dX6_count_101 : decode cX6_count 101 = .ok (.ireturn, 1) := by decide +kernel
theorem dX6_count_102 : decode cX6_count 102 = .ok (.aload_n 0, 1) := by decide +kernel
theorem dX6_count_103 : decode cX6_count 103 = .ok (.invokevirtual 198, 3) := by decide +kernel
theorem dX6_count_106 : decode cX6_count 106 = .ok (.ireturn, 1) := by decide +kernel
theorem dX6_count_107 : decode cX6_count 107 = .ok (.aload_n 0, 1) := by decide +kernel
theorem dX6_count_108 : decode cX6_count 108 = .ok (.invokevirtual 201, 3) := by decide +kernel
theorem dX6_count_111 : decode cX6_count 111 = .ok (.ireturn, 1) := by decide +kernel
theorem dX6_count_112 : decode cX6_count 112 = .ok (.aload_n 0, 1) := by decide +kernel
theorem dX6_count_113 : decode cX6_count 113 = .ok (.invokevirtual 204, 3) := by decide +kernel
theorem dX6_count_116 : decode cX6_count 116 = .ok (.ireturn, 1) := by decide +kernel
theorem dX6_count_117 : decode cX6_count 117 = .ok (.bipush (-2), 2) := by decide +kernel
theorem dX6_count_119 : decode cX6_count 119 = .ok (.ireturn, 1) := by decide +kernel
end
section
theorem dL_law_0 : decode cL_law 0 = .ok (.new 7, 3) := by decide +kernel
theorem dL_law_3 : decode cL_law 3 = .ok (.dup, 1) := by decide +kernel
theorem dL_law_4 : decode cL_law 4 = .ok (.invokespecial 9, 3) := by decide +kernel
theorem dL_law_7 : decode cL_law 7 = .ok (.astore_n 1, 1) := by decide +kernel
theorem dL_law_8 : decode cL_law 8 = .ok (.new 10, 3) := by decide +kernel
theorem dL_law_11 : decode cL_law 11 = .ok (.dup, 1) := by decide +kernel
theorem dL_law_12 : decode cL_law 12 = .ok (.invokespecial 12, 3) := by decide +kernel
theorem dL_law_15 : decode cL_law 15 = .ok (.astore_n 2, 1) := by decide +kernel
theorem dL_law_16 : decode cL_law 16 = .ok (.iconst 0, 1) := by decide +kernel
theorem dL_law_17 : decode cL_law 17 = .ok (.istore_n 3, 1) := by decide +kernel
theorem dL_law_18 : decode cL_law 18 = .ok (.iload_n 3, 1) := by decide +kernel
theorem dL_law_19 : decode cL_law 19 = .ok (.aload_n 0, 1) := by decide +kernel
theorem dL_law_20 : decode cL_law 20 = .ok (.arraylength, 1) := by decide +kernel
theorem dL_law_21 : decode cL_law 21 = .ok (.bipush 6, 2) := by decide +kernel
theorem dL_law_23 : decode cL_law 23 = .ok (.isub, 1) := by decide +kernel
theorem dL_law_24 : decode cL_law 24 = .ok (.if_icmp .gt 925, 3) := by decide +kernel
theorem dL_law_27 : decode cL_law 27 = .ok (.aload_n 0, 1) := by decide +kernel
theorem dL_law_28 : decode cL_law 28 = .ok (.iload_n 3, 1) := by decide +kernel
theorem dL_law_29 : decode cL_law 29 = .ok (.iaload, 1) := by decide +kernel
theorem dL_law_30 : decode cL_law 30 = .ok (.bipush 31, 2) := by decide +kernel
theorem dL_law_32 : decode cL_law 32 = .ok (.iand, 1) := by decide +kernel
theorem dL_law_33 : decode cL_law 33 = .ok (.tableswitch 910 0 24 #[115, 128, 151, 194, 257, 290, 323, 356, 389, 422, 455, 488, 521, 554, 587, 610, 633, 666, 699, 732, 755, 788, 821, 854, 887], 115) := by decide +kernel
theorem dL_law_148 : decode cL_law 148 = .ok (.aload_n 1, 1) := by decide +kernel
theorem dL_law_149 : decode cL_law 149 = .ok (.invokevirtual 13, 3) := by decide +kernel
theorem dL_law_152 : decode cL_law 152 = .ok (.aload_n 2, 1) := by decide +kernel
theorem dL_law_153 : decode cL_law 153 = .ok (.invokevirtual 17, 3) := by decide +kernel
theorem dL_law_156 : decode cL_law 156 = .ok (.if_icmp .eq 787, 3) := by decide +kernel
theorem dL_law_159 : decode cL_law 159 = .ok (.iconst 0, 1) := by decide +kernel
theorem dL_law_160 : decode cL_law 160 = .ok (.ireturn, 1) := by decide +kernel
theorem dL_law_161 : decode cL_law 161 = .ok (.aload_n 1, 1) := by decide +kernel
theorem dL_law_162 : decode cL_law 162 = .ok (.aload_n 0, 1) := by decide +kernel
theorem dL_law_163 : decode cL_law 163 = .ok (.iload_n 3, 1) := by decide +kernel
theorem dL_law_164 : decode cL_law 164 = .ok (.iconst 1, 1) := by decide +kernel
theorem dL_law_165 : decode cL_law 165 = .ok (.iadd, 1) := by decide +kernel
theorem dL_law_166 : decode cL_law 166 = .ok (.iaload, 1) := by decide +kernel
theorem dL_law_167 : decode cL_law 167 = .ok (.invokevirtual 18, 3) := by decide +kernel
theorem dL_law_170 : decode cL_law 170 = .ok (.aload_n 2, 1) := by decide +kernel
theorem dL_law_171 : decode cL_law 171 = .ok (.aload_n 0, 1) := by decide +kernel
theorem dL_law_172 : decode cL_law 172 = .ok (.iload_n 3, 1) := by decide +kernel
theorem dL_law_173 : decode cL_law 173 = .ok (.iconst 1, 1) := by decide +kernel
theorem dL_law_174 : decode cL_law 174 = .ok (.iadd, 1) := by decide +kernel
theorem dL_law_175 : decode cL_law 175 = .ok (.iaload, 1) := by decide +kernel
theorem dL_law_176 : decode cL_law 176 = .ok (.invokevirtual 22, 3) := by decide +kernel
theorem dL_law_179 : decode cL_law 179 = .ok (.if_icmp .eq 764, 3) := by decide +kernel
theorem dL_law_182 : decode cL_law 182 = .ok (.iconst 0, 1) := by decide +kernel
theorem dL_law_183 : decode cL_law 183 = .ok (.ireturn, 1) := by decide +kernel
theorem dL_law_184 : decode cL_law 184 = .ok (.aload_n 1, 1) := by decide +kernel
theorem dL_law_185 : decode cL_law 185 = .ok (.aload_n 0, 1) := by decide +kernel
theorem dL_law_186 : decode cL_law 186 = .ok (.iload_n 3, 1) := by decide +kernel
theorem dL_law_187 : decode cL_law 187 = .ok (.iconst 1, 1) := by decide +kernel
theorem dL_law_188 : decode cL_law 188 = .ok (.iadd, 1) := by decide +kernel
theorem dL_law_189 : decode cL_law 189 = .ok (.iaload, 1) := by decide +kernel
theorem dL_law_190 : decode cL_law 190 = .ok (.aload_n 0, 1) := by decide +kernel
theorem dL_law_191 : decode cL_law 191 = .ok (.iload_n 3, 1) := by decide +kernel
theorem dL_law_192 : decode cL_law 192 = .ok (.iconst 2, 1) := by decide +kernel
theorem dL_law_193 : decode cL_law 193 = .ok (.iadd, 1) := by decide +kernel
theorem dL_law_194 : decode cL_law 194 = .ok (.iaload, 1) := by decide +kernel
theorem dL_law_195 : decode cL_law 195 = .ok (.aload_n 0, 1) := by decide +kernel
theorem dL_law_196 : decode cL_law 196 = .ok (.iload_n 3, 1) := by decide +kernel
theorem dL_law_197 : decode cL_law 197 = .ok (.iconst 3, 1) := by decide +kernel
theorem dL_law_198 : decode cL_law 198 = .ok (.iadd, 1) := by decide +kernel
theorem dL_law_199 : decode cL_law 199 = .ok (.iaload, 1) := by decide +kernel
theorem dL_law_200 : decode cL_law 200 = .ok (.invokevirtual 23, 3) := by decide +kernel
theorem dL_law_203 : decode cL_law 203 = .ok (.aload_n 2, 1) := by decide +kernel
theorem dL_law_204 : decode cL_law 204 = .ok (.aload_n 0, 1) := by decide +kernel
theorem dL_law_205 : decode cL_law 205 = .ok (.iload_n 3, 1) := by decide +kernel
theorem dL_law_206 : decode cL_law 206 = .ok (.iconst 1, 1) := by decide +kernel
theorem dL_law_207 : decode cL_law 207 = .ok (.iadd, 1) := by decide +kernel
theorem dL_law_208 : decode cL_law 208 = .ok (.iaload, 1) := by decide +kernel
theorem dL_law_209 : decode cL_law 209 = .ok (.aload_n 0, 1) := by decide +kernel
theorem dL_law_210 : decode cL_law 210 = .ok (.iload_n 3, 1) := by decide +kernel
theorem dL_law_211 : decode cL_law 211 = .ok (.iconst 2, 1) := by decide +kernel
theorem dL_law_212 : decode cL_law 212 = .ok (.iadd, 1) := by decide +kernel
theorem dL_law_213 : decode cL_law 213 = .ok (.iaload, 1) := by decide +kernel
theorem dL_law_214 : decode cL_law 214 = .ok (.aload_n 0, 1) := by decide +kernel
theorem dL_law_215 : decode cL_law 215 = .ok (.iload_n 3, 1) := by decide +kernel
theorem dL_law_216 : decode cL_law 216 = .ok (.iconst 3, 1) := by decide +kernel
theorem dL_law_217 : decode cL_law 217 = .ok (.iadd, 1) := by decide +kernel
theorem dL_law_218 : decode cL_law 218 = .ok (.iaload, 1) := by decide +kernel
theorem dL_law_219 : decode cL_law 219 = .ok (.invokevirtual 27, 3) := by decide +kernel
theorem dL_law_222 : decode cL_law 222 = .ok (.if_icmp .eq 721, 3) := by decide +kernel
theorem dL_law_225 : decode cL_law 225 = .ok (.iconst 0, 1) := by decide +kernel
theorem dL_law_226 : decode cL_law 226 = .ok (.ireturn, 1) := by decide +kernel
theorem dL_law_227 : decode cL_law 227 = .ok (.aload_n 1, 1) := by decide +kernel
theorem dL_law_228 : decode cL_law 228 = .ok (.aload_n 0, 1) := by decide +kernel
theorem dL_law_229 : decode cL_law 229 = .ok (.iload_n 3, 1) := by decide +kernel
theorem dL_law_230 : decode cL_law 230 = .ok (.iconst 1, 1) := by decide +kernel
theorem dL_law_231 : decode cL_law 231 = .ok (.iadd, 1) := by decide +kernel
theorem dL_law_232 : decode cL_law 232 = .ok (.iaload, 1) := by decide +kernel
theorem dL_law_233 : decode cL_law 233 = .ok (.aload_n 0, 1) := by decide +kernel
theorem dL_law_234 : decode cL_law 234 = .ok (.iload_n 3, 1) := by decide +kernel
theorem dL_law_235 : decode cL_law 235 = .ok (.iconst 2, 1) := by decide +kernel
theorem dL_law_236 : decode cL_law 236 = .ok (.iadd, 1) := by decide +kernel
theorem dL_law_237 : decode cL_law 237 = .ok (.iaload, 1) := by decide +kernel
theorem dL_law_238 : decode cL_law 238 = .ok (.aload_n 0, 1) := by decide +kernel
theorem dL_law_239 : decode cL_law 239 = .ok (.iload_n 3, 1) := by decide +kernel
theorem dL_law_240 : decode cL_law 240 = .ok (.iconst 3, 1) := by decide +kernel
theorem dL_law_241 : decode cL_law 241 = .ok (.iadd, 1) := by decide +kernel
theorem dL_law_242 : decode cL_law 242 = .ok (.iaload, 1) := by decide +kernel
theorem dL_law_243 : decode cL_law 243 = .ok (.aload_n 0, 1) := by decide +kernel
theorem dL_law_244 : decode cL_law 244 = .ok (.iload_n 3, 1) := by decide +kernel
theorem dL_law_245 : decode cL_law 245 = .ok (.iconst 4, 1) := by decide +kernel
theorem dL_law_246 : decode cL_law 246 = .ok (.iadd, 1) := by decide +kernel
theorem dL_law_247 : decode cL_law 247 = .ok (.iaload, 1) := by decide +kernel
theorem dL_law_248 : decode cL_law 248 = .ok (.aload_n 0, 1) := by decide +kernel
theorem dL_law_249 : decode cL_law 249 = .ok (.iload_n 3, 1) := by decide +kernel
theorem dL_law_250 : decode cL_law 250 = .ok (.iconst 5, 1) := by decide +kernel
theorem dL_law_251 : decode cL_law 251 = .ok (.iadd, 1) := by decide +kernel
theorem dL_law_252 : decode cL_law 252 = .ok (.iaload, 1) := by decide +kernel
theorem dL_law_253 : decode cL_law 253 = .ok (.invokevirtual 28, 3) := by decide +kernel
theorem dL_law_256 : decode cL_law 256 = .ok (.aload_n 2, 1) := by decide +kernel
theorem dL_law_257 : decode cL_law 257 = .ok (.aload_n 0, 1) := by decide +kernel
theorem dL_law_258 : decode cL_law 258 = .ok (.iload_n 3, 1) := by decide +kernel
theorem dL_law_259 : decode cL_law 259 = .ok (.iconst 1, 1) := by decide +kernel
theorem dL_law_260 : decode cL_law 260 = .ok (.iadd, 1) := by decide +kernel
theorem dL_law_261 : decode cL_law 261 = .ok (.iaload, 1) := by decide +kernel
theorem dL_law_262 : decode cL_law 262 = .ok (.aload_n 0, 1) := by decide +kernel
theorem dL_law_263 : decode cL_law 263 = .ok (.iload_n 3, 1) := by decide +kernel
theorem dL_law_264 : decode cL_law 264 = .ok (.iconst 2, 1) := by decide +kernel
theorem dL_law_265 : decode cL_law 265 = .ok (.iadd, 1) := by decide +kernel
theorem dL_law_266 : decode cL_law 266 = .ok (.iaload, 1) := by decide +kernel
theorem dL_law_267 : decode cL_law 267 = .ok (.aload_n 0, 1) := by decide +kernel
theorem dL_law_268 : decode cL_law 268 = .ok (.iload_n 3, 1) := by decide +kernel
theorem dL_law_269 : decode cL_law 269 = .ok (.iconst 3, 1) := by decide +kernel
theorem dL_law_270 : decode cL_law 270 = .ok (.iadd, 1) := by decide +kernel
theorem dL_law_271 : decode cL_law 271 = .ok (.iaload, 1) := by decide +kernel
theorem dL_law_272 : decode cL_law 272 = .ok (.aload_n 0, 1) := by decide +kernel
theorem dL_law_273 : decode cL_law 273 = .ok (.iload_n 3, 1) := by decide +kernel
theorem dL_law_274 : decode cL_law 274 = .ok (.iconst 4, 1) := by decide +kernel
theorem dL_law_275 : decode cL_law 275 = .ok (.iadd, 1) := by decide +kernel
theorem dL_law_276 : decode cL_law 276 = .ok (.iaload, 1) := by decide +kernel
theorem dL_law_277 : decode cL_law 277 = .ok (.aload_n 0, 1) := by decide +kernel
theorem dL_law_278 : decode cL_law 278 = .ok (.iload_n 3, 1) := by decide +kernel
theorem dL_law_279 : decode cL_law 279 = .ok (.iconst 5, 1) := by decide +kernel
theorem dL_law_280 : decode cL_law 280 = .ok (.iadd, 1) := by decide +kernel
theorem dL_law_281 : decode cL_law 281 = .ok (.iaload, 1) := by decide +kernel
theorem dL_law_282 : decode cL_law 282 = .ok (.invokevirtual 32, 3) := by decide +kernel
theorem dL_law_285 : decode cL_law 285 = .ok (.if_icmp .eq 658, 3) := by decide +kernel
theorem dL_law_288 : decode cL_law 288 = .ok (.iconst 0, 1) := by decide +kernel
theorem dL_law_289 : decode cL_law 289 = .ok (.ireturn, 1) := by decide +kernel
theorem dL_law_290 : decode cL_law 290 = .ok (.aload_n 1, 1) := by decide +kernel
theorem dL_law_291 : decode cL_law 291 = .ok (.aload_n 0, 1) := by decide +kernel
theorem dL_law_292 : decode cL_law 292 = .ok (.iload_n 3, 1) := by decide +kernel
theorem dL_law_293 : decode cL_law 293 = .ok (.iconst 1, 1) := by decide +kernel
theorem dL_law_294 : decode cL_law 294 = .ok (.iadd, 1) := by decide +kernel
theorem dL_law_295 : decode cL_law 295 = .ok (.iaload, 1) := by decide +kernel
theorem dL_law_296 : decode cL_law 296 = .ok (.aload_n 0, 1) := by decide +kernel
theorem dL_law_297 : decode cL_law 297 = .ok (.iload_n 3, 1) := by decide +kernel
theorem dL_law_298 : decode cL_law 298 = .ok (.iconst 2, 1) := by decide +kernel
theorem dL_law_299 : decode cL_law 299 = .ok (.iadd, 1) := by decide +kernel
theorem dL_law_300 : decode cL_law 300 = .ok (.iaload, 1) := by decide +kernel
theorem dL_law_301 : decode cL_law 301 = .ok (.invokevirtual 33, 3) := by decide +kernel
theorem dL_law_304 : decode cL_law 304 = .ok (.aload_n 2, 1) := by decide +kernel
theorem dL_law_305 : decode cL_law 305 = .ok (.aload_n 0, 1) := by decide +kernel
theorem dL_law_306 : decode cL_law 306 = .ok (.iload_n 3, 1) := by decide +kernel
theorem dL_law_307 : decode cL_law 307 = .ok (.iconst 1, 1) := by decide +kernel
theorem dL_law_308 : decode cL_law 308 = .ok (.iadd, 1) := by decide +kernel
theorem dL_law_309 : decode cL_law 309 = .ok (.iaload, 1) := by decide +kernel
theorem dL_law_310 : decode cL_law 310 = .ok (.aload_n 0, 1) := by decide +kernel
theorem dL_law_311 : decode cL_law 311 = .ok (.iload_n 3, 1) := by decide +kernel
theorem dL_law_312 : decode cL_law 312 = .ok (.iconst 2, 1) := by decide +kernel
theorem dL_law_313 : decode cL_law 313 = .ok (.iadd, 1) := by decide +kernel
theorem dL_law_314 : decode cL_law 314 = .ok (.iaload, 1) := by decide +kernel
theorem dL_law_315 : decode cL_law 315 = .ok (.invokevirtual 37, 3) := by decide +kernel
theorem dL_law_318 : decode cL_law 318 = .ok (.if_icmp .eq 625, 3) := by decide +kernel
theorem dL_law_321 : decode cL_law 321 = .ok (.iconst 0, 1) := by decide +kernel
theorem dL_law_322 : decode cL_law 322 = .ok (.ireturn, 1) := by decide +kernel
theorem dL_law_323 : decode cL_law 323 = .ok (.aload_n 1, 1) := by decide +kernel
theorem dL_law_324 : decode cL_law 324 = .ok (.aload_n 0, 1) := by decide +kernel
theorem dL_law_325 : decode cL_law 325 = .ok (.iload_n 3, 1) := by decide +kernel
theorem dL_law_326 : decode cL_law 326 = .ok (.iconst 1, 1) := by decide +kernel
theorem dL_law_327 : decode cL_law 327 = .ok (.iadd, 1) := by decide +kernel
theorem dL_law_328 : decode cL_law 328 = .ok (.iaload, 1) := by decide +kernel
theorem dL_law_329 : decode cL_law 329 = .ok (.aload_n 0, 1) := by decide +kernel
theorem dL_law_330 : decode cL_law 330 = .ok (.iload_n 3, 1) := by decide +kernel
theorem dL_law_331 : decode cL_law 331 = .ok (.iconst 2, 1) := by decide +kernel
theorem dL_law_332 : decode cL_law 332 = .ok (.iadd, 1) := by decide +kernel
theorem dL_law_333 : decode cL_law 333 = .ok (.iaload, 1) := by decide +kernel
theorem dL_law_334 : decode cL_law 334 = .ok (.invokevirtual 38, 3) := by decide +kernel
theorem dL_law_337 : decode cL_law 337 = .ok (.aload_n 2, 1) := by decide +kernel
theorem dL_law_338 : decode cL_law 338 = .ok (.aload_n 0, 1) := by decide +kernel
theorem dL_law_339 : decode cL_law 339 = .ok (.iload_n 3, 1) := by decide +kernel
theorem dL_law_340 : decode cL_law 340 = .ok (.iconst 1, 1) := by decide +kernel
theorem dL_law_341 : decode cL_law 341 = .ok (.iadd, 1) := by decide +kernel
theorem dL_law_342 : decode cL_law 342 = .ok (.iaload, 1) := by decide +kernel
theorem dL_law_343 : decode cL_law 343 = .ok (.aload_n 0, 1) := by decide +kernel
theorem dL_law_344 : decode cL_law 344 = .ok (.iload_n 3, 1) := by decide +kernel
theorem dL_law_345 : decode cL_law 345 = .ok (.iconst 2, 1) := by decide +kernel
theorem dL_law_346 : decode cL_law 346 = .ok (.iadd, 1) := by decide +kernel
theorem dL_law_347 : decode cL_law 347 = .ok (.iaload, 1) := by decide +kernel
theorem dL_law_348 : decode cL_law 348 = .ok (.invokevirtual 41, 3) := by decide +kernel
theorem dL_law_351 : decode cL_law 351 = .ok (.if_icmp .eq 592, 3) := by decide +kernel
theorem dL_law_354 : decode cL_law 354 = .ok (.iconst 0, 1) := by decide +kernel
theorem dL_law_355 : decode cL_law 355 = .ok (.ireturn, 1) := by decide +kernel
theorem dL_law_356 : decode cL_law 356 = .ok (.aload_n 1, 1) := by decide +kernel
theorem dL_law_357 : decode cL_law 357 = .ok (.aload_n 0, 1) := by decide +kernel
theorem dL_law_358 : decode cL_law 358 = .ok (.iload_n 3, 1) := by decide +kernel
theorem dL_law_359 : decode cL_law 359 = .ok (.iconst 1, 1) := by decide +kernel
theorem dL_law_360 : decode cL_law 360 = .ok (.iadd, 1) := by decide +kernel
theorem dL_law_361 : decode cL_law 361 = .ok (.iaload, 1) := by decide +kernel
theorem dL_law_362 : decode cL_law 362 = .ok (.aload_n 0, 1) := by decide +kernel
theorem dL_law_363 : decode cL_law 363 = .ok (.iload_n 3, 1) := by decide +kernel
theorem dL_law_364 : decode cL_law 364 = .ok (.iconst 2, 1) := by decide +kernel
theorem dL_law_365 : decode cL_law 365 = .ok (.iadd, 1) := by decide +kernel
theorem dL_law_366 : decode cL_law 366 = .ok (.iaload, 1) := by decide +kernel
theorem dL_law_367 : decode cL_law 367 = .ok (.invokevirtual 42, 3) := by decide +kernel
theorem dL_law_370 : decode cL_law 370 = .ok (.aload_n 2, 1) := by decide +kernel
theorem dL_law_371 : decode cL_law 371 = .ok (.aload_n 0, 1) := by decide +kernel
theorem dL_law_372 : decode cL_law 372 = .ok (.iload_n 3, 1) := by decide +kernel
theorem dL_law_373 : decode cL_law 373 = .ok (.iconst 1, 1) := by decide +kernel
theorem dL_law_374 : decode cL_law 374 = .ok (.iadd, 1) := by decide +kernel
theorem dL_law_375 : decode cL_law 375 = .ok (.iaload, 1) := by decide +kernel
theorem dL_law_376 : decode cL_law 376 = .ok (.aload_n 0, 1) := by decide +kernel
theorem dL_law_377 : decode cL_law 377 = .ok (.iload_n 3, 1) := by decide +kernel
theorem dL_law_378 : decode cL_law 378 = .ok (.iconst 2, 1) := by decide +kernel
theorem dL_law_379 : decode cL_law 379 = .ok (.iadd, 1) := by decide +kernel
theorem dL_law_380 : decode cL_law 380 = .ok (.iaload, 1) := by decide +kernel
theorem dL_law_381 : decode cL_law 381 = .ok (.invokevirtual 45, 3) := by decide +kernel
theorem dL_law_384 : decode cL_law 384 = .ok (.if_icmp .eq 559, 3) := by decide +kernel
theorem dL_law_387 : decode cL_law 387 = .ok (.iconst 0, 1) := by decide +kernel
theorem dL_law_388 : decode cL_law 388 = .ok (.ireturn, 1) := by decide +kernel
theorem dL_law_389 : decode cL_law 389 = .ok (.aload_n 1, 1) := by decide +kernel
theorem dL_law_390 : decode cL_law 390 = .ok (.aload_n 0, 1) := by decide +kernel
theorem dL_law_391 : decode cL_law 391 = .ok (.iload_n 3, 1) := by decide +kernel
theorem dL_law_392 : decode cL_law 392 = .ok (.iconst 1, 1) := by decide +kernel
theorem dL_law_393 : decode cL_law 393 = .ok (.iadd, 1) := by decide +kernel
theorem dL_law_394 : decode cL_law 394 = .ok (.iaload, 1) := by decide +kernel
theorem dL_law_395 : decode cL_law 395 = .ok (.aload_n 0, 1) := by decide +kernel
theorem dL_law_396 : decode cL_law 396 = .ok (.iload_n 3, 1) := by decide +kernel
theorem dL_law_397 : decode cL_law 397 = .ok (.iconst 2, 1) := by decide +kernel
theorem dL_law_398 : decode cL_law 398 = .ok (.iadd, 1) := by decide +kernel
theorem dL_law_399 : decode cL_law 399 = .ok (.iaload, 1) := by decide +kernel
theorem dL_law_400 : decode cL_law 400 = .ok (.invokevirtual 46, 3) := by decide +kernel
theorem dL_law_403 : decode cL_law 403 = .ok (.aload_n 2, 1) := by decide +kernel
theorem dL_law_404 : decode cL_law 404 = .ok (.aload_n 0, 1) := by decide +kernel
theorem dL_law_405 : decode cL_law 405 = .ok (.iload_n 3, 1) := by decide +kernel
theorem dL_law_406 : decode cL_law 406 = .ok (.iconst 1, 1) := by decide +kernel
theorem dL_law_407 : decode cL_law 407 = .ok (.iadd, 1) := by decide +kernel
theorem dL_law_408 : decode cL_law 408 = .ok (.iaload, 1) := by decide +kernel
theorem dL_law_409 : decode cL_law 409 = .ok (.aload_n 0, 1) := by decide +kernel
theorem dL_law_410 : decode cL_law 410 = .ok (.iload_n 3, 1) := by decide +kernel
theorem dL_law_411 : decode cL_law 411 = .ok (.iconst 2, 1) := by decide +kernel
theorem dL_law_412 : decode cL_law 412 = .ok (.iadd, 1) := by decide +kernel
theorem dL_law_413 : decode cL_law 413 = .ok (.iaload, 1) := by decide +kernel
theorem dL_law_414 : decode cL_law 414 = .ok (.invokevirtual 49, 3) := by decide +kernel
theorem dL_law_417 : decode cL_law 417 = .ok (.if_icmp .eq 526, 3) := by decide +kernel
theorem dL_law_420 : decode cL_law 420 = .ok (.iconst 0, 1) := by decide +kernel
theorem dL_law_421 : decode cL_law 421 = .ok (.ireturn, 1) := by decide +kernel
theorem dL_law_422 : decode cL_law 422 = .ok (.aload_n 1, 1) := by decide +kernel
theorem dL_law_423 : decode cL_law 423 = .ok (.aload_n 0, 1) := by decide +kernel
theorem dL_law_424 : decode cL_law 424 = .ok (.iload_n 3, 1) := by decide +kernel
theorem dL_law_425 : decode cL_law 425 = .ok (.iconst 1, 1) := by decide +kernel
theorem dL_law_426 : decode cL_law 426 = .ok (.iadd, 1) := by decide +kernel
theorem dL_law_427 : decode cL_law 427 = .ok (.iaload, 1) := by decide +kernel
theorem dL_law_428 : decode cL_law 428 = .ok (.aload_n 0, 1) := by decide +kernel
theorem dL_law_429 : decode cL_law 429 = .ok (.iload_n 3, 1) := by decide +kernel
theorem dL_law_430 : decode cL_law 430 = .ok (.iconst 2, 1) := by decide +kernel
theorem dL_law_431 : decode cL_law 431 = .ok (.iadd, 1) := by decide +kernel
theorem dL_law_432 : decode cL_law 432 = .ok (.iaload, 1) := by decide +kernel
theorem dL_law_433 : decode cL_law 433 = .ok (.invokevirtual 50, 3) := by decide +kernel
theorem dL_law_436 : decode cL_law 436 = .ok (.aload_n 2, 1) := by decide +kernel
theorem dL_law_437 : decode cL_law 437 = .ok (.aload_n 0, 1) := by decide +kernel
theorem dL_law_438 : decode cL_law 438 = .ok (.iload_n 3, 1) := by decide +kernel
theorem dL_law_439 : decode cL_law 439 = .ok (.iconst 1, 1) := by decide +kernel
theorem dL_law_440 : decode cL_law 440 = .ok (.iadd, 1) := by decide +kernel
theorem dL_law_441 : decode cL_law 441 = .ok (.iaload, 1) := by decide +kernel
theorem dL_law_442 : decode cL_law 442 = .ok (.aload_n 0, 1) := by decide +kernel
theorem dL_law_443 : decode cL_law 443 = .ok (.iload_n 3, 1) := by decide +kernel
theorem dL_law_444 : decode cL_law 444 = .ok (.iconst 2, 1) := by decide +kernel
theorem dL_law_445 : decode cL_law 445 = .ok (.iadd, 1) := by decide +kernel
theorem dL_law_446 : decode cL_law 446 = .ok (.iaload, 1) := by decide +kernel
theorem dL_law_447 : decode cL_law 447 = .ok (.invokevirtual 53, 3) := by decide +kernel
theorem dL_law_450 : decode cL_law 450 = .ok (.if_icmp .eq 493, 3) := by decide +kernel
theorem dL_law_453 : decode cL_law 453 = .ok (.iconst 0, 1) := by decide +kernel
theorem dL_law_454 : decode cL_law 454 = .ok (.ireturn, 1) := by decide +kernel
theorem dL_law_455 : decode cL_law 455 = .ok (.aload_n 1, 1) := by decide +kernel
theorem dL_law_456 : decode cL_law 456 = .ok (.aload_n 0, 1) := by decide +kernel
theorem dL_law_457 : decode cL_law 457 = .ok (.iload_n 3, 1) := by decide +kernel
theorem dL_law_458 : decode cL_law 458 = .ok (.iconst 1, 1) := by decide +kernel
theorem dL_law_459 : decode cL_law 459 = .ok (.iadd, 1) := by decide +kernel
theorem dL_law_460 : decode cL_law 460 = .ok (.iaload, 1) := by decide +kernel
theorem dL_law_461 : decode cL_law 461 = .ok (.aload_n 0, 1) := by decide +kernel
theorem dL_law_462 : decode cL_law 462 = .ok (.iload_n 3, 1) := by decide +kernel
theorem dL_law_463 : decode cL_law 463 = .ok (.iconst 2, 1) := by decide +kernel
theorem dL_law_464 : decode cL_law 464 = .ok (.iadd, 1) := by decide +kernel
theorem dL_law_465 : decode cL_law 465 = .ok (.iaload, 1) := by decide +kernel
theorem dL_law_466 : decode cL_law 466 = .ok (.invokevirtual 54, 3) := by decide +kernel
theorem dL_law_469 : decode cL_law 469 = .ok (.aload_n 2, 1) := by decide +kernel
theorem dL_law_470 : decode cL_law 470 = .ok (.aload_n 0, 1) := by decide +kernel
theorem dL_law_471 : decode cL_law 471 = .ok (.iload_n 3, 1) := by decide +kernel
theorem dL_law_472 : decode cL_law 472 = .ok (.iconst 1, 1) := by decide +kernel
theorem dL_law_473 : decode cL_law 473 = .ok (.iadd, 1) := by decide +kernel
theorem dL_law_474 : decode cL_law 474 = .ok (.iaload, 1) := by decide +kernel
theorem dL_law_475 : decode cL_law 475 = .ok (.aload_n 0, 1) := by decide +kernel
theorem dL_law_476 : decode cL_law 476 = .ok (.iload_n 3, 1) := by decide +kernel
theorem dL_law_477 : decode cL_law 477 = .ok (.iconst 2, 1) := by decide +kernel
theorem dL_law_478 : decode cL_law 478 = .ok (.iadd, 1) := by decide +kernel
theorem dL_law_479 : decode cL_law 479 = .ok (.iaload, 1) := by decide +kernel
theorem dL_law_480 : decode cL_law 480 = .ok (.invokevirtual 57, 3) := by decide +kernel
theorem dL_law_483 : decode cL_law 483 = .ok (.if_icmp .eq 460, 3) := by decide +kernel
theorem dL_law_486 : decode cL_law 486 = .ok (.iconst 0, 1) := by decide +kernel
theorem dL_law_487 : decode cL_law 487 = .ok (.ireturn, 1) := by decide +kernel
theorem dL_law_488 : decode cL_law 488 = .ok (.aload_n 1, 1) := by decide +kernel
theorem dL_law_489 : decode cL_law 489 = .ok (.aload_n 0, 1) := by decide +kernel
theorem dL_law_490 : decode cL_law 490 = .ok (.iload_n 3, 1) := by decide +kernel
theorem dL_law_491 : decode cL_law 491 = .ok (.iconst 1, 1) := by decide +kernel
theorem dL_law_492 : decode cL_law 492 = .ok (.iadd, 1) := by decide +kernel
theorem dL_law_493 : decode cL_law 493 = .ok (.iaload, 1) := by decide +kernel
theorem dL_law_494 : decode cL_law 494 = .ok (.aload_n 0, 1) := by decide +kernel
theorem dL_law_495 : decode cL_law 495 = .ok (.iload_n 3, 1) := by decide +kernel
theorem dL_law_496 : decode cL_law 496 = .ok (.iconst 2, 1) := by decide +kernel
theorem dL_law_497 : decode cL_law 497 = .ok (.iadd, 1) := by decide +kernel
theorem dL_law_498 : decode cL_law 498 = .ok (.iaload, 1) := by decide +kernel
theorem dL_law_499 : decode cL_law 499 = .ok (.invokevirtual 58, 3) := by decide +kernel
theorem dL_law_502 : decode cL_law 502 = .ok (.aload_n 2, 1) := by decide +kernel
theorem dL_law_503 : decode cL_law 503 = .ok (.aload_n 0, 1) := by decide +kernel
theorem dL_law_504 : decode cL_law 504 = .ok (.iload_n 3, 1) := by decide +kernel
theorem dL_law_505 : decode cL_law 505 = .ok (.iconst 1, 1) := by decide +kernel
theorem dL_law_506 : decode cL_law 506 = .ok (.iadd, 1) := by decide +kernel
theorem dL_law_507 : decode cL_law 507 = .ok (.iaload, 1) := by decide +kernel
theorem dL_law_508 : decode cL_law 508 = .ok (.aload_n 0, 1) := by decide +kernel
theorem dL_law_509 : decode cL_law 509 = .ok (.iload_n 3, 1) := by decide +kernel
theorem dL_law_510 : decode cL_law 510 = .ok (.iconst 2, 1) := by decide +kernel
theorem dL_law_511 : decode cL_law 511 = .ok (.iadd, 1) := by decide +kernel
theorem dL_law_512 : decode cL_law 512 = .ok (.iaload, 1) := by decide +kernel
theorem dL_law_513 : decode cL_law 513 = .ok (.invokevirtual 61, 3) := by decide +kernel
theorem dL_law_516 : decode cL_law 516 = .ok (.if_icmp .eq 427, 3) := by decide +kernel
theorem dL_law_519 : decode cL_law 519 = .ok (.iconst 0, 1) := by decide +kernel
theorem dL_law_520 : decode cL_law 520 = .ok (.ireturn, 1) := by decide +kernel
theorem dL_law_521 : decode cL_law 521 = .ok (.aload_n 1, 1) := by decide +kernel
theorem dL_law_522 : decode cL_law 522 = .ok (.aload_n 0, 1) := by decide +kernel
theorem dL_law_523 : decode cL_law 523 = .ok (.iload_n 3, 1) := by decide +kernel
theorem dL_law_524 : decode cL_law 524 = .ok (.iconst 1, 1) := by decide +kernel
theorem dL_law_525 : decode cL_law 525 = .ok (.iadd, 1) := by decide +kernel
theorem dL_law_526 : decode cL_law 526 = .ok (.iaload, 1) := by decide +kernel
theorem dL_law_527 : decode cL_law 527 = .ok (.aload_n 0, 1) := by decide +kernel
theorem dL_law_528 : decode cL_law 528 = .ok (.iload_n 3, 1) := by decide +kernel
theorem dL_law_529 : decode cL_law 529 = .ok (.iconst 2, 1) := by decide +kernel
theorem dL_law_530 : decode cL_law 530 = .ok (.iadd, 1) := by decide +kernel
theorem dL_law_531 : decode cL_law 531 = .ok (.iaload, 1) := by decide +kernel
end
section
theorem dL_law_532 : decode cL_law 532 = .ok (.invokevirtual 62, 3) := by decide +kernel
theorem dL_law_535 : decode cL_law 535 = .ok (.aload_n 2, 1) := by decide +kernel
theorem dL_law_536 : decode cL_law 536 = .ok (.aload_n 0, 1) := by decide +kernel
theorem dL_law_537 : decode cL_law 537 = .ok (.iload_n 3, 1) := by decide +kernel
theorem dL_law_538 : decode cL_law 538 = .ok (.iconst 1, 1) := by decide +kernel
theorem dL_law_539 : decode cL_law 539 = .ok (.iadd, 1) := by decide +kernel
theorem dL_law_540 : decode cL_law 540 = .ok (.iaload, 1) := by decide +kernel
theorem dL_law_541 : decode cL_law 541 = .ok (.aload_n 0, 1) := by decide +kernel
theorem dL_law_542 : decode cL_law 542 = .ok (.iload_n 3, 1) := by decide +kernel
theorem dL_law_543 : decode cL_law 543 = .ok (.iconst 2, 1) := by decide +kernel
theorem dL_law_544 : decode cL_law 544 = .ok (.iadd, 1) := by decide +kernel
theorem dL_law_545 : decode cL_law 545 = .ok (.iaload, 1) := by decide +kernel
theorem dL_law_546 : decode cL_law 546 = .ok (.invokevirtual 65, 3) := by decide +kernel
theorem dL_law_549 : decode cL_law 549 = .ok (.if_icmp .eq 394, 3) := by decide +kernel
theorem dL_law_552 : decode cL_law 552 = .ok (.iconst 0, 1) := by decide +kernel
theorem dL_law_553 : decode cL_law 553 = .ok (.ireturn, 1) := by decide +kernel
theorem dL_law_554 : decode cL_law 554 = .ok (.aload_n 1, 1) := by decide +kernel
theorem dL_law_555 : decode cL_law 555 = .ok (.aload_n 0, 1) := by decide +kernel
theorem dL_law_556 : decode cL_law 556 = .ok (.iload_n 3, 1) := by decide +kernel
theorem dL_law_557 : decode cL_law 557 = .ok (.iconst 1, 1) := by decide +kernel
theorem dL_law_558 : decode cL_law 558 = .ok (.iadd, 1) := by decide +kernel
theorem dL_law_559 : decode cL_law 559 = .ok (.iaload, 1) := by decide +kernel
theorem dL_law_560 : decode cL_law 560 = .ok (.aload_n 0, 1) := by decide +kernel
theorem dL_law_561 : decode cL_law 561 = .ok (.iload_n 3, 1) := by decide +kernel
theorem dL_law_562 : decode cL_law 562 = .ok (.iconst 2, 1) := by decide +kernel
theorem dL_law_563 : decode cL_law 563 = .ok (.iadd, 1) := by decide +kernel
theorem dL_law_564 : decode cL_law 564 = .ok (.iaload, 1) := by decide +kernel
theorem dL_law_565 : decode cL_law 565 = .ok (.invokevirtual 66, 3) := by decide +kernel
theorem dL_law_568 : decode cL_law 568 = .ok (.aload_n 2, 1) := by decide +kernel
theorem dL_law_569 : decode cL_law 569 = .ok (.aload_n 0, 1) := by decide +kernel
theorem dL_law_570 : decode cL_law 570 = .ok (.iload_n 3, 1) := by decide +kernel
theorem dL_law_571 : decode cL_law 571 = .ok (.iconst 1, 1) := by decide +kernel
theorem dL_law_572 : decode cL_law 572 = .ok (.iadd, 1) := by decide +kernel
theorem dL_law_573 : decode cL_law 573 = .ok (.iaload, 1) := by decide +kernel
theorem dL_law_574 : decode cL_law 574 = .ok (.aload_n 0, 1) := by decide +kernel
theorem dL_law_575 : decode cL_law 575 = .ok (.iload_n 3, 1) := by decide +kernel
theorem dL_law_576 : decode cL_law 576 = .ok (.iconst 2, 1) := by decide +kernel
theorem dL_law_577 : decode cL_law 577 = .ok (.iadd, 1) := by decide +kernel
theorem dL_law_578 : decode cL_law 578 = .ok (.iaload, 1) := by decide +kernel
theorem dL_law_579 : decode cL_law 579 = .ok (.invokevirtual 69, 3) := by decide +kernel
theorem dL_law_582 : decode cL_law 582 = .ok (.if_icmp .eq 361, 3) := by decide +kernel
theorem dL_law_585 : decode cL_law 585 = .ok (.iconst 0, 1) := by decide +kernel
theorem dL_law_586 : decode cL_law 586 = .ok (.ireturn, 1) := by decide +kernel
theorem dL_law_587 : decode cL_law 587 = .ok (.aload_n 1, 1) := by decide +kernel
theorem dL_law_588 : decode cL_law 588 = .ok (.aload_n 0, 1) := by decide +kernel
theorem dL_law_589 : decode cL_law 589 = .ok (.iload_n 3, 1) := by decide +kernel
theorem dL_law_590 : decode cL_law 590 = .ok (.iconst 1, 1) := by decide +kernel
theorem dL_law_591 : decode cL_law 591 = .ok (.iadd, 1) := by decide +kernel
theorem dL_law_592 : decode cL_law 592 = .ok (.iaload, 1) := by decide +kernel
theorem dL_law_593 : decode cL_law 593 = .ok (.aload_n 0, 1) := by decide +kernel
theorem dL_law_594 : decode cL_law 594 = .ok (.iload_n 3, 1) := by decide +kernel
theorem dL_law_595 : decode cL_law 595 = .ok (.iconst 2, 1) := by decide +kernel
theorem dL_law_596 : decode cL_law 596 = .ok (.iadd, 1) := by decide +kernel
theorem dL_law_597 : decode cL_law 597 = .ok (.iaload, 1) := by decide +kernel
theorem dL_law_598 : decode cL_law 598 = .ok (.invokevirtual 70, 3) := by decide +kernel
theorem dL_law_601 : decode cL_law 601 = .ok (.aload_n 2, 1) := by decide +kernel
theorem dL_law_602 : decode cL_law 602 = .ok (.aload_n 0, 1) := by decide +kernel
theorem dL_law_603 : decode cL_law 603 = .ok (.iload_n 3, 1) := by decide +kernel
theorem dL_law_604 : decode cL_law 604 = .ok (.iconst 1, 1) := by decide +kernel
theorem dL_law_605 : decode cL_law 605 = .ok (.iadd, 1) := by decide +kernel
theorem dL_law_606 : decode cL_law 606 = .ok (.iaload, 1) := by decide +kernel
theorem dL_law_607 : decode cL_law 607 = .ok (.aload_n 0, 1) := by decide +kernel
theorem dL_law_608 : decode cL_law 608 = .ok (.iload_n 3, 1) := by decide +kernel
theorem dL_law_609 : decode cL_law 609 = .ok (.iconst 2, 1) := by decide +kernel
theorem dL_law_610 : decode cL_law 610 = .ok (.iadd, 1) := by decide +kernel
theorem dL_law_611 : decode cL_law 611 = .ok (.iaload, 1) := by decide +kernel
theorem dL_law_612 : decode cL_law 612 = .ok (.invokevirtual 73, 3) := by decide +kernel
theorem dL_law_615 : decode cL_law 615 = .ok (.if_icmp .eq 328, 3) := by decide +kernel
theorem dL_law_618 : decode cL_law 618 = .ok (.iconst 0, 1) := by decide +kernel
theorem dL_law_619 : decode cL_law 619 = .ok (.ireturn, 1) := by decide +kernel
theorem dL_law_620 : decode cL_law 620 = .ok (.aload_n 1, 1) := by decide +kernel
theorem dL_law_621 : decode cL_law 621 = .ok (.aload_n 0, 1) := by decide +kernel
theorem dL_law_622 : decode cL_law 622 = .ok (.iload_n 3, 1) := by decide +kernel
theorem dL_law_623 : decode cL_law 623 = .ok (.iconst 1, 1) := by decide +kernel
theorem dL_law_624 : decode cL_law 624 = .ok (.iadd, 1) := by decide +kernel
theorem dL_law_625 : decode cL_law 625 = .ok (.iaload, 1) := by decide +kernel
theorem dL_law_626 : decode cL_law 626 = .ok (.invokevirtual 74, 3) := by decide +kernel
theorem dL_law_629 : decode cL_law 629 = .ok (.aload_n 2, 1) := by decide +kernel
theorem dL_law_630 : decode cL_law 630 = .ok (.aload_n 0, 1) := by decide +kernel
theorem dL_law_631 : decode cL_law 631 = .ok (.iload_n 3, 1) := by decide +kernel
theorem dL_law_632 : decode cL_law 632 = .ok (.iconst 1, 1) := by decide +kernel
theorem dL_law_633 : decode cL_law 633 = .ok (.iadd, 1) := by decide +kernel
theorem dL_law_634 : decode cL_law 634 = .ok (.iaload, 1) := by decide +kernel
theorem dL_law_635 : decode cL_law 635 = .ok (.invokevirtual 77, 3) := by decide +kernel
theorem dL_law_638 : decode cL_law 638 = .ok (.if_icmp .eq 305, 3) := by decide +kernel
theorem dL_law_641 : decode cL_law 641 = .ok (.iconst 0, 1) := by decide +kernel
theorem dL_law_642 : decode cL_law 642 = .ok (.ireturn, 1) := by decide +kernel
theorem dL_law_643 : decode cL_law 643 = .ok (.aload_n 1, 1) := by decide +kernel
theorem dL_law_644 : decode cL_law 644 = .ok (.aload_n 0, 1) := by decide +kernel
theorem dL_law_645 : decode cL_law 645 = .ok (.iload_n 3, 1) := by decide +kernel
theorem dL_law_646 : decode cL_law 646 = .ok (.iconst 1, 1) := by decide +kernel
theorem dL_law_647 : decode cL_law 647 = .ok (.iadd, 1) := by decide +kernel
theorem dL_law_648 : decode cL_law 648 = .ok (.iaload, 1) := by decide +kernel
theorem dL_law_649 : decode cL_law 649 = .ok (.invokevirtual 78, 3) := by decide +kernel
theorem dL_law_652 : decode cL_law 652 = .ok (.aload_n 2, 1) := by decide +kernel
theorem dL_law_653 : decode cL_law 653 = .ok (.aload_n 0, 1) := by decide +kernel
theorem dL_law_654 : decode cL_law 654 = .ok (.iload_n 3, 1) := by decide +kernel
theorem dL_law_655 : decode cL_law 655 = .ok (.iconst 1, 1) := by decide +kernel
theorem dL_law_656 : decode cL_law 656 = .ok (.iadd, 1) := by decide +kernel
theorem dL_law_657 : decode cL_law 657 = .ok (.iaload, 1) := by decide +kernel
theorem dL_law_658 : decode cL_law 658 = .ok (.invokevirtual 81, 3) := by decide +kernel
theorem dL_law_661 : decode cL_law 661 = .ok (.if_icmp .eq 282, 3) := by decide +kernel
theorem dL_law_664 : decode cL_law 664 = .ok (.iconst 0, 1) := by decide +kernel
theorem dL_law_665 : decode cL_law 665 = .ok (.ireturn, 1) := by decide +kernel
theorem dL_law_666 : decode cL_law 666 = .ok (.aload_n 1, 1) := by decide +kernel
theorem dL_law_667 : decode cL_law 667 = .ok (.aload_n 0, 1) := by decide +kernel
theorem dL_law_668 : decode cL_law 668 = .ok (.iload_n 3, 1) := by decide +kernel
theorem dL_law_669 : decode cL_law 669 = .ok (.iconst 1, 1) := by decide +kernel
theorem dL_law_670 : decode cL_law 670 = .ok (.iadd, 1) := by decide +kernel
theorem dL_law_671 : decode cL_law 671 = .ok (.iaload, 1) := by decide +kernel
theorem dL_law_672 : decode cL_law 672 = .ok (.aload_n 0, 1) := by decide +kernel
theorem dL_law_673 : decode cL_law 673 = .ok (.iload_n 3, 1) := by decide +kernel
theorem dL_law_674 : decode cL_law 674 = .ok (.iconst 2, 1) := by decide +kernel
theorem dL_law_675 : decode cL_law 675 = .ok (.iadd, 1) := by decide +kernel
theorem dL_law_676 : decode cL_law 676 = .ok (.iaload, 1) := by decide +kernel
theorem dL_law_677 : decode cL_law 677 = .ok (.invokevirtual 82, 3) := by decide +kernel
theorem dL_law_680 : decode cL_law 680 = .ok (.aload_n 2, 1) := by decide +kernel
theorem dL_law_681 : decode cL_law 681 = .ok (.aload_n 0, 1) := by decide +kernel
theorem dL_law_682 : decode cL_law 682 = .ok (.iload_n 3, 1) := by decide +kernel
theorem dL_law_683 : decode cL_law 683 = .ok (.iconst 1, 1) := by decide +kernel
theorem dL_law_684 : decode cL_law 684 = .ok (.iadd, 1) := by decide +kernel
theorem dL_law_685 : decode cL_law 685 = .ok (.iaload, 1) := by decide +kernel
theorem dL_law_686 : decode cL_law 686 = .ok (.aload_n 0, 1) := by decide +kernel
theorem dL_law_687 : decode cL_law 687 = .ok (.iload_n 3, 1) := by decide +kernel
theorem dL_law_688 : decode cL_law 688 = .ok (.iconst 2, 1) := by decide +kernel
theorem dL_law_689 : decode cL_law 689 = .ok (.iadd, 1) := by decide +kernel
theorem dL_law_690 : decode cL_law 690 = .ok (.iaload, 1) := by decide +kernel
theorem dL_law_691 : decode cL_law 691 = .ok (.invokevirtual 85, 3) := by decide +kernel
theorem dL_law_694 : decode cL_law 694 = .ok (.if_icmp .eq 249, 3) := by decide +kernel
theorem dL_law_697 : decode cL_law 697 = .ok (.iconst 0, 1) := by decide +kernel
theorem dL_law_698 : decode cL_law 698 = .ok (.ireturn, 1) := by decide +kernel
theorem dL_law_699 : decode cL_law 699 = .ok (.aload_n 1, 1) := by decide +kernel
theorem dL_law_700 : decode cL_law 700 = .ok (.aload_n 0, 1) := by decide +kernel
theorem dL_law_701 : decode cL_law 701 = .ok (.iload_n 3, 1) := by decide +kernel
theorem dL_law_702 : decode cL_law 702 = .ok (.iconst 1, 1) := by decide +kernel
theorem dL_law_703 : decode cL_law 703 = .ok (.iadd, 1) := by decide +kernel
theorem dL_law_704 : decode cL_law 704 = .ok (.iaload, 1) := by decide +kernel
theorem dL_law_705 : decode cL_law 705 = .ok (.aload_n 0, 1) := by decide +kernel
theorem dL_law_706 : decode cL_law 706 = .ok (.iload_n 3, 1) := by decide +kernel
theorem dL_law_707 : decode cL_law 707 = .ok (.iconst 2, 1) := by decide +kernel
theorem dL_law_708 : decode cL_law 708 = .ok (.iadd, 1) := by decide +kernel
theorem dL_law_709 : decode cL_law 709 = .ok (.iaload, 1) := by decide +kernel
theorem dL_law_710 : decode cL_law 710 = .ok (.invokevirtual 86, 3) := by decide +kernel
theorem dL_law_713 : decode cL_law 713 = .ok (.aload_n 2, 1) := by decide +kernel
theorem dL_law_714 : decode cL_law 714 = .ok (.aload_n 0, 1) := by decide +kernel
theorem dL_law_715 : decode cL_law 715 = .ok (.iload_n 3, 1) := by decide +kernel
theorem dL_law_716 : decode cL_law 716 = .ok (.iconst 1, 1) := by decide +kernel
theorem dL_law_717 : decode cL_law 717 = .ok (.iadd, 1) := by decide +kernel
theorem dL_law_718 : decode cL_law 718 = .ok (.iaload, 1) := by decide +kernel
theorem dL_law_719 : decode cL_law 719 = .ok (.aload_n 0, 1) := by decide +kernel
theorem dL_law_720 : decode cL_law 720 = .ok (.iload_n 3, 1) := by decide +kernel
theorem dL_law_721 : decode cL_law 721 = .ok (.iconst 2, 1) := by decide +kernel
theorem dL_law_722 : decode cL_law 722 = .ok (.iadd, 1) := by decide +kernel
theorem dL_law_723 : decode cL_law 723 = .ok (.iaload, 1) := by decide +kernel
theorem dL_law_724 : decode cL_law 724 = .ok (.invokevirtual 89, 3) := by decide +kernel
theorem dL_law_727 : decode cL_law 727 = .ok (.if_icmp .eq 216, 3) := by decide +kernel
theorem dL_law_730 : decode cL_law 730 = .ok (.iconst 0, 1) := by decide +kernel
theorem dL_law_731 : decode cL_law 731 = .ok (.ireturn, 1) := by decide +kernel
theorem dL_law_732 : decode cL_law 732 = .ok (.aload_n 1, 1) := by decide +kernel
theorem dL_law_733 : decode cL_law 733 = .ok (.aload_n 0, 1) := by decide +kernel
theorem dL_law_734 : decode cL_law 734 = .ok (.iload_n 3, 1) := by decide +kernel
theorem dL_law_735 : decode cL_law 735 = .ok (.iconst 1, 1) := by decide +kernel
theorem dL_law_736 : decode cL_law 736 = .ok (.iadd, 1) := by decide +kernel
theorem dL_law_737 : decode cL_law 737 = .ok (.iaload, 1) := by decide +kernel
theorem dL_law_738 : decode cL_law 738 = .ok (.aload_n 0, 1) := by decide +kernel
theorem dL_law_739 : decode cL_law 739 = .ok (.iload_n 3, 1) := by decide +kernel
theorem dL_law_740 : decode cL_law 740 = .ok (.iconst 2, 1) := by decide +kernel
theorem dL_law_741 : decode cL_law 741 = .ok (.iadd, 1) := by decide +kernel
theorem dL_law_742 : decode cL_law 742 = .ok (.iaload, 1) := by decide +kernel
theorem dL_law_743 : decode cL_law 743 = .ok (.invokevirtual 90, 3) := by decide +kernel
theorem dL_law_746 : decode cL_law 746 = .ok (.aload_n 2, 1) := by decide +kernel
theorem dL_law_747 : decode cL_law 747 = .ok (.aload_n 0, 1) := by decide +kernel
theorem dL_law_748 : decode cL_law 748 = .ok (.iload_n 3, 1) := by decide +kernel
theorem dL_law_749 : decode cL_law 749 = .ok (.iconst 1, 1) := by decide +kernel
theorem dL_law_750 : decode cL_law 750 = .ok (.iadd, 1) := by decide +kernel
theorem dL_law_751 : decode cL_law 751 = .ok (.iaload, 1) := by decide +kernel
theorem dL_law_752 : decode cL_law 752 = .ok (.aload_n 0, 1) := by decide +kernel
theorem dL_law_753 : decode cL_law 753 = .ok (.iload_n 3, 1) := by decide +kernel
theorem dL_law_754 : decode cL_law 754 = .ok (.iconst 2, 1) := by decide +kernel
theorem dL_law_755 : decode cL_law 755 = .ok (.iadd, 1) := by decide +kernel
theorem dL_law_756 : decode cL_law 756 = .ok (.iaload, 1) := by decide +kernel
theorem dL_law_757 : decode cL_law 757 = .ok (.invokevirtual 93, 3) := by decide +kernel
theorem dL_law_760 : decode cL_law 760 = .ok (.if_icmp .eq 183, 3) := by decide +kernel
theorem dL_law_763 : decode cL_law 763 = .ok (.iconst 0, 1) := by decide +kernel
theorem dL_law_764 : decode cL_law 764 = .ok (.ireturn, 1) := by decide +kernel
theorem dL_law_765 : decode cL_law 765 = .ok (.aload_n 1, 1) := by decide +kernel
theorem dL_law_766 : decode cL_law 766 = .ok (.aload_n 0, 1) := by decide +kernel
theorem dL_law_767 : decode cL_law 767 = .ok (.iload_n 3, 1) := by decide +kernel
theorem dL_law_768 : decode cL_law 768 = .ok (.iconst 1, 1) := by decide +kernel
theorem dL_law_769 : decode cL_law 769 = .ok (.iadd, 1) := by decide +kernel
theorem dL_law_770 : decode cL_law 770 = .ok (.iaload, 1) := by decide +kernel
theorem dL_law_771 : decode cL_law 771 = .ok (.invokevirtual 94, 3) := by decide +kernel
theorem dL_law_774 : decode cL_law 774 = .ok (.aload_n 2, 1) := by decide +kernel
theorem dL_law_775 : decode cL_law 775 = .ok (.aload_n 0, 1) := by decide +kernel
theorem dL_law_776 : decode cL_law 776 = .ok (.iload_n 3, 1) := by decide +kernel
theorem dL_law_777 : decode cL_law 777 = .ok (.iconst 1, 1) := by decide +kernel
theorem dL_law_778 : decode cL_law 778 = .ok (.iadd, 1) := by decide +kernel
theorem dL_law_779 : decode cL_law 779 = .ok (.iaload, 1) := by decide +kernel
theorem dL_law_780 : decode cL_law 780 = .ok (.invokevirtual 97, 3) := by decide +kernel
theorem dL_law_783 : decode cL_law 783 = .ok (.if_icmp .eq 160, 3) := by decide +kernel
theorem dL_law_786 : decode cL_law 786 = .ok (.iconst 0, 1) := by decide +kernel
theorem dL_law_787 : decode cL_law 787 = .ok (.ireturn, 1) := by decide +kernel
theorem dL_law_788 : decode cL_law 788 = .ok (.aload_n 1, 1) := by decide +kernel
theorem dL_law_789 : decode cL_law 789 = .ok (.aload_n 0, 1) := by decide +kernel
theorem dL_law_790 : decode cL_law 790 = .ok (.iload_n 3, 1) := by decide +kernel
theorem dL_law_791 : decode cL_law 791 = .ok (.iconst 1, 1) := by decide +kernel
theorem dL_law_792 : decode cL_law 792 = .ok (.iadd, 1) := by decide +kernel
theorem dL_law_793 : decode cL_law 793 = .ok (.iaload, 1) := by decide +kernel
theorem dL_law_794 : decode cL_law 794 = .ok (.aload_n 0, 1) := by decide +kernel
theorem dL_law_795 : decode cL_law 795 = .ok (.iload_n 3, 1) := by decide +kernel
theorem dL_law_796 : decode cL_law 796 = .ok (.iconst 2, 1) := by decide +kernel
theorem dL_law_797 : decode cL_law 797 = .ok (.iadd, 1) := by decide +kernel
theorem dL_law_798 : decode cL_law 798 = .ok (.iaload, 1) := by decide +kernel
theorem dL_law_799 : decode cL_law 799 = .ok (.invokevirtual 98, 3) := by decide +kernel
theorem dL_law_802 : decode cL_law 802 = .ok (.aload_n 2, 1) := by decide +kernel
theorem dL_law_803 : decode cL_law 803 = .ok (.aload_n 0, 1) := by decide +kernel
theorem dL_law_804 : decode cL_law 804 = .ok (.iload_n 3, 1) := by decide +kernel
theorem dL_law_805 : decode cL_law 805 = .ok (.iconst 1, 1) := by decide +kernel
theorem dL_law_806 : decode cL_law 806 = .ok (.iadd, 1) := by decide +kernel
theorem dL_law_807 : decode cL_law 807 = .ok (.iaload, 1) := by decide +kernel
theorem dL_law_808 : decode cL_law 808 = .ok (.aload_n 0, 1) := by decide +kernel
theorem dL_law_809 : decode cL_law 809 = .ok (.iload_n 3, 1) := by decide +kernel
theorem dL_law_810 : decode cL_law 810 = .ok (.iconst 2, 1) := by decide +kernel
theorem dL_law_811 : decode cL_law 811 = .ok (.iadd, 1) := by decide +kernel
theorem dL_law_812 : decode cL_law 812 = .ok (.iaload, 1) := by decide +kernel
theorem dL_law_813 : decode cL_law 813 = .ok (.invokevirtual 101, 3) := by decide +kernel
theorem dL_law_816 : decode cL_law 816 = .ok (.if_icmp .eq 127, 3) := by decide +kernel
theorem dL_law_819 : decode cL_law 819 = .ok (.iconst 0, 1) := by decide +kernel
theorem dL_law_820 : decode cL_law 820 = .ok (.ireturn, 1) := by decide +kernel
theorem dL_law_821 : decode cL_law 821 = .ok (.aload_n 1, 1) := by decide +kernel
theorem dL_law_822 : decode cL_law 822 = .ok (.aload_n 0, 1) := by decide +kernel
theorem dL_law_823 : decode cL_law 823 = .ok (.iload_n 3, 1) := by decide +kernel
theorem dL_law_824 : decode cL_law 824 = .ok (.iconst 1, 1) := by decide +kernel
theorem dL_law_825 : decode cL_law 825 = .ok (.iadd, 1) := by decide +kernel
theorem dL_law_826 : decode cL_law 826 = .ok (.iaload, 1) := by decide +kernel
theorem dL_law_827 : decode cL_law 827 = .ok (.aload_n 0, 1) := by decide +kernel
theorem dL_law_828 : decode cL_law 828 = .ok (.iload_n 3, 1) := by decide +kernel
theorem dL_law_829 : decode cL_law 829 = .ok (.iconst 2, 1) := by decide +kernel
theorem dL_law_830 : decode cL_law 830 = .ok (.iadd, 1) := by decide +kernel
theorem dL_law_831 : decode cL_law 831 = .ok (.iaload, 1) := by decide +kernel
theorem dL_law_832 : decode cL_law 832 = .ok (.invokevirtual 102, 3) := by decide +kernel
theorem dL_law_835 : decode cL_law 835 = .ok (.aload_n 2, 1) := by decide +kernel
theorem dL_law_836 : decode cL_law 836 = .ok (.aload_n 0, 1) := by decide +kernel
theorem dL_law_837 : decode cL_law 837 = .ok (.iload_n 3, 1) := by decide +kernel
theorem dL_law_838 : decode cL_law 838 = .ok (.iconst 1, 1) := by decide +kernel
theorem dL_law_839 : decode cL_law 839 = .ok (.iadd, 1) := by decide +kernel
theorem dL_law_840 : decode cL_law 840 = .ok (.iaload, 1) := by decide +kernel
theorem dL_law_841 : decode cL_law 841 = .ok (.aload_n 0, 1) := by decide +kernel
theorem dL_law_842 : decode cL_law 842 = .ok (.iload_n 3, 1) := by decide +kernel
theorem dL_law_843 : decode cL_law 843 = .ok (.iconst 2, 1) := by decide +kernel
theorem dL_law_844 : decode cL_law 844 = .ok (.iadd, 1) := by decide +kernel
theorem dL_law_845 : decode cL_law 845 = .ok (.iaload, 1) := by decide +kernel
theorem dL_law_846 : decode cL_law 846 = .ok (.invokevirtual 105, 3) := by decide +kernel
theorem dL_law_849 : decode cL_law 849 = .ok (.if_icmp .eq 94, 3) := by decide +kernel
theorem dL_law_852 : decode cL_law 852 = .ok (.iconst 0, 1) := by decide +kernel
theorem dL_law_853 : decode cL_law 853 = .ok (.ireturn, 1) := by decide +kernel
theorem dL_law_854 : decode cL_law 854 = .ok (.aload_n 1, 1) := by decide +kernel
theorem dL_law_855 : decode cL_law 855 = .ok (.aload_n 0, 1) := by decide +kernel
theorem dL_law_856 : decode cL_law 856 = .ok (.iload_n 3, 1) := by decide +kernel
theorem dL_law_857 : decode cL_law 857 = .ok (.iconst 1, 1) := by decide +kernel
theorem dL_law_858 : decode cL_law 858 = .ok (.iadd, 1) := by decide +kernel
theorem dL_law_859 : decode cL_law 859 = .ok (.iaload, 1) := by decide +kernel
theorem dL_law_860 : decode cL_law 860 = .ok (.aload_n 0, 1) := by decide +kernel
theorem dL_law_861 : decode cL_law 861 = .ok (.iload_n 3, 1) := by decide +kernel
theorem dL_law_862 : decode cL_law 862 = .ok (.iconst 2, 1) := by decide +kernel
theorem dL_law_863 : decode cL_law 863 = .ok (.iadd, 1) := by decide +kernel
theorem dL_law_864 : decode cL_law 864 = .ok (.iaload, 1) := by decide +kernel
theorem dL_law_865 : decode cL_law 865 = .ok (.invokevirtual 106, 3) := by decide +kernel
theorem dL_law_868 : decode cL_law 868 = .ok (.aload_n 2, 1) := by decide +kernel
theorem dL_law_869 : decode cL_law 869 = .ok (.aload_n 0, 1) := by decide +kernel
theorem dL_law_870 : decode cL_law 870 = .ok (.iload_n 3, 1) := by decide +kernel
theorem dL_law_871 : decode cL_law 871 = .ok (.iconst 1, 1) := by decide +kernel
theorem dL_law_872 : decode cL_law 872 = .ok (.iadd, 1) := by decide +kernel
theorem dL_law_873 : decode cL_law 873 = .ok (.iaload, 1) := by decide +kernel
theorem dL_law_874 : decode cL_law 874 = .ok (.aload_n 0, 1) := by decide +kernel
theorem dL_law_875 : decode cL_law 875 = .ok (.iload_n 3, 1) := by decide +kernel
theorem dL_law_876 : decode cL_law 876 = .ok (.iconst 2, 1) := by decide +kernel
theorem dL_law_877 : decode cL_law 877 = .ok (.iadd, 1) := by decide +kernel
theorem dL_law_878 : decode cL_law 878 = .ok (.iaload, 1) := by decide +kernel
theorem dL_law_879 : decode cL_law 879 = .ok (.invokevirtual 109, 3) := by decide +kernel
theorem dL_law_882 : decode cL_law 882 = .ok (.if_icmp .eq 61, 3) := by decide +kernel
theorem dL_law_885 : decode cL_law 885 = .ok (.iconst 0, 1) := by decide +kernel
theorem dL_law_886 : decode cL_law 886 = .ok (.ireturn, 1) := by decide +kernel
theorem dL_law_887 : decode cL_law 887 = .ok (.aload_n 1, 1) := by decide +kernel
theorem dL_law_888 : decode cL_law 888 = .ok (.aload_n 0, 1) := by decide +kernel
theorem dL_law_889 : decode cL_law 889 = .ok (.iload_n 3, 1) := by decide +kernel
theorem dL_law_890 : decode cL_law 890 = .ok (.iconst 1, 1) := by decide +kernel
theorem dL_law_891 : decode cL_law 891 = .ok (.iadd, 1) := by decide +kernel
theorem dL_law_892 : decode cL_law 892 = .ok (.iaload, 1) := by decide +kernel
theorem dL_law_893 : decode cL_law 893 = .ok (.aload_n 0, 1) := by decide +kernel
theorem dL_law_894 : decode cL_law 894 = .ok (.iload_n 3, 1) := by decide +kernel
theorem dL_law_895 : decode cL_law 895 = .ok (.iconst 2, 1) := by decide +kernel
theorem dL_law_896 : decode cL_law 896 = .ok (.iadd, 1) := by decide +kernel
theorem dL_law_897 : decode cL_law 897 = .ok (.iaload, 1) := by decide +kernel
theorem dL_law_898 : decode cL_law 898 = .ok (.invokevirtual 110, 3) := by decide +kernel
theorem dL_law_901 : decode cL_law 901 = .ok (.aload_n 2, 1) := by decide +kernel
theorem dL_law_902 : decode cL_law 902 = .ok (.aload_n 0, 1) := by decide +kernel
theorem dL_law_903 : decode cL_law 903 = .ok (.iload_n 3, 1) := by decide +kernel
theorem dL_law_904 : decode cL_law 904 = .ok (.iconst 1, 1) := by decide +kernel
theorem dL_law_905 : decode cL_law 905 = .ok (.iadd, 1) := by decide +kernel
theorem dL_law_906 : decode cL_law 906 = .ok (.iaload, 1) := by decide +kernel
theorem dL_law_907 : decode cL_law 907 = .ok (.aload_n 0, 1) := by decide +kernel
theorem dL_law_908 : decode cL_law 908 = .ok (.iload_n 3, 1) := by decide +kernel
theorem dL_law_909 : decode cL_law 909 = .ok (.iconst 2, 1) := by decide +kernel
theorem dL_law_910 : decode cL_law 910 = .ok (.iadd, 1) := by decide +kernel
theorem dL_law_911 : decode cL_law 911 = .ok (.iaload, 1) := by decide +kernel
theorem dL_law_912 : decode cL_law 912 = .ok (.invokevirtual 113, 3) := by decide +kernel
theorem dL_law_915 : decode cL_law 915 = .ok (.if_icmp .eq 28, 3) := by decide +kernel
theorem dL_law_918 : decode cL_law 918 = .ok (.iconst 0, 1) := by decide +kernel
theorem dL_law_919 : decode cL_law 919 = .ok (.ireturn, 1) := by decide +kernel
theorem dL_law_920 : decode cL_law 920 = .ok (.aload_n 1, 1) := by decide +kernel
theorem dL_law_921 : decode cL_law 921 = .ok (.aload_n 0, 1) := by decide +kernel
theorem dL_law_922 : decode cL_law 922 = .ok (.iload_n 3, 1) := by decide +kernel
theorem dL_law_923 : decode cL_law 923 = .ok (.iconst 1, 1) := by decide +kernel
theorem dL_law_924 : decode cL_law 924 = .ok (.iadd, 1) := by decide +kernel
theorem dL_law_925 : decode cL_law 925 = .ok (.iaload, 1) := by decide +kernel
theorem dL_law_926 : decode cL_law 926 = .ok (.invokevirtual 114, 3) := by decide +kernel
theorem dL_law_929 : decode cL_law 929 = .ok (.aload_n 2, 1) := by decide +kernel
theorem dL_law_930 : decode cL_law 930 = .ok (.aload_n 0, 1) := by decide +kernel
theorem dL_law_931 : decode cL_law 931 = .ok (.iload_n 3, 1) := by decide +kernel
theorem dL_law_932 : decode cL_law 932 = .ok (.iconst 1, 1) := by decide +kernel
theorem dL_law_933 : decode cL_law 933 = .ok (.iadd, 1) := by decide +kernel
theorem dL_law_934 : decode cL_law 934 = .ok (.iaload, 1) := by decide +kernel
theorem dL_law_935 : decode cL_law 935 = .ok (.invokevirtual 117, 3) := by decide +kernel
theorem dL_law_938 : decode cL_law 938 = .ok (.if_icmp .eq 5, 3) := by decide +kernel
theorem dL_law_941 : decode cL_law 941 = .ok (.iconst 0, 1) := by decide +kernel
theorem dL_law_942 : decode cL_law 942 = .ok (.ireturn, 1) := by decide +kernel
theorem dL_law_943 : decode cL_law 943 = .ok (.iinc 3 6, 3) := by decide +kernel
theorem dL_law_946 : decode cL_law 946 = .ok (.goto (-928), 3) := by decide +kernel
theorem dL_law_949 : decode cL_law 949 = .ok (.iconst 1, 1) := by decide +kernel
theorem dL_law_950 : decode cL_law 950 = .ok (.ireturn, 1) := by decide +kernel
end
section
/-! the words of the tables that go along with every call, by their places -/
def z_B : List Cond := lw_tbl.filter goodWord
theorem z_inB {w : Cond} (h : w ∈ lw_tbl) (g : goodWord w = true) : w ∈ z_B := List.mem_filter.mpr ⟨h, g⟩
theorem z_t1 {w : Cond} (h : w ∈ tables_1) : w ∈ lw_tbl := List.mem_append_right _ h
theorem z_in1 {w : Cond} (i : Nat) (h : tables_1_1[i]? = some w) : w ∈ lw_tbl := z_t1 (List.mem_append_left _ (List.mem_of_getElem? h))
theorem z_in2 {w : Cond} (i : Nat) (h : tables_1_2[i]? = some w) : w ∈ lw_tbl := z_t1 (List.mem_append_right _ (List.mem_append_left _ (List.mem_of_getElem? h)))
theorem z_in3 {w : Cond} (i : Nat) (h : tables_1_3[i]? = some w) : w ∈ lw_tbl := z_t1 (List.mem_append_right _ (List.mem_append_right _ (List.mem_append_left _ (List.mem_of_getElem? h))))
theorem z_in4 {w : Cond} (i : Nat) (h : tables_1_4[i]? = some w) : w ∈ lw_tbl := z_t1 (List.mem_append_right _ (List.mem_append_right _ (List.mem_append_right _ (List.mem_append_left _ (List.mem_of_getElem? h)))))
theorem z_in5 {w : Cond} (i : Nat) (h : tables_1_5[i]? = some w) : w ∈ lw_tbl := z_t1 (List.mem_append_right _ (List.mem_append_right _ (List.mem_append_right _ (List.mem_append_right _ (List.mem_of_getElem? h)))))
theorem z_goodB : GoodIn z_B z_B := fun w h => ⟨h, good_of_word (List.mem_filter.mp h).2⟩
theorem z_good1 {w : Cond} (h : w ∈ z_B) : ∀ v, v = w → v ∈ z_B ∧ ((v.onTables && v.keeps) = true ∨ ∃ ty, v = .arrayClass ty) := fun v e => by subst e; exact z_goodB v h
theorem z_sel {q : MethodName × Nat} (h : q ∈ lw_privs) : Cond.selects q.1.cls q.1 q.1 ∈ lw_tbl := List.mem_append_left _ (List.mem_map_of_mem (f := fun q : MethodName × Nat => Cond.selects q.1.cls q.1 q.1) h)

theorem wb_0 : Cond.initialized "EscapeRoomsLaw" ∈ z_B := z_inB (z_in1 0 rfl) rfl
theorem wb_1 : Cond.initialized "EscapeRooms" ∈ z_B := z_inB (z_in1 1 rfl) rfl
theorem wb_2 : Cond.initialized "java/util/AbstractCollection" ∈ z_B := z_inB (z_in1 2 rfl) rfl
theorem wb_3 : Cond.initialized "java/util/AbstractList" ∈ z_B := z_inB (z_in1 3 rfl) rfl
theorem wb_4 : Cond.initialized "java/util/ArrayList" ∈ z_B := z_inB (z_in1 4 rfl) rfl
theorem wb_5 : Cond.initialized "EscapeRooms$PlanSearch" ∈ z_B := z_inB (z_in1 5 rfl) rfl
theorem wb_6 : Cond.initialized "EscapeRoomsModel" ∈ z_B := z_inB (z_in1 6 rfl) rfl
theorem wb_7 : Cond.initialized "EscapeRooms$Room" ∈ z_B := z_inB (z_in1 7 rfl) rfl
theorem wb_8 : Cond.initialized "jdk/internal/util/ArraysSupport" ∈ z_B := z_inB (z_in1 8 rfl) rfl
theorem wb_9 : Cond.initialized "java/lang/Math" ∈ z_B := z_inB (z_in1 9 rfl) rfl
theorem wb_10 : Cond.initialized "java/util/Arrays" ∈ z_B := z_inB (z_in1 10 rfl) rfl
theorem wb_11 : Cond.initialized "java/lang/System" ∈ z_B := z_inB (z_in1 11 rfl) rfl
theorem wb_12 : Cond.initialized "java/util/Objects" ∈ z_B := z_inB (z_in1 12 rfl) rfl
theorem wb_13 : Cond.initialized "jdk/internal/util/Preconditions" ∈ z_B := z_inB (z_in1 13 rfl) rfl
theorem wb_14 : Cond.initialized "EscapeRooms$Door" ∈ z_B := z_inB (z_in1 14 rfl) rfl
theorem wb_15 : Cond.initialized "EscapeRooms$Key" ∈ z_B := z_inB (z_in1 15 rfl) rfl
theorem wb_16 : Cond.initialized "EscapeRooms$Group" ∈ z_B := z_inB (z_in1 16 rfl) rfl
theorem wb_17 : Cond.initialized "java/lang/Integer" ∈ z_B := z_inB (z_in1 17 rfl) rfl
theorem wb_18 : Cond.classLink "EscapeRoomsLaw" (7 : Nat) "EscapeRooms" ∈ z_B := z_inB (z_in1 18 rfl) rfl
theorem wb_19 : Cond.instantiable "EscapeRooms" (10 : Nat) ∈ z_B := z_inB (z_in1 19 rfl) rfl
theorem wb_20 : Cond.methodLink "EscapeRoomsLaw" (9 : Nat) yX5_init ∈ z_B := z_inB (z_in1 20 rfl) rfl
theorem wb_21 : Cond.instanceMethod yX5_init ∈ z_B := z_inB (z_in1 21 rfl) rfl
theorem wb_22 : Cond.code yX5_init prog_1_method_1_code (1 : Nat) (Option.none : Option Jvm.ClassFile.FieldType) ∈ z_B := z_inB (z_in1 22 rfl) rfl
theorem wb_23 : Cond.methodLink "EscapeRooms" (1 : Nat) objectInit ∈ z_B := z_inB (z_in1 23 rfl) rfl
theorem wb_24 : Cond.instanceMethod objectInit ∈ z_B := z_inB (z_in1 24 rfl) rfl
theorem wb_25 : Cond.code objectInit object_method_1_code (1 : Nat) (Option.none : Option Jvm.ClassFile.FieldType) ∈ z_B := z_inB (z_in1 25 rfl) rfl
theorem wb_26 : Cond.classLink "EscapeRooms" (7 : Nat) "java/util/ArrayList" ∈ z_B := z_inB (z_in1 26 rfl) rfl
theorem wb_27 : Cond.instantiable "java/util/ArrayList" (3 : Nat) ∈ z_B := z_inB (z_in1 27 rfl) rfl
theorem wb_28 : Cond.methodLink "EscapeRooms" (9 : Nat) yJx4a65c_init_da8c8 ∈ z_B := z_inB (z_in1 28 rfl) rfl
theorem wb_29 : Cond.instanceMethod yJx4a65c_init_da8c8 ∈ z_B := z_inB (z_in1 29 rfl) rfl
theorem wb_30 : Cond.code yJx4a65c_init_da8c8 prog_17_method_2_code (1 : Nat) (Option.none : Option Jvm.ClassFile.FieldType) ∈ z_B := z_inB (z_in1 30 rfl) rfl
theorem wb_31 : Cond.methodLink "java/util/ArrayList" (1 : Nat) yJxc12de_init_da8c8 ∈ z_B := z_inB (z_in1 31 rfl) rfl
theorem wb_32 : Cond.instanceMethod yJxc12de_init_da8c8 ∈ z_B := z_inB (z_in1 32 rfl) rfl
theorem wb_33 : Cond.code yJxc12de_init_da8c8 prog_16_method_1_code (1 : Nat) (Option.none : Option Jvm.ClassFile.FieldType) ∈ z_B := z_inB (z_in1 33 rfl) rfl
theorem wb_34 : Cond.methodLink "java/util/AbstractList" (1 : Nat) yJxa1e45_init_da8c8 ∈ z_B := z_inB (z_in1 34 rfl) rfl
theorem wb_35 : Cond.instanceMethod yJxa1e45_init_da8c8 ∈ z_B := z_inB (z_in1 35 rfl) rfl
theorem wb_36 : Cond.code yJxa1e45_init_da8c8 prog_15_method_1_code (1 : Nat) (Option.none : Option Jvm.ClassFile.FieldType) ∈ z_B := z_inB (z_in1 36 rfl) rfl
theorem wb_37 : Cond.methodLink "java/util/AbstractCollection" (1 : Nat) objectInit ∈ z_B := z_inB (z_in1 37 rfl) rfl
theorem wb_38 : Cond.fieldLink "java/util/ArrayList" (39 : Nat) "java/util/ArrayList" "DEFAULTCAPACITY_EMPTY_ELEMENTDATA" "[Ljava/lang/Object;" ∈ z_B := z_inB (z_in1 38 rfl) rfl
theorem wb_40 : Cond.fieldLink "java/util/ArrayList" (9 : Nat) "java/util/ArrayList" "elementData" "[Ljava/lang/Object;" ∈ z_B := z_inB (z_in1 40 rfl) rfl
theorem wb_41 : Cond.fieldLink "java/util/ArrayList" (48 : Nat) "java/util/ArrayList" "size" "I" ∈ z_B := z_inB (z_in1 41 rfl) rfl
theorem wb_42 : Cond.fieldLink "java/util/AbstractList" (7 : Nat) "java/util/AbstractList" "modCount" "I" ∈ z_B := z_inB (z_in1 42 rfl) rfl
theorem wb_43 : Cond.fieldLink "java/util/ArrayList" (63 : Nat) "java/util/ArrayList" "modCount" "I" ∈ z_B := z_inB (z_in1 43 rfl) rfl
theorem wb_44 : Cond.sameField "java/util/ArrayList" "java/util/AbstractList" "modCount" "I" ∈ z_B := z_inB (z_in1 44 rfl) rfl
theorem wb_45 : Cond.lays "java/util/ArrayList" "java/util/ArrayList" "elementData" "[Ljava/lang/Object;" ∈ z_B := z_inB (z_in1 45 rfl) rfl
theorem wb_47 : Cond.lays "java/util/ArrayList" "java/util/ArrayList" "size" "I" ∈ z_B := z_inB (z_in1 47 rfl) rfl
theorem wb_49 : Cond.lays "java/util/ArrayList" "java/util/AbstractList" "modCount" "I" ∈ z_B := z_inB (z_in1 49 rfl) rfl
theorem wb_52 : Cond.classLink "EscapeRooms" (25 : Nat) "EscapeRooms$PlanSearch" ∈ z_B := z_inB (z_in1 52 rfl) rfl
theorem wb_53 : Cond.instantiable "EscapeRooms$PlanSearch" (10 : Nat) ∈ z_B := z_inB (z_in1 53 rfl) rfl
theorem wb_54 : Cond.methodLink "EscapeRooms" (27 : Nat) yX3_init ∈ z_B := z_inB (z_in1 54 rfl) rfl
theorem wb_55 : Cond.instanceMethod yX3_init ∈ z_B := z_inB (z_in1 55 rfl) rfl
theorem wb_56 : Cond.code yX3_init prog_5_method_1_code (1 : Nat) (Option.none : Option Jvm.ClassFile.FieldType) ∈ z_B := z_inB (z_in1 56 rfl) rfl
theorem wb_57 : Cond.methodLink "EscapeRooms$PlanSearch" (3 : Nat) objectInit ∈ z_B := z_inB (z_in1 57 rfl) rfl
theorem wb_58 : Cond.fieldLink "EscapeRooms$PlanSearch" (9 : Nat) "EscapeRooms$PlanSearch" "reached" "[I" ∈ z_B := z_inB (z_in1 58 rfl) rfl
theorem wb_59 : Cond.fieldLink "EscapeRooms$PlanSearch" (15 : Nat) "EscapeRooms$PlanSearch" "sequences" "[J" ∈ z_B := z_inB (z_in1 59 rfl) rfl
theorem wb_60 : Cond.fieldLink "EscapeRooms$PlanSearch" (23 : Nat) "EscapeRooms$PlanSearch" "group" "LEscapeRooms$Group;" ∈ z_B := z_inB (z_in1 60 rfl) rfl
theorem wb_61 : Cond.fieldLink "EscapeRooms$PlanSearch" (27 : Nat) "EscapeRooms$PlanSearch" "doors" "Ljava/util/ArrayList;" ∈ z_B := z_inB (z_in1 61 rfl) rfl
theorem wb_62 : Cond.fieldLink "EscapeRooms$PlanSearch" (31 : Nat) "EscapeRooms$PlanSearch" "keys" "Ljava/util/ArrayList;" ∈ z_B := z_inB (z_in1 62 rfl) rfl
theorem wb_63 : Cond.fieldLink "EscapeRooms$PlanSearch" (38 : Nat) "EscapeRooms$PlanSearch" "openAtFirst" "I" ∈ z_B := z_inB (z_in1 63 rfl) rfl
theorem wb_64 : Cond.fieldLink "EscapeRooms$PlanSearch" (19 : Nat) "EscapeRooms$PlanSearch" "isFound" "Z" ∈ z_B := z_inB (z_in1 64 rfl) rfl
theorem wb_65 : Cond.fieldLink "EscapeRooms" (207 : Nat) "EscapeRooms$PlanSearch" "isFound" "Z" ∈ z_B := z_inB (z_in1 65 rfl) rfl
theorem wb_66 : Cond.fieldLink "EscapeRooms$PlanSearch" (143 : Nat) "EscapeRooms$PlanSearch" "cost" "I" ∈ z_B := z_inB (z_in1 66 rfl) rfl
theorem wb_67 : Cond.fieldLink "EscapeRooms" (216 : Nat) "EscapeRooms$PlanSearch" "cost" "I" ∈ z_B := z_inB (z_in1 67 rfl) rfl
theorem wb_68 : Cond.fieldLink "EscapeRooms$PlanSearch" (74 : Nat) "EscapeRooms$PlanSearch" "doorCount" "I" ∈ z_B := z_inB (z_in1 68 rfl) rfl
theorem wb_69 : Cond.fieldLink "EscapeRooms" (210 : Nat) "EscapeRooms$PlanSearch" "doorCount" "I" ∈ z_B := z_inB (z_in1 69 rfl) rfl
theorem wb_70 : Cond.fieldLink "EscapeRooms$PlanSearch" (70 : Nat) "EscapeRooms$PlanSearch" "sequence" "J" ∈ z_B := z_inB (z_in1 70 rfl) rfl
theorem wb_71 : Cond.laysFinal "EscapeRooms$PlanSearch" "EscapeRooms$PlanSearch" "reached" "[I" ∈ z_B := z_inB (z_in1 71 rfl) rfl
theorem wb_73 : Cond.laysFinal "EscapeRooms$PlanSearch" "EscapeRooms$PlanSearch" "sequences" "[J" ∈ z_B := z_inB (z_in1 73 rfl) rfl
theorem wb_75 : Cond.lays "EscapeRooms$PlanSearch" "EscapeRooms$PlanSearch" "group" "LEscapeRooms$Group;" ∈ z_B := z_inB (z_in1 75 rfl) rfl
theorem wb_77 : Cond.lays "EscapeRooms$PlanSearch" "EscapeRooms$PlanSearch" "doors" "Ljava/util/ArrayList;" ∈ z_B := z_inB (z_in1 77 rfl) rfl
theorem wb_79 : Cond.lays "EscapeRooms$PlanSearch" "EscapeRooms$PlanSearch" "keys" "Ljava/util/ArrayList;" ∈ z_B := z_inB (z_in1 79 rfl) rfl
theorem wb_81 : Cond.lays "EscapeRooms$PlanSearch" "EscapeRooms$PlanSearch" "openAtFirst" "I" ∈ z_B := z_inB (z_in1 81 rfl) rfl
theorem wb_83 : Cond.lays "EscapeRooms$PlanSearch" "EscapeRooms$PlanSearch" "isFound" "Z" ∈ z_B := z_inB (z_in1 83 rfl) rfl
theorem wb_85 : Cond.lays "EscapeRooms$PlanSearch" "EscapeRooms$PlanSearch" "cost" "I" ∈ z_B := z_inB (z_in1 85 rfl) rfl
theorem wb_87 : Cond.lays "EscapeRooms$PlanSearch" "EscapeRooms$PlanSearch" "doorCount" "I" ∈ z_B := z_inB (z_in1 87 rfl) rfl
theorem wb_89 : Cond.lays "EscapeRooms$PlanSearch" "EscapeRooms$PlanSearch" "sequence" "J" ∈ z_B := z_inB (z_in1 89 rfl) rfl
theorem wb_92 : Cond.arrayClass Jvm.ClassFile.FieldType.int ∈ z_B := z_inB (z_in1 92 rfl) rfl
theorem wb_93 : Cond.arrayClass Jvm.ClassFile.FieldType.long ∈ z_B := z_inB (z_in1 93 rfl) rfl
theorem wb_94 : Cond.fieldLink "EscapeRooms" (10 : Nat) "EscapeRooms" "rooms" "Ljava/util/ArrayList;" ∈ z_B := z_inB (z_in1 94 rfl) rfl
theorem wb_95 : Cond.fieldLink "EscapeRooms" (16 : Nat) "EscapeRooms" "doors" "Ljava/util/ArrayList;" ∈ z_B := z_inB (z_in1 95 rfl) rfl
theorem wb_96 : Cond.fieldLink "EscapeRooms" (19 : Nat) "EscapeRooms" "keys" "Ljava/util/ArrayList;" ∈ z_B := z_inB (z_in1 96 rfl) rfl
theorem wb_97 : Cond.fieldLink "EscapeRooms" (22 : Nat) "EscapeRooms" "groups" "Ljava/util/ArrayList;" ∈ z_B := z_inB (z_in1 97 rfl) rfl
theorem wb_98 : Cond.fieldLink "EscapeRooms" (28 : Nat) "EscapeRooms" "search" "LEscapeRooms$PlanSearch;" ∈ z_B := z_inB (z_in1 98 rfl) rfl
theorem wb_99 : Cond.fieldLink "EscapeRooms" (32 : Nat) "EscapeRooms" "exit" "LEscapeRooms$Room;" ∈ z_B := z_inB (z_in1 99 rfl) rfl
theorem wb_100 : Cond.fieldLink "EscapeRooms" (86 : Nat) "EscapeRooms" "lockCount" "I" ∈ z_B := z_inB (z_in1 100 rfl) rfl
theorem wb_101 : Cond.fieldLink "EscapeRooms" (36 : Nat) "EscapeRooms" "hintBase" "I" ∈ z_B := z_inB (z_in1 101 rfl) rfl
theorem wb_102 : Cond.fieldLink "EscapeRooms" (40 : Nat) "EscapeRooms" "hintStep" "I" ∈ z_B := z_inB (z_in1 102 rfl) rfl
theorem wb_103 : Cond.fieldLink "EscapeRooms" (200 : Nat) "EscapeRooms" "hintsTaken" "I" ∈ z_B := z_inB (z_in1 103 rfl) rfl
theorem wb_104 : Cond.laysFinal "EscapeRooms" "EscapeRooms" "rooms" "Ljava/util/ArrayList;" ∈ z_B := z_inB (z_in1 104 rfl) rfl
theorem wb_106 : Cond.laysFinal "EscapeRooms" "EscapeRooms" "doors" "Ljava/util/ArrayList;" ∈ z_B := z_inB (z_in1 106 rfl) rfl
theorem wb_108 : Cond.laysFinal "EscapeRooms" "EscapeRooms" "keys" "Ljava/util/ArrayList;" ∈ z_B := z_inB (z_in1 108 rfl) rfl
theorem wb_110 : Cond.laysFinal "EscapeRooms" "EscapeRooms" "groups" "Ljava/util/ArrayList;" ∈ z_B := z_inB (z_in1 110 rfl) rfl
theorem wb_112 : Cond.laysFinal "EscapeRooms" "EscapeRooms" "search" "LEscapeRooms$PlanSearch;" ∈ z_B := z_inB (z_in1 112 rfl) rfl
theorem wb_114 : Cond.lays "EscapeRooms" "EscapeRooms" "exit" "LEscapeRooms$Room;" ∈ z_B := z_inB (z_in1 114 rfl) rfl
theorem wb_116 : Cond.lays "EscapeRooms" "EscapeRooms" "lockCount" "I" ∈ z_B := z_inB (z_in1 116 rfl) rfl
theorem wb_118 : Cond.lays "EscapeRooms" "EscapeRooms" "hintBase" "I" ∈ z_B := z_inB (z_in1 118 rfl) rfl
theorem wb_120 : Cond.lays "EscapeRooms" "EscapeRooms" "hintStep" "I" ∈ z_B := z_inB (z_in1 120 rfl) rfl
theorem wb_122 : Cond.lays "EscapeRooms" "EscapeRooms" "hintsTaken" "I" ∈ z_B := z_inB (z_in1 122 rfl) rfl
theorem wb_125 : Cond.methodLink "EscapeRoomsLaw" (13 : Nat) yX5_addRoom ∈ z_B := z_inB (z_in1 125 rfl) rfl
theorem wb_126 : Cond.instanceMethod yX5_addRoom ∈ z_B := z_inB (z_in1 126 rfl) rfl
theorem wb_127 : Cond.selects "EscapeRooms" yX5_addRoom yX5_addRoom ∈ z_B := z_inB (z_in1 127 rfl) rfl
theorem wb_128 : Cond.code yX5_addRoom prog_1_method_2_code (2 : Nat) (Option.some Jvm.ClassFile.FieldType.int) ∈ z_B := z_inB (z_in1 128 rfl) rfl
theorem wb_129 : Cond.methodLink "EscapeRooms" (43 : Nat) yJx4a65c_size_8abf5 ∈ z_B := z_inB (z_in1 129 rfl) rfl
theorem wb_130 : Cond.instanceMethod yJx4a65c_size_8abf5 ∈ z_B := z_inB (z_in1 130 rfl) rfl
theorem wb_131 : Cond.selects "java/util/ArrayList" yJx4a65c_size_8abf5 yJx4a65c_size_8abf5 ∈ z_B := z_inB (z_in1 131 rfl) rfl
theorem wb_132 : Cond.code yJx4a65c_size_8abf5 prog_17_method_8_code (1 : Nat) (Option.some Jvm.ClassFile.FieldType.int) ∈ z_B := z_inB (z_in1 132 rfl) rfl
theorem wb_133 : Cond.classLink "EscapeRooms" (47 : Nat) "EscapeRooms$Room" ∈ z_B := z_inB (z_in1 133 rfl) rfl
theorem wb_134 : Cond.instantiable "EscapeRooms$Room" (3 : Nat) ∈ z_B := z_inB (z_in1 134 rfl) rfl
theorem wb_135 : Cond.methodLink "EscapeRooms" (49 : Nat) yX4_init ∈ z_B := z_inB (z_in1 135 rfl) rfl
theorem wb_136 : Cond.instanceMethod yX4_init ∈ z_B := z_inB (z_in1 136 rfl) rfl
theorem wb_137 : Cond.code yX4_init prog_6_method_1_code (2 : Nat) (Option.none : Option Jvm.ClassFile.FieldType) ∈ z_B := z_inB (z_in1 137 rfl) rfl
theorem wb_138 : Cond.methodLink "EscapeRooms$Room" (1 : Nat) objectInit ∈ z_B := z_inB (z_in1 138 rfl) rfl
theorem wb_139 : Cond.fieldLink "EscapeRooms$Room" (7 : Nat) "EscapeRooms$Room" "number" "I" ∈ z_B := z_inB (z_in1 139 rfl) rfl
theorem wb_140 : Cond.fieldLink "EscapeRooms" (240 : Nat) "EscapeRooms$Room" "number" "I" ∈ z_B := z_inB (z_in1 140 rfl) rfl
theorem wb_141 : Cond.fieldLink "EscapeRooms$Room" (13 : Nat) "EscapeRooms$Room" "bit" "I" ∈ z_B := z_inB (z_in1 141 rfl) rfl
theorem wb_142 : Cond.fieldLink "EscapeRooms$Door" (25 : Nat) "EscapeRooms$Room" "bit" "I" ∈ z_B := z_inB (z_in1 142 rfl) rfl
theorem wb_143 : Cond.fieldLink "EscapeRooms$PlanSearch" (54 : Nat) "EscapeRooms$Room" "bit" "I" ∈ z_B := z_inB (z_in1 143 rfl) rfl
theorem wb_144 : Cond.fieldLink "EscapeRooms$Key" (33 : Nat) "EscapeRooms$Room" "bit" "I" ∈ z_B := z_inB (z_in1 144 rfl) rfl
theorem wb_145 : Cond.fieldLink "EscapeRooms" (226 : Nat) "EscapeRooms$Room" "bit" "I" ∈ z_B := z_inB (z_in1 145 rfl) rfl
theorem wb_146 : Cond.fieldLink "EscapeRooms$Door" (55 : Nat) "EscapeRooms$Room" "arrival" "I" ∈ z_B := z_inB (z_in1 146 rfl) rfl
theorem wb_147 : Cond.fieldLink "EscapeRooms" (222 : Nat) "EscapeRooms$Room" "arrival" "I" ∈ z_B := z_inB (z_in1 147 rfl) rfl
theorem wb_148 : Cond.laysFinal "EscapeRooms$Room" "EscapeRooms$Room" "number" "I" ∈ z_B := z_inB (z_in1 148 rfl) rfl
theorem wb_150 : Cond.laysFinal "EscapeRooms$Room" "EscapeRooms$Room" "bit" "I" ∈ z_B := z_inB (z_in1 150 rfl) rfl
theorem wb_152 : Cond.lays "EscapeRooms$Room" "EscapeRooms$Room" "arrival" "I" ∈ z_B := z_inB (z_in1 152 rfl) rfl
theorem wb_155 : Cond.methodLink "EscapeRooms" (52 : Nat) yJx4a65c_add_9ea2d ∈ z_B := z_inB (z_in1 155 rfl) rfl
theorem wb_156 : Cond.instanceMethod yJx4a65c_add_9ea2d ∈ z_B := z_inB (z_in1 156 rfl) rfl
theorem wb_157 : Cond.selects "java/util/ArrayList" yJx4a65c_add_9ea2d yJx4a65c_add_9ea2d ∈ z_B := z_inB (z_in1 157 rfl) rfl
theorem wb_158 : Cond.code yJx4a65c_add_9ea2d prog_17_method_25_code (2 : Nat) (Option.some Jvm.ClassFile.FieldType.boolean) ∈ z_B := z_inB (z_in1 158 rfl) rfl
theorem wb_159 : Cond.methodLink "java/util/ArrayList" (131 : Nat) yJx4a65c_add_72be8 ∈ z_B := z_inB (z_in1 159 rfl) rfl
theorem wb_161 : Cond.instanceMethod yJx4a65c_add_72be8 ∈ z_B := z_inB (z_in1 161 rfl) rfl
theorem wb_162 : Cond.code yJx4a65c_add_72be8 prog_17_method_24_code (4 : Nat) (Option.none : Option Jvm.ClassFile.FieldType) ∈ z_B := z_inB (z_in1 162 rfl) rfl
theorem wb_163 : Cond.methodLink "java/util/ArrayList" (129 : Nat) yJx4a65c_grow_d5877 ∈ z_B := z_inB (z_in1 163 rfl) rfl
theorem wb_165 : Cond.instanceMethod yJx4a65c_grow_d5877 ∈ z_B := z_inB (z_in1 165 rfl) rfl
theorem wb_166 : Cond.code yJx4a65c_grow_d5877 prog_17_method_7_code (1 : Nat) (Option.some (Jvm.ClassFile.FieldType.array (Jvm.ClassFile.FieldType.object "java/lang/Object"))) ∈ z_B := z_inB (z_in1 166 rfl) rfl
theorem wb_167 : Cond.methodLink "java/util/ArrayList" (69 : Nat) yJx4a65c_grow_92f84 ∈ z_B := z_inB (z_in1 167 rfl) rfl
theorem wb_169 : Cond.instanceMethod yJx4a65c_grow_92f84 ∈ z_B := z_inB (z_in1 169 rfl) rfl
theorem wb_170 : Cond.code yJx4a65c_grow_92f84 prog_17_method_6_code (4 : Nat) (Option.some (Jvm.ClassFile.FieldType.array (Jvm.ClassFile.FieldType.object "java/lang/Object"))) ∈ z_B := z_inB (z_in1 170 rfl) rfl
theorem wb_171 : Cond.methodLink "java/util/ArrayList" (73 : Nat) yJ8_newLength_cabcc ∈ z_B := z_inB (z_in1 171 rfl) rfl
theorem wb_172 : Cond.static yJ8_newLength_cabcc ∈ z_B := z_inB (z_in1 172 rfl) rfl
theorem wb_173 : Cond.code yJ8_newLength_cabcc prog_24_method_27_code (4 : Nat) (Option.some Jvm.ClassFile.FieldType.int) ∈ z_B := z_inB (z_in1 173 rfl) rfl
theorem wb_174 : Cond.methodLink "jdk/internal/util/ArraysSupport" (194 : Nat) Lib.Math.max.name ∈ z_B := z_inB (z_in1 174 rfl) rfl
theorem wb_175 : Cond.static Lib.Math.max.name ∈ z_B := z_inB (z_in1 175 rfl) rfl
theorem wb_176 : Cond.code Lib.Math.max.name prog_13_method_65_code (2 : Nat) (Option.some Jvm.ClassFile.FieldType.int) ∈ z_B := z_inB (z_in1 176 rfl) rfl
theorem wb_177 : Cond.constant "jdk/internal/util/ArraysSupport" (200 : Nat) (2147483639 : Int32) ∈ z_B := z_inB (z_in1 177 rfl) rfl
theorem wb_178 : Cond.methodLink "jdk/internal/util/ArraysSupport" (201 : Nat) yJ8_hugeLength_7cf53 ∈ z_B := z_inB (z_in1 178 rfl) rfl
theorem wb_179 : Cond.static yJ8_hugeLength_7cf53 ∈ z_B := z_inB (z_in1 179 rfl) rfl
theorem wb_180 : Cond.code yJ8_hugeLength_7cf53 prog_24_method_28_code (3 : Nat) (Option.some Jvm.ClassFile.FieldType.int) ∈ z_B := z_inB (z_in1 180 rfl) rfl
theorem wb_181 : Cond.methodLink "java/util/ArrayList" (66 : Nat) yJ7_copyOf_1904c ∈ z_B := z_inB (z_in1 181 rfl) rfl
theorem wb_182 : Cond.static yJ7_copyOf_1904c ∈ z_B := z_inB (z_in1 182 rfl) rfl
theorem wb_183 : Cond.code yJ7_copyOf_1904c prog_18_method_119_code (2 : Nat) (Option.some (Jvm.ClassFile.FieldType.array (Jvm.ClassFile.FieldType.object "java/lang/Object"))) ∈ z_B := z_inB (z_in1 183 rfl) rfl
theorem wb_184 : Cond.methodLink "java/util/Arrays" (86 : Nat) ⟨"java/lang/Object", "getClass", "()Ljava/lang/Class;"⟩ ∈ z_B := z_inB (z_in1 184 rfl) rfl
theorem wb_185 : Cond.instanceMethod ⟨"java/lang/Object", "getClass", "()Ljava/lang/Class;"⟩ ∈ z_B := z_inB (z_in1 185 rfl) rfl
theorem wb_187 : Cond.selects "EscapeRooms" ⟨"java/lang/Object", "getClass", "()Ljava/lang/Class;"⟩ ⟨"java/lang/Object", "getClass", "()Ljava/lang/Class;"⟩ ∈ z_B := z_inB (z_in1 187 rfl) rfl
theorem wb_188 : Cond.selects "EscapeRooms$Door" ⟨"java/lang/Object", "getClass", "()Ljava/lang/Class;"⟩ ⟨"java/lang/Object", "getClass", "()Ljava/lang/Class;"⟩ ∈ z_B := z_inB (z_in1 188 rfl) rfl
theorem wb_189 : Cond.selects "EscapeRooms$Group" ⟨"java/lang/Object", "getClass", "()Ljava/lang/Class;"⟩ ⟨"java/lang/Object", "getClass", "()Ljava/lang/Class;"⟩ ∈ z_B := z_inB (z_in1 189 rfl) rfl
theorem wb_190 : Cond.selects "EscapeRooms$Key" ⟨"java/lang/Object", "getClass", "()Ljava/lang/Class;"⟩ ⟨"java/lang/Object", "getClass", "()Ljava/lang/Class;"⟩ ∈ z_B := z_inB (z_in1 190 rfl) rfl
theorem wb_191 : Cond.selects "EscapeRooms$PlanSearch" ⟨"java/lang/Object", "getClass", "()Ljava/lang/Class;"⟩ ⟨"java/lang/Object", "getClass", "()Ljava/lang/Class;"⟩ ∈ z_B := z_inB (z_in1 191 rfl) rfl
theorem wb_192 : Cond.selects "EscapeRooms$Room" ⟨"java/lang/Object", "getClass", "()Ljava/lang/Class;"⟩ ⟨"java/lang/Object", "getClass", "()Ljava/lang/Class;"⟩ ∈ z_B := z_inB (z_in1 192 rfl) rfl
theorem wb_193 : Cond.selects "EscapeRoomsModel" ⟨"java/lang/Object", "getClass", "()Ljava/lang/Class;"⟩ ⟨"java/lang/Object", "getClass", "()Ljava/lang/Class;"⟩ ∈ z_B := z_inB (z_in1 193 rfl) rfl
theorem wb_194 : Cond.selects "java/util/ArrayList" ⟨"java/lang/Object", "getClass", "()Ljava/lang/Class;"⟩ ⟨"java/lang/Object", "getClass", "()Ljava/lang/Class;"⟩ ∈ z_B := z_inB (z_in1 194 rfl) rfl
theorem wb_195 : Cond.native ⟨"java/lang/Object", "getClass", "()Ljava/lang/Class;"⟩ ∈ z_B := z_inB (z_in1 195 rfl) rfl
theorem wb_196 : Cond.methodLink "java/util/Arrays" (300 : Nat) yJ7_copyOf_6403c ∈ z_B := z_inB (z_in1 196 rfl) rfl
theorem wb_197 : Cond.static yJ7_copyOf_6403c ∈ z_B := z_inB (z_in1 197 rfl) rfl
theorem wb_198 : Cond.code yJ7_copyOf_6403c prog_18_method_120_code (4 : Nat) (Option.some (Jvm.ClassFile.FieldType.array (Jvm.ClassFile.FieldType.object "java/lang/Object"))) ∈ z_B := z_inB (z_in1 198 rfl) rfl
theorem wb_199 : Cond.classLink "java/util/Arrays" (110 : Nat) "[Ljava/lang/Object;" ∈ z_B := z_inB (z_in1 199 rfl) rfl
theorem wb_201 : Cond.classLink "java/util/Arrays" (2 : Nat) "java/lang/Object" ∈ z_B := z_inB (z_in1 201 rfl) rfl
theorem wb_202 : Cond.methodLink "java/util/Arrays" (304 : Nat) Lib.Math.min.name ∈ z_B := z_inB (z_in1 202 rfl) rfl
theorem wb_203 : Cond.static Lib.Math.min.name ∈ z_B := z_inB (z_in1 203 rfl) rfl
theorem wb_204 : Cond.code Lib.Math.min.name prog_13_method_69_code (2 : Nat) (Option.some Jvm.ClassFile.FieldType.int) ∈ z_B := z_inB (z_in1 204 rfl) rfl
theorem wb_205 : Cond.methodLink "java/util/Arrays" (150 : Nat) arraycopyName ∈ z_B := z_inB (z_in1 205 rfl) rfl
theorem wb_206 : Cond.static arraycopyName ∈ z_B := z_inB (z_in1 206 rfl) rfl
theorem wb_207 : Cond.native arraycopyName ∈ z_B := z_inB (z_in1 207 rfl) rfl
theorem wb_208 : Cond.methodLink "java/util/ArrayList" (79 : Nat) Lib.Math.max.name ∈ z_B := z_inB (z_in1 208 rfl) rfl
theorem wb_209 : Cond.classLink "java/util/ArrayList" (7 : Nat) "java/lang/Object" ∈ z_B := z_inB (z_in1 209 rfl) rfl
theorem wb_210 : Cond.methodLink "EscapeRoomsLaw" (18 : Nat) yX5_setExit ∈ z_B := z_inB (z_in1 210 rfl) rfl
theorem wb_211 : Cond.instanceMethod yX5_setExit ∈ z_B := z_inB (z_in1 211 rfl) rfl
theorem wb_212 : Cond.selects "EscapeRooms" yX5_setExit yX5_setExit ∈ z_B := z_inB (z_in1 212 rfl) rfl
theorem wb_213 : Cond.code yX5_setExit prog_1_method_3_code (3 : Nat) (Option.some Jvm.ClassFile.FieldType.int) ∈ z_B := z_inB (z_in1 213 rfl) rfl
theorem wb_214 : Cond.methodLink "EscapeRooms" (56 : Nat) yX5_isRoom ∈ z_B := z_inB (z_in1 214 rfl) rfl
theorem wb_216 : Cond.instanceMethod yX5_isRoom ∈ z_B := z_inB (z_in1 216 rfl) rfl
theorem wb_217 : Cond.code yX5_isRoom prog_1_method_29_code (2 : Nat) (Option.some Jvm.ClassFile.FieldType.boolean) ∈ z_B := z_inB (z_in1 217 rfl) rfl
theorem wb_218 : Cond.methodLink "EscapeRooms" (60 : Nat) yX5_exitNumber ∈ z_B := z_inB (z_in1 218 rfl) rfl
theorem wb_220 : Cond.instanceMethod yX5_exitNumber ∈ z_B := z_inB (z_in1 220 rfl) rfl
theorem wb_221 : Cond.code yX5_exitNumber prog_1_method_35_code (1 : Nat) (Option.some Jvm.ClassFile.FieldType.int) ∈ z_B := z_inB (z_in1 221 rfl) rfl
theorem wb_222 : Cond.methodLink "EscapeRooms" (63 : Nat) yJx4a65c_get_915e3 ∈ z_B := z_inB (z_in1 222 rfl) rfl
theorem wb_223 : Cond.instanceMethod yJx4a65c_get_915e3 ∈ z_B := z_inB (z_in1 223 rfl) rfl
theorem wb_224 : Cond.selects "java/util/ArrayList" yJx4a65c_get_915e3 yJx4a65c_get_915e3 ∈ z_B := z_inB (z_in1 224 rfl) rfl
theorem wb_225 : Cond.code yJx4a65c_get_915e3 prog_17_method_20_code (2 : Nat) (Option.some (Jvm.ClassFile.FieldType.object "java/lang/Object")) ∈ z_B := z_inB (z_in1 225 rfl) rfl
theorem wb_226 : Cond.methodLink "java/util/ArrayList" (118 : Nat) yJ15_checkIndex_7cf53 ∈ z_B := z_inB (z_in1 226 rfl) rfl
theorem wb_227 : Cond.static yJ15_checkIndex_7cf53 ∈ z_B := z_inB (z_in1 227 rfl) rfl
theorem wb_228 : Cond.code yJ15_checkIndex_7cf53 prog_21_method_17_code (2 : Nat) (Option.some Jvm.ClassFile.FieldType.int) ∈ z_B := z_inB (z_in1 228 rfl) rfl
theorem wb_229 : Cond.methodLink "java/util/Objects" (105 : Nat) yJ3_checkIndex_8e157 ∈ z_B := z_inB (z_in1 229 rfl) rfl
theorem wb_230 : Cond.static yJ3_checkIndex_8e157 ∈ z_B := z_inB (z_in1 230 rfl) rfl
theorem wb_231 : Cond.code yJ3_checkIndex_8e157 prog_25_method_11_code (3 : Nat) (Option.some Jvm.ClassFile.FieldType.int) ∈ z_B := z_inB (z_in1 231 rfl) rfl
theorem wb_232 : Cond.methodLink "java/util/ArrayList" (123 : Nat) yJx4a65c_elementData_915e3 ∈ z_B := z_inB (z_in1 232 rfl) rfl
theorem wb_233 : Cond.instanceMethod yJx4a65c_elementData_915e3 ∈ z_B := z_inB (z_in1 233 rfl) rfl
theorem wb_234 : Cond.selects "java/util/ArrayList" yJx4a65c_elementData_915e3 yJx4a65c_elementData_915e3 ∈ z_B := z_inB (z_in1 234 rfl) rfl
theorem wb_235 : Cond.code yJx4a65c_elementData_915e3 prog_17_method_18_code (2 : Nat) (Option.some (Jvm.ClassFile.FieldType.object "java/lang/Object")) ∈ z_B := z_inB (z_in1 235 rfl) rfl
theorem wb_236 : Cond.methodLink "EscapeRoomsLaw" (23 : Nat) yX5_addDoor ∈ z_B := z_inB (z_in1 236 rfl) rfl
theorem wb_237 : Cond.instanceMethod yX5_addDoor ∈ z_B := z_inB (z_in1 237 rfl) rfl
theorem wb_238 : Cond.selects "EscapeRooms" yX5_addDoor yX5_addDoor ∈ z_B := z_inB (z_in1 238 rfl) rfl
theorem wb_239 : Cond.code yX5_addDoor prog_1_method_4_code (5 : Nat) (Option.some Jvm.ClassFile.FieldType.int) ∈ z_B := z_inB (z_in1 239 rfl) rfl
theorem wb_240 : Cond.methodLink "EscapeRooms" (67 : Nat) yX5_isBetween ∈ z_B := z_inB (z_in2 0 rfl) rfl
theorem wb_241 : Cond.static yX5_isBetween ∈ z_B := z_inB (z_in2 1 rfl) rfl
theorem wb_242 : Cond.code yX5_isBetween prog_1_method_27_code (3 : Nat) (Option.some Jvm.ClassFile.FieldType.boolean) ∈ z_B := z_inB (z_in2 2 rfl) rfl
theorem wb_243 : Cond.classLink "EscapeRooms" (71 : Nat) "EscapeRooms$Door" ∈ z_B := z_inB (z_in2 3 rfl) rfl
theorem wb_244 : Cond.instantiable "EscapeRooms$Door" (10 : Nat) ∈ z_B := z_inB (z_in2 4 rfl) rfl
theorem wb_245 : Cond.methodLink "EscapeRooms" (73 : Nat) yX5_lowerRoom ∈ z_B := z_inB (z_in2 5 rfl) rfl
theorem wb_247 : Cond.instanceMethod yX5_lowerRoom ∈ z_B := z_inB (z_in2 7 rfl) rfl
theorem wb_248 : Cond.code yX5_lowerRoom prog_1_method_33_code (3 : Nat) (Option.some (Jvm.ClassFile.FieldType.object "EscapeRooms$Room")) ∈ z_B := z_inB (z_in2 8 rfl) rfl
theorem wb_249 : Cond.methodLink "EscapeRooms" (276 : Nat) Lib.Math.min.name ∈ z_B := z_inB (z_in2 9 rfl) rfl
theorem wb_250 : Cond.methodLink "EscapeRooms" (77 : Nat) yX5_higherRoom ∈ z_B := z_inB (z_in2 10 rfl) rfl
theorem wb_252 : Cond.instanceMethod yX5_higherRoom ∈ z_B := z_inB (z_in2 12 rfl) rfl
theorem wb_253 : Cond.code yX5_higherRoom prog_1_method_34_code (3 : Nat) (Option.some (Jvm.ClassFile.FieldType.object "EscapeRooms$Room")) ∈ z_B := z_inB (z_in2 13 rfl) rfl
theorem wb_254 : Cond.methodLink "EscapeRooms" (166 : Nat) Lib.Math.max.name ∈ z_B := z_inB (z_in2 14 rfl) rfl
theorem wb_255 : Cond.methodLink "EscapeRooms" (80 : Nat) yX0_init ∈ z_B := z_inB (z_in2 15 rfl) rfl
theorem wb_256 : Cond.instanceMethod yX0_init ∈ z_B := z_inB (z_in2 16 rfl) rfl
theorem wb_257 : Cond.code yX0_init prog_2_method_1_code (5 : Nat) (Option.none : Option Jvm.ClassFile.FieldType) ∈ z_B := z_inB (z_in2 17 rfl) rfl
theorem wb_258 : Cond.methodLink "EscapeRooms$Door" (3 : Nat) objectInit ∈ z_B := z_inB (z_in2 18 rfl) rfl
theorem wb_259 : Cond.fieldLink "EscapeRooms$Door" (9 : Nat) "EscapeRooms$Door" "number" "I" ∈ z_B := z_inB (z_in2 19 rfl) rfl
theorem wb_260 : Cond.fieldLink "EscapeRooms$PlanSearch" (116 : Nat) "EscapeRooms$Door" "number" "I" ∈ z_B := z_inB (z_in2 20 rfl) rfl
theorem wb_261 : Cond.fieldLink "EscapeRooms" (258 : Nat) "EscapeRooms$Door" "number" "I" ∈ z_B := z_inB (z_in2 21 rfl) rfl
theorem wb_262 : Cond.fieldLink "EscapeRooms$Door" (15 : Nat) "EscapeRooms$Door" "low" "LEscapeRooms$Room;" ∈ z_B := z_inB (z_in2 22 rfl) rfl
theorem wb_263 : Cond.fieldLink "EscapeRooms" (237 : Nat) "EscapeRooms$Door" "low" "LEscapeRooms$Room;" ∈ z_B := z_inB (z_in2 23 rfl) rfl
theorem wb_264 : Cond.fieldLink "EscapeRooms$Door" (19 : Nat) "EscapeRooms$Door" "high" "LEscapeRooms$Room;" ∈ z_B := z_inB (z_in2 24 rfl) rfl
theorem wb_265 : Cond.fieldLink "EscapeRooms" (241 : Nat) "EscapeRooms$Door" "high" "LEscapeRooms$Room;" ∈ z_B := z_inB (z_in2 25 rfl) rfl
theorem wb_266 : Cond.fieldLink "EscapeRooms$Door" (22 : Nat) "EscapeRooms$Door" "walkTime" "I" ∈ z_B := z_inB (z_in2 26 rfl) rfl
theorem wb_267 : Cond.fieldLink "EscapeRooms" (244 : Nat) "EscapeRooms$Door" "walkTime" "I" ∈ z_B := z_inB (z_in2 27 rfl) rfl
theorem wb_268 : Cond.fieldLink "EscapeRooms$Door" (30 : Nat) "EscapeRooms$Door" "roomBits" "I" ∈ z_B := z_inB (z_in2 28 rfl) rfl
theorem wb_269 : Cond.fieldLink "EscapeRooms$PlanSearch" (113 : Nat) "EscapeRooms$Door" "roomBits" "I" ∈ z_B := z_inB (z_in2 29 rfl) rfl
theorem wb_270 : Cond.fieldLink "EscapeRooms" (288 : Nat) "EscapeRooms$Door" "roomBits" "I" ∈ z_B := z_inB (z_in2 30 rfl) rfl
theorem wb_271 : Cond.fieldLink "EscapeRooms$Door" (33 : Nat) "EscapeRooms$Door" "color" "I" ∈ z_B := z_inB (z_in2 31 rfl) rfl
theorem wb_272 : Cond.fieldLink "EscapeRooms$PlanSearch" (103 : Nat) "EscapeRooms$Door" "color" "I" ∈ z_B := z_inB (z_in2 32 rfl) rfl
theorem wb_273 : Cond.fieldLink "EscapeRooms" (139 : Nat) "EscapeRooms$Door" "color" "I" ∈ z_B := z_inB (z_in2 33 rfl) rfl
theorem wb_274 : Cond.fieldLink "EscapeRooms$Door" (43 : Nat) "EscapeRooms$Door" "unlockTime" "I" ∈ z_B := z_inB (z_in2 34 rfl) rfl
theorem wb_275 : Cond.fieldLink "EscapeRooms" (146 : Nat) "EscapeRooms$Door" "unlockTime" "I" ∈ z_B := z_inB (z_in2 35 rfl) rfl
theorem wb_276 : Cond.fieldLink "EscapeRooms$PlanSearch" (146 : Nat) "EscapeRooms$Door" "unlockTime" "I" ∈ z_B := z_inB (z_in2 36 rfl) rfl
theorem wb_277 : Cond.fieldLink "EscapeRooms$Door" (40 : Nat) "EscapeRooms$Door" "lockBit" "I" ∈ z_B := z_inB (z_in2 37 rfl) rfl
theorem wb_278 : Cond.fieldLink "EscapeRooms$PlanSearch" (110 : Nat) "EscapeRooms$Door" "lockBit" "I" ∈ z_B := z_inB (z_in2 38 rfl) rfl
theorem wb_279 : Cond.fieldLink "EscapeRooms" (279 : Nat) "EscapeRooms$Door" "lockBit" "I" ∈ z_B := z_inB (z_in2 39 rfl) rfl
theorem wb_280 : Cond.fieldLink "EscapeRooms$Door" (36 : Nat) "EscapeRooms$Door" "isOpen" "Z" ∈ z_B := z_inB (z_in2 40 rfl) rfl
theorem wb_281 : Cond.fieldLink "EscapeRooms" (124 : Nat) "EscapeRooms$Door" "isOpen" "Z" ∈ z_B := z_inB (z_in2 41 rfl) rfl
theorem wb_282 : Cond.fieldLink "EscapeRooms$Door" (46 : Nat) "EscapeRooms$Door" "openTime" "I" ∈ z_B := z_inB (z_in2 42 rfl) rfl
theorem wb_283 : Cond.fieldLink "EscapeRooms" (247 : Nat) "EscapeRooms$Door" "openTime" "I" ∈ z_B := z_inB (z_in2 43 rfl) rfl
theorem wb_284 : Cond.laysFinal "EscapeRooms$Door" "EscapeRooms$Door" "number" "I" ∈ z_B := z_inB (z_in2 44 rfl) rfl
theorem wb_286 : Cond.laysFinal "EscapeRooms$Door" "EscapeRooms$Door" "low" "LEscapeRooms$Room;" ∈ z_B := z_inB (z_in2 46 rfl) rfl
theorem wb_288 : Cond.laysFinal "EscapeRooms$Door" "EscapeRooms$Door" "high" "LEscapeRooms$Room;" ∈ z_B := z_inB (z_in2 48 rfl) rfl
theorem wb_290 : Cond.laysFinal "EscapeRooms$Door" "EscapeRooms$Door" "walkTime" "I" ∈ z_B := z_inB (z_in2 50 rfl) rfl
theorem wb_292 : Cond.laysFinal "EscapeRooms$Door" "EscapeRooms$Door" "roomBits" "I" ∈ z_B := z_inB (z_in2 52 rfl) rfl
theorem wb_294 : Cond.lays "EscapeRooms$Door" "EscapeRooms$Door" "color" "I" ∈ z_B := z_inB (z_in2 54 rfl) rfl
theorem wb_296 : Cond.lays "EscapeRooms$Door" "EscapeRooms$Door" "unlockTime" "I" ∈ z_B := z_inB (z_in2 56 rfl) rfl
theorem wb_298 : Cond.lays "EscapeRooms$Door" "EscapeRooms$Door" "lockBit" "I" ∈ z_B := z_inB (z_in2 58 rfl) rfl
theorem wb_300 : Cond.lays "EscapeRooms$Door" "EscapeRooms$Door" "isOpen" "Z" ∈ z_B := z_inB (z_in2 60 rfl) rfl
theorem wb_302 : Cond.lays "EscapeRooms$Door" "EscapeRooms$Door" "openTime" "I" ∈ z_B := z_inB (z_in2 62 rfl) rfl
theorem wb_305 : Cond.methodLink "EscapeRoomsLaw" (28 : Nat) yX5_addLock ∈ z_B := z_inB (z_in2 65 rfl) rfl
theorem wb_306 : Cond.instanceMethod yX5_addLock ∈ z_B := z_inB (z_in2 66 rfl) rfl
theorem wb_307 : Cond.selects "EscapeRooms" yX5_addLock yX5_addLock ∈ z_B := z_inB (z_in2 67 rfl) rfl
theorem wb_308 : Cond.code yX5_addLock prog_1_method_5_code (8 : Nat) (Option.some Jvm.ClassFile.FieldType.int) ∈ z_B := z_inB (z_in2 68 rfl) rfl
theorem wb_309 : Cond.methodLink "EscapeRooms" (83 : Nat) yX5_isColor ∈ z_B := z_inB (z_in2 69 rfl) rfl
theorem wb_310 : Cond.static yX5_isColor ∈ z_B := z_inB (z_in2 70 rfl) rfl
theorem wb_311 : Cond.code yX5_isColor prog_1_method_28_code (1 : Nat) (Option.some Jvm.ClassFile.FieldType.boolean) ∈ z_B := z_inB (z_in2 71 rfl) rfl
theorem wb_312 : Cond.methodLink "EscapeRooms" (89 : Nat) yX0_putLock ∈ z_B := z_inB (z_in2 72 rfl) rfl
theorem wb_313 : Cond.instanceMethod yX0_putLock ∈ z_B := z_inB (z_in2 73 rfl) rfl
theorem wb_314 : Cond.selects "EscapeRooms$Door" yX0_putLock yX0_putLock ∈ z_B := z_inB (z_in2 74 rfl) rfl
theorem wb_315 : Cond.code yX0_putLock prog_2_method_2_code (4 : Nat) (Option.none : Option Jvm.ClassFile.FieldType) ∈ z_B := z_inB (z_in2 75 rfl) rfl
theorem wb_316 : Cond.methodLink "EscapeRoomsLaw" (33 : Nat) yX5_addKey ∈ z_B := z_inB (z_in2 76 rfl) rfl
theorem wb_317 : Cond.instanceMethod yX5_addKey ∈ z_B := z_inB (z_in2 77 rfl) rfl
theorem wb_318 : Cond.selects "EscapeRooms" yX5_addKey yX5_addKey ∈ z_B := z_inB (z_in2 78 rfl) rfl
theorem wb_319 : Cond.code yX5_addKey prog_1_method_6_code (4 : Nat) (Option.some Jvm.ClassFile.FieldType.int) ∈ z_B := z_inB (z_in2 79 rfl) rfl
theorem wb_320 : Cond.classLink "EscapeRooms" (93 : Nat) "EscapeRooms$Key" ∈ z_B := z_inB (z_in2 80 rfl) rfl
theorem wb_321 : Cond.instantiable "EscapeRooms$Key" (6 : Nat) ∈ z_B := z_inB (z_in2 81 rfl) rfl
theorem wb_322 : Cond.methodLink "EscapeRooms" (95 : Nat) yX2_init ∈ z_B := z_inB (z_in2 82 rfl) rfl
theorem wb_323 : Cond.instanceMethod yX2_init ∈ z_B := z_inB (z_in2 83 rfl) rfl
theorem wb_324 : Cond.code yX2_init prog_4_method_1_code (4 : Nat) (Option.none : Option Jvm.ClassFile.FieldType) ∈ z_B := z_inB (z_in2 84 rfl) rfl
theorem wb_325 : Cond.methodLink "EscapeRooms$Key" (3 : Nat) objectInit ∈ z_B := z_inB (z_in2 85 rfl) rfl
theorem wb_326 : Cond.fieldLink "EscapeRooms$Key" (9 : Nat) "EscapeRooms$Key" "number" "I" ∈ z_B := z_inB (z_in2 86 rfl) rfl
theorem wb_327 : Cond.fieldLink "EscapeRooms" (156 : Nat) "EscapeRooms$Key" "number" "I" ∈ z_B := z_inB (z_in2 87 rfl) rfl
theorem wb_328 : Cond.fieldLink "EscapeRooms$Key" (15 : Nat) "EscapeRooms$Key" "color" "I" ∈ z_B := z_inB (z_in2 88 rfl) rfl
theorem wb_329 : Cond.fieldLink "EscapeRooms$PlanSearch" (125 : Nat) "EscapeRooms$Key" "color" "I" ∈ z_B := z_inB (z_in2 89 rfl) rfl
theorem wb_330 : Cond.fieldLink "EscapeRooms" (250 : Nat) "EscapeRooms$Key" "color" "I" ∈ z_B := z_inB (z_in2 90 rfl) rfl
theorem wb_331 : Cond.fieldLink "EscapeRooms$Key" (18 : Nat) "EscapeRooms$Key" "room" "LEscapeRooms$Room;" ∈ z_B := z_inB (z_in2 91 rfl) rfl
theorem wb_332 : Cond.fieldLink "EscapeRooms" (162 : Nat) "EscapeRooms$Key" "room" "LEscapeRooms$Room;" ∈ z_B := z_inB (z_in2 92 rfl) rfl
theorem wb_333 : Cond.fieldLink "EscapeRooms$Key" (26 : Nat) "EscapeRooms$Key" "liesFrom" "I" ∈ z_B := z_inB (z_in2 93 rfl) rfl
theorem wb_334 : Cond.fieldLink "EscapeRooms" (163 : Nat) "EscapeRooms$Key" "liesFrom" "I" ∈ z_B := z_inB (z_in2 94 rfl) rfl
theorem wb_335 : Cond.fieldLink "EscapeRooms$Key" (22 : Nat) "EscapeRooms$Key" "holder" "LEscapeRooms$Group;" ∈ z_B := z_inB (z_in2 95 rfl) rfl
theorem wb_336 : Cond.fieldLink "EscapeRooms" (180 : Nat) "EscapeRooms$Key" "holder" "LEscapeRooms$Group;" ∈ z_B := z_inB (z_in2 96 rfl) rfl
theorem wb_337 : Cond.fieldLink "EscapeRooms$Key" (29 : Nat) "EscapeRooms$Key" "unlocked" "LEscapeRooms$Door;" ∈ z_B := z_inB (z_in2 97 rfl) rfl
theorem wb_338 : Cond.fieldLink "EscapeRooms" (254 : Nat) "EscapeRooms$Key" "unlocked" "LEscapeRooms$Door;" ∈ z_B := z_inB (z_in2 98 rfl) rfl
theorem wb_339 : Cond.laysFinal "EscapeRooms$Key" "EscapeRooms$Key" "number" "I" ∈ z_B := z_inB (z_in2 99 rfl) rfl
theorem wb_341 : Cond.laysFinal "EscapeRooms$Key" "EscapeRooms$Key" "color" "I" ∈ z_B := z_inB (z_in2 101 rfl) rfl
theorem wb_343 : Cond.lays "EscapeRooms$Key" "EscapeRooms$Key" "room" "LEscapeRooms$Room;" ∈ z_B := z_inB (z_in2 103 rfl) rfl
theorem wb_345 : Cond.lays "EscapeRooms$Key" "EscapeRooms$Key" "liesFrom" "I" ∈ z_B := z_inB (z_in2 105 rfl) rfl
theorem wb_347 : Cond.lays "EscapeRooms$Key" "EscapeRooms$Key" "holder" "LEscapeRooms$Group;" ∈ z_B := z_inB (z_in2 107 rfl) rfl
theorem wb_349 : Cond.lays "EscapeRooms$Key" "EscapeRooms$Key" "unlocked" "LEscapeRooms$Door;" ∈ z_B := z_inB (z_in2 109 rfl) rfl
theorem wb_352 : Cond.methodLink "EscapeRoomsLaw" (38 : Nat) yX5_addGroup ∈ z_B := z_inB (z_in2 112 rfl) rfl
theorem wb_353 : Cond.instanceMethod yX5_addGroup ∈ z_B := z_inB (z_in2 113 rfl) rfl
theorem wb_354 : Cond.selects "EscapeRooms" yX5_addGroup yX5_addGroup ∈ z_B := z_inB (z_in2 114 rfl) rfl
theorem wb_355 : Cond.code yX5_addGroup prog_1_method_7_code (5 : Nat) (Option.some Jvm.ClassFile.FieldType.int) ∈ z_B := z_inB (z_in2 115 rfl) rfl
theorem wb_356 : Cond.methodLink "EscapeRooms" (98 : Nat) yX5_playersThat ∈ z_B := z_inB (z_in2 116 rfl) rfl
theorem wb_358 : Cond.instanceMethod yX5_playersThat ∈ z_B := z_inB (z_in2 118 rfl) rfl
theorem wb_359 : Cond.code yX5_playersThat prog_1_method_36_code (5 : Nat) (Option.some Jvm.ClassFile.FieldType.int) ∈ z_B := z_inB (z_in2 119 rfl) rfl
theorem wb_360 : Cond.classLink "EscapeRooms" (102 : Nat) "EscapeRooms$Group" ∈ z_B := z_inB (z_in2 120 rfl) rfl
theorem wb_361 : Cond.instantiable "EscapeRooms$Group" (6 : Nat) ∈ z_B := z_inB (z_in2 121 rfl) rfl
theorem wb_362 : Cond.methodLink "EscapeRooms" (104 : Nat) yX1_init ∈ z_B := z_inB (z_in2 122 rfl) rfl
theorem wb_363 : Cond.instanceMethod yX1_init ∈ z_B := z_inB (z_in2 123 rfl) rfl
theorem wb_364 : Cond.code yX1_init prog_3_method_1_code (5 : Nat) (Option.none : Option Jvm.ClassFile.FieldType) ∈ z_B := z_inB (z_in2 124 rfl) rfl
theorem wb_365 : Cond.methodLink "EscapeRooms$Group" (3 : Nat) objectInit ∈ z_B := z_inB (z_in2 125 rfl) rfl
theorem wb_366 : Cond.fieldLink "EscapeRooms$Group" (9 : Nat) "EscapeRooms$Group" "number" "I" ∈ z_B := z_inB (z_in2 126 rfl) rfl
theorem wb_367 : Cond.fieldLink "EscapeRooms" (253 : Nat) "EscapeRooms$Group" "number" "I" ∈ z_B := z_inB (z_in2 127 rfl) rfl
theorem wb_368 : Cond.fieldLink "EscapeRooms$Group" (15 : Nat) "EscapeRooms$Group" "size" "I" ∈ z_B := z_inB (z_in2 128 rfl) rfl
theorem wb_369 : Cond.fieldLink "EscapeRooms" (188 : Nat) "EscapeRooms$Group" "size" "I" ∈ z_B := z_inB (z_in2 129 rfl) rfl
theorem wb_370 : Cond.fieldLink "EscapeRooms$Group" (18 : Nat) "EscapeRooms$Group" "room" "LEscapeRooms$Room;" ∈ z_B := z_inB (z_in2 130 rfl) rfl
theorem wb_371 : Cond.fieldLink "EscapeRooms$PlanSearch" (48 : Nat) "EscapeRooms$Group" "room" "LEscapeRooms$Room;" ∈ z_B := z_inB (z_in2 131 rfl) rfl
theorem wb_372 : Cond.fieldLink "EscapeRooms" (117 : Nat) "EscapeRooms$Group" "room" "LEscapeRooms$Room;" ∈ z_B := z_inB (z_in2 132 rfl) rfl
theorem wb_373 : Cond.fieldLink "EscapeRooms$Group" (22 : Nat) "EscapeRooms$Group" "time" "I" ∈ z_B := z_inB (z_in2 133 rfl) rfl
theorem wb_374 : Cond.fieldLink "EscapeRooms" (128 : Nat) "EscapeRooms$Group" "time" "I" ∈ z_B := z_inB (z_in2 134 rfl) rfl
theorem wb_375 : Cond.fieldLink "EscapeRooms" (194 : Nat) "EscapeRooms$Group" "hints" "I" ∈ z_B := z_inB (z_in2 135 rfl) rfl
theorem wb_376 : Cond.fieldLink "EscapeRooms$Group" (25 : Nat) "EscapeRooms$Group" "state" "I" ∈ z_B := z_inB (z_in2 136 rfl) rfl
theorem wb_377 : Cond.fieldLink "EscapeRooms" (197 : Nat) "EscapeRooms$Group" "state" "I" ∈ z_B := z_inB (z_in2 137 rfl) rfl
theorem wb_378 : Cond.laysFinal "EscapeRooms$Group" "EscapeRooms$Group" "number" "I" ∈ z_B := z_inB (z_in2 138 rfl) rfl
theorem wb_380 : Cond.lays "EscapeRooms$Group" "EscapeRooms$Group" "size" "I" ∈ z_B := z_inB (z_in2 140 rfl) rfl
theorem wb_382 : Cond.lays "EscapeRooms$Group" "EscapeRooms$Group" "room" "LEscapeRooms$Room;" ∈ z_B := z_inB (z_in2 142 rfl) rfl
theorem wb_384 : Cond.lays "EscapeRooms$Group" "EscapeRooms$Group" "time" "I" ∈ z_B := z_inB (z_in2 144 rfl) rfl
theorem wb_386 : Cond.lays "EscapeRooms$Group" "EscapeRooms$Group" "hints" "I" ∈ z_B := z_inB (z_in2 146 rfl) rfl
theorem wb_388 : Cond.lays "EscapeRooms$Group" "EscapeRooms$Group" "state" "I" ∈ z_B := z_inB (z_in2 148 rfl) rfl
theorem wb_391 : Cond.methodLink "EscapeRoomsLaw" (42 : Nat) yX5_setHints ∈ z_B := z_inB (z_in2 151 rfl) rfl
theorem wb_392 : Cond.instanceMethod yX5_setHints ∈ z_B := z_inB (z_in2 152 rfl) rfl
theorem wb_393 : Cond.selects "EscapeRooms" yX5_setHints yX5_setHints ∈ z_B := z_inB (z_in2 153 rfl) rfl
theorem wb_394 : Cond.code yX5_setHints prog_1_method_8_code (4 : Nat) (Option.some Jvm.ClassFile.FieldType.int) ∈ z_B := z_inB (z_in2 154 rfl) rfl
theorem wb_395 : Cond.methodLink "EscapeRoomsLaw" (46 : Nat) yX5_walk ∈ z_B := z_inB (z_in2 155 rfl) rfl
theorem wb_396 : Cond.instanceMethod yX5_walk ∈ z_B := z_inB (z_in2 156 rfl) rfl
theorem wb_397 : Cond.selects "EscapeRooms" yX5_walk yX5_walk ∈ z_B := z_inB (z_in2 157 rfl) rfl
theorem wb_398 : Cond.code yX5_walk prog_1_method_9_code (6 : Nat) (Option.some Jvm.ClassFile.FieldType.int) ∈ z_B := z_inB (z_in2 158 rfl) rfl
theorem wb_399 : Cond.methodLink "EscapeRooms" (107 : Nat) yX5_isGroup ∈ z_B := z_inB (z_in2 159 rfl) rfl
theorem wb_401 : Cond.instanceMethod yX5_isGroup ∈ z_B := z_inB (z_in2 161 rfl) rfl
theorem wb_402 : Cond.code yX5_isGroup prog_1_method_32_code (2 : Nat) (Option.some Jvm.ClassFile.FieldType.boolean) ∈ z_B := z_inB (z_in2 162 rfl) rfl
theorem wb_403 : Cond.methodLink "EscapeRooms" (110 : Nat) yX5_isDoor ∈ z_B := z_inB (z_in2 163 rfl) rfl
theorem wb_405 : Cond.instanceMethod yX5_isDoor ∈ z_B := z_inB (z_in2 165 rfl) rfl
theorem wb_406 : Cond.code yX5_isDoor prog_1_method_30_code (2 : Nat) (Option.some Jvm.ClassFile.FieldType.boolean) ∈ z_B := z_inB (z_in2 166 rfl) rfl
theorem wb_407 : Cond.methodLink "EscapeRooms" (113 : Nat) yX1_isInPlay ∈ z_B := z_inB (z_in2 167 rfl) rfl
theorem wb_408 : Cond.instanceMethod yX1_isInPlay ∈ z_B := z_inB (z_in2 168 rfl) rfl
theorem wb_409 : Cond.selects "EscapeRooms$Group" yX1_isInPlay yX1_isInPlay ∈ z_B := z_inB (z_in2 169 rfl) rfl
theorem wb_410 : Cond.code yX1_isInPlay prog_3_method_2_code (1 : Nat) (Option.some Jvm.ClassFile.FieldType.boolean) ∈ z_B := z_inB (z_in2 170 rfl) rfl
theorem wb_411 : Cond.methodLink "EscapeRooms" (120 : Nat) yX0_isAt ∈ z_B := z_inB (z_in2 171 rfl) rfl
theorem wb_412 : Cond.instanceMethod yX0_isAt ∈ z_B := z_inB (z_in2 172 rfl) rfl
theorem wb_413 : Cond.selects "EscapeRooms$Door" yX0_isAt yX0_isAt ∈ z_B := z_inB (z_in2 173 rfl) rfl
theorem wb_414 : Cond.code yX0_isAt prog_2_method_4_code (2 : Nat) (Option.some Jvm.ClassFile.FieldType.boolean) ∈ z_B := z_inB (z_in2 174 rfl) rfl
theorem wb_415 : Cond.methodLink "EscapeRooms" (131 : Nat) yX0_timeBehind ∈ z_B := z_inB (z_in2 175 rfl) rfl
theorem wb_416 : Cond.instanceMethod yX0_timeBehind ∈ z_B := z_inB (z_in2 176 rfl) rfl
theorem wb_417 : Cond.selects "EscapeRooms$Door" yX0_timeBehind yX0_timeBehind ∈ z_B := z_inB (z_in2 177 rfl) rfl
theorem wb_418 : Cond.code yX0_timeBehind prog_2_method_6_code (2 : Nat) (Option.some Jvm.ClassFile.FieldType.int) ∈ z_B := z_inB (z_in2 178 rfl) rfl
theorem wb_419 : Cond.methodLink "EscapeRooms$Door" (49 : Nat) Lib.Math.max.name ∈ z_B := z_inB (z_in2 179 rfl) rfl
theorem wb_420 : Cond.constant "EscapeRooms" (134 : Nat) (100000 : Int32) ∈ z_B := z_inB (z_in2 180 rfl) rfl
theorem wb_421 : Cond.methodLink "EscapeRooms" (135 : Nat) yX0_otherRoom ∈ z_B := z_inB (z_in2 181 rfl) rfl
theorem wb_422 : Cond.instanceMethod yX0_otherRoom ∈ z_B := z_inB (z_in2 182 rfl) rfl
theorem wb_423 : Cond.selects "EscapeRooms$Door" yX0_otherRoom yX0_otherRoom ∈ z_B := z_inB (z_in2 183 rfl) rfl
theorem wb_424 : Cond.code yX0_otherRoom prog_2_method_5_code (2 : Nat) (Option.some (Jvm.ClassFile.FieldType.object "EscapeRooms$Room")) ∈ z_B := z_inB (z_in2 184 rfl) rfl
theorem wb_425 : Cond.methodLink "EscapeRoomsLaw" (50 : Nat) yX5_unlock ∈ z_B := z_inB (z_in2 185 rfl) rfl
theorem wb_426 : Cond.instanceMethod yX5_unlock ∈ z_B := z_inB (z_in2 186 rfl) rfl
theorem wb_427 : Cond.selects "EscapeRooms" yX5_unlock yX5_unlock ∈ z_B := z_inB (z_in2 187 rfl) rfl
theorem wb_428 : Cond.code yX5_unlock prog_1_method_10_code (7 : Nat) (Option.some Jvm.ClassFile.FieldType.int) ∈ z_B := z_inB (z_in2 188 rfl) rfl
theorem wb_429 : Cond.methodLink "EscapeRooms" (142 : Nat) yX5_lowestHeldKey ∈ z_B := z_inB (z_in2 189 rfl) rfl
theorem wb_431 : Cond.instanceMethod yX5_lowestHeldKey ∈ z_B := z_inB (z_in2 191 rfl) rfl
theorem wb_432 : Cond.code yX5_lowestHeldKey prog_1_method_40_code (5 : Nat) (Option.some (Jvm.ClassFile.FieldType.object "EscapeRooms$Key")) ∈ z_B := z_inB (z_in2 192 rfl) rfl
theorem wb_433 : Cond.methodLink "EscapeRooms" (149 : Nat) yX0_openFrom ∈ z_B := z_inB (z_in2 193 rfl) rfl
theorem wb_434 : Cond.instanceMethod yX0_openFrom ∈ z_B := z_inB (z_in2 194 rfl) rfl
theorem wb_435 : Cond.selects "EscapeRooms$Door" yX0_openFrom yX0_openFrom ∈ z_B := z_inB (z_in2 195 rfl) rfl
theorem wb_436 : Cond.code yX0_openFrom prog_2_method_3_code (2 : Nat) (Option.none : Option Jvm.ClassFile.FieldType) ∈ z_B := z_inB (z_in2 196 rfl) rfl
theorem wb_437 : Cond.methodLink "EscapeRooms" (152 : Nat) yX2_useUp ∈ z_B := z_inB (z_in2 197 rfl) rfl
theorem wb_438 : Cond.instanceMethod yX2_useUp ∈ z_B := z_inB (z_in2 198 rfl) rfl
theorem wb_439 : Cond.selects "EscapeRooms$Key" yX2_useUp yX2_useUp ∈ z_B := z_inB (z_in2 199 rfl) rfl
theorem wb_440 : Cond.code yX2_useUp prog_4_method_5_code (2 : Nat) (Option.none : Option Jvm.ClassFile.FieldType) ∈ z_B := z_inB (z_in2 200 rfl) rfl
theorem wb_441 : Cond.methodLink "EscapeRoomsLaw" (54 : Nat) yX5_take ∈ z_B := z_inB (z_in2 201 rfl) rfl
theorem wb_442 : Cond.instanceMethod yX5_take ∈ z_B := z_inB (z_in2 202 rfl) rfl
theorem wb_443 : Cond.selects "EscapeRooms" yX5_take yX5_take ∈ z_B := z_inB (z_in2 203 rfl) rfl
theorem wb_444 : Cond.code yX5_take prog_1_method_11_code (5 : Nat) (Option.some Jvm.ClassFile.FieldType.int) ∈ z_B := z_inB (z_in2 204 rfl) rfl
theorem wb_445 : Cond.methodLink "EscapeRooms" (159 : Nat) yX5_isKey ∈ z_B := z_inB (z_in2 205 rfl) rfl
theorem wb_447 : Cond.instanceMethod yX5_isKey ∈ z_B := z_inB (z_in2 207 rfl) rfl
theorem wb_448 : Cond.code yX5_isKey prog_1_method_31_code (2 : Nat) (Option.some Jvm.ClassFile.FieldType.boolean) ∈ z_B := z_inB (z_in2 208 rfl) rfl
theorem wb_449 : Cond.methodLink "EscapeRooms" (172 : Nat) yX2_giveTo ∈ z_B := z_inB (z_in2 209 rfl) rfl
theorem wb_450 : Cond.instanceMethod yX2_giveTo ∈ z_B := z_inB (z_in2 210 rfl) rfl
theorem wb_451 : Cond.selects "EscapeRooms$Key" yX2_giveTo yX2_giveTo ∈ z_B := z_inB (z_in2 211 rfl) rfl
theorem wb_452 : Cond.code yX2_giveTo prog_4_method_4_code (2 : Nat) (Option.none : Option Jvm.ClassFile.FieldType) ∈ z_B := z_inB (z_in2 212 rfl) rfl
theorem wb_453 : Cond.methodLink "EscapeRooms" (176 : Nat) yX5_keysHeldBy ∈ z_B := z_inB (z_in2 213 rfl) rfl
theorem wb_455 : Cond.instanceMethod yX5_keysHeldBy ∈ z_B := z_inB (z_in2 215 rfl) rfl
theorem wb_456 : Cond.code yX5_keysHeldBy prog_1_method_39_code (4 : Nat) (Option.some Jvm.ClassFile.FieldType.int) ∈ z_B := z_inB (z_in2 216 rfl) rfl
theorem wb_457 : Cond.methodLink "EscapeRoomsLaw" (58 : Nat) yX5_drop ∈ z_B := z_inB (z_in2 217 rfl) rfl
theorem wb_458 : Cond.instanceMethod yX5_drop ∈ z_B := z_inB (z_in2 218 rfl) rfl
theorem wb_459 : Cond.selects "EscapeRooms" yX5_drop yX5_drop ∈ z_B := z_inB (z_in2 219 rfl) rfl
theorem wb_460 : Cond.code yX5_drop prog_1_method_12_code (5 : Nat) (Option.some Jvm.ClassFile.FieldType.int) ∈ z_B := z_inB (z_in2 220 rfl) rfl
theorem wb_461 : Cond.methodLink "EscapeRooms" (184 : Nat) yX2_layDown ∈ z_B := z_inB (z_in2 221 rfl) rfl
theorem wb_462 : Cond.instanceMethod yX2_layDown ∈ z_B := z_inB (z_in2 222 rfl) rfl
theorem wb_463 : Cond.selects "EscapeRooms$Key" yX2_layDown yX2_layDown ∈ z_B := z_inB (z_in2 223 rfl) rfl
theorem wb_464 : Cond.code yX2_layDown prog_4_method_3_code (3 : Nat) (Option.none : Option Jvm.ClassFile.FieldType) ∈ z_B := z_inB (z_in2 224 rfl) rfl
theorem wb_465 : Cond.methodLink "EscapeRoomsLaw" (62 : Nat) yX5_idle ∈ z_B := z_inB (z_in2 225 rfl) rfl
theorem wb_466 : Cond.instanceMethod yX5_idle ∈ z_B := z_inB (z_in2 226 rfl) rfl
theorem wb_467 : Cond.selects "EscapeRooms" yX5_idle yX5_idle ∈ z_B := z_inB (z_in2 227 rfl) rfl
theorem wb_468 : Cond.code yX5_idle prog_1_method_13_code (5 : Nat) (Option.some Jvm.ClassFile.FieldType.int) ∈ z_B := z_inB (z_in2 228 rfl) rfl
theorem wb_469 : Cond.methodLink "EscapeRoomsLaw" (66 : Nat) yX5_part ∈ z_B := z_inB (z_in2 229 rfl) rfl
theorem wb_470 : Cond.instanceMethod yX5_part ∈ z_B := z_inB (z_in2 230 rfl) rfl
theorem wb_471 : Cond.selects "EscapeRooms" yX5_part yX5_part ∈ z_B := z_inB (z_in2 231 rfl) rfl
theorem wb_472 : Cond.code yX5_part prog_1_method_14_code (5 : Nat) (Option.some Jvm.ClassFile.FieldType.int) ∈ z_B := z_inB (z_in2 232 rfl) rfl
theorem wb_473 : Cond.methodLink "EscapeRoomsLaw" (70 : Nat) yX5_join ∈ z_B := z_inB (z_in2 233 rfl) rfl
theorem wb_474 : Cond.instanceMethod yX5_join ∈ z_B := z_inB (z_in2 234 rfl) rfl
theorem wb_475 : Cond.selects "EscapeRooms" yX5_join yX5_join ∈ z_B := z_inB (z_in2 235 rfl) rfl
theorem wb_476 : Cond.code yX5_join prog_1_method_15_code (5 : Nat) (Option.some Jvm.ClassFile.FieldType.int) ∈ z_B := z_inB (z_in2 236 rfl) rfl
theorem wb_477 : Cond.methodLink "EscapeRooms" (190 : Nat) yX5_handOverKeys ∈ z_B := z_inB (z_in2 237 rfl) rfl
theorem wb_479 : Cond.instanceMethod yX5_handOverKeys ∈ z_B := z_inB (z_in2 239 rfl) rfl
theorem wb_480 : Cond.code yX5_handOverKeys prog_1_method_41_code (5 : Nat) (Option.none : Option Jvm.ClassFile.FieldType) ∈ z_B := z_inB (z_in3 0 rfl) rfl
theorem wb_481 : Cond.methodLink "EscapeRoomsLaw" (74 : Nat) yX5_leave ∈ z_B := z_inB (z_in3 1 rfl) rfl
theorem wb_482 : Cond.instanceMethod yX5_leave ∈ z_B := z_inB (z_in3 2 rfl) rfl
theorem wb_483 : Cond.selects "EscapeRooms" yX5_leave yX5_leave ∈ z_B := z_inB (z_in3 3 rfl) rfl
theorem wb_484 : Cond.code yX5_leave prog_1_method_16_code (3 : Nat) (Option.some Jvm.ClassFile.FieldType.int) ∈ z_B := z_inB (z_in3 4 rfl) rfl
theorem wb_485 : Cond.methodLink "EscapeRoomsLaw" (78 : Nat) yX5_hint ∈ z_B := z_inB (z_in3 5 rfl) rfl
theorem wb_486 : Cond.instanceMethod yX5_hint ∈ z_B := z_inB (z_in3 6 rfl) rfl
theorem wb_487 : Cond.selects "EscapeRooms" yX5_hint yX5_hint ∈ z_B := z_inB (z_in3 7 rfl) rfl
theorem wb_488 : Cond.code yX5_hint prog_1_method_17_code (4 : Nat) (Option.some Jvm.ClassFile.FieldType.int) ∈ z_B := z_inB (z_in3 8 rfl) rfl
theorem wb_489 : Cond.methodLink "EscapeRooms" (203 : Nat) yX3_find ∈ z_B := z_inB (z_in3 9 rfl) rfl
theorem wb_490 : Cond.instanceMethod yX3_find ∈ z_B := z_inB (z_in3 10 rfl) rfl
theorem wb_491 : Cond.selects "EscapeRooms$PlanSearch" yX3_find yX3_find ∈ z_B := z_inB (z_in3 11 rfl) rfl
theorem wb_492 : Cond.code yX3_find prog_5_method_2_code (8 : Nat) (Option.none : Option Jvm.ClassFile.FieldType) ∈ z_B := z_inB (z_in3 12 rfl) rfl
theorem wb_494 : Cond.static yX5_openLocks ∈ z_B := z_inB (z_in3 14 rfl) rfl
theorem wb_495 : Cond.code yX5_openLocks prog_1_method_44_code (4 : Nat) (Option.some Jvm.ClassFile.FieldType.int) ∈ z_B := z_inB (z_in3 15 rfl) rfl
theorem wb_496 : Cond.methodLink "EscapeRooms$PlanSearch" (42 : Nat) Lib.Math.min.name ∈ z_B := z_inB (z_in3 16 rfl) rfl
theorem wb_497 : Cond.methodLink "EscapeRooms$PlanSearch" (59 : Nat) yX3_comeTo ∈ z_B := z_inB (z_in3 17 rfl) rfl
theorem wb_499 : Cond.instanceMethod yX3_comeTo ∈ z_B := z_inB (z_in3 19 rfl) rfl
theorem wb_500 : Cond.code yX3_comeTo prog_5_method_4_code (5 : Nat) (Option.none : Option Jvm.ClassFile.FieldType) ∈ z_B := z_inB (z_in3 20 rfl) rfl
theorem wb_502 : Cond.static yX5_spread ∈ z_B := z_inB (z_in3 22 rfl) rfl
theorem wb_503 : Cond.code yX5_spread prog_1_method_45_code (8 : Nat) (Option.some Jvm.ClassFile.FieldType.int) ∈ z_B := z_inB (z_in3 23 rfl) rfl
theorem wb_504 : Cond.methodLink "EscapeRooms" (282 : Nat) yX0_isPassable ∈ z_B := z_inB (z_in3 24 rfl) rfl
theorem wb_505 : Cond.instanceMethod yX0_isPassable ∈ z_B := z_inB (z_in3 25 rfl) rfl
theorem wb_506 : Cond.selects "EscapeRooms$Door" yX0_isPassable yX0_isPassable ∈ z_B := z_inB (z_in3 26 rfl) rfl
theorem wb_507 : Cond.code yX0_isPassable prog_2_method_7_code (2 : Nat) (Option.some Jvm.ClassFile.FieldType.boolean) ∈ z_B := z_inB (z_in3 27 rfl) rfl
theorem wb_508 : Cond.methodLink "EscapeRooms" (285 : Nat) yX0_leadsOutOf ∈ z_B := z_inB (z_in3 28 rfl) rfl
theorem wb_509 : Cond.instanceMethod yX0_leadsOutOf ∈ z_B := z_inB (z_in3 29 rfl) rfl
theorem wb_510 : Cond.selects "EscapeRooms$Door" yX0_leadsOutOf yX0_leadsOutOf ∈ z_B := z_inB (z_in3 30 rfl) rfl
theorem wb_511 : Cond.code yX0_leadsOutOf prog_2_method_8_code (3 : Nat) (Option.some Jvm.ClassFile.FieldType.boolean) ∈ z_B := z_inB (z_in3 31 rfl) rfl
theorem wb_512 : Cond.methodLink "EscapeRooms$PlanSearch" (63 : Nat) yX3_keepIfBetter ∈ z_B := z_inB (z_in3 32 rfl) rfl
theorem wb_514 : Cond.instanceMethod yX3_keepIfBetter ∈ z_B := z_inB (z_in3 34 rfl) rfl
theorem wb_515 : Cond.code yX3_keepIfBetter prog_5_method_9_code (6 : Nat) (Option.none : Option Jvm.ClassFile.FieldType) ∈ z_B := z_inB (z_in3 35 rfl) rfl
theorem wb_516 : Cond.methodLink "EscapeRooms$PlanSearch" (130 : Nat) yX3_costOf ∈ z_B := z_inB (z_in3 36 rfl) rfl
theorem wb_518 : Cond.instanceMethod yX3_costOf ∈ z_B := z_inB (z_in3 38 rfl) rfl
theorem wb_519 : Cond.code yX3_costOf prog_5_method_11_code (5 : Nat) (Option.some Jvm.ClassFile.FieldType.int) ∈ z_B := z_inB (z_in3 39 rfl) rfl
theorem wb_520 : Cond.methodLink "EscapeRooms$PlanSearch" (84 : Nat) yJx4a65c_size_8abf5 ∈ z_B := z_inB (z_in3 40 rfl) rfl
theorem wb_521 : Cond.methodLink "EscapeRooms$PlanSearch" (90 : Nat) yJx4a65c_get_915e3 ∈ z_B := z_inB (z_in3 41 rfl) rfl
theorem wb_522 : Cond.classLink "EscapeRooms$PlanSearch" (94 : Nat) "EscapeRooms$Door" ∈ z_B := z_inB (z_in3 42 rfl) rfl
theorem wb_523 : Cond.methodLink "EscapeRooms$PlanSearch" (126 : Nat) yX3_isOpenedByPlan ∈ z_B := z_inB (z_in3 43 rfl) rfl
theorem wb_525 : Cond.instanceMethod yX3_isOpenedByPlan ∈ z_B := z_inB (z_in3 45 rfl) rfl
theorem wb_526 : Cond.code yX3_isOpenedByPlan prog_5_method_8_code (3 : Nat) (Option.some Jvm.ClassFile.FieldType.boolean) ∈ z_B := z_inB (z_in3 46 rfl) rfl
theorem wb_527 : Cond.methodLink "EscapeRooms$PlanSearch" (134 : Nat) yJ6_bitCount_0f7a4 ∈ z_B := z_inB (z_in3 47 rfl) rfl
theorem wb_528 : Cond.static yJ6_bitCount_0f7a4 ∈ z_B := z_inB (z_in3 48 rfl) rfl
theorem wb_529 : Cond.code yJ6_bitCount_0f7a4 prog_11_method_49_code (1 : Nat) (Option.some Jvm.ClassFile.FieldType.int) ∈ z_B := z_inB (z_in3 49 rfl) rfl
theorem wb_530 : Cond.constant "java/lang/Integer" (265 : Nat) (1431655765 : Int32) ∈ z_B := z_inB (z_in3 50 rfl) rfl
theorem wb_531 : Cond.constant "java/lang/Integer" (266 : Nat) (858993459 : Int32) ∈ z_B := z_inB (z_in3 51 rfl) rfl
theorem wb_532 : Cond.constant "java/lang/Integer" (267 : Nat) (252645135 : Int32) ∈ z_B := z_inB (z_in3 52 rfl) rfl
theorem wb_533 : Cond.methodLink "EscapeRooms$PlanSearch" (139 : Nat) yX3_isBetter ∈ z_B := z_inB (z_in3 53 rfl) rfl
theorem wb_535 : Cond.instanceMethod yX3_isBetter ∈ z_B := z_inB (z_in3 55 rfl) rfl
theorem wb_536 : Cond.code yX3_isBetter prog_5_method_10_code (5 : Nat) (Option.some Jvm.ClassFile.FieldType.boolean) ∈ z_B := z_inB (z_in3 56 rfl) rfl
theorem wb_537 : Cond.methodLink "EscapeRooms$PlanSearch" (67 : Nat) yX3_goOnFrom ∈ z_B := z_inB (z_in3 57 rfl) rfl
theorem wb_539 : Cond.instanceMethod yX3_goOnFrom ∈ z_B := z_inB (z_in3 59 rfl) rfl
theorem wb_540 : Cond.code yX3_goOnFrom prog_5_method_5_code (8 : Nat) (Option.none : Option Jvm.ClassFile.FieldType) ∈ z_B := z_inB (z_in3 60 rfl) rfl
theorem wb_541 : Cond.methodLink "EscapeRooms$PlanSearch" (81 : Nat) yX3_keysLeft ∈ z_B := z_inB (z_in3 61 rfl) rfl
theorem wb_543 : Cond.instanceMethod yX3_keysLeft ∈ z_B := z_inB (z_in3 63 rfl) rfl
theorem wb_544 : Cond.code yX3_keysLeft prog_5_method_6_code (6 : Nat) (Option.some Jvm.ClassFile.FieldType.int) ∈ z_B := z_inB (z_in3 64 rfl) rfl
theorem wb_545 : Cond.classLink "EscapeRooms$PlanSearch" (119 : Nat) "EscapeRooms$Key" ∈ z_B := z_inB (z_in3 65 rfl) rfl
theorem wb_546 : Cond.methodLink "EscapeRooms$PlanSearch" (121 : Nat) yX2_isWithin ∈ z_B := z_inB (z_in3 66 rfl) rfl
theorem wb_547 : Cond.instanceMethod yX2_isWithin ∈ z_B := z_inB (z_in3 67 rfl) rfl
theorem wb_548 : Cond.selects "EscapeRooms$Key" yX2_isWithin yX2_isWithin ∈ z_B := z_inB (z_in3 68 rfl) rfl
theorem wb_549 : Cond.code yX2_isWithin prog_4_method_6_code (3 : Nat) (Option.some Jvm.ClassFile.FieldType.boolean) ∈ z_B := z_inB (z_in3 69 rfl) rfl
theorem wb_550 : Cond.methodLink "EscapeRooms$PlanSearch" (96 : Nat) yX0_isPassable ∈ z_B := z_inB (z_in3 70 rfl) rfl
theorem wb_551 : Cond.methodLink "EscapeRooms$PlanSearch" (100 : Nat) yX0_leadsOutOf ∈ z_B := z_inB (z_in3 71 rfl) rfl
theorem wb_552 : Cond.methodLink "EscapeRooms$PlanSearch" (106 : Nat) yX3_hasOne ∈ z_B := z_inB (z_in3 72 rfl) rfl
theorem wb_553 : Cond.static yX3_hasOne ∈ z_B := z_inB (z_in3 73 rfl) rfl
theorem wb_554 : Cond.code yX3_hasOne prog_5_method_7_code (2 : Nat) (Option.some Jvm.ClassFile.FieldType.boolean) ∈ z_B := z_inB (z_in3 74 rfl) rfl
theorem wb_555 : Cond.methodLink "EscapeRooms" (213 : Nat) yX3_doorAt ∈ z_B := z_inB (z_in3 75 rfl) rfl
theorem wb_556 : Cond.instanceMethod yX3_doorAt ∈ z_B := z_inB (z_in3 76 rfl) rfl
theorem wb_557 : Cond.selects "EscapeRooms$PlanSearch" yX3_doorAt yX3_doorAt ∈ z_B := z_inB (z_in3 77 rfl) rfl
theorem wb_558 : Cond.code yX3_doorAt prog_5_method_3_code (2 : Nat) (Option.some Jvm.ClassFile.FieldType.int) ∈ z_B := z_inB (z_in3 78 rfl) rfl
theorem wb_559 : Cond.methodLink "EscapeRoomsLaw" (82 : Nat) yX5_plan ∈ z_B := z_inB (z_in3 79 rfl) rfl
theorem wb_560 : Cond.instanceMethod yX5_plan ∈ z_B := z_inB (z_in3 80 rfl) rfl
theorem wb_561 : Cond.selects "EscapeRooms" yX5_plan yX5_plan ∈ z_B := z_inB (z_in3 81 rfl) rfl
theorem wb_562 : Cond.code yX5_plan prog_1_method_18_code (4 : Nat) (Option.some Jvm.ClassFile.FieldType.int) ∈ z_B := z_inB (z_in3 82 rfl) rfl
theorem wb_563 : Cond.methodLink "EscapeRoomsLaw" (86 : Nat) yX5_planned ∈ z_B := z_inB (z_in3 83 rfl) rfl
theorem wb_564 : Cond.instanceMethod yX5_planned ∈ z_B := z_inB (z_in3 84 rfl) rfl
theorem wb_565 : Cond.selects "EscapeRooms" yX5_planned yX5_planned ∈ z_B := z_inB (z_in3 85 rfl) rfl
theorem wb_566 : Cond.code yX5_planned prog_1_method_19_code (4 : Nat) (Option.some Jvm.ClassFile.FieldType.int) ∈ z_B := z_inB (z_in3 86 rfl) rfl
theorem wb_567 : Cond.methodLink "EscapeRoomsLaw" (90 : Nat) yX5_way ∈ z_B := z_inB (z_in3 87 rfl) rfl
theorem wb_568 : Cond.instanceMethod yX5_way ∈ z_B := z_inB (z_in3 88 rfl) rfl
theorem wb_569 : Cond.selects "EscapeRooms" yX5_way yX5_way ∈ z_B := z_inB (z_in3 89 rfl) rfl
theorem wb_570 : Cond.code yX5_way prog_1_method_20_code (5 : Nat) (Option.some Jvm.ClassFile.FieldType.int) ∈ z_B := z_inB (z_in3 90 rfl) rfl
theorem wb_571 : Cond.methodLink "EscapeRooms" (219 : Nat) yX5_findArrivals ∈ z_B := z_inB (z_in3 91 rfl) rfl
theorem wb_573 : Cond.instanceMethod yX5_findArrivals ∈ z_B := z_inB (z_in3 93 rfl) rfl
theorem wb_574 : Cond.code yX5_findArrivals prog_1_method_46_code (6 : Nat) (Option.none : Option Jvm.ClassFile.FieldType) ∈ z_B := z_inB (z_in3 94 rfl) rfl
theorem wb_575 : Cond.constant "EscapeRooms" (225 : Nat) (1000000 : Int32) ∈ z_B := z_inB (z_in3 95 rfl) rfl
theorem wb_576 : Cond.methodLink "EscapeRooms" (291 : Nat) yX0_speedsUp ∈ z_B := z_inB (z_in3 96 rfl) rfl
theorem wb_577 : Cond.instanceMethod yX0_speedsUp ∈ z_B := z_inB (z_in3 97 rfl) rfl
theorem wb_578 : Cond.selects "EscapeRooms$Door" yX0_speedsUp yX0_speedsUp ∈ z_B := z_inB (z_in3 98 rfl) rfl
theorem wb_579 : Cond.code yX0_speedsUp prog_2_method_9_code (3 : Nat) (Option.some Jvm.ClassFile.FieldType.boolean) ∈ z_B := z_inB (z_in3 99 rfl) rfl
theorem wb_580 : Cond.constant "EscapeRooms$Door" (58 : Nat) (1000000 : Int32) ∈ z_B := z_inB (z_in3 100 rfl) rfl
theorem wb_581 : Cond.methodLink "EscapeRooms$Door" (59 : Nat) yX0_timeBehind ∈ z_B := z_inB (z_in3 101 rfl) rfl
theorem wb_582 : Cond.methodLink "EscapeRoomsLaw" (94 : Nat) yX5_reach ∈ z_B := z_inB (z_in3 102 rfl) rfl
theorem wb_583 : Cond.instanceMethod yX5_reach ∈ z_B := z_inB (z_in3 103 rfl) rfl
theorem wb_584 : Cond.selects "EscapeRooms" yX5_reach yX5_reach ∈ z_B := z_inB (z_in3 104 rfl) rfl
theorem wb_585 : Cond.code yX5_reach prog_1_method_21_code (3 : Nat) (Option.some Jvm.ClassFile.FieldType.int) ∈ z_B := z_inB (z_in3 105 rfl) rfl
theorem wb_586 : Cond.methodLink "EscapeRooms" (229 : Nat) yX5_openLocks ∈ z_B := z_inB (z_in3 106 rfl) rfl
theorem wb_587 : Cond.methodLink "EscapeRooms" (233 : Nat) yX5_spread ∈ z_B := z_inB (z_in3 107 rfl) rfl
theorem wb_588 : Cond.methodLink "EscapeRoomsLaw" (98 : Nat) yX5_door ∈ z_B := z_inB (z_in3 108 rfl) rfl
theorem wb_589 : Cond.instanceMethod yX5_door ∈ z_B := z_inB (z_in3 109 rfl) rfl
theorem wb_590 : Cond.selects "EscapeRooms" yX5_door yX5_door ∈ z_B := z_inB (z_in3 110 rfl) rfl
theorem wb_591 : Cond.code yX5_door prog_1_method_22_code (4 : Nat) (Option.some Jvm.ClassFile.FieldType.int) ∈ z_B := z_inB (z_in3 111 rfl) rfl
theorem wb_592 : Cond.methodLink "EscapeRoomsLaw" (102 : Nat) yX5_key ∈ z_B := z_inB (z_in3 112 rfl) rfl
theorem wb_593 : Cond.instanceMethod yX5_key ∈ z_B := z_inB (z_in3 113 rfl) rfl
theorem wb_594 : Cond.selects "EscapeRooms" yX5_key yX5_key ∈ z_B := z_inB (z_in3 114 rfl) rfl
theorem wb_595 : Cond.code yX5_key prog_1_method_23_code (4 : Nat) (Option.some Jvm.ClassFile.FieldType.int) ∈ z_B := z_inB (z_in3 115 rfl) rfl
theorem wb_596 : Cond.methodLink "EscapeRooms" (251 : Nat) yX2_state ∈ z_B := z_inB (z_in3 116 rfl) rfl
theorem wb_597 : Cond.instanceMethod yX2_state ∈ z_B := z_inB (z_in3 117 rfl) rfl
theorem wb_598 : Cond.selects "EscapeRooms$Key" yX2_state yX2_state ∈ z_B := z_inB (z_in3 118 rfl) rfl
theorem wb_599 : Cond.code yX2_state prog_4_method_2_code (1 : Nat) (Option.some Jvm.ClassFile.FieldType.int) ∈ z_B := z_inB (z_in3 119 rfl) rfl
theorem wb_600 : Cond.methodLink "EscapeRoomsLaw" (106 : Nat) yX5_group ∈ z_B := z_inB (z_in3 120 rfl) rfl
theorem wb_601 : Cond.instanceMethod yX5_group ∈ z_B := z_inB (z_in3 121 rfl) rfl
theorem wb_602 : Cond.selects "EscapeRooms" yX5_group yX5_group ∈ z_B := z_inB (z_in3 122 rfl) rfl
theorem wb_603 : Cond.code yX5_group prog_1_method_24_code (4 : Nat) (Option.some Jvm.ClassFile.FieldType.int) ∈ z_B := z_inB (z_in3 123 rfl) rfl
theorem wb_604 : Cond.methodLink "EscapeRoomsLaw" (110 : Nat) yX5_color ∈ z_B := z_inB (z_in3 124 rfl) rfl
theorem wb_605 : Cond.instanceMethod yX5_color ∈ z_B := z_inB (z_in3 125 rfl) rfl
theorem wb_606 : Cond.selects "EscapeRooms" yX5_color yX5_color ∈ z_B := z_inB (z_in3 126 rfl) rfl
theorem wb_607 : Cond.code yX5_color prog_1_method_25_code (3 : Nat) (Option.some Jvm.ClassFile.FieldType.int) ∈ z_B := z_inB (z_in3 127 rfl) rfl
theorem wb_608 : Cond.methodLink "EscapeRooms" (259 : Nat) yX5_closedLocksOf ∈ z_B := z_inB (z_in3 128 rfl) rfl
theorem wb_610 : Cond.instanceMethod yX5_closedLocksOf ∈ z_B := z_inB (z_in3 130 rfl) rfl
theorem wb_611 : Cond.code yX5_closedLocksOf prog_1_method_42_code (5 : Nat) (Option.some Jvm.ClassFile.FieldType.int) ∈ z_B := z_inB (z_in3 131 rfl) rfl
theorem wb_612 : Cond.methodLink "EscapeRooms" (262 : Nat) yX5_keysLeftOf ∈ z_B := z_inB (z_in3 132 rfl) rfl
theorem wb_614 : Cond.instanceMethod yX5_keysLeftOf ∈ z_B := z_inB (z_in3 134 rfl) rfl
theorem wb_615 : Cond.code yX5_keysLeftOf prog_1_method_43_code (5 : Nat) (Option.some Jvm.ClassFile.FieldType.int) ∈ z_B := z_inB (z_in3 135 rfl) rfl
theorem wb_616 : Cond.methodLink "EscapeRoomsLaw" (114 : Nat) yX5_count ∈ z_B := z_inB (z_in3 136 rfl) rfl
theorem wb_617 : Cond.instanceMethod yX5_count ∈ z_B := z_inB (z_in3 137 rfl) rfl
theorem wb_618 : Cond.selects "EscapeRooms" yX5_count yX5_count ∈ z_B := z_inB (z_in3 138 rfl) rfl
theorem wb_619 : Cond.code yX5_count prog_1_method_26_code (2 : Nat) (Option.some Jvm.ClassFile.FieldType.int) ∈ z_B := z_inB (z_in3 139 rfl) rfl
theorem wb_620 : Cond.methodLink "EscapeRooms" (265 : Nat) yJ6_bitCount_0f7a4 ∈ z_B := z_inB (z_in3 140 rfl) rfl
theorem wb_621 : Cond.methodLink "EscapeRooms" (270 : Nat) yX5_latestEscape ∈ z_B := z_inB (z_in3 141 rfl) rfl
theorem wb_623 : Cond.instanceMethod yX5_latestEscape ∈ z_B := z_inB (z_in3 143 rfl) rfl
theorem wb_624 : Cond.code yX5_latestEscape prog_1_method_37_code (4 : Nat) (Option.some Jvm.ClassFile.FieldType.int) ∈ z_B := z_inB (z_in3 144 rfl) rfl
theorem wb_625 : Cond.methodLink "EscapeRooms" (273 : Nat) yX5_groupsInDeadEnd ∈ z_B := z_inB (z_in3 145 rfl) rfl
theorem wb_627 : Cond.instanceMethod yX5_groupsInDeadEnd ∈ z_B := z_inB (z_in3 147 rfl) rfl
theorem wb_628 : Cond.code yX5_groupsInDeadEnd prog_1_method_38_code (4 : Nat) (Option.some Jvm.ClassFile.FieldType.int) ∈ z_B := z_inB (z_in3 148 rfl) rfl
theorem wb_629 : Cond.classLink "EscapeRoomsLaw" (10 : Nat) "EscapeRoomsModel" ∈ z_B := z_inB (z_in3 149 rfl) rfl
theorem wb_630 : Cond.instantiable "EscapeRoomsModel" (32 : Nat) ∈ z_B := z_inB (z_in3 150 rfl) rfl
theorem wb_631 : Cond.methodLink "EscapeRoomsLaw" (12 : Nat) yX6_init ∈ z_B := z_inB (z_in3 151 rfl) rfl
theorem wb_632 : Cond.instanceMethod yX6_init ∈ z_B := z_inB (z_in3 152 rfl) rfl
theorem wb_633 : Cond.code yX6_init prog_8_method_1_code (1 : Nat) (Option.none : Option Jvm.ClassFile.FieldType) ∈ z_B := z_inB (z_in3 153 rfl) rfl
theorem wb_634 : Cond.methodLink "EscapeRoomsModel" (1 : Nat) objectInit ∈ z_B := z_inB (z_in3 154 rfl) rfl
theorem wb_635 : Cond.fieldLink "EscapeRoomsModel" (87 : Nat) "EscapeRoomsModel" "rooms" "I" ∈ z_B := z_inB (z_in3 155 rfl) rfl
theorem wb_636 : Cond.fieldLink "EscapeRoomsModel" (9 : Nat) "EscapeRoomsModel" "exit" "I" ∈ z_B := z_inB (z_in3 156 rfl) rfl
theorem wb_637 : Cond.fieldLink "EscapeRoomsModel" (94 : Nat) "EscapeRoomsModel" "doors" "I" ∈ z_B := z_inB (z_in3 157 rfl) rfl
theorem wb_638 : Cond.fieldLink "EscapeRoomsModel" (13 : Nat) "EscapeRoomsModel" "lowOf" "[I" ∈ z_B := z_inB (z_in3 158 rfl) rfl
theorem wb_639 : Cond.fieldLink "EscapeRoomsModel" (17 : Nat) "EscapeRoomsModel" "highOf" "[I" ∈ z_B := z_inB (z_in3 159 rfl) rfl
theorem wb_640 : Cond.fieldLink "EscapeRoomsModel" (20 : Nat) "EscapeRoomsModel" "walkOf" "[I" ∈ z_B := z_inB (z_in3 160 rfl) rfl
theorem wb_641 : Cond.fieldLink "EscapeRoomsModel" (23 : Nat) "EscapeRoomsModel" "colorOf" "[I" ∈ z_B := z_inB (z_in3 161 rfl) rfl
theorem wb_642 : Cond.fieldLink "EscapeRoomsModel" (26 : Nat) "EscapeRoomsModel" "unlockOf" "[I" ∈ z_B := z_inB (z_in3 162 rfl) rfl
theorem wb_643 : Cond.fieldLink "EscapeRoomsModel" (29 : Nat) "EscapeRoomsModel" "openFrom" "[I" ∈ z_B := z_inB (z_in3 163 rfl) rfl
theorem wb_644 : Cond.fieldLink "EscapeRoomsModel" (97 : Nat) "EscapeRoomsModel" "keys" "I" ∈ z_B := z_inB (z_in3 164 rfl) rfl
theorem wb_645 : Cond.fieldLink "EscapeRoomsModel" (32 : Nat) "EscapeRoomsModel" "keyColor" "[I" ∈ z_B := z_inB (z_in3 165 rfl) rfl
theorem wb_646 : Cond.fieldLink "EscapeRoomsModel" (35 : Nat) "EscapeRoomsModel" "keyState" "[I" ∈ z_B := z_inB (z_in3 166 rfl) rfl
theorem wb_647 : Cond.fieldLink "EscapeRoomsModel" (38 : Nat) "EscapeRoomsModel" "keyAt" "[I" ∈ z_B := z_inB (z_in3 167 rfl) rfl
theorem wb_648 : Cond.fieldLink "EscapeRoomsModel" (41 : Nat) "EscapeRoomsModel" "keyFrom" "[I" ∈ z_B := z_inB (z_in3 168 rfl) rfl
theorem wb_649 : Cond.fieldLink "EscapeRoomsModel" (100 : Nat) "EscapeRoomsModel" "groups" "I" ∈ z_B := z_inB (z_in3 169 rfl) rfl
theorem wb_650 : Cond.fieldLink "EscapeRoomsModel" (44 : Nat) "EscapeRoomsModel" "sizeOf" "[I" ∈ z_B := z_inB (z_in3 170 rfl) rfl
theorem wb_651 : Cond.fieldLink "EscapeRoomsModel" (47 : Nat) "EscapeRoomsModel" "roomOf" "[I" ∈ z_B := z_inB (z_in3 171 rfl) rfl
theorem wb_652 : Cond.fieldLink "EscapeRoomsModel" (50 : Nat) "EscapeRoomsModel" "timeOf" "[I" ∈ z_B := z_inB (z_in3 172 rfl) rfl
theorem wb_653 : Cond.fieldLink "EscapeRoomsModel" (53 : Nat) "EscapeRoomsModel" "hintsOf" "[I" ∈ z_B := z_inB (z_in3 173 rfl) rfl
theorem wb_654 : Cond.fieldLink "EscapeRoomsModel" (56 : Nat) "EscapeRoomsModel" "stateOf" "[I" ∈ z_B := z_inB (z_in3 174 rfl) rfl
theorem wb_655 : Cond.fieldLink "EscapeRoomsModel" (59 : Nat) "EscapeRoomsModel" "base" "I" ∈ z_B := z_inB (z_in3 175 rfl) rfl
theorem wb_656 : Cond.fieldLink "EscapeRoomsModel" (62 : Nat) "EscapeRoomsModel" "step" "I" ∈ z_B := z_inB (z_in3 176 rfl) rfl
theorem wb_657 : Cond.fieldLink "EscapeRoomsModel" (153 : Nat) "EscapeRoomsModel" "open" "I" ∈ z_B := z_inB (z_in3 177 rfl) rfl
theorem wb_658 : Cond.fieldLink "EscapeRoomsModel" (65 : Nat) "EscapeRoomsModel" "lockAt" "[I" ∈ z_B := z_inB (z_in3 178 rfl) rfl
theorem wb_659 : Cond.fieldLink "EscapeRoomsModel" (68 : Nat) "EscapeRoomsModel" "doorsIn" "[I" ∈ z_B := z_inB (z_in3 179 rfl) rfl
theorem wb_660 : Cond.fieldLink "EscapeRoomsModel" (71 : Nat) "EscapeRoomsModel" "reachOf" "[I" ∈ z_B := z_inB (z_in3 180 rfl) rfl
theorem wb_661 : Cond.fieldLink "EscapeRoomsModel" (74 : Nat) "EscapeRoomsModel" "isMet" "[Z" ∈ z_B := z_inB (z_in3 181 rfl) rfl
theorem wb_662 : Cond.fieldLink "EscapeRoomsModel" (78 : Nat) "EscapeRoomsModel" "leads" "[Z" ∈ z_B := z_inB (z_in3 182 rfl) rfl
theorem wb_663 : Cond.fieldLink "EscapeRoomsModel" (162 : Nat) "EscapeRoomsModel" "cost" "I" ∈ z_B := z_inB (z_in3 183 rfl) rfl
theorem wb_664 : Cond.fieldLink "EscapeRoomsModel" (165 : Nat) "EscapeRoomsModel" "many" "I" ∈ z_B := z_inB (z_in3 184 rfl) rfl
theorem wb_665 : Cond.fieldLink "EscapeRoomsModel" (81 : Nat) "EscapeRoomsModel" "planOf" "[I" ∈ z_B := z_inB (z_in3 185 rfl) rfl
theorem wb_666 : Cond.fieldLink "EscapeRoomsModel" (84 : Nat) "EscapeRoomsModel" "arriving" "[I" ∈ z_B := z_inB (z_in3 186 rfl) rfl
theorem wb_667 : Cond.lays "EscapeRoomsModel" "EscapeRoomsModel" "rooms" "I" ∈ z_B := z_inB (z_in3 187 rfl) rfl
theorem wb_669 : Cond.lays "EscapeRoomsModel" "EscapeRoomsModel" "exit" "I" ∈ z_B := z_inB (z_in3 189 rfl) rfl
theorem wb_671 : Cond.lays "EscapeRoomsModel" "EscapeRoomsModel" "doors" "I" ∈ z_B := z_inB (z_in3 191 rfl) rfl
theorem wb_673 : Cond.laysFinal "EscapeRoomsModel" "EscapeRoomsModel" "lowOf" "[I" ∈ z_B := z_inB (z_in3 193 rfl) rfl
theorem wb_675 : Cond.laysFinal "EscapeRoomsModel" "EscapeRoomsModel" "highOf" "[I" ∈ z_B := z_inB (z_in3 195 rfl) rfl
theorem wb_677 : Cond.laysFinal "EscapeRoomsModel" "EscapeRoomsModel" "walkOf" "[I" ∈ z_B := z_inB (z_in3 197 rfl) rfl
theorem wb_679 : Cond.laysFinal "EscapeRoomsModel" "EscapeRoomsModel" "colorOf" "[I" ∈ z_B := z_inB (z_in3 199 rfl) rfl
theorem wb_681 : Cond.laysFinal "EscapeRoomsModel" "EscapeRoomsModel" "unlockOf" "[I" ∈ z_B := z_inB (z_in3 201 rfl) rfl
theorem wb_683 : Cond.laysFinal "EscapeRoomsModel" "EscapeRoomsModel" "openFrom" "[I" ∈ z_B := z_inB (z_in3 203 rfl) rfl
theorem wb_685 : Cond.lays "EscapeRoomsModel" "EscapeRoomsModel" "keys" "I" ∈ z_B := z_inB (z_in3 205 rfl) rfl
theorem wb_687 : Cond.laysFinal "EscapeRoomsModel" "EscapeRoomsModel" "keyColor" "[I" ∈ z_B := z_inB (z_in3 207 rfl) rfl
theorem wb_689 : Cond.laysFinal "EscapeRoomsModel" "EscapeRoomsModel" "keyState" "[I" ∈ z_B := z_inB (z_in3 209 rfl) rfl
theorem wb_691 : Cond.laysFinal "EscapeRoomsModel" "EscapeRoomsModel" "keyAt" "[I" ∈ z_B := z_inB (z_in3 211 rfl) rfl
theorem wb_693 : Cond.laysFinal "EscapeRoomsModel" "EscapeRoomsModel" "keyFrom" "[I" ∈ z_B := z_inB (z_in3 213 rfl) rfl
theorem wb_695 : Cond.lays "EscapeRoomsModel" "EscapeRoomsModel" "groups" "I" ∈ z_B := z_inB (z_in3 215 rfl) rfl
theorem wb_697 : Cond.laysFinal "EscapeRoomsModel" "EscapeRoomsModel" "sizeOf" "[I" ∈ z_B := z_inB (z_in3 217 rfl) rfl
theorem wb_699 : Cond.laysFinal "EscapeRoomsModel" "EscapeRoomsModel" "roomOf" "[I" ∈ z_B := z_inB (z_in3 219 rfl) rfl
theorem wb_701 : Cond.laysFinal "EscapeRoomsModel" "EscapeRoomsModel" "timeOf" "[I" ∈ z_B := z_inB (z_in3 221 rfl) rfl
theorem wb_703 : Cond.laysFinal "EscapeRoomsModel" "EscapeRoomsModel" "hintsOf" "[I" ∈ z_B := z_inB (z_in3 223 rfl) rfl
theorem wb_705 : Cond.laysFinal "EscapeRoomsModel" "EscapeRoomsModel" "stateOf" "[I" ∈ z_B := z_inB (z_in3 225 rfl) rfl
theorem wb_707 : Cond.lays "EscapeRoomsModel" "EscapeRoomsModel" "base" "I" ∈ z_B := z_inB (z_in3 227 rfl) rfl
theorem wb_709 : Cond.lays "EscapeRoomsModel" "EscapeRoomsModel" "step" "I" ∈ z_B := z_inB (z_in3 229 rfl) rfl
theorem wb_711 : Cond.lays "EscapeRoomsModel" "EscapeRoomsModel" "open" "I" ∈ z_B := z_inB (z_in3 231 rfl) rfl
theorem wb_713 : Cond.laysFinal "EscapeRoomsModel" "EscapeRoomsModel" "lockAt" "[I" ∈ z_B := z_inB (z_in3 233 rfl) rfl
theorem wb_715 : Cond.laysFinal "EscapeRoomsModel" "EscapeRoomsModel" "doorsIn" "[I" ∈ z_B := z_inB (z_in3 235 rfl) rfl
theorem wb_717 : Cond.laysFinal "EscapeRoomsModel" "EscapeRoomsModel" "reachOf" "[I" ∈ z_B := z_inB (z_in3 237 rfl) rfl
theorem wb_719 : Cond.laysFinal "EscapeRoomsModel" "EscapeRoomsModel" "isMet" "[Z" ∈ z_B := z_inB (z_in3 239 rfl) rfl
theorem wb_721 : Cond.laysFinal "EscapeRoomsModel" "EscapeRoomsModel" "leads" "[Z" ∈ z_B := z_inB (z_in4 1 rfl) rfl
theorem wb_723 : Cond.lays "EscapeRoomsModel" "EscapeRoomsModel" "cost" "I" ∈ z_B := z_inB (z_in4 3 rfl) rfl
theorem wb_725 : Cond.lays "EscapeRoomsModel" "EscapeRoomsModel" "many" "I" ∈ z_B := z_inB (z_in4 5 rfl) rfl
theorem wb_727 : Cond.laysFinal "EscapeRoomsModel" "EscapeRoomsModel" "planOf" "[I" ∈ z_B := z_inB (z_in4 7 rfl) rfl
theorem wb_729 : Cond.laysFinal "EscapeRoomsModel" "EscapeRoomsModel" "arriving" "[I" ∈ z_B := z_inB (z_in4 9 rfl) rfl
theorem wb_732 : Cond.arrayClass Jvm.ClassFile.FieldType.boolean ∈ z_B := z_inB (z_in4 12 rfl) rfl
theorem wb_733 : Cond.methodLink "EscapeRoomsLaw" (17 : Nat) yX6_addRoom ∈ z_B := z_inB (z_in4 13 rfl) rfl
theorem wb_734 : Cond.instanceMethod yX6_addRoom ∈ z_B := z_inB (z_in4 14 rfl) rfl
theorem wb_735 : Cond.selects "EscapeRoomsModel" yX6_addRoom yX6_addRoom ∈ z_B := z_inB (z_in4 15 rfl) rfl
theorem wb_736 : Cond.code yX6_addRoom prog_8_method_7_code (1 : Nat) (Option.some Jvm.ClassFile.FieldType.int) ∈ z_B := z_inB (z_in4 16 rfl) rfl
theorem wb_737 : Cond.methodLink "EscapeRoomsLaw" (22 : Nat) yX6_setExit ∈ z_B := z_inB (z_in4 17 rfl) rfl
theorem wb_738 : Cond.instanceMethod yX6_setExit ∈ z_B := z_inB (z_in4 18 rfl) rfl
theorem wb_739 : Cond.selects "EscapeRoomsModel" yX6_setExit yX6_setExit ∈ z_B := z_inB (z_in4 19 rfl) rfl
theorem wb_740 : Cond.code yX6_setExit prog_8_method_8_code (3 : Nat) (Option.some Jvm.ClassFile.FieldType.int) ∈ z_B := z_inB (z_in4 20 rfl) rfl
theorem wb_741 : Cond.methodLink "EscapeRoomsModel" (103 : Nat) yX6_noRoom ∈ z_B := z_inB (z_in4 21 rfl) rfl
theorem wb_743 : Cond.instanceMethod yX6_noRoom ∈ z_B := z_inB (z_in4 23 rfl) rfl
theorem wb_744 : Cond.code yX6_noRoom prog_8_method_3_code (2 : Nat) (Option.some Jvm.ClassFile.FieldType.boolean) ∈ z_B := z_inB (z_in4 24 rfl) rfl
theorem wb_745 : Cond.methodLink "EscapeRoomsModel" (90 : Nat) yX6_in ∈ z_B := z_inB (z_in4 25 rfl) rfl
theorem wb_746 : Cond.static yX6_in ∈ z_B := z_inB (z_in4 26 rfl) rfl
theorem wb_747 : Cond.code yX6_in prog_8_method_2_code (3 : Nat) (Option.some Jvm.ClassFile.FieldType.boolean) ∈ z_B := z_inB (z_in4 27 rfl) rfl
theorem wb_748 : Cond.methodLink "EscapeRoomsLaw" (27 : Nat) yX6_addDoor ∈ z_B := z_inB (z_in4 28 rfl) rfl
theorem wb_749 : Cond.instanceMethod yX6_addDoor ∈ z_B := z_inB (z_in4 29 rfl) rfl
theorem wb_750 : Cond.selects "EscapeRoomsModel" yX6_addDoor yX6_addDoor ∈ z_B := z_inB (z_in4 30 rfl) rfl
theorem wb_751 : Cond.code yX6_addDoor prog_8_method_10_code (4 : Nat) (Option.some Jvm.ClassFile.FieldType.int) ∈ z_B := z_inB (z_in4 31 rfl) rfl
theorem wb_752 : Cond.methodLink "EscapeRoomsModel" (107 : Nat) yX6_putDoor ∈ z_B := z_inB (z_in4 32 rfl) rfl
theorem wb_754 : Cond.instanceMethod yX6_putDoor ∈ z_B := z_inB (z_in4 34 rfl) rfl
theorem wb_755 : Cond.code yX6_putDoor prog_8_method_9_code (6 : Nat) (Option.some Jvm.ClassFile.FieldType.int) ∈ z_B := z_inB (z_in4 35 rfl) rfl
theorem wb_756 : Cond.methodLink "EscapeRoomsLaw" (32 : Nat) yX6_addLock ∈ z_B := z_inB (z_in4 36 rfl) rfl
theorem wb_757 : Cond.instanceMethod yX6_addLock ∈ z_B := z_inB (z_in4 37 rfl) rfl
theorem wb_758 : Cond.selects "EscapeRoomsModel" yX6_addLock yX6_addLock ∈ z_B := z_inB (z_in4 38 rfl) rfl
theorem wb_759 : Cond.code yX6_addLock prog_8_method_12_code (6 : Nat) (Option.some Jvm.ClassFile.FieldType.int) ∈ z_B := z_inB (z_in4 39 rfl) rfl
theorem wb_760 : Cond.methodLink "EscapeRoomsModel" (111 : Nat) yX6_locks ∈ z_B := z_inB (z_in4 40 rfl) rfl
theorem wb_762 : Cond.instanceMethod yX6_locks ∈ z_B := z_inB (z_in4 42 rfl) rfl
theorem wb_763 : Cond.code yX6_locks prog_8_method_11_code (3 : Nat) (Option.some Jvm.ClassFile.FieldType.int) ∈ z_B := z_inB (z_in4 43 rfl) rfl
theorem wb_764 : Cond.methodLink "EscapeRoomsLaw" (37 : Nat) yX6_addKey ∈ z_B := z_inB (z_in4 44 rfl) rfl
theorem wb_765 : Cond.instanceMethod yX6_addKey ∈ z_B := z_inB (z_in4 45 rfl) rfl
theorem wb_766 : Cond.selects "EscapeRoomsModel" yX6_addKey yX6_addKey ∈ z_B := z_inB (z_in4 46 rfl) rfl
theorem wb_767 : Cond.code yX6_addKey prog_8_method_13_code (3 : Nat) (Option.some Jvm.ClassFile.FieldType.int) ∈ z_B := z_inB (z_in4 47 rfl) rfl
theorem wb_768 : Cond.methodLink "EscapeRoomsLaw" (41 : Nat) yX6_addGroup ∈ z_B := z_inB (z_in4 48 rfl) rfl
theorem wb_769 : Cond.instanceMethod yX6_addGroup ∈ z_B := z_inB (z_in4 49 rfl) rfl
theorem wb_770 : Cond.selects "EscapeRoomsModel" yX6_addGroup yX6_addGroup ∈ z_B := z_inB (z_in4 50 rfl) rfl
theorem wb_771 : Cond.code yX6_addGroup prog_8_method_16_code (3 : Nat) (Option.some Jvm.ClassFile.FieldType.int) ∈ z_B := z_inB (z_in4 51 rfl) rfl
theorem wb_772 : Cond.methodLink "EscapeRoomsModel" (115 : Nat) yX6_players ∈ z_B := z_inB (z_in4 52 rfl) rfl
theorem wb_774 : Cond.instanceMethod yX6_players ∈ z_B := z_inB (z_in4 54 rfl) rfl
theorem wb_775 : Cond.code yX6_players prog_8_method_14_code (3 : Nat) (Option.some Jvm.ClassFile.FieldType.int) ∈ z_B := z_inB (z_in4 55 rfl) rfl
theorem wb_776 : Cond.methodLink "EscapeRoomsModel" (118 : Nat) yX6_putGroup ∈ z_B := z_inB (z_in4 56 rfl) rfl
theorem wb_778 : Cond.instanceMethod yX6_putGroup ∈ z_B := z_inB (z_in4 58 rfl) rfl
theorem wb_779 : Cond.code yX6_putGroup prog_8_method_15_code (4 : Nat) (Option.some Jvm.ClassFile.FieldType.int) ∈ z_B := z_inB (z_in4 59 rfl) rfl
theorem wb_780 : Cond.methodLink "EscapeRoomsLaw" (45 : Nat) yX6_setHints ∈ z_B := z_inB (z_in4 60 rfl) rfl
theorem wb_781 : Cond.instanceMethod yX6_setHints ∈ z_B := z_inB (z_in4 61 rfl) rfl
theorem wb_782 : Cond.selects "EscapeRoomsModel" yX6_setHints yX6_setHints ∈ z_B := z_inB (z_in4 62 rfl) rfl
theorem wb_783 : Cond.code yX6_setHints prog_8_method_17_code (4 : Nat) (Option.some Jvm.ClassFile.FieldType.int) ∈ z_B := z_inB (z_in4 63 rfl) rfl
theorem wb_784 : Cond.methodLink "EscapeRoomsLaw" (49 : Nat) yX6_walk ∈ z_B := z_inB (z_in4 64 rfl) rfl
theorem wb_785 : Cond.instanceMethod yX6_walk ∈ z_B := z_inB (z_in4 65 rfl) rfl
theorem wb_786 : Cond.selects "EscapeRoomsModel" yX6_walk yX6_walk ∈ z_B := z_inB (z_in4 66 rfl) rfl
theorem wb_787 : Cond.code yX6_walk prog_8_method_20_code (4 : Nat) (Option.some Jvm.ClassFile.FieldType.int) ∈ z_B := z_inB (z_in4 67 rfl) rfl
theorem wb_788 : Cond.methodLink "EscapeRoomsModel" (122 : Nat) yX6_noGroup ∈ z_B := z_inB (z_in4 68 rfl) rfl
theorem wb_790 : Cond.instanceMethod yX6_noGroup ∈ z_B := z_inB (z_in4 70 rfl) rfl
theorem wb_791 : Cond.code yX6_noGroup prog_8_method_6_code (2 : Nat) (Option.some Jvm.ClassFile.FieldType.boolean) ∈ z_B := z_inB (z_in4 71 rfl) rfl
theorem wb_792 : Cond.methodLink "EscapeRoomsModel" (125 : Nat) yX6_noDoor ∈ z_B := z_inB (z_in4 72 rfl) rfl
theorem wb_794 : Cond.instanceMethod yX6_noDoor ∈ z_B := z_inB (z_in4 74 rfl) rfl
theorem wb_795 : Cond.code yX6_noDoor prog_8_method_4_code (2 : Nat) (Option.some Jvm.ClassFile.FieldType.boolean) ∈ z_B := z_inB (z_in4 75 rfl) rfl
theorem wb_796 : Cond.methodLink "EscapeRoomsModel" (128 : Nat) yX6_plays ∈ z_B := z_inB (z_in4 76 rfl) rfl
theorem wb_798 : Cond.instanceMethod yX6_plays ∈ z_B := z_inB (z_in4 78 rfl) rfl
theorem wb_799 : Cond.code yX6_plays prog_8_method_18_code (2 : Nat) (Option.some Jvm.ClassFile.FieldType.boolean) ∈ z_B := z_inB (z_in4 79 rfl) rfl
theorem wb_800 : Cond.methodLink "EscapeRoomsModel" (131 : Nat) yX6_isAt ∈ z_B := z_inB (z_in4 80 rfl) rfl
theorem wb_802 : Cond.instanceMethod yX6_isAt ∈ z_B := z_inB (z_in4 82 rfl) rfl
theorem wb_803 : Cond.code yX6_isAt prog_8_method_19_code (3 : Nat) (Option.some Jvm.ClassFile.FieldType.boolean) ∈ z_B := z_inB (z_in4 83 rfl) rfl
theorem wb_804 : Cond.constant "EscapeRoomsModel" (135 : Nat) (100000 : Int32) ∈ z_B := z_inB (z_in4 84 rfl) rfl
theorem wb_805 : Cond.methodLink "EscapeRoomsLaw" (53 : Nat) yX6_unlock ∈ z_B := z_inB (z_in4 85 rfl) rfl
theorem wb_806 : Cond.instanceMethod yX6_unlock ∈ z_B := z_inB (z_in4 86 rfl) rfl
theorem wb_807 : Cond.selects "EscapeRoomsModel" yX6_unlock yX6_unlock ∈ z_B := z_inB (z_in4 87 rfl) rfl
theorem wb_808 : Cond.code yX6_unlock prog_8_method_23_code (4 : Nat) (Option.some Jvm.ClassFile.FieldType.int) ∈ z_B := z_inB (z_in4 88 rfl) rfl
theorem wb_809 : Cond.methodLink "EscapeRoomsModel" (139 : Nat) yX6_keyFor ∈ z_B := z_inB (z_in4 89 rfl) rfl
theorem wb_811 : Cond.instanceMethod yX6_keyFor ∈ z_B := z_inB (z_in4 91 rfl) rfl
theorem wb_812 : Cond.code yX6_keyFor prog_8_method_22_code (4 : Nat) (Option.some Jvm.ClassFile.FieldType.int) ∈ z_B := z_inB (z_in4 92 rfl) rfl
theorem wb_813 : Cond.methodLink "EscapeRoomsModel" (136 : Nat) yX6_holds ∈ z_B := z_inB (z_in4 93 rfl) rfl
theorem wb_815 : Cond.instanceMethod yX6_holds ∈ z_B := z_inB (z_in4 95 rfl) rfl
theorem wb_816 : Cond.code yX6_holds prog_8_method_21_code (3 : Nat) (Option.some Jvm.ClassFile.FieldType.boolean) ∈ z_B := z_inB (z_in4 96 rfl) rfl
theorem wb_817 : Cond.methodLink "EscapeRoomsLaw" (57 : Nat) yX6_take ∈ z_B := z_inB (z_in4 97 rfl) rfl
theorem wb_818 : Cond.instanceMethod yX6_take ∈ z_B := z_inB (z_in4 98 rfl) rfl
theorem wb_819 : Cond.selects "EscapeRoomsModel" yX6_take yX6_take ∈ z_B := z_inB (z_in4 99 rfl) rfl
theorem wb_820 : Cond.code yX6_take prog_8_method_25_code (3 : Nat) (Option.some Jvm.ClassFile.FieldType.int) ∈ z_B := z_inB (z_in4 100 rfl) rfl
theorem wb_821 : Cond.methodLink "EscapeRoomsModel" (143 : Nat) yX6_noKey ∈ z_B := z_inB (z_in4 101 rfl) rfl
theorem wb_823 : Cond.instanceMethod yX6_noKey ∈ z_B := z_inB (z_in4 103 rfl) rfl
theorem wb_824 : Cond.code yX6_noKey prog_8_method_5_code (2 : Nat) (Option.some Jvm.ClassFile.FieldType.boolean) ∈ z_B := z_inB (z_in4 104 rfl) rfl
theorem wb_825 : Cond.methodLink "EscapeRoomsModel" (146 : Nat) yX6_held ∈ z_B := z_inB (z_in4 105 rfl) rfl
theorem wb_827 : Cond.instanceMethod yX6_held ∈ z_B := z_inB (z_in4 107 rfl) rfl
theorem wb_828 : Cond.code yX6_held prog_8_method_24_code (4 : Nat) (Option.some Jvm.ClassFile.FieldType.int) ∈ z_B := z_inB (z_in4 108 rfl) rfl
theorem wb_829 : Cond.methodLink "EscapeRoomsLaw" (61 : Nat) yX6_drop ∈ z_B := z_inB (z_in4 109 rfl) rfl
theorem wb_830 : Cond.instanceMethod yX6_drop ∈ z_B := z_inB (z_in4 110 rfl) rfl
theorem wb_831 : Cond.selects "EscapeRoomsModel" yX6_drop yX6_drop ∈ z_B := z_inB (z_in4 111 rfl) rfl
theorem wb_832 : Cond.code yX6_drop prog_8_method_26_code (3 : Nat) (Option.some Jvm.ClassFile.FieldType.int) ∈ z_B := z_inB (z_in4 112 rfl) rfl
theorem wb_833 : Cond.methodLink "EscapeRoomsLaw" (65 : Nat) yX6_idle ∈ z_B := z_inB (z_in4 113 rfl) rfl
theorem wb_834 : Cond.instanceMethod yX6_idle ∈ z_B := z_inB (z_in4 114 rfl) rfl
theorem wb_835 : Cond.selects "EscapeRoomsModel" yX6_idle yX6_idle ∈ z_B := z_inB (z_in4 115 rfl) rfl
theorem wb_836 : Cond.code yX6_idle prog_8_method_27_code (3 : Nat) (Option.some Jvm.ClassFile.FieldType.int) ∈ z_B := z_inB (z_in4 116 rfl) rfl
theorem wb_837 : Cond.methodLink "EscapeRoomsLaw" (69 : Nat) yX6_part ∈ z_B := z_inB (z_in4 117 rfl) rfl
theorem wb_838 : Cond.instanceMethod yX6_part ∈ z_B := z_inB (z_in4 118 rfl) rfl
theorem wb_839 : Cond.selects "EscapeRoomsModel" yX6_part yX6_part ∈ z_B := z_inB (z_in4 119 rfl) rfl
theorem wb_840 : Cond.code yX6_part prog_8_method_28_code (3 : Nat) (Option.some Jvm.ClassFile.FieldType.int) ∈ z_B := z_inB (z_in4 120 rfl) rfl
theorem wb_841 : Cond.methodLink "EscapeRoomsLaw" (73 : Nat) yX6_join ∈ z_B := z_inB (z_in4 121 rfl) rfl
theorem wb_842 : Cond.instanceMethod yX6_join ∈ z_B := z_inB (z_in4 122 rfl) rfl
theorem wb_843 : Cond.selects "EscapeRoomsModel" yX6_join yX6_join ∈ z_B := z_inB (z_in4 123 rfl) rfl
theorem wb_844 : Cond.code yX6_join prog_8_method_29_code (4 : Nat) (Option.some Jvm.ClassFile.FieldType.int) ∈ z_B := z_inB (z_in4 124 rfl) rfl
theorem wb_845 : Cond.methodLink "EscapeRoomsLaw" (77 : Nat) yX6_leave ∈ z_B := z_inB (z_in4 125 rfl) rfl
theorem wb_846 : Cond.instanceMethod yX6_leave ∈ z_B := z_inB (z_in4 126 rfl) rfl
theorem wb_847 : Cond.selects "EscapeRoomsModel" yX6_leave yX6_leave ∈ z_B := z_inB (z_in4 127 rfl) rfl
theorem wb_848 : Cond.code yX6_leave prog_8_method_30_code (2 : Nat) (Option.some Jvm.ClassFile.FieldType.int) ∈ z_B := z_inB (z_in4 128 rfl) rfl
theorem wb_849 : Cond.methodLink "EscapeRoomsLaw" (81 : Nat) yX6_hint ∈ z_B := z_inB (z_in4 129 rfl) rfl
theorem wb_850 : Cond.instanceMethod yX6_hint ∈ z_B := z_inB (z_in4 130 rfl) rfl
theorem wb_851 : Cond.selects "EscapeRoomsModel" yX6_hint yX6_hint ∈ z_B := z_inB (z_in4 131 rfl) rfl
theorem wb_852 : Cond.code yX6_hint prog_8_method_40_code (3 : Nat) (Option.some Jvm.ClassFile.FieldType.int) ∈ z_B := z_inB (z_in4 132 rfl) rfl
theorem wb_853 : Cond.methodLink "EscapeRoomsModel" (184 : Nat) yX6_findPlan ∈ z_B := z_inB (z_in4 133 rfl) rfl
theorem wb_855 : Cond.instanceMethod yX6_findPlan ∈ z_B := z_inB (z_in4 135 rfl) rfl
theorem wb_856 : Cond.code yX6_findPlan prog_8_method_38_code (6 : Nat) (Option.none : Option Jvm.ClassFile.FieldType) ∈ z_B := z_inB (z_in4 136 rfl) rfl
theorem wb_857 : Cond.methodLink "EscapeRoomsModel" (156 : Nat) yX6_layLocks ∈ z_B := z_inB (z_in4 137 rfl) rfl
theorem wb_859 : Cond.instanceMethod yX6_layLocks ∈ z_B := z_inB (z_in4 139 rfl) rfl
theorem wb_860 : Cond.code yX6_layLocks prog_8_method_33_code (2 : Nat) (Option.none : Option Jvm.ClassFile.FieldType) ∈ z_B := z_inB (z_in4 140 rfl) rfl
theorem wb_861 : Cond.methodLink "EscapeRoomsModel" (150 : Nat) yX6_has ∈ z_B := z_inB (z_in4 141 rfl) rfl
theorem wb_862 : Cond.static yX6_has ∈ z_B := z_inB (z_in4 142 rfl) rfl
theorem wb_863 : Cond.code yX6_has prog_8_method_31_code (2 : Nat) (Option.some Jvm.ClassFile.FieldType.boolean) ∈ z_B := z_inB (z_in4 143 rfl) rfl
theorem wb_864 : Cond.methodLink "EscapeRoomsModel" (159 : Nat) yX6_reachable ∈ z_B := z_inB (z_in4 144 rfl) rfl
theorem wb_866 : Cond.instanceMethod yX6_reachable ∈ z_B := z_inB (z_in4 146 rfl) rfl
theorem wb_867 : Cond.code yX6_reachable prog_8_method_32_code (7 : Nat) (Option.some Jvm.ClassFile.FieldType.int) ∈ z_B := z_inB (z_in4 147 rfl) rfl
theorem wb_868 : Cond.methodLink "EscapeRoomsModel" (168 : Nat) yX6_canAdd ∈ z_B := z_inB (z_in4 148 rfl) rfl
theorem wb_870 : Cond.instanceMethod yX6_canAdd ∈ z_B := z_inB (z_in4 150 rfl) rfl
theorem wb_871 : Cond.code yX6_canAdd prog_8_method_36_code (9 : Nat) (Option.some Jvm.ClassFile.FieldType.boolean) ∈ z_B := z_inB (z_in4 151 rfl) rfl
theorem wb_872 : Cond.methodLink "EscapeRoomsModel" (171 : Nat) yX6_costOf ∈ z_B := z_inB (z_in4 152 rfl) rfl
theorem wb_874 : Cond.instanceMethod yX6_costOf ∈ z_B := z_inB (z_in4 154 rfl) rfl
theorem wb_875 : Cond.code yX6_costOf prog_8_method_34_code (4 : Nat) (Option.some Jvm.ClassFile.FieldType.int) ∈ z_B := z_inB (z_in4 155 rfl) rfl
theorem wb_876 : Cond.methodLink "EscapeRoomsModel" (174 : Nat) yX6_sizeOfSet ∈ z_B := z_inB (z_in4 156 rfl) rfl
theorem wb_878 : Cond.instanceMethod yX6_sizeOfSet ∈ z_B := z_inB (z_in4 158 rfl) rfl
theorem wb_879 : Cond.code yX6_sizeOfSet prog_8_method_35_code (4 : Nat) (Option.some Jvm.ClassFile.FieldType.int) ∈ z_B := z_inB (z_in4 159 rfl) rfl
theorem wb_880 : Cond.methodLink "EscapeRoomsModel" (177 : Nat) yX6_escapes ∈ z_B := z_inB (z_in4 160 rfl) rfl
theorem wb_882 : Cond.instanceMethod yX6_escapes ∈ z_B := z_inB (z_in4 162 rfl) rfl
theorem wb_883 : Cond.code yX6_escapes prog_8_method_37_code (2 : Nat) (Option.some Jvm.ClassFile.FieldType.boolean) ∈ z_B := z_inB (z_in4 163 rfl) rfl
theorem wb_884 : Cond.methodLink "EscapeRoomsModel" (180 : Nat) yX6_findDoors ∈ z_B := z_inB (z_in4 164 rfl) rfl
theorem wb_886 : Cond.instanceMethod yX6_findDoors ∈ z_B := z_inB (z_in4 166 rfl) rfl
theorem wb_887 : Cond.code yX6_findDoors prog_8_method_39_code (6 : Nat) (Option.none : Option Jvm.ClassFile.FieldType) ∈ z_B := z_inB (z_in4 167 rfl) rfl
theorem wb_888 : Cond.methodLink "EscapeRoomsLaw" (85 : Nat) yX6_plan ∈ z_B := z_inB (z_in4 168 rfl) rfl
theorem wb_889 : Cond.instanceMethod yX6_plan ∈ z_B := z_inB (z_in4 169 rfl) rfl
theorem wb_890 : Cond.selects "EscapeRoomsModel" yX6_plan yX6_plan ∈ z_B := z_inB (z_in4 170 rfl) rfl
theorem wb_891 : Cond.code yX6_plan prog_8_method_41_code (3 : Nat) (Option.some Jvm.ClassFile.FieldType.int) ∈ z_B := z_inB (z_in4 171 rfl) rfl
theorem wb_892 : Cond.methodLink "EscapeRoomsLaw" (89 : Nat) yX6_planned ∈ z_B := z_inB (z_in4 172 rfl) rfl
theorem wb_893 : Cond.instanceMethod yX6_planned ∈ z_B := z_inB (z_in4 173 rfl) rfl
theorem wb_894 : Cond.selects "EscapeRoomsModel" yX6_planned yX6_planned ∈ z_B := z_inB (z_in4 174 rfl) rfl
theorem wb_895 : Cond.code yX6_planned prog_8_method_42_code (3 : Nat) (Option.some Jvm.ClassFile.FieldType.int) ∈ z_B := z_inB (z_in4 175 rfl) rfl
theorem wb_896 : Cond.methodLink "EscapeRoomsLaw" (93 : Nat) yX6_way ∈ z_B := z_inB (z_in4 176 rfl) rfl
theorem wb_897 : Cond.instanceMethod yX6_way ∈ z_B := z_inB (z_in4 177 rfl) rfl
theorem wb_898 : Cond.selects "EscapeRoomsModel" yX6_way yX6_way ∈ z_B := z_inB (z_in4 178 rfl) rfl
theorem wb_899 : Cond.code yX6_way prog_8_method_43_code (5 : Nat) (Option.some Jvm.ClassFile.FieldType.int) ∈ z_B := z_inB (z_in4 179 rfl) rfl
theorem wb_900 : Cond.constant "EscapeRoomsModel" (188 : Nat) (1000000000 : Int32) ∈ z_B := z_inB (z_in4 180 rfl) rfl
theorem wb_901 : Cond.methodLink "EscapeRoomsModel" (189 : Nat) yX6_passes ∈ z_B := z_inB (z_in4 181 rfl) rfl
theorem wb_903 : Cond.instanceMethod yX6_passes ∈ z_B := z_inB (z_in4 183 rfl) rfl
theorem wb_904 : Cond.code yX6_passes prog_8_method_44_code (5 : Nat) (Option.some Jvm.ClassFile.FieldType.boolean) ∈ z_B := z_inB (z_in4 184 rfl) rfl
theorem wb_905 : Cond.methodLink "EscapeRoomsLaw" (97 : Nat) yX6_reach ∈ z_B := z_inB (z_in4 185 rfl) rfl
theorem wb_906 : Cond.instanceMethod yX6_reach ∈ z_B := z_inB (z_in4 186 rfl) rfl
theorem wb_907 : Cond.selects "EscapeRoomsModel" yX6_reach yX6_reach ∈ z_B := z_inB (z_in4 187 rfl) rfl
theorem wb_908 : Cond.code yX6_reach prog_8_method_45_code (2 : Nat) (Option.some Jvm.ClassFile.FieldType.int) ∈ z_B := z_inB (z_in4 188 rfl) rfl
theorem wb_909 : Cond.methodLink "EscapeRoomsLaw" (101 : Nat) yX6_door ∈ z_B := z_inB (z_in4 189 rfl) rfl
theorem wb_910 : Cond.instanceMethod yX6_door ∈ z_B := z_inB (z_in4 190 rfl) rfl
theorem wb_911 : Cond.selects "EscapeRoomsModel" yX6_door yX6_door ∈ z_B := z_inB (z_in4 191 rfl) rfl
theorem wb_912 : Cond.code yX6_door prog_8_method_46_code (3 : Nat) (Option.some Jvm.ClassFile.FieldType.int) ∈ z_B := z_inB (z_in4 192 rfl) rfl
theorem wb_913 : Cond.methodLink "EscapeRoomsLaw" (105 : Nat) yX6_key ∈ z_B := z_inB (z_in4 193 rfl) rfl
theorem wb_914 : Cond.instanceMethod yX6_key ∈ z_B := z_inB (z_in4 194 rfl) rfl
theorem wb_915 : Cond.selects "EscapeRoomsModel" yX6_key yX6_key ∈ z_B := z_inB (z_in4 195 rfl) rfl
theorem wb_916 : Cond.code yX6_key prog_8_method_47_code (3 : Nat) (Option.some Jvm.ClassFile.FieldType.int) ∈ z_B := z_inB (z_in4 196 rfl) rfl
theorem wb_917 : Cond.methodLink "EscapeRoomsLaw" (109 : Nat) yX6_group ∈ z_B := z_inB (z_in4 197 rfl) rfl
theorem wb_918 : Cond.instanceMethod yX6_group ∈ z_B := z_inB (z_in4 198 rfl) rfl
theorem wb_919 : Cond.selects "EscapeRoomsModel" yX6_group yX6_group ∈ z_B := z_inB (z_in4 199 rfl) rfl
theorem wb_920 : Cond.code yX6_group prog_8_method_48_code (3 : Nat) (Option.some Jvm.ClassFile.FieldType.int) ∈ z_B := z_inB (z_in4 200 rfl) rfl
theorem wb_921 : Cond.methodLink "EscapeRoomsLaw" (113 : Nat) yX6_color ∈ z_B := z_inB (z_in4 201 rfl) rfl
theorem wb_922 : Cond.instanceMethod yX6_color ∈ z_B := z_inB (z_in4 202 rfl) rfl
theorem wb_923 : Cond.selects "EscapeRoomsModel" yX6_color yX6_color ∈ z_B := z_inB (z_in4 203 rfl) rfl
theorem wb_924 : Cond.code yX6_color prog_8_method_49_code (5 : Nat) (Option.some Jvm.ClassFile.FieldType.int) ∈ z_B := z_inB (z_in4 204 rfl) rfl
theorem wb_925 : Cond.methodLink "EscapeRoomsLaw" (117 : Nat) yX6_count ∈ z_B := z_inB (z_in4 205 rfl) rfl
theorem wb_926 : Cond.instanceMethod yX6_count ∈ z_B := z_inB (z_in4 206 rfl) rfl
theorem wb_927 : Cond.selects "EscapeRoomsModel" yX6_count yX6_count ∈ z_B := z_inB (z_in4 207 rfl) rfl
theorem wb_928 : Cond.code yX6_count prog_8_method_55_code (2 : Nat) (Option.some Jvm.ClassFile.FieldType.int) ∈ z_B := z_inB (z_in4 208 rfl) rfl
theorem wb_929 : Cond.methodLink "EscapeRoomsModel" (192 : Nat) yX6_unlocked ∈ z_B := z_inB (z_in4 209 rfl) rfl
theorem wb_931 : Cond.instanceMethod yX6_unlocked ∈ z_B := z_inB (z_in4 211 rfl) rfl
theorem wb_932 : Cond.code yX6_unlocked prog_8_method_51_code (3 : Nat) (Option.some Jvm.ClassFile.FieldType.int) ∈ z_B := z_inB (z_in4 212 rfl) rfl
theorem wb_933 : Cond.methodLink "EscapeRoomsModel" (195 : Nat) yX6_sizes ∈ z_B := z_inB (z_in4 213 rfl) rfl
theorem wb_935 : Cond.instanceMethod yX6_sizes ∈ z_B := z_inB (z_in4 215 rfl) rfl
theorem wb_936 : Cond.code yX6_sizes prog_8_method_50_code (4 : Nat) (Option.some Jvm.ClassFile.FieldType.int) ∈ z_B := z_inB (z_in4 216 rfl) rfl
theorem wb_937 : Cond.methodLink "EscapeRoomsModel" (198 : Nat) yX6_latest ∈ z_B := z_inB (z_in4 217 rfl) rfl
theorem wb_939 : Cond.instanceMethod yX6_latest ∈ z_B := z_inB (z_in4 219 rfl) rfl
theorem wb_940 : Cond.code yX6_latest prog_8_method_52_code (3 : Nat) (Option.some Jvm.ClassFile.FieldType.int) ∈ z_B := z_inB (z_in4 220 rfl) rfl
theorem wb_941 : Cond.methodLink "EscapeRoomsModel" (201 : Nat) yX6_hints ∈ z_B := z_inB (z_in4 221 rfl) rfl
theorem wb_943 : Cond.instanceMethod yX6_hints ∈ z_B := z_inB (z_in4 223 rfl) rfl
theorem wb_944 : Cond.code yX6_hints prog_8_method_53_code (3 : Nat) (Option.some Jvm.ClassFile.FieldType.int) ∈ z_B := z_inB (z_in4 224 rfl) rfl
theorem wb_945 : Cond.methodLink "EscapeRoomsModel" (204 : Nat) yX6_deadEnds ∈ z_B := z_inB (z_in4 225 rfl) rfl
theorem wb_947 : Cond.instanceMethod yX6_deadEnds ∈ z_B := z_inB (z_in4 227 rfl) rfl
theorem wb_948 : Cond.code yX6_deadEnds prog_8_method_54_code (3 : Nat) (Option.some Jvm.ClassFile.FieldType.int) ∈ z_B := z_inB (z_in4 228 rfl) rfl
theorem wb_958 : Cond.selects "[Ljava/lang/Object;" ⟨"java/lang/Object", "getClass", "()Ljava/lang/Class;"⟩ ⟨"java/lang/Object", "getClass", "()Ljava/lang/Class;"⟩ ∈ z_B := z_inB (z_in4 238 rfl) rfl
theorem wb_s0 : Cond.selects "java/util/ArrayList" yJx4a65c_add_72be8 yJx4a65c_add_72be8 ∈ z_B := z_inB (z_sel (q := (yJx4a65c_add_72be8, 3)) (List.mem_of_getElem? (i := 0) rfl)) rfl
theorem wb_s1 : Cond.selects "java/util/ArrayList" yJx4a65c_grow_d5877 yJx4a65c_grow_d5877 ∈ z_B := z_inB (z_sel (q := (yJx4a65c_grow_d5877, 3)) (List.mem_of_getElem? (i := 1) rfl)) rfl
theorem wb_s2 : Cond.selects "java/util/ArrayList" yJx4a65c_grow_92f84 yJx4a65c_grow_92f84 ∈ z_B := z_inB (z_sel (q := (yJx4a65c_grow_92f84, 3)) (List.mem_of_getElem? (i := 2) rfl)) rfl
theorem wb_s3 : Cond.selects "EscapeRooms" yX5_isRoom yX5_isRoom ∈ z_B := z_inB (z_sel (q := (yX5_isRoom, 10)) (List.mem_of_getElem? (i := 3) rfl)) rfl
theorem wb_s4 : Cond.selects "EscapeRooms" yX5_exitNumber yX5_exitNumber ∈ z_B := z_inB (z_sel (q := (yX5_exitNumber, 10)) (List.mem_of_getElem? (i := 4) rfl)) rfl
theorem wb_s5 : Cond.selects "EscapeRooms" yX5_lowerRoom yX5_lowerRoom ∈ z_B := z_inB (z_sel (q := (yX5_lowerRoom, 10)) (List.mem_of_getElem? (i := 5) rfl)) rfl
theorem wb_s6 : Cond.selects "EscapeRooms" yX5_higherRoom yX5_higherRoom ∈ z_B := z_inB (z_sel (q := (yX5_higherRoom, 10)) (List.mem_of_getElem? (i := 6) rfl)) rfl
theorem wb_s7 : Cond.selects "EscapeRooms" yX5_playersThat yX5_playersThat ∈ z_B := z_inB (z_sel (q := (yX5_playersThat, 10)) (List.mem_of_getElem? (i := 7) rfl)) rfl
theorem wb_s8 : Cond.selects "EscapeRooms" yX5_isGroup yX5_isGroup ∈ z_B := z_inB (z_sel (q := (yX5_isGroup, 10)) (List.mem_of_getElem? (i := 8) rfl)) rfl
theorem wb_s9 : Cond.selects "EscapeRooms" yX5_isDoor yX5_isDoor ∈ z_B := z_inB (z_sel (q := (yX5_isDoor, 10)) (List.mem_of_getElem? (i := 9) rfl)) rfl
theorem wb_s10 : Cond.selects "EscapeRooms" yX5_lowestHeldKey yX5_lowestHeldKey ∈ z_B := z_inB (z_sel (q := (yX5_lowestHeldKey, 10)) (List.mem_of_getElem? (i := 10) rfl)) rfl
theorem wb_s11 : Cond.selects "EscapeRooms" yX5_isKey yX5_isKey ∈ z_B := z_inB (z_sel (q := (yX5_isKey, 10)) (List.mem_of_getElem? (i := 11) rfl)) rfl
theorem wb_s12 : Cond.selects "EscapeRooms" yX5_keysHeldBy yX5_keysHeldBy ∈ z_B := z_inB (z_sel (q := (yX5_keysHeldBy, 10)) (List.mem_of_getElem? (i := 12) rfl)) rfl
theorem wb_s13 : Cond.selects "EscapeRooms" yX5_handOverKeys yX5_handOverKeys ∈ z_B := z_inB (z_sel (q := (yX5_handOverKeys, 10)) (List.mem_of_getElem? (i := 13) rfl)) rfl
theorem wb_s14 : Cond.selects "EscapeRooms$PlanSearch" yX3_comeTo yX3_comeTo ∈ z_B := z_inB (z_sel (q := (yX3_comeTo, 10)) (List.mem_of_getElem? (i := 14) rfl)) rfl
theorem wb_s15 : Cond.selects "EscapeRooms$PlanSearch" yX3_keepIfBetter yX3_keepIfBetter ∈ z_B := z_inB (z_sel (q := (yX3_keepIfBetter, 10)) (List.mem_of_getElem? (i := 15) rfl)) rfl
theorem wb_s16 : Cond.selects "EscapeRooms$PlanSearch" yX3_costOf yX3_costOf ∈ z_B := z_inB (z_sel (q := (yX3_costOf, 10)) (List.mem_of_getElem? (i := 16) rfl)) rfl
theorem wb_s17 : Cond.selects "EscapeRooms$PlanSearch" yX3_isOpenedByPlan yX3_isOpenedByPlan ∈ z_B := z_inB (z_sel (q := (yX3_isOpenedByPlan, 10)) (List.mem_of_getElem? (i := 17) rfl)) rfl
theorem wb_s18 : Cond.selects "EscapeRooms$PlanSearch" yX3_isBetter yX3_isBetter ∈ z_B := z_inB (z_sel (q := (yX3_isBetter, 10)) (List.mem_of_getElem? (i := 18) rfl)) rfl
theorem wb_s19 : Cond.selects "EscapeRooms$PlanSearch" yX3_goOnFrom yX3_goOnFrom ∈ z_B := z_inB (z_sel (q := (yX3_goOnFrom, 10)) (List.mem_of_getElem? (i := 19) rfl)) rfl
theorem wb_s20 : Cond.selects "EscapeRooms$PlanSearch" yX3_keysLeft yX3_keysLeft ∈ z_B := z_inB (z_sel (q := (yX3_keysLeft, 10)) (List.mem_of_getElem? (i := 20) rfl)) rfl
theorem wb_s21 : Cond.selects "EscapeRooms" yX5_findArrivals yX5_findArrivals ∈ z_B := z_inB (z_sel (q := (yX5_findArrivals, 10)) (List.mem_of_getElem? (i := 21) rfl)) rfl
theorem wb_s22 : Cond.selects "EscapeRooms" yX5_closedLocksOf yX5_closedLocksOf ∈ z_B := z_inB (z_sel (q := (yX5_closedLocksOf, 10)) (List.mem_of_getElem? (i := 22) rfl)) rfl
theorem wb_s23 : Cond.selects "EscapeRooms" yX5_keysLeftOf yX5_keysLeftOf ∈ z_B := z_inB (z_sel (q := (yX5_keysLeftOf, 10)) (List.mem_of_getElem? (i := 23) rfl)) rfl
theorem wb_s24 : Cond.selects "EscapeRooms" yX5_latestEscape yX5_latestEscape ∈ z_B := z_inB (z_sel (q := (yX5_latestEscape, 10)) (List.mem_of_getElem? (i := 24) rfl)) rfl
theorem wb_s25 : Cond.selects "EscapeRooms" yX5_groupsInDeadEnd yX5_groupsInDeadEnd ∈ z_B := z_inB (z_sel (q := (yX5_groupsInDeadEnd, 10)) (List.mem_of_getElem? (i := 25) rfl)) rfl
theorem wb_s26 : Cond.selects "EscapeRoomsModel" yX6_noRoom yX6_noRoom ∈ z_B := z_inB (z_sel (q := (yX6_noRoom, 32)) (List.mem_of_getElem? (i := 26) rfl)) rfl
theorem wb_s27 : Cond.selects "EscapeRoomsModel" yX6_putDoor yX6_putDoor ∈ z_B := z_inB (z_sel (q := (yX6_putDoor, 32)) (List.mem_of_getElem? (i := 27) rfl)) rfl
theorem wb_s28 : Cond.selects "EscapeRoomsModel" yX6_locks yX6_locks ∈ z_B := z_inB (z_sel (q := (yX6_locks, 32)) (List.mem_of_getElem? (i := 28) rfl)) rfl
theorem wb_s29 : Cond.selects "EscapeRoomsModel" yX6_players yX6_players ∈ z_B := z_inB (z_sel (q := (yX6_players, 32)) (List.mem_of_getElem? (i := 29) rfl)) rfl
theorem wb_s30 : Cond.selects "EscapeRoomsModel" yX6_putGroup yX6_putGroup ∈ z_B := z_inB (z_sel (q := (yX6_putGroup, 32)) (List.mem_of_getElem? (i := 30) rfl)) rfl
theorem wb_s31 : Cond.selects "EscapeRoomsModel" yX6_noGroup yX6_noGroup ∈ z_B := z_inB (z_sel (q := (yX6_noGroup, 32)) (List.mem_of_getElem? (i := 31) rfl)) rfl
theorem wb_s32 : Cond.selects "EscapeRoomsModel" yX6_noDoor yX6_noDoor ∈ z_B := z_inB (z_sel (q := (yX6_noDoor, 32)) (List.mem_of_getElem? (i := 32) rfl)) rfl
theorem wb_s33 : Cond.selects "EscapeRoomsModel" yX6_plays yX6_plays ∈ z_B := z_inB (z_sel (q := (yX6_plays, 32)) (List.mem_of_getElem? (i := 33) rfl)) rfl
theorem wb_s34 : Cond.selects "EscapeRoomsModel" yX6_isAt yX6_isAt ∈ z_B := z_inB (z_sel (q := (yX6_isAt, 32)) (List.mem_of_getElem? (i := 34) rfl)) rfl
theorem wb_s35 : Cond.selects "EscapeRoomsModel" yX6_keyFor yX6_keyFor ∈ z_B := z_inB (z_sel (q := (yX6_keyFor, 32)) (List.mem_of_getElem? (i := 35) rfl)) rfl
theorem wb_s36 : Cond.selects "EscapeRoomsModel" yX6_holds yX6_holds ∈ z_B := z_inB (z_sel (q := (yX6_holds, 32)) (List.mem_of_getElem? (i := 36) rfl)) rfl
theorem wb_s37 : Cond.selects "EscapeRoomsModel" yX6_noKey yX6_noKey ∈ z_B := z_inB (z_sel (q := (yX6_noKey, 32)) (List.mem_of_getElem? (i := 37) rfl)) rfl
theorem wb_s38 : Cond.selects "EscapeRoomsModel" yX6_held yX6_held ∈ z_B := z_inB (z_sel (q := (yX6_held, 32)) (List.mem_of_getElem? (i := 38) rfl)) rfl
theorem wb_s39 : Cond.selects "EscapeRoomsModel" yX6_findPlan yX6_findPlan ∈ z_B := z_inB (z_sel (q := (yX6_findPlan, 32)) (List.mem_of_getElem? (i := 39) rfl)) rfl
theorem wb_s40 : Cond.selects "EscapeRoomsModel" yX6_layLocks yX6_layLocks ∈ z_B := z_inB (z_sel (q := (yX6_layLocks, 32)) (List.mem_of_getElem? (i := 40) rfl)) rfl
theorem wb_s41 : Cond.selects "EscapeRoomsModel" yX6_reachable yX6_reachable ∈ z_B := z_inB (z_sel (q := (yX6_reachable, 32)) (List.mem_of_getElem? (i := 41) rfl)) rfl
theorem wb_s42 : Cond.selects "EscapeRoomsModel" yX6_canAdd yX6_canAdd ∈ z_B := z_inB (z_sel (q := (yX6_canAdd, 32)) (List.mem_of_getElem? (i := 42) rfl)) rfl
theorem wb_s43 : Cond.selects "EscapeRoomsModel" yX6_costOf yX6_costOf ∈ z_B := z_inB (z_sel (q := (yX6_costOf, 32)) (List.mem_of_getElem? (i := 43) rfl)) rfl
theorem wb_s44 : Cond.selects "EscapeRoomsModel" yX6_sizeOfSet yX6_sizeOfSet ∈ z_B := z_inB (z_sel (q := (yX6_sizeOfSet, 32)) (List.mem_of_getElem? (i := 44) rfl)) rfl
theorem wb_s45 : Cond.selects "EscapeRoomsModel" yX6_escapes yX6_escapes ∈ z_B := z_inB (z_sel (q := (yX6_escapes, 32)) (List.mem_of_getElem? (i := 45) rfl)) rfl
theorem wb_s46 : Cond.selects "EscapeRoomsModel" yX6_findDoors yX6_findDoors ∈ z_B := z_inB (z_sel (q := (yX6_findDoors, 32)) (List.mem_of_getElem? (i := 46) rfl)) rfl
theorem wb_s47 : Cond.selects "EscapeRoomsModel" yX6_passes yX6_passes ∈ z_B := z_inB (z_sel (q := (yX6_passes, 32)) (List.mem_of_getElem? (i := 47) rfl)) rfl
theorem wb_s48 : Cond.selects "EscapeRoomsModel" yX6_unlocked yX6_unlocked ∈ z_B := z_inB (z_sel (q := (yX6_unlocked, 32)) (List.mem_of_getElem? (i := 48) rfl)) rfl
theorem wb_s49 : Cond.selects "EscapeRoomsModel" yX6_sizes yX6_sizes ∈ z_B := z_inB (z_sel (q := (yX6_sizes, 32)) (List.mem_of_getElem? (i := 49) rfl)) rfl
theorem wb_s50 : Cond.selects "EscapeRoomsModel" yX6_latest yX6_latest ∈ z_B := z_inB (z_sel (q := (yX6_latest, 32)) (List.mem_of_getElem? (i := 50) rfl)) rfl
theorem wb_s51 : Cond.selects "EscapeRoomsModel" yX6_hints yX6_hints ∈ z_B := z_inB (z_sel (q := (yX6_hints, 32)) (List.mem_of_getElem? (i := 51) rfl)) rfl
theorem wb_s52 : Cond.selects "EscapeRoomsModel" yX6_deadEnds yX6_deadEnds ∈ z_B := z_inB (z_sel (q := (yX6_deadEnds, 32)) (List.mem_of_getElem? (i := 52) rfl)) rfl
end
section
/-! A thin layer over the kit: one judgement z_Z that hides the slots and the frame, contracts z_M over the real heap, and a row an instruction. -/
/-- numbers of the launch: class ids and slots, and: 0 the class of int[], 1 of long[], 2 of boolean[], 3 of Object[], 4 the mirror of Object[], 5 the cell of ArrayList's empty array, 6 the cell and 7 the slot of the static that holds it -/
abbrev z_G : Type := va_G × (Nat → Nat)
def z_tys (G : z_G) : List (ClassId × FieldType) := [(G.2 0, .int), (G.2 1, .long), (G.2 2, .boolean), (G.2 3, .object "java/lang/Object")]
def z_KO (C : String) (U : State) : Prop := va_Nw (.castable C "java/lang/Object") U
def z_Kst (G : z_G) (U : State) : Prop := ∃ (cf : ClassId) (kf : Class) (fi : Nat) (f : Field), U.fieldFound? "java/util/ArrayList" "DEFAULTCAPACITY_EMPTY_ELEMENTDATA" "[Ljava/lang/Object;" = some (cf, kf, fi, f) ∧ f.isStatic = true ∧ kf.init = .initialized ∧ kf.statics = some (G.2 6) ∧ f.slot = G.2 7
/-- what the tables say of the classes, and goes along with every call -/
def z_K (G : z_G) (U : State) : Prop :=
  va_K G.1 vwCl (z_tys G) U ∧ (z_KO RX0 U ∧ z_KO RX1 U ∧ z_KO RX2 U ∧ z_KO RX4 U) ∧ va_Nw (.methodLinkNest RX3 34 yX5_openLocks RX5) U ∧ va_Nw (.methodLinkNest RX3 77 yX5_spread RX5) U ∧ va_AO "java/lang/Object" U ∧ va_Mi "[Ljava/lang/Object;" (G.2 4) U ∧ va_Dc U ∧ z_Kst G U
theorem z_Kst.moved {G : z_G} {u U : State} (hvm : u.vm.Alike U.vm) (h : z_Kst G u) : z_Kst G U := by
  obtain ⟨cf, kf, fi, f, h1, h2, h3, h4, h5⟩ := h
  obtain ⟨k', hi', he⟩ := State.fieldFound?_setVm hvm h1
  exact ⟨cf, k', fi, f, hi', h2, by rw [he]; exact h3, by rw [he]; exact h4, h5⟩
theorem z_K.warm {G : z_G} {s U : State} (hW : s.WarmedH U.vm) (h : z_K G s) : z_K G U := by
  obtain ⟨h1, ⟨a1, a2, a3, a4⟩, b1, b2, c1, c2, c3, c4⟩ := h
  exact ⟨h1.moved hW.alike, ⟨va_Nw.warmC hW a1, va_Nw.warmC hW a2, va_Nw.warmC hW a3, va_Nw.warmC hW a4⟩, va_Nw.warmM hW b1, va_Nw.warmM hW b2, c1.moved hW.alike, c2.moved hW.alike, c3.moved hW.alike, c4.moved hW.alike⟩
theorem z_K.calling {G : z_G} {U : State} (g : JFrame) (mk : MethodId) (a : Array Value) (h : z_K G U) : z_K G (U.calling g mk a) := by
  obtain ⟨h1, ⟨a1, a2, a3, a4⟩, b1, b2, c1, c2, c3, c4⟩ := h
  have al : U.vm.Alike (U.calling g mk a).vm := Vm.Alike.refl U.vm
  exact ⟨h1.moved al, ⟨a1.same rfl rfl, a2.same rfl rfl, a3.same rfl rfl, a4.same rfl rfl⟩, b1.same rfl rfl, b2.same rfl rfl, c1.moved al, c2.moved al, c3.moved al, c4.moved al⟩
/-- the empty array of ArrayList and the static that holds it -/
def z_S (G : z_G) (H : Heap) : Prop := (∃ cell : Cell, H[G.2 6]? = some cell ∧ cell.vm.isStatics = true ∧ cell.slots[G.2 7]? = some (.ref (G.2 5))) ∧ ∃ cell : Cell, H[G.2 5]? = some cell ∧ cell.cls = G.2 3 ∧ cell.slots.size = 0 ∧ cell.vm ≠ .unknown
/-- what holds in a method's body all along -/
def z_C (p : Program) (s : State) (m : MethodId) (args : Array Value) (meth : Method) (c : Code) (cc : ByteArray) (own : String) (ret : Option FieldType) (n : Nat) (nm : String) (G : z_G) : Prop :=
  p.tables.exec = Jvm.exec ∧ c.code = cc ∧ meth.sig.returnType = ret ∧ c.maxLocals = n ∧ s.vm.findClass own = some m.cls ∧ (∀ w ∈ z_B, w.before args s = true) ∧ z_K G s ∧ meth.locks = false ∧ meth.name = nm
/-- the judgement -/
def z_Z (p : Program) (l : Launch) (e : Env) (R : Room) (s : State) (m : MethodId) (args : Array Value) (below : List Frame) (meth : Method) (c : Code) (A : Nat → Prop) (n cells slots : Nat) (Q : State → Prop) (H : Heap) (pc : Nat) (L : List (Nat × Value)) (st : List Value) : Prop :=
  ∀ (ls : Array Slot) (locs : List Loc), lv_has ls n L → va_S A s.heap H locs → W p l e R s m args below meth c H locs cells slots Q (F0 m pc ls st)
/-- a method's end -/
def z_Q (Q : Option Value → Heap → Heap → Prop) (A : Nat → Prop) : Array Value → State → Outcome → State → Prop := fun _ st oc t => (∃ v : Option Value, oc = .returned v ∧ Q v st.heap t.heap) ∧ va_F A st t
def z_rm (k mc ms : Nat) : Room := { frames := k, cells := mc, slots := ms, locals := 30 * k }
/-- a contract: any heap with P, any caller; mc cells of ms slots may come, A is what may change -/
def z_M (l : Launch) (y : MethodName) (cc : ByteArray) (nL : Nat) (rt : Option FieldType) (k mc ms : Nat) (av : List Value) (G : z_G) (P : Heap → Prop) (A : Nat → Prop) (Q : Option Value → Heap → Heap → Prop) : Prop :=
  Met l y (Cond.code y cc nL rt :: z_B) (z_rm k mc ms) (va_Pc av (fun U => P U.heap ∧ z_K G U)) (z_Q Q A) mc ms A
/-- a contract of a method that only reads -/
def z_MR (l : Launch) (y : MethodName) (cc : ByteArray) (nL : Nat) (rt : Option FieldType) (k : Nat) (av : List Value) (G : z_G) (P : Heap → Prop) (val : Value) : Prop :=
  z_M l y cc nL rt k 0 0 av G P (fun _ => False) (fun v H H' => v = some val ∧ H' = H)
/-- one cell has become e, the others stay -/
def z_U (G : z_G) (a : Nat) (e : va_E) (H H' : Heap) : Prop := va_at G.1 vwCl (a, e) H' ∧ H'.size = H.size ∧ ∀ q : Nat, q ≠ a → H'[q]? = H[q]?
/-- one cell has come -/
def z_N (G : z_G) (a : Nat) (e : va_E) (H H' : Heap) : Prop := a = H.size ∧ va_at G.1 vwCl (a, e) H' ∧ H'.size = H.size + 1 ∧ ∀ q : Nat, q < H.size → H'[q]? = H[q]?
theorem z_at_keep {G : z_G} {a b : Nat} {e e2 : va_E} {H H' : Heap} (hU : z_U G a e H H') (h : va_at G.1 vwCl (b, e2) H) (hne : b ≠ a) : va_at G.1 vwCl (b, e2) H' := h.kept (hU.2.2 b hne)
theorem z_at_new {G : z_G} {a b : Nat} {e e2 : va_E} {H H' : Heap} (hN : z_N G a e H H') (h : va_at G.1 vwCl (b, e2) H) : va_at G.1 vwCl (b, e2) H' := h.kept (hN.2.2.2 b h.lt)
theorem z_at_in {G : z_G} {a : Nat} {o o2 : va_E} {H : Heap} (h : va_at G.1 vwCl (a, o) H) : a < H.size := h.lt
theorem z_P1 {D : va_G} {a : Nat} {e : va_E} {H : Heap} (h : va_at D vwCl (a, e) H) : va_P D vwCl [(a, e)] H := by
  intro k q hk
  match k, hk with
  | 0, hk => cases hk; exact h
  | k + 1, hk => simp at hk
/-! locals -/
def z_lg (L : List (Nat × Value)) (k : Nat) : Option Value := match L with
  | [] => none
  | q :: r => bif Nat.beq q.1 k then some q.2 else z_lg r k
theorem z_lg_mem : ∀ {L : List (Nat × Value)} {k : Nat} {v : Value}, z_lg L k = some v → (k, v) ∈ L
  | [], k, v, h => by cases h
  | q :: r, k, v, h => by
    unfold z_lg at h
    by_cases hq : q.1 = k
    · have hb : Nat.beq q.1 k = true := by rw [hq]; exact Nat.beq_refl k
      rw [hb] at h
      have h2 : q.2 = v := Option.some.inj h
      rw [← hq, ← h2]
      exact List.mem_cons_self
    · have hb : Nat.beq q.1 k = false := by
        cases hz : Nat.beq q.1 k with
        | false => rfl
        | true => exact absurd (Nat.eq_of_beq_eq_true hz) hq
      rw [hb] at h
      exact List.mem_cons_of_mem _ (z_lg_mem h)
theorem z_lg_at {ls : Array Slot} {n : Nat} {L : List (Nat × Value)} (h : lv_has ls n L) {k : Nat} {v : Value} (hk : z_lg L k = some v) : ls[k]? = some (.val v) := h.2.2 (k, v) (z_lg_mem hk)
def z_ls (L : List (Nat × Value)) (i : Nat) (v : Value) : List (Nat × Value) := (i, v) :: L.filter (fun q => !(q.1 == i) && !(q.1 + 1 == i && q.2.category == 2))
def z_ls2 (L : List (Nat × Value)) (i : Nat) (v : Value) : List (Nat × Value) := (i, v) :: L.filter (fun q => !(q.1 == i) && (!(q.1 == i + 1) && !(q.1 + 1 == i && q.2.category == 2)))
def z_all : List (Nat × Value) → List (Nat × Value) → Prop
  | [], _ => True
  | q :: r, L => z_lg L q.1 = some q.2 ∧ z_all r L
theorem z_all_sub : ∀ {L' L : List (Nat × Value)}, z_all L' L → ∀ q ∈ L', q ∈ L
  | [], _, _, q, hq => by cases hq
  | x :: r, L, h, q, hq => by
    rcases List.mem_cons.mp hq with rfl | hq
    · exact z_lg_mem h.1
    · exact z_all_sub h.2 q hq
def z_cal (y : MethodName) (cc : ByteArray) (nL : Nat) (rt : Option FieldType) (Cn : String) (n : Nat) : Prop := (Cond.instanceMethod y ∈ z_B ∧ Cond.selects Cn y y ∈ z_B ∧ Cond.initialized Cn ∈ z_B ∧ Cond.code y cc nL rt ∈ z_B) ∧ y.cls = Cn ∧ y.cls ≠ "java/lang/invoke/MethodHandle" ∧ y.cls ≠ "java/lang/invoke/VarHandle" ∧ (parseMethodDescriptor y.desc).map (fun d => d.parameters.length) = some n
def z_calS (y : MethodName) (cc : ByteArray) (nL : Nat) (rt : Option FieldType) (n : Nat) : Prop := (Cond.static y ∈ z_B ∧ Cond.initialized y.cls ∈ z_B ∧ Cond.code y cc nL rt ∈ z_B) ∧ y.cls ≠ "java/lang/invoke/MethodHandle" ∧ y.cls ≠ "java/lang/invoke/VarHandle" ∧ (parseMethodDescriptor y.desc).map (fun d => d.parameters.length) = some n
def z_calI (y : MethodName) (cc : ByteArray) (nL : Nat) (n : Nat) : Prop := (Cond.initialized y.cls ∈ z_B ∧ Cond.instanceMethod y ∈ z_B ∧ Cond.code y cc nL none ∈ z_B ∧ y.name = "<init>") ∧ y.cls ≠ "java/lang/invoke/MethodHandle" ∧ y.cls ≠ "java/lang/invoke/VarHandle" ∧ (parseMethodDescriptor y.desc).map (fun d => d.parameters.length) = some n
theorem z_goodc {w : Cond} (h : w ∈ z_B) : GoodIn z_B (w :: z_B) := fun v hv => by
  rcases List.mem_cons.mp hv with rfl | hv
  · exact z_goodB _ h
  · exact z_goodB _ hv
theorem z_goodl : ∀ {ws : List Cond}, (∀ w ∈ ws, w ∈ z_B) → GoodIn z_B ws := fun h w hw => z_goodB w (h w hw)
theorem z_cal.good {y : MethodName} {cc : ByteArray} {nL n : Nat} {rt : Option FieldType} {Cn own : String} {idx : Nat} (h : z_cal y cc nL rt Cn n) (hl : Cond.methodLink own idx y ∈ z_B) : GoodIn z_B (wsV own idx Cn y (Cond.code y cc nL rt :: z_B)) := by
  refine z_goodl fun w hw => ?_
  unfold wsV at hw
  simp only [List.cons_append, List.nil_append, List.mem_cons] at hw
  rcases hw with rfl | rfl | rfl | rfl | rfl | hw
  · exact hl
  · exact h.1.1
  · exact h.1.2.1
  · exact h.1.2.2.1
  · exact h.1.2.2.2
  · exact hw
theorem z_calS.good {y : MethodName} {cc : ByteArray} {nL n : Nat} {rt : Option FieldType} {own : String} {idx : Nat} (h : z_calS y cc nL rt n) (hl : Cond.methodLink own idx y ∈ z_B) : GoodIn z_B (va_wsS own idx y (Cond.code y cc nL rt :: z_B)) := by
  refine z_goodl fun w hw => ?_
  unfold va_wsS at hw
  simp only [List.cons_append, List.nil_append, List.mem_cons] at hw
  rcases hw with rfl | rfl | rfl | rfl | hw
  · exact hl
  · exact h.1.1
  · exact h.1.2.1
  · exact h.1.2.2
  · exact hw
def z_b (b : Bool) : Int32 := bif b then 1 else 0
theorem z_b_bool (b : Bool) : narrow .boolean (.int (z_b b)) = .int (z_b b) := by cases b <;> rfl
theorem z_mem {ws : List Cond} {w : Cond} (i : Nat) (h : ws[i]? = some w) : w ∈ ws := List.mem_of_getElem? h
theorem z_subw {ws small : List Cond} (ps : List Nat) (h : ps.map (fun i => ws[i]?) = small.map some) : ∀ w ∈ small, w ∈ ws := by
  intro w hw
  have h1 : some w ∈ ps.map (fun i => ws[i]?) := by rw [h]; exact List.mem_map_of_mem hw
  obtain ⟨i, -, hi⟩ := List.mem_map.mp h1
  exact List.mem_of_getElem? hi
theorem z_uw {C : String} {T : u_T} {N : Nat} (h : ∀ k, k < N → u_lay C T k ∈ z_B) : ∀ w ∈ u_ws C T N, w ∈ z_B := by
  intro w hw
  unfold u_ws at hw
  obtain ⟨k, hk, rfl⟩ := List.mem_map.mp hw
  exact h k (List.mem_range.mp hk)
section ZROWS
variable {p : Program} {l : Launch} {e : Env} {R : Room} {s : State} {m : MethodId} {args : Array Value} {below : List Frame} {meth : Method} {c : Code} {A : Nat → Prop} {n cells slots : Nat} {Q : State → Prop} {H : Heap} {pc : Nat} {L : List (Nat × Value)} {rest : List Value}
variable {cc : ByteArray} {own : String} {ret : Option FieldType} {nm : String} {G : z_G}
theorem z_sub (L' : List (Nat × Value)) {st : List Value} (h : z_all L' L) (k : z_Z p l e R s m args below meth c A n cells slots Q H pc L' st) : z_Z p l e R s m args below meth c A n cells slots Q H pc L st :=
  fun ls locs hl hS => k ls locs ⟨hl.1, hl.2.1, fun q hq => hl.2.2 q (z_all_sub h q hq)⟩ hS
theorem z_widen {st : List Value} {k2 n2 : Nat} (h1 : cells ≤ k2) (h2 : slots ≤ n2) (k : z_Z p l e R s m args below meth c A n k2 n2 Q H pc L st) : z_Z p l e R s m args below meth c A n cells slots Q H pc L st :=
  fun ls locs hl hS => W.widen h1 h2 (k ls locs hl hS)
theorem z_eqst {st st2 : List Value} (h : st = st2) (k : z_Z p l e R s m args below meth c A n cells slots Q H pc L st2) : z_Z p l e R s m args below meth c A n cells slots Q H pc L st := h ▸ k
theorem z_iconst (C : z_C p s m args meth c cc own ret n nm G) {i : Int} {v : Int32} (hdg : decode cc pc = .ok (.iconst i, 1)) (hv : Int32.ofInt i = v) (k : z_Z p l e R s m args below meth c A n cells slots Q H (pc + 1) L (.int v :: rest)) : z_Z p l e R s m args below meth c A n cells slots Q H pc L rest :=
  fun ls locs hl hS => lv_iconst C.1 C.2.1 hdg hv (k ls locs hl hS)
theorem z_bipush (C : z_C p s m args meth c cc own ret n nm G) {i : Int} {v : Int32} (hdg : decode cc pc = .ok (.bipush i, 2)) (hv : (Int8.ofInt i).toInt32 = v) (k : z_Z p l e R s m args below meth c A n cells slots Q H (pc + 2) L (.int v :: rest)) : z_Z p l e R s m args below meth c A n cells slots Q H pc L rest :=
  fun ls locs hl hS => lv_bipush C.1 C.2.1 hdg hv (k ls locs hl hS)
theorem z_sipush (C : z_C p s m args meth c cc own ret n nm G) {i : Int} {v : Int32} (hdg : decode cc pc = .ok (.sipush i, 3)) (hv : (Int16.ofInt i).toInt32 = v) (k : z_Z p l e R s m args below meth c A n cells slots Q H (pc + 3) L (.int v :: rest)) : z_Z p l e R s m args below meth c A n cells slots Q H pc L rest :=
  fun ls locs hl hS => lv_sipush C.1 C.2.1 hdg hv (k ls locs hl hS)
theorem z_ldc (C : z_C p s m args meth c cc own ret n nm G) {index : Nat} {v : Int32} (hw : Cond.constant own index v ∈ z_B) (hdg : decode cc pc = .ok (.ldc index, 2)) (k : z_Z p l e R s m args below meth c A n cells slots Q H (pc + 2) L (.int v :: rest)) : z_Z p l e R s m args below meth c A n cells slots Q H pc L rest :=
  fun ls locs hl hS => lv_ldc C.1 C.2.1 C.2.2.2.2.1 (C.2.2.2.2.2.1 _ hw) hdg (k ls locs hl hS)
theorem z_ldcw (C : z_C p s m args meth c cc own ret n nm G) {index : Nat} {v : Int32} (hw : Cond.constant own index v ∈ z_B) (hdg : decode cc pc = .ok (.ldc_w index, 3)) (k : z_Z p l e R s m args below meth c A n cells slots Q H (pc + 3) L (.int v :: rest)) : z_Z p l e R s m args below meth c A n cells slots Q H pc L rest :=
  fun ls locs hl hS => lv_ldcw C.1 C.2.1 C.2.2.2.2.1 (C.2.2.2.2.2.1 _ hw) hdg (k ls locs hl hS)
theorem z_lconst (C : z_C p s m args meth c cc own ret n nm G) {i : Fin 2} {v : Int64} (hdg : decode cc pc = .ok (.lconst i, 1)) (hv : Int64.ofNat (i : Nat) = v) (k : z_Z p l e R s m args below meth c A n cells slots Q H (pc + 1) L (.long v :: rest)) : z_Z p l e R s m args below meth c A n cells slots Q H pc L rest :=
  fun ls locs hl hS => lv_lconst C.1 C.2.1 hdg hv (k ls locs hl hS)
theorem z_iload_n (C : z_C p s m args meth c cc own ret n nm G) {k : Fin 4} {x : Int32} (hdg : decode cc pc = .ok (.iload_n k, 1)) (hv : z_lg L k = some (.int x)) (kk : z_Z p l e R s m args below meth c A n cells slots Q H (pc + 1) L (.int x :: rest)) : z_Z p l e R s m args below meth c A n cells slots Q H pc L rest :=
  fun ls locs hl hS => lv_iload_n C.1 C.2.1 hdg rfl (z_lg_at hl hv) (kk ls locs hl hS)
theorem z_iload (C : z_C p s m args meth c cc own ret n nm G) {k : Nat} {x : Int32} (hdg : decode cc pc = .ok (.iload k, 2)) (hv : z_lg L k = some (.int x)) (kk : z_Z p l e R s m args below meth c A n cells slots Q H (pc + 2) L (.int x :: rest)) : z_Z p l e R s m args below meth c A n cells slots Q H pc L rest :=
  fun ls locs hl hS => lv_iload C.1 C.2.1 hdg (z_lg_at hl hv) (kk ls locs hl hS)
theorem z_lload_n (C : z_C p s m args meth c cc own ret n nm G) {k : Fin 4} {x : Int64} (hdg : decode cc pc = .ok (.lload_n k, 1)) (hv : z_lg L k = some (.long x)) (kk : z_Z p l e R s m args below meth c A n cells slots Q H (pc + 1) L (.long x :: rest)) : z_Z p l e R s m args below meth c A n cells slots Q H pc L rest :=
  fun ls locs hl hS => lv_lload_n C.1 C.2.1 hdg rfl (z_lg_at hl hv) (kk ls locs hl hS)
theorem z_lload (C : z_C p s m args meth c cc own ret n nm G) {k : Nat} {x : Int64} (hdg : decode cc pc = .ok (.lload k, 2)) (hv : z_lg L k = some (.long x)) (kk : z_Z p l e R s m args below meth c A n cells slots Q H (pc + 2) L (.long x :: rest)) : z_Z p l e R s m args below meth c A n cells slots Q H pc L rest :=
  fun ls locs hl hS => lv_lload C.1 C.2.1 hdg (z_lg_at hl hv) (kk ls locs hl hS)
theorem z_aload_n (C : z_C p s m args meth c cc own ret n nm G) {k : Fin 4} {x : Nat} (hdg : decode cc pc = .ok (.aload_n k, 1)) (hv : z_lg L k = some (.ref x)) (kk : z_Z p l e R s m args below meth c A n cells slots Q H (pc + 1) L (.ref x :: rest)) : z_Z p l e R s m args below meth c A n cells slots Q H pc L rest :=
  fun ls locs hl hS => lv_aload_n C.1 C.2.1 hdg rfl (z_lg_at hl hv) (kk ls locs hl hS)
theorem z_aload (C : z_C p s m args meth c cc own ret n nm G) {k : Nat} {x : Nat} (hdg : decode cc pc = .ok (.aload k, 2)) (hv : z_lg L k = some (.ref x)) (kk : z_Z p l e R s m args below meth c A n cells slots Q H (pc + 2) L (.ref x :: rest)) : z_Z p l e R s m args below meth c A n cells slots Q H pc L rest :=
  fun ls locs hl hS => lv_aload C.1 C.2.1 hdg (z_lg_at hl hv) (kk ls locs hl hS)
theorem z_aload_nq (C : z_C p s m args meth c cc own ret n nm G) {k : Fin 4} {x : Option Nat} (hdg : decode cc pc = .ok (.aload_n k, 1)) (hv : z_lg L k = some (va_rf x)) (kk : z_Z p l e R s m args below meth c A n cells slots Q H (pc + 1) L (va_rf x :: rest)) : z_Z p l e R s m args below meth c A n cells slots Q H pc L rest := by
  intro ls locs hl hS
  cases x with
  | none => exact lv_aload_nN C.1 C.2.1 hdg rfl (z_lg_at hl hv) (kk ls locs hl hS)
  | some a => exact lv_aload_n C.1 C.2.1 hdg rfl (z_lg_at hl hv) (kk ls locs hl hS)
theorem z_aloadq (C : z_C p s m args meth c cc own ret n nm G) {k : Nat} {x : Option Nat} (hdg : decode cc pc = .ok (.aload k, 2)) (hv : z_lg L k = some (va_rf x)) (kk : z_Z p l e R s m args below meth c A n cells slots Q H (pc + 2) L (va_rf x :: rest)) : z_Z p l e R s m args below meth c A n cells slots Q H pc L rest := by
  intro ls locs hl hS
  cases x with
  | none => exact lv_aloadN C.1 C.2.1 hdg (z_lg_at hl hv) (kk ls locs hl hS)
  | some a => exact lv_aload C.1 C.2.1 hdg (z_lg_at hl hv) (kk ls locs hl hS)
theorem z_istore_n (C : z_C p s m args meth c cc own ret n nm G) {k : Fin 4} {x : Int32} (hdg : decode cc pc = .ok (.istore_n k, 1)) (hn : (k : Nat) < n) (kk : z_Z p l e R s m args below meth c A n cells slots Q H (pc + 1) (z_ls L k (.int x)) rest) : z_Z p l e R s m args below meth c A n cells slots Q H pc L (.int x :: rest) :=
  fun _ locs hl hS => lv_istore_n C.1 C.2.1 hdg rfl hl hn rfl (fun ls' hl' => kk ls' locs hl' hS)
theorem z_istore (C : z_C p s m args meth c cc own ret n nm G) {k : Nat} {x : Int32} (hdg : decode cc pc = .ok (.istore k, 2)) (hn : k < n) (kk : z_Z p l e R s m args below meth c A n cells slots Q H (pc + 2) (z_ls L k (.int x)) rest) : z_Z p l e R s m args below meth c A n cells slots Q H pc L (.int x :: rest) :=
  fun _ locs hl hS => lv_istore C.1 C.2.1 hdg hl hn rfl (fun ls' hl' => kk ls' locs hl' hS)
theorem z_lstore (C : z_C p s m args meth c cc own ret n nm G) {k : Nat} {x : Int64} (hdg : decode cc pc = .ok (.lstore k, 2)) (hn : k + 1 < n) (kk : z_Z p l e R s m args below meth c A n cells slots Q H (pc + 2) (z_ls2 L k (.long x)) rest) : z_Z p l e R s m args below meth c A n cells slots Q H pc L (.long x :: rest) :=
  fun _ locs hl hS => lv_lstore C.1 C.2.1 hdg hl hn rfl (fun ls' hl' => kk ls' locs hl' hS)
theorem z_astore_n (C : z_C p s m args meth c cc own ret n nm G) {k : Fin 4} {x : Nat} (hdg : decode cc pc = .ok (.astore_n k, 1)) (hn : (k : Nat) < n) (kk : z_Z p l e R s m args below meth c A n cells slots Q H (pc + 1) (z_ls L k (.ref x)) rest) : z_Z p l e R s m args below meth c A n cells slots Q H pc L (.ref x :: rest) :=
  fun _ locs hl hS => lv_astore_n C.1 C.2.1 hdg rfl hl hn rfl (fun ls' hl' => kk ls' locs hl' hS)
theorem z_astore (C : z_C p s m args meth c cc own ret n nm G) {k : Nat} {x : Nat} (hdg : decode cc pc = .ok (.astore k, 2)) (hn : k < n) (kk : z_Z p l e R s m args below meth c A n cells slots Q H (pc + 2) (z_ls L k (.ref x)) rest) : z_Z p l e R s m args below meth c A n cells slots Q H pc L (.ref x :: rest) :=
  fun _ locs hl hS => lv_astore C.1 C.2.1 hdg hl hn rfl (fun ls' hl' => kk ls' locs hl' hS)
theorem z_astore_nq (C : z_C p s m args meth c cc own ret n nm G) {k : Fin 4} {x : Option Nat} (hdg : decode cc pc = .ok (.astore_n k, 1)) (hn : (k : Nat) < n) (kk : z_Z p l e R s m args below meth c A n cells slots Q H (pc + 1) (z_ls L k (va_rf x)) rest) : z_Z p l e R s m args below meth c A n cells slots Q H pc L (va_rf x :: rest) := by
  intro ls locs hl hS
  cases x with
  | none => exact lv_astore_nN C.1 C.2.1 hdg rfl hl hn rfl (fun ls' hl' => kk ls' locs hl' hS)
  | some a => exact lv_astore_n C.1 C.2.1 hdg rfl hl hn rfl (fun ls' hl' => kk ls' locs hl' hS)
theorem z_astoreq (C : z_C p s m args meth c cc own ret n nm G) {k : Nat} {x : Option Nat} (hdg : decode cc pc = .ok (.astore k, 2)) (hn : k < n) (kk : z_Z p l e R s m args below meth c A n cells slots Q H (pc + 2) (z_ls L k (va_rf x)) rest) : z_Z p l e R s m args below meth c A n cells slots Q H pc L (va_rf x :: rest) := by
  intro ls locs hl hS
  cases x with
  | none => exact lv_astoreN C.1 C.2.1 hdg hl hn rfl (fun ls' hl' => kk ls' locs hl' hS)
  | some a => exact lv_astore C.1 C.2.1 hdg hl hn rfl (fun ls' hl' => kk ls' locs hl' hS)
theorem z_iinc (C : z_C p s m args meth c cc own ret n nm G) {k : Nat} {i : Int} {x v : Int32} (hdg : decode cc pc = .ok (.iinc k i, 3)) (hx : z_lg L k = some (.int x)) (hv : x + Int32.ofInt i = v) (hn : k < n) (kk : z_Z p l e R s m args below meth c A n cells slots Q H (pc + 3) (z_ls L k (.int v)) rest) : z_Z p l e R s m args below meth c A n cells slots Q H pc L rest := by
  intro ls locs hl hS
  obtain ⟨j, hj⟩ := List.getElem?_of_mem (z_lg_mem hx)
  exact lv_iinc C.1 C.2.1 hdg hl hj hv hn rfl (fun ls' hl' => kk ls' locs hl' hS)
theorem z_iadd (C : z_C p s m args meth c cc own ret n nm G) {x y : Int32} (hdg : decode cc pc = .ok (.iadd, 1)) (k : z_Z p l e R s m args below meth c A n cells slots Q H (pc + 1) L (.int (x + y) :: rest)) : z_Z p l e R s m args below meth c A n cells slots Q H pc L (.int y :: .int x :: rest) :=
  fun ls locs hl hS => lv_iadd C.1 C.2.1 hdg (k ls locs hl hS)
theorem z_isub (C : z_C p s m args meth c cc own ret n nm G) {x y : Int32} (hdg : decode cc pc = .ok (.isub, 1)) (k : z_Z p l e R s m args below meth c A n cells slots Q H (pc + 1) L (.int (x - y) :: rest)) : z_Z p l e R s m args below meth c A n cells slots Q H pc L (.int y :: .int x :: rest) :=
  fun ls locs hl hS => lv_isub C.1 C.2.1 hdg (k ls locs hl hS)
theorem z_imul (C : z_C p s m args meth c cc own ret n nm G) {x y : Int32} (hdg : decode cc pc = .ok (.imul, 1)) (k : z_Z p l e R s m args below meth c A n cells slots Q H (pc + 1) L (.int (x * y) :: rest)) : z_Z p l e R s m args below meth c A n cells slots Q H pc L (.int y :: .int x :: rest) :=
  fun ls locs hl hS => lv_imul C.1 C.2.1 hdg (k ls locs hl hS)
theorem z_iand (C : z_C p s m args meth c cc own ret n nm G) {x y : Int32} (hdg : decode cc pc = .ok (.iand, 1)) (k : z_Z p l e R s m args below meth c A n cells slots Q H (pc + 1) L (.int (x &&& y) :: rest)) : z_Z p l e R s m args below meth c A n cells slots Q H pc L (.int y :: .int x :: rest) :=
  fun ls locs hl hS => lv_iand C.1 C.2.1 hdg (k ls locs hl hS)
theorem z_ior (C : z_C p s m args meth c cc own ret n nm G) {x y : Int32} (hdg : decode cc pc = .ok (.ior, 1)) (k : z_Z p l e R s m args below meth c A n cells slots Q H (pc + 1) L (.int (x ||| y) :: rest)) : z_Z p l e R s m args below meth c A n cells slots Q H pc L (.int y :: .int x :: rest) :=
  fun ls locs hl hS => lv_ior C.1 C.2.1 hdg (k ls locs hl hS)
theorem z_ixor (C : z_C p s m args meth c cc own ret n nm G) {x y : Int32} (hdg : decode cc pc = .ok (.ixor, 1)) (k : z_Z p l e R s m args below meth c A n cells slots Q H (pc + 1) L (.int (x ^^^ y) :: rest)) : z_Z p l e R s m args below meth c A n cells slots Q H pc L (.int y :: .int x :: rest) :=
  fun ls locs hl hS => lv_ixor C.1 C.2.1 hdg (k ls locs hl hS)
theorem z_ishl (C : z_C p s m args meth c cc own ret n nm G) {x y : Int32} (hdg : decode cc pc = .ok (.ishl, 1)) (k : z_Z p l e R s m args below meth c A n cells slots Q H (pc + 1) L (.int (x <<< (y &&& 31)) :: rest)) : z_Z p l e R s m args below meth c A n cells slots Q H pc L (.int y :: .int x :: rest) :=
  fun ls locs hl hS => lv_ishl C.1 C.2.1 hdg (k ls locs hl hS)
theorem z_ishr (C : z_C p s m args meth c cc own ret n nm G) {x y : Int32} (hdg : decode cc pc = .ok (.ishr, 1)) (k : z_Z p l e R s m args below meth c A n cells slots Q H (pc + 1) L (.int (x >>> (y &&& 31)) :: rest)) : z_Z p l e R s m args below meth c A n cells slots Q H pc L (.int y :: .int x :: rest) :=
  fun ls locs hl hS => lv_ishr C.1 C.2.1 hdg (k ls locs hl hS)
theorem z_iushr (C : z_C p s m args meth c cc own ret n nm G) {x y : Int32} (hdg : decode cc pc = .ok (.iushr, 1)) (k : z_Z p l e R s m args below meth c A n cells slots Q H (pc + 1) L (.int ((x.toUInt32 >>> (y.toUInt32 &&& Int32.toUInt32 31)).toInt32) :: rest)) : z_Z p l e R s m args below meth c A n cells slots Q H pc L (.int y :: .int x :: rest) :=
  fun ls locs hl hS => lv_iushr C.1 C.2.1 hdg rfl (k ls locs hl hS)
theorem z_i2l (C : z_C p s m args meth c cc own ret n nm G) {x : Int32} (hdg : decode cc pc = .ok (.i2l, 1)) (k : z_Z p l e R s m args below meth c A n cells slots Q H (pc + 1) L (.long x.toInt64 :: rest)) : z_Z p l e R s m args below meth c A n cells slots Q H pc L (.int x :: rest) :=
  fun ls locs hl hS => lv_i2l C.1 C.2.1 hdg rfl (k ls locs hl hS)
theorem z_l2i (C : z_C p s m args meth c cc own ret n nm G) {x : Int64} (hdg : decode cc pc = .ok (.l2i, 1)) (k : z_Z p l e R s m args below meth c A n cells slots Q H (pc + 1) L (.int x.toInt32 :: rest)) : z_Z p l e R s m args below meth c A n cells slots Q H pc L (.long x :: rest) :=
  fun ls locs hl hS => lv_l2i C.1 C.2.1 hdg rfl (k ls locs hl hS)
theorem z_lor (C : z_C p s m args meth c cc own ret n nm G) {x y : Int64} (hdg : decode cc pc = .ok (.lor, 1)) (k : z_Z p l e R s m args below meth c A n cells slots Q H (pc + 1) L (.long (x ||| y) :: rest)) : z_Z p l e R s m args below meth c A n cells slots Q H pc L (.long y :: .long x :: rest) :=
  fun ls locs hl hS => lv_lor C.1 C.2.1 hdg (k ls locs hl hS)
theorem z_lshl (C : z_C p s m args meth c cc own ret n nm G) {x : Int64} {y : Int32} (hdg : decode cc pc = .ok (.lshl, 1)) (k : z_Z p l e R s m args below meth c A n cells slots Q H (pc + 1) L (.long (x <<< (y.toInt64 &&& 63)) :: rest)) : z_Z p l e R s m args below meth c A n cells slots Q H pc L (.int y :: .long x :: rest) :=
  fun ls locs hl hS => lv_lshl C.1 C.2.1 hdg rfl (k ls locs hl hS)
theorem z_lshr (C : z_C p s m args meth c cc own ret n nm G) {x : Int64} {y : Int32} (hdg : decode cc pc = .ok (.lshr, 1)) (k : z_Z p l e R s m args below meth c A n cells slots Q H (pc + 1) L (.long (x >>> (y.toInt64 &&& 63)) :: rest)) : z_Z p l e R s m args below meth c A n cells slots Q H pc L (.int y :: .long x :: rest) :=
  fun ls locs hl hS => lv_lshr C.1 C.2.1 hdg rfl (k ls locs hl hS)
theorem z_lcmp (C : z_C p s m args meth c cc own ret n nm G) {x y : Int64} (hdg : decode cc pc = .ok (.lcmp, 1)) (k : z_Z p l e R s m args below meth c A n cells slots Q H (pc + 1) L (.int (lg_cmp x y) :: rest)) : z_Z p l e R s m args below meth c A n cells slots Q H pc L (.long y :: .long x :: rest) :=
  fun ls locs hl hS => W.lcmp C.1 C.2.1 hdg (k ls locs hl hS)
theorem z_dup (C : z_C p s m args meth c cc own ret n nm G) {va : Value} (hdg : decode cc pc = .ok (.dup, 1)) (hva : va.category = 1) (k : z_Z p l e R s m args below meth c A n cells slots Q H (pc + 1) L (va :: va :: rest)) : z_Z p l e R s m args below meth c A n cells slots Q H pc L (va :: rest) :=
  fun ls locs hl hS => lv_dup C.1 C.2.1 hdg hva (k ls locs hl hS)
theorem z_dup2 (C : z_C p s m args meth c cc own ret n nm G) {va vb : Value} (hdg : decode cc pc = .ok (.dup2, 1)) (hva : va.category = 1) (hvb : vb.category = 1) (k : z_Z p l e R s m args below meth c A n cells slots Q H (pc + 1) L (va :: vb :: va :: vb :: rest)) : z_Z p l e R s m args below meth c A n cells slots Q H pc L (va :: vb :: rest) :=
  fun ls locs hl hS => lv_dup2_11 C.1 C.2.1 hdg hva hvb (k ls locs hl hS)
theorem z_dup_x1 (C : z_C p s m args meth c cc own ret n nm G) {va vb : Value} (hdg : decode cc pc = .ok (.dup_x1, 1)) (hva : va.category = 1) (hvb : vb.category = 1) (k : z_Z p l e R s m args below meth c A n cells slots Q H (pc + 1) L (va :: vb :: va :: rest)) : z_Z p l e R s m args below meth c A n cells slots Q H pc L (va :: vb :: rest) :=
  fun ls locs hl hS => lv_dup_x1 C.1 C.2.1 hdg hva hvb (k ls locs hl hS)
theorem z_pop (C : z_C p s m args meth c cc own ret n nm G) {va : Value} (hdg : decode cc pc = .ok (.pop, 1)) (hva : va.category = 1) (k : z_Z p l e R s m args below meth c A n cells slots Q H (pc + 1) L rest) : z_Z p l e R s m args below meth c A n cells slots Q H pc L (va :: rest) :=
  fun ls locs hl hS => lv_pop C.1 C.2.1 hdg hva (k ls locs hl hS)
theorem z_null (C : z_C p s m args meth c cc own ret n nm G) (hdg : decode cc pc = .ok (.aconst_null, 1)) (k : z_Z p l e R s m args below meth c A n cells slots Q H (pc + 1) L (.null :: rest)) : z_Z p l e R s m args below meth c A n cells slots Q H pc L rest :=
  fun ls locs hl hS => lv_null C.1 C.2.1 hdg (k ls locs hl hS)
theorem z_nullq (C : z_C p s m args meth c cc own ret n nm G) (hdg : decode cc pc = .ok (.aconst_null, 1)) (k : z_Z p l e R s m args below meth c A n cells slots Q H (pc + 1) L (va_rf none :: rest)) : z_Z p l e R s m args below meth c A n cells slots Q H pc L rest :=
  fun ls locs hl hS => lv_null C.1 C.2.1 hdg (k ls locs hl hS)
theorem z_goto (C : z_C p s m args meth c cc own ret n nm G) {off : Int} (tgt : Nat) (hdg : decode cc pc = .ok (.goto off, 3)) (ht : (pc : Int) + off = (tgt : Int)) (k : z_Z p l e R s m args below meth c A n cells slots Q H tgt L rest) : z_Z p l e R s m args below meth c A n cells slots Q H pc L rest :=
  fun ls locs hl hS => lv_goto C.1 C.2.1 hdg ht (k ls locs hl hS)
theorem z_if_eq (C : z_C p s m args meth c cc own ret n nm G) {x : Int32} {off : Int} (tgt : Nat) (hdg : decode cc pc = .ok (.ifCond .eq off, 3)) (ht : (pc : Int) + off = (tgt : Int)) (kt : x = 0 → z_Z p l e R s m args below meth c A n cells slots Q H tgt L rest) (kf : ¬ x = 0 → z_Z p l e R s m args below meth c A n cells slots Q H (pc + 3) L rest) : z_Z p l e R s m args below meth c A n cells slots Q H pc L (.int x :: rest) :=
  fun ls locs hl hS => lv_if_eq C.1 C.2.1 hdg ht (fun z => kt z ls locs hl hS) (fun z => kf z ls locs hl hS)
theorem z_icmp_eq (C : z_C p s m args meth c cc own ret n nm G) {x y : Int32} {off : Int} (tgt : Nat) (hdg : decode cc pc = .ok (.if_icmp .eq off, 3)) (ht : (pc : Int) + off = (tgt : Int)) (kt : x = y → z_Z p l e R s m args below meth c A n cells slots Q H tgt L rest) (kf : ¬ x = y → z_Z p l e R s m args below meth c A n cells slots Q H (pc + 3) L rest) : z_Z p l e R s m args below meth c A n cells slots Q H pc L (.int y :: .int x :: rest) :=
  fun ls locs hl hS => lv_icmp_eq C.1 C.2.1 hdg ht (fun z => kt z ls locs hl hS) (fun z => kf z ls locs hl hS)
theorem z_if_ne (C : z_C p s m args meth c cc own ret n nm G) {x : Int32} {off : Int} (tgt : Nat) (hdg : decode cc pc = .ok (.ifCond .ne off, 3)) (ht : (pc : Int) + off = (tgt : Int)) (kt : ¬ x = 0 → z_Z p l e R s m args below meth c A n cells slots Q H tgt L rest) (kf : x = 0 → z_Z p l e R s m args below meth c A n cells slots Q H (pc + 3) L rest) : z_Z p l e R s m args below meth c A n cells slots Q H pc L (.int x :: rest) :=
  fun ls locs hl hS => lv_if_ne C.1 C.2.1 hdg ht (fun z => kt z ls locs hl hS) (fun z => kf z ls locs hl hS)
theorem z_icmp_ne (C : z_C p s m args meth c cc own ret n nm G) {x y : Int32} {off : Int} (tgt : Nat) (hdg : decode cc pc = .ok (.if_icmp .ne off, 3)) (ht : (pc : Int) + off = (tgt : Int)) (kt : ¬ x = y → z_Z p l e R s m args below meth c A n cells slots Q H tgt L rest) (kf : x = y → z_Z p l e R s m args below meth c A n cells slots Q H (pc + 3) L rest) : z_Z p l e R s m args below meth c A n cells slots Q H pc L (.int y :: .int x :: rest) :=
  fun ls locs hl hS => lv_icmp_ne C.1 C.2.1 hdg ht (fun z => kt z ls locs hl hS) (fun z => kf z ls locs hl hS)
theorem z_if_lt (C : z_C p s m args meth c cc own ret n nm G) {x : Int32} {off : Int} (tgt : Nat) (hdg : decode cc pc = .ok (.ifCond .lt off, 3)) (ht : (pc : Int) + off = (tgt : Int)) (kt : x < 0 → z_Z p l e R s m args below meth c A n cells slots Q H tgt L rest) (kf : ¬ x < 0 → z_Z p l e R s m args below meth c A n cells slots Q H (pc + 3) L rest) : z_Z p l e R s m args below meth c A n cells slots Q H pc L (.int x :: rest) :=
  fun ls locs hl hS => lv_if_lt C.1 C.2.1 hdg ht (fun z => kt z ls locs hl hS) (fun z => kf z ls locs hl hS)
theorem z_icmp_lt (C : z_C p s m args meth c cc own ret n nm G) {x y : Int32} {off : Int} (tgt : Nat) (hdg : decode cc pc = .ok (.if_icmp .lt off, 3)) (ht : (pc : Int) + off = (tgt : Int)) (kt : x < y → z_Z p l e R s m args below meth c A n cells slots Q H tgt L rest) (kf : ¬ x < y → z_Z p l e R s m args below meth c A n cells slots Q H (pc + 3) L rest) : z_Z p l e R s m args below meth c A n cells slots Q H pc L (.int y :: .int x :: rest) :=
  fun ls locs hl hS => lv_icmp_lt C.1 C.2.1 hdg ht (fun z => kt z ls locs hl hS) (fun z => kf z ls locs hl hS)
theorem z_if_ge (C : z_C p s m args meth c cc own ret n nm G) {x : Int32} {off : Int} (tgt : Nat) (hdg : decode cc pc = .ok (.ifCond .ge off, 3)) (ht : (pc : Int) + off = (tgt : Int)) (kt : 0 ≤ x → z_Z p l e R s m args below meth c A n cells slots Q H tgt L rest) (kf : ¬ 0 ≤ x → z_Z p l e R s m args below meth c A n cells slots Q H (pc + 3) L rest) : z_Z p l e R s m args below meth c A n cells slots Q H pc L (.int x :: rest) :=
  fun ls locs hl hS => lv_if_ge C.1 C.2.1 hdg ht (fun z => kt z ls locs hl hS) (fun z => kf z ls locs hl hS)
theorem z_icmp_ge (C : z_C p s m args meth c cc own ret n nm G) {x y : Int32} {off : Int} (tgt : Nat) (hdg : decode cc pc = .ok (.if_icmp .ge off, 3)) (ht : (pc : Int) + off = (tgt : Int)) (kt : y ≤ x → z_Z p l e R s m args below meth c A n cells slots Q H tgt L rest) (kf : ¬ y ≤ x → z_Z p l e R s m args below meth c A n cells slots Q H (pc + 3) L rest) : z_Z p l e R s m args below meth c A n cells slots Q H pc L (.int y :: .int x :: rest) :=
  fun ls locs hl hS => lv_icmp_ge C.1 C.2.1 hdg ht (fun z => kt z ls locs hl hS) (fun z => kf z ls locs hl hS)
theorem z_if_gt (C : z_C p s m args meth c cc own ret n nm G) {x : Int32} {off : Int} (tgt : Nat) (hdg : decode cc pc = .ok (.ifCond .gt off, 3)) (ht : (pc : Int) + off = (tgt : Int)) (kt : 0 < x → z_Z p l e R s m args below meth c A n cells slots Q H tgt L rest) (kf : ¬ 0 < x → z_Z p l e R s m args below meth c A n cells slots Q H (pc + 3) L rest) : z_Z p l e R s m args below meth c A n cells slots Q H pc L (.int x :: rest) :=
  fun ls locs hl hS => lv_if_gt C.1 C.2.1 hdg ht (fun z => kt z ls locs hl hS) (fun z => kf z ls locs hl hS)
theorem z_icmp_gt (C : z_C p s m args meth c cc own ret n nm G) {x y : Int32} {off : Int} (tgt : Nat) (hdg : decode cc pc = .ok (.if_icmp .gt off, 3)) (ht : (pc : Int) + off = (tgt : Int)) (kt : y < x → z_Z p l e R s m args below meth c A n cells slots Q H tgt L rest) (kf : ¬ y < x → z_Z p l e R s m args below meth c A n cells slots Q H (pc + 3) L rest) : z_Z p l e R s m args below meth c A n cells slots Q H pc L (.int y :: .int x :: rest) :=
  fun ls locs hl hS => lv_icmp_gt C.1 C.2.1 hdg ht (fun z => kt z ls locs hl hS) (fun z => kf z ls locs hl hS)
theorem z_if_le (C : z_C p s m args meth c cc own ret n nm G) {x : Int32} {off : Int} (tgt : Nat) (hdg : decode cc pc = .ok (.ifCond .le off, 3)) (ht : (pc : Int) + off = (tgt : Int)) (kt : x ≤ 0 → z_Z p l e R s m args below meth c A n cells slots Q H tgt L rest) (kf : ¬ x ≤ 0 → z_Z p l e R s m args below meth c A n cells slots Q H (pc + 3) L rest) : z_Z p l e R s m args below meth c A n cells slots Q H pc L (.int x :: rest) :=
  fun ls locs hl hS => lv_if_le C.1 C.2.1 hdg ht (fun z => kt z ls locs hl hS) (fun z => kf z ls locs hl hS)
theorem z_icmp_le (C : z_C p s m args meth c cc own ret n nm G) {x y : Int32} {off : Int} (tgt : Nat) (hdg : decode cc pc = .ok (.if_icmp .le off, 3)) (ht : (pc : Int) + off = (tgt : Int)) (kt : x ≤ y → z_Z p l e R s m args below meth c A n cells slots Q H tgt L rest) (kf : ¬ x ≤ y → z_Z p l e R s m args below meth c A n cells slots Q H (pc + 3) L rest) : z_Z p l e R s m args below meth c A n cells slots Q H pc L (.int y :: .int x :: rest) :=
  fun ls locs hl hS => lv_icmp_le C.1 C.2.1 hdg ht (fun z => kt z ls locs hl hS) (fun z => kf z ls locs hl hS)
theorem z_acmp_eq_qq (C : z_C p s m args meth c cc own ret n nm G) {rx : Option Nat} {ry : Option Nat} {off : Int} (tgt : Nat) (hdg : decode cc pc = .ok (.if_acmp .eq off, 3)) (ht : (pc : Int) + off = (tgt : Int)) (kt : rx = ry → z_Z p l e R s m args below meth c A n cells slots Q H tgt L rest) (kf : ¬ rx = ry → z_Z p l e R s m args below meth c A n cells slots Q H (pc + 3) L rest) : z_Z p l e R s m args below meth c A n cells slots Q H pc L (va_rf ry :: va_rf rx :: rest) :=
  fun ls locs hl hS => lv_acmp_eq (rx := rx) (ry := ry) C.1 C.2.1 hdg ht (fun z => kt z ls locs hl hS) (fun z => kf z ls locs hl hS)
theorem z_acmp_eq_rq (C : z_C p s m args meth c cc own ret n nm G) {rx : Option Nat} {ry : Nat} {off : Int} (tgt : Nat) (hdg : decode cc pc = .ok (.if_acmp .eq off, 3)) (ht : (pc : Int) + off = (tgt : Int)) (kt : rx = some ry → z_Z p l e R s m args below meth c A n cells slots Q H tgt L rest) (kf : ¬ rx = some ry → z_Z p l e R s m args below meth c A n cells slots Q H (pc + 3) L rest) : z_Z p l e R s m args below meth c A n cells slots Q H pc L (.ref ry :: va_rf rx :: rest) :=
  fun ls locs hl hS => lv_acmp_eq (rx := rx) (ry := some ry) C.1 C.2.1 hdg ht (fun z => kt z ls locs hl hS) (fun z => kf z ls locs hl hS)
theorem z_acmp_eq_qr (C : z_C p s m args meth c cc own ret n nm G) {rx : Nat} {ry : Option Nat} {off : Int} (tgt : Nat) (hdg : decode cc pc = .ok (.if_acmp .eq off, 3)) (ht : (pc : Int) + off = (tgt : Int)) (kt : some rx = ry → z_Z p l e R s m args below meth c A n cells slots Q H tgt L rest) (kf : ¬ some rx = ry → z_Z p l e R s m args below meth c A n cells slots Q H (pc + 3) L rest) : z_Z p l e R s m args below meth c A n cells slots Q H pc L (va_rf ry :: .ref rx :: rest) :=
  fun ls locs hl hS => lv_acmp_eq (rx := some rx) (ry := ry) C.1 C.2.1 hdg ht (fun z => kt z ls locs hl hS) (fun z => kf z ls locs hl hS)
theorem z_acmp_eq_rr (C : z_C p s m args meth c cc own ret n nm G) {rx : Nat} {ry : Nat} {off : Int} (tgt : Nat) (hdg : decode cc pc = .ok (.if_acmp .eq off, 3)) (ht : (pc : Int) + off = (tgt : Int)) (kt : rx = ry → z_Z p l e R s m args below meth c A n cells slots Q H tgt L rest) (kf : ¬ rx = ry → z_Z p l e R s m args below meth c A n cells slots Q H (pc + 3) L rest) : z_Z p l e R s m args below meth c A n cells slots Q H pc L (.ref ry :: .ref rx :: rest) :=
  fun ls locs hl hS => lv_acmp_eq (rx := some rx) (ry := some ry) C.1 C.2.1 hdg ht (fun z => kt (Option.some.inj z) ls locs hl hS) (fun z => kf (fun w => z (congrArg some w)) ls locs hl hS)
theorem z_acmp_ne_qq (C : z_C p s m args meth c cc own ret n nm G) {rx : Option Nat} {ry : Option Nat} {off : Int} (tgt : Nat) (hdg : decode cc pc = .ok (.if_acmp .ne off, 3)) (ht : (pc : Int) + off = (tgt : Int)) (kt : ¬ rx = ry → z_Z p l e R s m args below meth c A n cells slots Q H tgt L rest) (kf : rx = ry → z_Z p l e R s m args below meth c A n cells slots Q H (pc + 3) L rest) : z_Z p l e R s m args below meth c A n cells slots Q H pc L (va_rf ry :: va_rf rx :: rest) :=
  fun ls locs hl hS => lv_acmp_ne (rx := rx) (ry := ry) C.1 C.2.1 hdg ht (fun z => kt z ls locs hl hS) (fun z => kf z ls locs hl hS)
theorem z_acmp_ne_rq (C : z_C p s m args meth c cc own ret n nm G) {rx : Option Nat} {ry : Nat} {off : Int} (tgt : Nat) (hdg : decode cc pc = .ok (.if_acmp .ne off, 3)) (ht : (pc : Int) + off = (tgt : Int)) (kt : ¬ rx = some ry → z_Z p l e R s m args below meth c A n cells slots Q H tgt L rest) (kf : rx = some ry → z_Z p l e R s m args below meth c A n cells slots Q H (pc + 3) L rest) : z_Z p l e R s m args below meth c A n cells slots Q H pc L (.ref ry :: va_rf rx :: rest) :=
  fun ls locs hl hS => lv_acmp_ne (rx := rx) (ry := some ry) C.1 C.2.1 hdg ht (fun z => kt z ls locs hl hS) (fun z => kf z ls locs hl hS)
theorem z_acmp_ne_qr (C : z_C p s m args meth c cc own ret n nm G) {rx : Nat} {ry : Option Nat} {off : Int} (tgt : Nat) (hdg : decode cc pc = .ok (.if_acmp .ne off, 3)) (ht : (pc : Int) + off = (tgt : Int)) (kt : ¬ some rx = ry → z_Z p l e R s m args below meth c A n cells slots Q H tgt L rest) (kf : some rx = ry → z_Z p l e R s m args below meth c A n cells slots Q H (pc + 3) L rest) : z_Z p l e R s m args below meth c A n cells slots Q H pc L (va_rf ry :: .ref rx :: rest) :=
  fun ls locs hl hS => lv_acmp_ne (rx := some rx) (ry := ry) C.1 C.2.1 hdg ht (fun z => kt z ls locs hl hS) (fun z => kf z ls locs hl hS)
theorem z_acmp_ne_rr (C : z_C p s m args meth c cc own ret n nm G) {rx : Nat} {ry : Nat} {off : Int} (tgt : Nat) (hdg : decode cc pc = .ok (.if_acmp .ne off, 3)) (ht : (pc : Int) + off = (tgt : Int)) (kt : ¬ rx = ry → z_Z p l e R s m args below meth c A n cells slots Q H tgt L rest) (kf : rx = ry → z_Z p l e R s m args below meth c A n cells slots Q H (pc + 3) L rest) : z_Z p l e R s m args below meth c A n cells slots Q H pc L (.ref ry :: .ref rx :: rest) :=
  fun ls locs hl hS => lv_acmp_ne (rx := some rx) (ry := some ry) C.1 C.2.1 hdg ht (fun z => kt (fun w => z (congrArg some w)) ls locs hl hS) (fun z => kf (Option.some.inj z) ls locs hl hS)
theorem z_ifnull (C : z_C p s m args meth c cc own ret n nm G) {x : Option Nat} {off : Int} (tgt : Nat) (hdg : decode cc pc = .ok (.ifnull off, 3)) (ht : (pc : Int) + off = (tgt : Int)) (kt : x = none → z_Z p l e R s m args below meth c A n cells slots Q H tgt L rest) (kf : ∀ a, x = some a → z_Z p l e R s m args below meth c A n cells slots Q H (pc + 3) L rest) : z_Z p l e R s m args below meth c A n cells slots Q H pc L (va_rf x :: rest) := by
  intro ls locs hl hS
  cases x with
  | none => exact lv_ifnullN C.1 C.2.1 hdg ht (kt rfl ls locs hl hS)
  | some a => exact lv_ifnull C.1 C.2.1 hdg (kf a rfl ls locs hl hS)
theorem z_ifnonnull (C : z_C p s m args meth c cc own ret n nm G) {x : Option Nat} {off : Int} (tgt : Nat) (hdg : decode cc pc = .ok (.ifnonnull off, 3)) (ht : (pc : Int) + off = (tgt : Int)) (kt : ∀ a, x = some a → z_Z p l e R s m args below meth c A n cells slots Q H tgt L rest) (kf : x = none → z_Z p l e R s m args below meth c A n cells slots Q H (pc + 3) L rest) : z_Z p l e R s m args below meth c A n cells slots Q H pc L (va_rf x :: rest) := by
  intro ls locs hl hS
  cases x with
  | none => exact lv_ifnonnullN C.1 C.2.1 hdg (kf rfl ls locs hl hS)
  | some a => exact lv_ifnonnull C.1 C.2.1 hdg ht (kt a rfl ls locs hl hS)
theorem z_tableIn (C : z_C p s m args meth c cc own ret n nm G) {dflt lo hi : Int} {offs : Array Int} {len : Nat} {x : Int32} {off : Int} (tgt : Nat) (hdg : decode cc pc = .ok (.tableswitch dflt lo hi offs, len)) (h1 : ¬ x.toInt < lo) (h2 : ¬ hi < x.toInt) (ho : offs[(x.toInt - lo).toNat]? = some off) (ht : (pc : Int) + off = (tgt : Int)) (k : z_Z p l e R s m args below meth c A n cells slots Q H tgt L rest) : z_Z p l e R s m args below meth c A n cells slots Q H pc L (.int x :: rest) :=
  fun ls locs hl hS => lv_tableIn C.1 C.2.1 hdg h1 h2 ho ht (k ls locs hl hS)
theorem z_tableOut (C : z_C p s m args meth c cc own ret n nm G) {dflt lo hi : Int} {offs : Array Int} {len : Nat} {x : Int32} (tgt : Nat) (hdg : decode cc pc = .ok (.tableswitch dflt lo hi offs, len)) (h : x.toInt < lo ∨ hi < x.toInt) (ht : (pc : Int) + dflt = (tgt : Int)) (k : z_Z p l e R s m args below meth c A n cells slots Q H tgt L rest) : z_Z p l e R s m args below meth c A n cells slots Q H pc L (.int x :: rest) :=
  fun ls locs hl hS => lv_tableOut C.1 C.2.1 hdg h ht (k ls locs hl hS)

/-! heap rows -/
def z_cls (ci : Nat) (Cn : String) (T : u_T) (N : Nat) (ty0 : Nat → FieldType) : Prop := vwCl[ci]? = some (Cn, T, N) ∧ (∀ k, k < N → parseFieldDescriptor (T k).2.2.1 = some (ty0 k)) ∧ (∀ a, a < N → ∀ b, b < N → a ≠ b → (T a).2.1 ≠ (T b).2.1)
theorem z_cls0 : z_cls 0 RJx4a65c TJx4a65c 3 tyJx4a65c := ⟨rfl, tyJx4a65c_ok, nmJx4a65c⟩
theorem z_cls1 : z_cls 1 RX0 TX0 10 tyX0 := ⟨rfl, tyX0_ok, nmX0⟩
theorem z_cls2 : z_cls 2 RX1 TX1 6 tyX1 := ⟨rfl, tyX1_ok, nmX1⟩
theorem z_cls3 : z_cls 3 RX2 TX2 6 tyX2 := ⟨rfl, tyX2_ok, nmX2⟩
theorem z_cls4 : z_cls 4 RX3 TX3 10 tyX3 := ⟨rfl, tyX3_ok, nmX3⟩
theorem z_cls5 : z_cls 5 RX4 TX4 3 tyX4 := ⟨rfl, tyX4_ok, nmX4⟩
theorem z_cls6 : z_cls 6 RX5 TX5 10 tyX5 := ⟨rfl, tyX5_ok, nmX5⟩
theorem z_cls7 : z_cls 7 RX6 TX6 32 tyX6 := ⟨rfl, tyX6_ok, nmX6⟩
theorem z_get (C : z_C p s m args meth c cc own ret n nm G) {ci a index N : Nat} {Cn ref : String} {T : u_T} {ty0 : Nat → FieldType} {fs : List Value} {v : Value} (hat : va_at G.1 vwCl (a, .inr (ci, fs)) H) (K : z_cls ci Cn T N ty0) (hin : ∀ w ∈ u_ws Cn T N, w ∈ z_B) (k : Nat) (hk : k < N) (hw : Cond.fieldLink own index ref (T k).2.1 (T k).2.2.1 ∈ z_B) (hr : ref = (T k).1) (hv : fs[k]? = some v) (hdg : decode cc pc = .ok (.getfield index, 3))
    (kk : z_Z p l e R s m args below meth c A n cells slots Q H (pc + 3) L (v :: rest)) : z_Z p l e R s m args below meth c A n cells slots Q H pc L (.ref a :: rest) :=
  fun ls locs hl hS => va_get C.1 C.2.1 C.2.2.2.2.2.1 hin C.2.2.2.2.1 C.2.2.2.2.2.2.1.1 (z_P1 hat) 0 rfl K.1 k hk (C.2.2.2.2.2.1 _ hw) (fun _ h => hr ▸ h) hv hdg (kk ls locs hl hS)
theorem z_getS (C : z_C p s m args meth c cc own ret n nm G) {ci a index N : Nat} {Cn ref : String} {T : u_T} {ty0 : Nat → FieldType} {fs : List Value} {v : Value} (hat : va_at G.1 vwCl (a, .inr (ci, fs)) H) (K : z_cls ci Cn T N ty0) (hin : ∀ w ∈ u_ws Cn T N, w ∈ z_B) (k : Nat) (hk : k < N) (hw : Cond.fieldLink own index ref (T k).2.1 (T k).2.2.1 ∈ z_B) (hr : ∀ x, s.fieldFound? (T k).1 (T k).2.1 (T k).2.2.1 = some x → s.fieldFound? ref (T k).2.1 (T k).2.2.1 = some x) (hv : fs[k]? = some v) (hdg : decode cc pc = .ok (.getfield index, 3))
    (kk : z_Z p l e R s m args below meth c A n cells slots Q H (pc + 3) L (v :: rest)) : z_Z p l e R s m args below meth c A n cells slots Q H pc L (.ref a :: rest) :=
  fun ls locs hl hS => va_get C.1 C.2.1 C.2.2.2.2.2.1 hin C.2.2.2.2.1 C.2.2.2.2.2.2.1.1 (z_P1 hat) 0 rfl K.1 k hk (C.2.2.2.2.2.1 _ hw) hr hv hdg (kk ls locs hl hS)
theorem z_putS (C : z_C p s m args meth c cc own ret n nm G) {ci a index N : Nat} {Cn ref : String} {T : u_T} {ty0 : Nat → FieldType} {fs : List Value} {v : Value} (hat : va_at G.1 vwCl (a, .inr (ci, fs)) H) (K : z_cls ci Cn T N ty0) (hin : ∀ w ∈ u_ws Cn T N, w ∈ z_B) (hA : A a) (k : Nat) (hk : k < N) (hw : Cond.fieldLink own index ref (T k).2.1 (T k).2.2.1 ∈ z_B) (hr : ∀ x, s.fieldFound? (T k).1 (T k).2.1 (T k).2.2.1 = some x → s.fieldFound? ref (T k).2.1 (T k).2.2.1 = some x) (hfin : (T k).2.2.2 = false) (hn : narrow (ty0 k) v = v) (hfit : fits (ty0 k) v = true) (hl : k < fs.length) (hdg : decode cc pc = .ok (.putfield index, 3))
    (kk : ∀ H' : Heap, z_U G a (.inr (ci, fs.set k v)) H H' → z_Z p l e R s m args below meth c A n cells slots Q H' (pc + 3) L rest) : z_Z p l e R s m args below meth c A n cells slots Q H pc L (v :: .ref a :: rest) := by
  intro ls locs hl0 hS0
  have hK := C.2.2.2.2.2.2.1.1
  have hts := C.2.2.2.2.2.1
  have hap := va_apart (own := own) hts hin ty0 K.2.1 K.2.2 hK K.1
  obtain ⟨r, h1, cell, q1, q2, q3, q4⟩ := hat
  have hr2 : r = (Cn, T, N) := Option.some.inj (h1.symm.trans K.1)
  subst hr2
  obtain ⟨hS, hfc, kC, hkC, hkind⟩ := hK.1 ci _ K.1
  obtain ⟨cf, kf, fi, f, hi, hsl⟩ := hS k hk
  have hlay := hts _ (hin _ (u_in_lay hk))
  unfold u_lay at hlay
  rw [if_neg (by rw [hfin]; decide)] at hlay
  have hst := (u_facts hfc hkC (u_lays hts hin hk) hi).1
  have h6 := u_store hfc hkC hkind hlay hi (K.2.1 k hk) hn hfit
  refine W.putK C.1 C.2.1 (f := f) ⟨C.2.2.2.2.1, hts _ hw, ⟨_, _, _, hr _ hi⟩, hst⟩ (by rw [q2]; exact h6) q1 q3 (by rw [hsl]; exact k2_hasslot (q4 k hk)) rfl rfl hdg fun H' e1 e2 e3 => ?_
  rw [hsl] at e1 ⊢
  exact kk H' ⟨⟨_, K.1, t_OB.to (V := updV (vp_V fs) k v) ⟨_, e1, q2, q3, t_set q4 hap hk v⟩ (fun j _ => vp_updV_set hl v j)⟩, e2, e3⟩ ls _ hl0 (hS0.put e2 e3 hA)
theorem z_put (C : z_C p s m args meth c cc own ret n nm G) {ci a index N : Nat} {Cn ref : String} {T : u_T} {ty0 : Nat → FieldType} {fs : List Value} {v : Value} (hat : va_at G.1 vwCl (a, .inr (ci, fs)) H) (K : z_cls ci Cn T N ty0) (hin : ∀ w ∈ u_ws Cn T N, w ∈ z_B) (hA : A a) (k : Nat) (hk : k < N) (hw : Cond.fieldLink own index ref (T k).2.1 (T k).2.2.1 ∈ z_B) (hr : ref = (T k).1) (hfin : (T k).2.2.2 = false) (hn : narrow (ty0 k) v = v) (hfit : fits (ty0 k) v = true) (hl : k < fs.length) (hdg : decode cc pc = .ok (.putfield index, 3))
    (kk : ∀ H' : Heap, z_U G a (.inr (ci, fs.set k v)) H H' → z_Z p l e R s m args below meth c A n cells slots Q H' (pc + 3) L rest) : z_Z p l e R s m args below meth c A n cells slots Q H pc L (v :: .ref a :: rest) :=
  z_putS C hat K hin hA k hk hw (fun _ h => hr ▸ h) hfin hn hfit hl hdg kk
theorem z_putF (C : z_C p s m args meth c cc own ret n nm G) {ci a index N : Nat} {Cn ref : String} {T : u_T} {ty0 : Nat → FieldType} {fs : List Value} {v : Value} (hat : va_at G.1 vwCl (a, .inr (ci, fs)) H) (K : z_cls ci Cn T N ty0) (hin : ∀ w ∈ u_ws Cn T N, w ∈ z_B) (hA : A a) (k : Nat) (hk : k < N) (hw : Cond.fieldLink own index ref (T k).2.1 (T k).2.2.1 ∈ z_B) (hr : ref = (T k).1) (hdecl : (T k).1 = own) (hini : nm = "<init>") (hfin : (T k).2.2.2 = true) (hn : narrow (ty0 k) v = v) (hfit : fits (ty0 k) v = true) (hl : k < fs.length) (hdg : decode cc pc = .ok (.putfield index, 3))
    (kk : ∀ H' : Heap, z_U G a (.inr (ci, fs.set k v)) H H' → z_Z p l e R s m args below meth c A n cells slots Q H' (pc + 3) L rest) : z_Z p l e R s m args below meth c A n cells slots Q H pc L (v :: .ref a :: rest) := by
  intro ls locs hl0 hS0
  have hK := C.2.2.2.2.2.2.1.1
  have hts := C.2.2.2.2.2.1
  have hap := va_apart (own := own) hts hin ty0 K.2.1 K.2.2 hK K.1
  obtain ⟨r, h1, cell, q1, q2, q3, q4⟩ := hat
  have hr2 : r = (Cn, T, N) := Option.some.inj (h1.symm.trans K.1)
  subst hr2
  obtain ⟨hS, hfc, kC, hkC, hkind⟩ := hK.1 ci _ K.1
  obtain ⟨cf, kf, fi, f, hi, hsl⟩ := hS k hk
  have hlay := hts _ (hin _ (u_in_lay hk))
  unfold u_lay at hlay
  rw [if_pos hfin] at hlay
  have hst := (u_facts hfc hkC (u_lays hts hin hk) hi).1
  have hcf : m.cls = cf := by
    obtain ⟨_, _, c', _, _, _, -, -, hf', -, -, -, hown2, -⟩ := Cond.laysFinal_spec hlay
    have e1 : c' = cf := by have := hi.symm.trans hf'; simp at this; exact this.1.symm
    rw [hdecl] at hown2
    rw [← e1]; exact Option.some.inj (C.2.2.2.2.1.symm.trans hown2)
  have h6 := u_fits hfc hkC hkind (Or.inr hlay) hi (K.2.1 k hk) hn hfit
  refine W.putFinK C.1 C.2.1 C.2.2.2.2.1 (hts _ hw) ((fun _ h => hr ▸ h : ∀ x, s.fieldFound? (T k).1 (T k).2.1 (T k).2.2.1 = some x → s.fieldFound? ref (T k).2.1 (T k).2.2.1 = some x) _ hi) hst hcf (C.2.2.2.2.2.2.2.2.trans hini) (by rw [q2]; exact h6) q1 q3 (by rw [hsl]; exact k2_hasslot (q4 k hk)) rfl rfl hdg fun H' e1 e2 e3 => ?_
  rw [hsl] at e1 ⊢
  exact kk H' ⟨⟨_, K.1, t_OB.to (V := updV (vp_V fs) k v) ⟨_, e1, q2, q3, t_set q4 hap hk v⟩ (fun j _ => vp_updV_set hl v j)⟩, e2, e3⟩ ls _ hl0 (hS0.put e2 e3 hA)
theorem z_iald (C : z_C p s m args meth c cc own ret n nm G) {a N : Nat} {f : Nat → Int32} (hat : va_at G.1 vwCl (a, .inl (G.2 0, N, .inl f)) H) {i : Int32} (hi : vp_in i N) (hdg : decode cc pc = .ok (.iaload, 1)) (kk : z_Z p l e R s m args below meth c A n cells slots Q H (pc + 1) L (.int (f i.toNatClampNeg) :: rest)) : z_Z p l e R s m args below meth c A n cells slots Q H pc L (.int i :: .ref a :: rest) :=
  fun ls locs hl hS => va_iald C.1 C.2.1 C.2.2.2.2.2.2.1.1 (z_P1 hat) 0 0 rfl rfl hi hdg (kk ls locs hl hS)
theorem z_zald (C : z_C p s m args meth c cc own ret n nm G) {a N : Nat} {f : Nat → Int32} (hat : va_at G.1 vwCl (a, .inl (G.2 2, N, .inl f)) H) {i : Int32} (hi : vp_in i N) (hdg : decode cc pc = .ok (.baload, 1)) (kk : z_Z p l e R s m args below meth c A n cells slots Q H (pc + 1) L (.int (f i.toNatClampNeg) :: rest)) : z_Z p l e R s m args below meth c A n cells slots Q H pc L (.int i :: .ref a :: rest) :=
  fun ls locs hl hS => va_zald C.1 C.2.1 C.2.2.2.2.2.2.1.1 (z_P1 hat) 0 2 rfl rfl hi hdg (kk ls locs hl hS)
theorem z_lald (C : z_C p s m args meth c cc own ret n nm G) {a N : Nat} {f : Nat → Int64} (hat : va_at G.1 vwCl (a, .inl (G.2 1, N, .inr (.inl f))) H) {i : Int32} (hi : vp_in i N) (hdg : decode cc pc = .ok (.laload, 1)) (kk : z_Z p l e R s m args below meth c A n cells slots Q H (pc + 1) L (.long (f i.toNatClampNeg) :: rest)) : z_Z p l e R s m args below meth c A n cells slots Q H pc L (.int i :: .ref a :: rest) :=
  fun ls locs hl hS => va_lald C.1 C.2.1 C.2.2.2.2.2.2.1.1 (z_P1 hat) 0 1 rfl rfl hi hdg (kk ls locs hl hS)
theorem z_aald (C : z_C p s m args meth c cc own ret n nm G) {a N : Nat} {f : Nat → Option Nat} (hat : va_at G.1 vwCl (a, .inl (G.2 3, N, .inr (.inr (.inr (.inr f))))) H) {i : Int32} (hi : vp_in i N) {v : Value} (hv : va_rf (f i.toNatClampNeg) = v) (hdg : decode cc pc = .ok (.aaload, 1)) (kk : z_Z p l e R s m args below meth c A n cells slots Q H (pc + 1) L (v :: rest)) : z_Z p l e R s m args below meth c A n cells slots Q H pc L (.int i :: .ref a :: rest) :=
  fun ls locs hl hS => va_aldq C.1 C.2.1 C.2.2.2.2.2.2.1.1 (z_P1 hat) 0 3 rfl rfl hi hdg (hv ▸ kk ls locs hl hS)
theorem z_iast (C : z_C p s m args meth c cc own ret n nm G) {a N : Nat} {f : Nat → Int32} (hat : va_at G.1 vwCl (a, .inl (G.2 0, N, .inl f)) H) (hA : A a) {i x : Int32} (hi : vp_in i N) (hdg : decode cc pc = .ok (.iastore, 1)) (kk : ∀ H' : Heap, z_U G a (.inl (G.2 0, N, .inl (upd f i.toNatClampNeg x))) H H' → z_Z p l e R s m args below meth c A n cells slots Q H' (pc + 1) L rest) : z_Z p l e R s m args below meth c A n cells slots Q H pc L (.int x :: .int i :: .ref a :: rest) := by
  intro ls locs hl0 hS
  refine W.iast C.1 C.2.1 hat ((C.2.2.2.2.2.2.1.1.2 0 _ rfl).1 N (fun j => .int (f j))) (fun q => by cases q) (by show ¬ (i < 0 ∨ (arrV _ _ _).slots.size ≤ _); rw [arrV_size]; exact hi) rfl rfl hdg fun H1 e z oq => ?_
  refine kk H1 ⟨?_, z, oq⟩ ls _ hl0 (hS.put z oq hA)
  show H1[a]? = some (vp_cell _ _)
  rw [e]
  rw [vp_cell_i, vp_cell_i, arrV_store]
  congr 2
  funext q
  by_cases hq : q = i.toNatClampNeg
  · subst hq
    simp [updV, upd]
  · simp [updV, upd, hq]
theorem z_zast (C : z_C p s m args meth c cc own ret n nm G) {a N : Nat} {f : Nat → Int32} (hat : va_at G.1 vwCl (a, .inl (G.2 2, N, .inl f)) H) (hA : A a) {i x : Int32} (hi : vp_in i N) (hdg : decode cc pc = .ok (.bastore, 1)) (kk : ∀ H' : Heap, z_U G a (.inl (G.2 2, N, .inl (upd f i.toNatClampNeg (vp_nar .boolean x)))) H H' → z_Z p l e R s m args below meth c A n cells slots Q H' (pc + 1) L rest) : z_Z p l e R s m args below meth c A n cells slots Q H pc L (.int x :: .int i :: .ref a :: rest) := by
  intro ls locs hl0 hS
  refine W.zast C.1 C.2.1 hat ((C.2.2.2.2.2.2.1.1.2 2 _ rfl).1 N (fun j => .int (f j))) (fun q => by cases q) (by show ¬ (i < 0 ∨ (arrV _ _ _).slots.size ≤ _); rw [arrV_size]; exact hi) rfl rfl hdg fun H1 e z oq => ?_
  refine kk H1 ⟨?_, z, oq⟩ ls _ hl0 (hS.put z oq hA)
  show H1[a]? = some (vp_cell _ _)
  rw [e]
  rw [vp_cell_i, vp_cell_i, arrV_store]
  congr 2
  funext q
  by_cases hq : q = i.toNatClampNeg
  · subst hq
    simp [updV, upd, vp_nar]
    try rfl
  · simp [updV, upd, hq]
theorem z_last (C : z_C p s m args meth c cc own ret n nm G) {a N : Nat} {f : Nat → Int64} (hat : va_at G.1 vwCl (a, .inl (G.2 1, N, .inr (.inl f))) H) (hA : A a) {i : Int32} {x : Int64} (hi : vp_in i N) (hdg : decode cc pc = .ok (.lastore, 1)) (kk : ∀ H' : Heap, z_U G a (.inl (G.2 1, N, .inr (.inl (vp_updL f i.toNatClampNeg x)))) H H' → z_Z p l e R s m args below meth c A n cells slots Q H' (pc + 1) L rest) : z_Z p l e R s m args below meth c A n cells slots Q H pc L (.long x :: .int i :: .ref a :: rest) := by
  intro ls locs hl0 hS
  refine W.last C.1 C.2.1 hat ((C.2.2.2.2.2.2.1.1.2 1 _ rfl).1 N (fun j => .long (f j))) (fun q => by cases q) (by show ¬ (i < 0 ∨ (arrV _ _ _).slots.size ≤ _); rw [arrV_size]; exact hi) rfl rfl hdg fun H1 e z oq => ?_
  refine kk H1 ⟨?_, z, oq⟩ ls _ hl0 (hS.put z oq hA)
  show H1[a]? = some (vp_cell _ _)
  rw [e]
  rw [vp_cell_l, vp_cell_l, arrV_store]
  congr 2
  funext q
  by_cases hq : q = i.toNatClampNeg
  · subst hq
    simp [updV, vp_updL]
  · simp [updV, vp_updL, hq]
theorem z_alen (C : z_C p s m args meth c cc own ret n nm G) {a t : Nat} {cA : ClassId} {x : vp_A} {ty : FieldType} (hat : va_at G.1 vwCl (a, .inl (cA, x)) H) (ht : (z_tys G)[t]? = some (cA, ty)) (hdg : decode cc pc = .ok (.arraylength, 1)) (kk : z_Z p l e R s m args below meth c A n cells slots Q H (pc + 1) L (.int (Int32.ofNat x.1) :: rest)) : z_Z p l e R s m args below meth c A n cells slots Q H pc L (.ref a :: rest) :=
  fun ls locs hl hS => va_alen C.1 C.2.1 C.2.2.2.2.2.2.1.1 (z_P1 hat) 0 t rfl ht rfl hdg (kk ls locs hl hS)
theorem z_cast (C : z_C p s m args meth c cc own ret n nm G) {a ci index : Nat} {q : vw_C} {fs : List Value} (hat : va_at G.1 vwCl (a, .inr (ci, fs)) H) (hc : vwCl[ci]? = some q) (hw : Cond.classLink own index q.1 ∈ z_B) (hdg : decode cc pc = .ok (.checkcast index, 3)) (kk : z_Z p l e R s m args below meth c A n cells slots Q H (pc + 3) L (.ref a :: rest)) : z_Z p l e R s m args below meth c A n cells slots Q H pc L (.ref a :: rest) :=
  fun ls locs hl hS => va_castS C.1 C.2.1 C.2.2.2.2.1 (C.2.2.2.2.2.1 _ hw) (C.2.2.2.2.2.2.1.1.1 ci q hc).2 (va_recv C.2.2.2.2.2.2.1.1 (z_P1 hat) hc (q0 := 0) rfl) hdg (kk ls locs hl hS)
theorem z_new (C : z_C p s m args meth c cc own ret n nm G) {ci index N : Nat} {Cn : String} {T : u_T} {ty0 : Nat → FieldType} {fs : List Value} (K : z_cls ci Cn T N ty0) (hin : ∀ w ∈ u_ws Cn T N, w ∈ z_B) (hw1 : Cond.classLink own index Cn ∈ z_B) (hw2 : Cond.instantiable Cn N ∈ z_B) (hw3 : Cond.initialized Cn ∈ z_B) (hfs : ∀ j, j < N → defaultValue (ty0 j) = vp_V fs j) (hcells : cells + 1 ≤ R.cells) (hslots : slots + N ≤ R.slots) (hdg : decode cc pc = .ok (.new index, 3))
    (kk : ∀ (q : Nat) (H' : Heap), z_N G q (.inr (ci, fs)) H H' → z_Z p l e R s m args below meth c A n (cells + 1) (slots + N) Q H' (pc + 3) L (.ref q :: rest)) : z_Z p l e R s m args below meth c A n cells slots Q H pc L rest := by
  intro ls locs hl0 hS
  have hts := C.2.2.2.2.2.1
  have hKn := C.2.2.2.2.2.2.1.1.1 ci _ K.1
  refine W.newcK C.1 C.2.1 C.2.2.2.2.1 (hts _ hw1) (hts _ hw2) (hts _ hw3) rfl hdg hcells hslots hKn.2.1 rfl fun H1 kC hkC e1 z1 o1 => ?_
  exact kk H.size H1 ⟨rfl, ⟨_, K.1, (u_born ty0 hts hin hKn hkC e1 K.2.1).to hfs⟩, z1, o1⟩ ls locs hl0 ⟨Nat.le_trans hS.1 (by omega), fun x h1 h2 => (o1 x (Nat.lt_of_lt_of_le h1 hS.1)).trans (hS.2.1 x h1 h2), hS.2.2⟩
theorem z_newa (C : z_C p s m args meth c cc own ret n nm G) {atype : ArrayType} {t cy : Nat} {ty : FieldType} (hw : Cond.arrayClass (newarray.typeOf atype) ∈ z_B) (hty : newarray.typeOf atype = ty) (ht : (z_tys G)[t]? = some (cy, ty)) (hpr : va_RA s cy ty → s.vm.findClass ("[" ++ ty.toString) = some cy) {i : Int32} (N : Nat) {a0 : vp_A} (ha : ∀ cA : ClassId, vp_cell cA a0 = arrV cA N (fun _ => defaultValue ty)) (hn : ¬ i < 0) (hN : i.toNatClampNeg = N) (hbytes : N * componentBytes ty ≤ 536870912) (hcells : cells + 1 ≤ R.cells) (hslots : slots + N ≤ R.slots) (hdg : decode cc pc = .ok (.newarray atype, 2))
    (kk : ∀ (q : Nat) (H' : Heap), z_N G q (.inl (cy, a0)) H H' → z_Z p l e R s m args below meth c A n (cells + 1) (slots + N) Q H' (pc + 2) L (.ref q :: rest)) : z_Z p l e R s m args below meth c A n cells slots Q H pc L (.int i :: rest) := by
  intro ls locs hl0 hS
  subst hty
  have hts := C.2.2.2.2.2.1
  refine va_newaK C.1 C.2.1 (hts _ hw) rfl hdg rfl hn hN hbytes hcells hslots rfl fun H1 cA e1 z1 o1 hAr hNm => ?_
  have hcy : cA = cy := Option.some.inj (hNm.symm.trans (hpr (C.2.2.2.2.2.2.1.1.2 t _ ht).2))
  subst hcy
  refine kk H.size H1 ⟨rfl, ?_, z1, o1⟩ ls locs hl0 ⟨Nat.le_trans hS.1 (by omega), fun x h1 h2 => (o1 x (Nat.lt_of_lt_of_le h1 hS.1)).trans (hS.2.1 x h1 h2), hS.2.2⟩
  show H1[H.size]? = some (vp_cell _ _)
  rw [ha]
  exact e1
theorem z_newaI (C : z_C p s m args meth c cc own ret n nm G) (hw : Cond.arrayClass .int ∈ z_B) {i : Int32} (N : Nat) (hn : ¬ i < 0) (hN : i.toNatClampNeg = N) (hbytes : N * 4 ≤ 536870912) (hcells : cells + 1 ≤ R.cells) (hslots : slots + N ≤ R.slots) (hdg : decode cc pc = .ok (.newarray .int, 2))
    (kk : ∀ (q : Nat) (H' : Heap), z_N G q (.inl (G.2 0, N, .inl (fun _ => 0))) H H' → z_Z p l e R s m args below meth c A n (cells + 1) (slots + N) Q H' (pc + 2) L (.ref q :: rest)) : z_Z p l e R s m args below meth c A n cells slots Q H pc L (.int i :: rest) :=
  z_newa C (atype := .int) (t := 0) (ty := .int) hw rfl rfl (fun h => h) N (fun _ => rfl) hn hN hbytes hcells hslots hdg kk
theorem z_newaJ (C : z_C p s m args meth c cc own ret n nm G) (hw : Cond.arrayClass .long ∈ z_B) {i : Int32} (N : Nat) (hn : ¬ i < 0) (hN : i.toNatClampNeg = N) (hbytes : N * 8 ≤ 536870912) (hcells : cells + 1 ≤ R.cells) (hslots : slots + N ≤ R.slots) (hdg : decode cc pc = .ok (.newarray .long, 2))
    (kk : ∀ (q : Nat) (H' : Heap), z_N G q (.inl (G.2 1, N, .inr (.inl (fun _ => 0)))) H H' → z_Z p l e R s m args below meth c A n (cells + 1) (slots + N) Q H' (pc + 2) L (.ref q :: rest)) : z_Z p l e R s m args below meth c A n cells slots Q H pc L (.int i :: rest) :=
  z_newa C (atype := .long) (t := 1) (ty := .long) hw rfl rfl (fun h => h) N (fun _ => rfl) hn hN hbytes hcells hslots hdg kk
theorem z_newaZ (C : z_C p s m args meth c cc own ret n nm G) (hw : Cond.arrayClass .boolean ∈ z_B) {i : Int32} (N : Nat) (hn : ¬ i < 0) (hN : i.toNatClampNeg = N) (hbytes : N * 1 ≤ 536870912) (hcells : cells + 1 ≤ R.cells) (hslots : slots + N ≤ R.slots) (hdg : decode cc pc = .ok (.newarray .boolean, 2))
    (kk : ∀ (q : Nat) (H' : Heap), z_N G q (.inl (G.2 2, N, .inl (fun _ => 0))) H H' → z_Z p l e R s m args below meth c A n (cells + 1) (slots + N) Q H' (pc + 2) L (.ref q :: rest)) : z_Z p l e R s m args below meth c A n cells slots Q H pc L (.int i :: rest) :=
  z_newa C (atype := .boolean) (t := 2) (ty := .boolean) hw rfl rfl (fun h => h) N (fun _ => rfl) hn hN hbytes hcells hslots hdg kk
theorem z_objInit (C : z_C p s m args meth c cc own ret n nm G) {a idx : Nat} (hw1 : Cond.methodLink own idx objectInit ∈ z_B) (hw2 : Cond.instanceMethod objectInit ∈ z_B) (hw3 : Cond.code objectInit ⟨#[0xb1]⟩ 1 none ∈ z_B) (hd : decode cc pc = .ok (.invokespecial idx, 3)) (hf : 1 ≤ R.frames) (hlo : (rest.map fun v => v.category).sum + 12 ≤ R.locals) (kk : z_Z p l e R s m args below meth c A n cells slots Q H (pc + 3) L rest) : z_Z p l e R s m args below meth c A n cells slots Q H pc L (.ref a :: rest) :=
  fun ls locs hl hS => W.objInit C.1 C.2.1 C.2.2.2.2.1 (C.2.2.2.2.2.1 _ hw1) (C.2.2.2.2.2.1 _ hw2) (C.2.2.2.2.2.1 _ hw3) rfl (by rw [C.2.2.2.1]; exact hl.1) rfl hd hf (by show 2 * 0 + _ + 12 ≤ _; omega) (W.eq (g2 := F0 m (pc + 3) ls rest) rfl (kk ls locs hl hS))
theorem z_mmax (C : z_C p s m args meth c cc own ret n nm G) {index : Nat} (hw1 : Cond.methodLink own index Lib.Math.max.name ∈ z_B) (hw2 : Cond.static Lib.Math.max.name ∈ z_B) (hw3 : Cond.initialized "java/lang/Math" ∈ z_B) (hw4 : Cond.code Lib.Math.max.name Lib.Math.max.code 2 (some .int) ∈ z_B) (hf : 1 ≤ R.frames) (hlo : (rest.map fun v => v.category).sum + 13 ≤ R.locals) (hc : cells ≤ R.cells) (hs : slots ≤ R.slots) {x y : Int32} (hdg : decode cc pc = .ok (.invokestatic index, 3)) (kk : z_Z p l e R s m args below meth c A n cells slots Q H (pc + 3) L (.int (if x < y then y else x) :: rest)) : z_Z p l e R s m args below meth c A n cells slots Q H pc L (.int y :: .int x :: rest) :=
  fun ls locs hl hS => va_mmax C.1 C.2.1 (C.2.2.2.1.trans hl.1.symm) C.2.2.2.2.1 (C.2.2.2.2.2.1 _ hw1) (C.2.2.2.2.2.1 _ hw2) (C.2.2.2.2.2.1 _ hw3) (C.2.2.2.2.2.1 _ hw4) hf hlo hc hs hdg (kk ls locs hl hS)
theorem z_mmin (C : z_C p s m args meth c cc own ret n nm G) {index : Nat} (hw1 : Cond.methodLink own index Lib.Math.min.name ∈ z_B) (hw2 : Cond.static Lib.Math.min.name ∈ z_B) (hw3 : Cond.initialized "java/lang/Math" ∈ z_B) (hw4 : Cond.code Lib.Math.min.name Lib.Math.min.code 2 (some .int) ∈ z_B) (hf : 1 ≤ R.frames) (hlo : (rest.map fun v => v.category).sum + 13 ≤ R.locals) (hc : cells ≤ R.cells) (hs : slots ≤ R.slots) {x y : Int32} (hdg : decode cc pc = .ok (.invokestatic index, 3)) (kk : z_Z p l e R s m args below meth c A n cells slots Q H (pc + 3) L (.int (if y < x then y else x) :: rest)) : z_Z p l e R s m args below meth c A n cells slots Q H pc L (.int y :: .int x :: rest) :=
  fun ls locs hl hS => va_mmin C.1 C.2.1 (C.2.2.2.1.trans hl.1.symm) C.2.2.2.2.1 (C.2.2.2.2.2.1 _ hw1) (C.2.2.2.2.2.1 _ hw2) (C.2.2.2.2.2.1 _ hw3) (C.2.2.2.2.2.1 _ hw4) hf hlo hc hs hdg (kk ls locs hl hS)

/-! ends -/
theorem z_iret (C : z_C p s m args meth c cc own (some .int) n nm G) {mc ms : Nat} {Qr : Option Value → Heap → Heap → Prop} {v : Int32} (hc : cells ≤ mc) (hs : slots ≤ ms) (hdg : decode cc pc = .ok (.ireturn, 1)) (hq : Qr (some (.int v)) s.heap H) : z_Z p l e R s m args below meth c A n cells slots (MQ below (z_Q Qr A) args s mc ms A) H pc L [.int v] :=
  fun _ _ _ hS => W.widen hc hs (W.iret C.1 C.2.1 C.2.2.1 (fun _ ht _ => ⟨⟨_, rfl, ht ▸ hq⟩, hS.F ht⟩) hS.2.2 hdg C.2.2.2.2.2.2.2.1)
theorem z_bret (C : z_C p s m args meth c cc own (some .boolean) n nm G) {mc ms : Nat} {Qr : Option Value → Heap → Heap → Prop} {v : Int32} (hc : cells ≤ mc) (hs : slots ≤ ms) (hdg : decode cc pc = .ok (.ireturn, 1)) (hv : narrow .boolean (.int v) = .int v) (hq : Qr (some (.int v)) s.heap H) : z_Z p l e R s m args below meth c A n cells slots (MQ below (z_Q Qr A) args s mc ms A) H pc L [.int v] :=
  fun _ _ _ hS => W.widen hc hs (W.zret C.1 C.2.1 C.2.2.1 hv (fun _ ht _ => ⟨⟨_, rfl, ht ▸ hq⟩, hS.F ht⟩) hS.2.2 hdg C.2.2.2.2.2.2.2.1)
theorem z_vret (C : z_C p s m args meth c cc own none n nm G) {mc ms : Nat} {Qr : Option Value → Heap → Heap → Prop} (hc : cells ≤ mc) (hs : slots ≤ ms) (hdg : decode cc pc = .ok (.return_, 1)) (hq : Qr none s.heap H) : z_Z p l e R s m args below meth c A n cells slots (MQ below (z_Q Qr A) args s mc ms A) H pc L [] :=
  fun _ _ _ hS => W.widen hc hs (W.vret C.1 C.2.1 C.2.2.1 (fun _ ht _ => ⟨⟨_, rfl, ht ▸ hq⟩, hS.F ht⟩) hS.2.2 hdg C.2.2.2.2.2.2.2.1)
theorem z_aret {rt : FieldType} (C : z_C p s m args meth c cc own (some rt) n nm G) {mc ms : Nat} {Qr : Option Value → Heap → Heap → Prop} {a : Nat} (hrt : (∃ n, rt = .object n) ∨ ∃ t, rt = .array t) (hc : cells ≤ mc) (hs : slots ≤ ms) (hdg : decode cc pc = .ok (.areturn, 1)) (hq : Qr (some (.ref a)) s.heap H) : z_Z p l e R s m args below meth c A n cells slots (MQ below (z_Q Qr A) args s mc ms A) H pc L [.ref a] :=
  fun _ _ _ hS => W.widen hc hs (W.aret C.1 C.2.1 C.2.2.1 hrt (Or.inr ⟨a, rfl⟩) (fun _ ht _ => ⟨⟨_, rfl, ht ▸ hq⟩, hS.F ht⟩) hS.2.2 hdg C.2.2.2.2.2.2.2.1)
theorem z_aretq {rt : FieldType} (C : z_C p s m args meth c cc own (some rt) n nm G) {mc ms : Nat} {Qr : Option Value → Heap → Heap → Prop} {x : Option Nat} (hrt : (∃ n, rt = .object n) ∨ ∃ t, rt = .array t) (hc : cells ≤ mc) (hs : slots ≤ ms) (hdg : decode cc pc = .ok (.areturn, 1)) (hq : Qr (some (va_rf x)) s.heap H) : z_Z p l e R s m args below meth c A n cells slots (MQ below (z_Q Qr A) args s mc ms A) H pc L [va_rf x] :=
  fun _ _ _ hS => W.widen hc hs (W.aret C.1 C.2.1 C.2.2.1 hrt (by cases x with | none => exact Or.inl rfl | some a => exact Or.inr ⟨a, rfl⟩) (fun _ ht _ => ⟨⟨_, rfl, ht ▸ hq⟩, hS.F ht⟩) hS.2.2 hdg C.2.2.2.2.2.2.2.1)
/-! calls -/
theorem z_call {ls : Array Slot} {locs : List Loc} {st0 : List Value} {a : Array Value} {mc ms : Nat} {Q2 : Option Value → Heap → Heap → Prop} {A2 : Nat → Prop} (hr : va_Run p l e R s m args below meth c H locs cells slots mc ms (F0 m pc ls st0) rest (z_Q Q2 A2 a) A2) (hS : va_S A s.heap H locs) (hA : ∀ q, A2 q → A q)
    (kk : ∀ (v : Option Value) (H1 : Heap) (locs1 : List Loc), Q2 v H H1 → H.size ≤ H1.size → (∀ q : Nat, q < H.size → ¬ A2 q → H1[q]? = H[q]?) → va_S A s.heap H1 locs1 → W p l e R s m args below meth c H1 locs1 (cells + mc) (slots + ms) Q (F0 m (pc + 3) ls (v.toList ++ rest))) : W p l e R s m args below meth c H locs cells slots Q (F0 m pc ls st0) := by
  intro T hT X
  obtain ⟨v, st₀, t, T', L, h0, X', hL, e1, e2, ⟨⟨v2, hv, hq⟩, hz, hk⟩, st⟩ := hr T hT X
  cases hv
  rw [h0] at hz hk hq
  obtain ⟨t2, a1, b1⟩ := kk v T'.heap (locs ++ L) (by rw [e1]; exact hq) (by rw [e1]; exact hz) (fun q h1 h2 => by rw [e1]; exact hk q h1 h2)
    ⟨Nat.le_trans hS.1 (by rw [e1]; exact hz), fun q h1 h2 => by rw [e1, hk q (Nat.lt_of_lt_of_le h1 hS.1) (fun z => h2 (hA q z))]; exact hS.2.1 q h1 h2, fun q hq => by
      rcases List.mem_append.mp hq with h | h
      · exact hS.2.2 q h
      · exact hA _ (hL q h)⟩ T' rfl X'
  exact ⟨t2, st t2 a1, b1⟩
theorem z_blind {av : List Value} {P : Heap → Prop} : FrameBlind (va_Pc av (fun U => P U.heap ∧ z_K G U)) := fun _ _ g mk q => ⟨q.1, q.2.1, q.2.2.calling g mk _⟩
theorem z_callV (C : z_C p s m args meth c cc own ret n nm G) {y : MethodName} {k mc ms idx b maxL ci : Nat} {Cn : String} {T : u_T} {N : Nat} {fs : List Value} {As : List Value} {P : Heap → Prop} {A2 : Nat → Prop} {Q2 : Option Value → Heap → Heap → Prop} {bytes : ByteArray} {rt : Option FieldType}
    (hM : z_M l y bytes maxL rt k mc ms (.ref b :: As) G P A2 Q2) (hT : z_cal y bytes maxL rt Cn As.length) (hlk : Cond.methodLink own idx y ∈ z_B) (hR : k + 1 ≤ R.frames ∧ 8 + (maxL + 11) + 30 * k ≤ R.locals)
    (hat : va_at G.1 vwCl (b, .inr (ci, fs)) H) (hc : vwCl[ci]? = some (Cn, T, N)) (hP : P H) (hA : ∀ q, A2 q → A q) (hf : cells + mc ≤ R.cells ∧ slots + ms ≤ R.slots) (hrest : (rest.map fun v => v.category).sum ≤ 8) (hdg : decode cc pc = .ok (.invokevirtual idx, 3))
    (kk : ∀ (v : Option Value) (H' : Heap), Q2 v H H' → H.size ≤ H'.size → (∀ q : Nat, q < H.size → ¬ A2 q → H'[q]? = H[q]?) → z_Z p l e R s m args below meth c A n (cells + mc) (slots + ms) Q H' (pc + 3) L (v.toList ++ rest)) : z_Z p l e R s m args below meth c A n cells slots Q H pc L (As.reverse ++ .ref b :: rest) := by
  intro ls locs hl hS
  refine z_call (va_runV (As := As) (rest := rest) (b := b) (C := Cn) ⟨C.1, C.2.1, C.2.2.2.1, C.2.2.2.2.1, C.2.2.2.2.2.1⟩ hM (cwV As.length C.2.2.2.2.2.1 (hT.good hlk) rfl rfl rfl hT.2 hR) ⟨z_blind, va_recv C.2.2.2.2.2.2.1.1 (z_P1 hat) hc (q0 := 0) rfl, fun U hU hW => ⟨rfl, by rw [hU]; exact hP, C.2.2.2.2.2.2.1.warm hW⟩⟩ rfl rfl hl.1 rfl (lv_room hrest) hdg hf) hS hA (fun v H1 locs1 h1 h2 h3 h4 => kk v H1 h1 h2 h3 ls locs1 hl h4)
theorem z_callS (C : z_C p s m args meth c cc own ret n nm G) {y : MethodName} {k mc ms idx maxL : Nat} {As : List Value} {P : Heap → Prop} {A2 : Nat → Prop} {Q2 : Option Value → Heap → Heap → Prop} {bytes : ByteArray} {rt : Option FieldType}
    (hM : z_M l y bytes maxL rt k mc ms As G P A2 Q2) (hT : z_calS y bytes maxL rt As.length) (hlk : Cond.methodLink own idx y ∈ z_B) (hR : k + 1 ≤ R.frames ∧ 8 + (maxL + 11) + 30 * k ≤ R.locals)
    (hP : P H) (hA : ∀ q, A2 q → A q) (hf : cells + mc ≤ R.cells ∧ slots + ms ≤ R.slots) (hrest : (rest.map fun v => v.category).sum ≤ 8) (hdg : decode cc pc = .ok (.invokestatic idx, 3))
    (kk : ∀ (v : Option Value) (H' : Heap), Q2 v H H' → H.size ≤ H'.size → (∀ q : Nat, q < H.size → ¬ A2 q → H'[q]? = H[q]?) → z_Z p l e R s m args below meth c A n (cells + mc) (slots + ms) Q H' (pc + 3) L (v.toList ++ rest)) : z_Z p l e R s m args below meth c A n cells slots Q H pc L (As.reverse ++ rest) := by
  intro ls locs hl hS
  refine z_call (va_runS (As := As) (rest := rest) ⟨C.1, C.2.1, C.2.2.2.1, C.2.2.2.2.1, C.2.2.2.2.2.1⟩ hM (va_cwS As.length C.2.2.2.2.2.1 (hT.good hlk) rfl rfl rfl hT.2 hR) ⟨z_blind, fun U hU hW => ⟨rfl, by rw [hU]; exact hP, C.2.2.2.2.2.2.1.warm hW⟩⟩ rfl rfl hl.1 rfl (lv_room hrest) hdg hf) hS hA (fun v H1 locs1 h1 h2 h3 h4 => kk v H1 h1 h2 h3 ls locs1 hl h4)
theorem z_callSN (C : z_C p s m args meth c cc own ret n nm G) {y : MethodName} {host : String} {k mc ms idx maxL : Nat} {As : List Value} {P : Heap → Prop} {A2 : Nat → Prop} {Q2 : Option Value → Heap → Heap → Prop} {bytes : ByteArray} {rt : Option FieldType}
    (hM : z_M l y bytes maxL rt k mc ms As G P A2 Q2) (hT : z_calS y bytes maxL rt As.length) (hl0 : va_Nw (.methodLinkNest own idx y host) s) (hR : k + 1 ≤ R.frames ∧ 8 + (maxL + 11) + 30 * k ≤ R.locals)
    (hP : P H) (hA : ∀ q, A2 q → A q) (hf : cells + mc ≤ R.cells ∧ slots + ms ≤ R.slots) (hrest : (rest.map fun v => v.category).sum ≤ 8) (hdg : decode cc pc = .ok (.invokestatic idx, 3))
    (kk : ∀ (v : Option Value) (H' : Heap), Q2 v H H' → H.size ≤ H'.size → (∀ q : Nat, q < H.size → ¬ A2 q → H'[q]? = H[q]?) → z_Z p l e R s m args below meth c A n (cells + mc) (slots + ms) Q H' (pc + 3) L (v.toList ++ rest)) : z_Z p l e R s m args below meth c A n cells slots Q H pc L (As.reverse ++ rest) := by
  intro ls locs hl hS
  refine z_call (va_runSN (As := As) (rest := rest) ⟨C.1, C.2.1, C.2.2.2.1, C.2.2.2.2.1, C.2.2.2.2.2.1⟩ hM ⟨va_cnB As.length C.2.2.2.2.2.1 (z_goodc hT.1.2.2) rfl rfl rfl hl0 (C.2.2.2.2.2.1 _ hT.1.2.1) hT.2 hR, C.2.2.2.2.2.1 _ hT.1.1, trivial⟩ ⟨z_blind, fun U hU hW => ⟨rfl, by rw [hU]; exact hP, C.2.2.2.2.2.2.1.warm hW⟩⟩ rfl rfl hl.1 rfl (lv_room hrest) hdg hf) hS hA (fun v H1 locs1 h1 h2 h3 h4 => kk v H1 h1 h2 h3 ls locs1 hl h4)
theorem z_callI (C : z_C p s m args meth c cc own ret n nm G) {y : MethodName} {k mc ms idx b maxL : Nat} {As : List Value} {P : Heap → Prop} {A2 : Nat → Prop} {Q2 : Option Value → Heap → Heap → Prop} {bytes : ByteArray}
    (hM : z_M l y bytes maxL none k mc ms (.ref b :: As) G P A2 Q2) (hT : z_calI y bytes maxL As.length) (hlk : Cond.methodLink own idx y ∈ z_B) (hR : k + 1 ≤ R.frames ∧ 8 + (maxL + 11) + 30 * k ≤ R.locals)
    (hP : P H) (hA : ∀ q, A2 q → A q) (hf : cells + mc ≤ R.cells ∧ slots + ms ≤ R.slots) (hrest : (rest.map fun v => v.category).sum ≤ 8) (hdg : decode cc pc = .ok (.invokespecial idx, 3))
    (kk : ∀ (v : Option Value) (H' : Heap), Q2 v H H' → H.size ≤ H'.size → (∀ q : Nat, q < H.size → ¬ A2 q → H'[q]? = H[q]?) → z_Z p l e R s m args below meth c A n (cells + mc) (slots + ms) Q H' (pc + 3) L (v.toList ++ rest)) : z_Z p l e R s m args below meth c A n cells slots Q H pc L (As.reverse ++ .ref b :: rest) := by
  intro ls locs hl hS
  refine z_call (va_runI (As := As) (rest := rest) (b := b) ⟨C.1, C.2.1, C.2.2.2.1, C.2.2.2.2.1, C.2.2.2.2.2.1⟩ hM (cwI As.length C.2.2.2.2.2.1 (z_goodc hT.1.2.2.1) rfl rfl rfl (C.2.2.2.2.2.1 _ hT.1.1) (C.2.2.2.2.2.1 _ hlk) (C.2.2.2.2.2.1 _ hT.1.2.1) hT.1.2.2.2 hT.2 hR) ⟨z_blind, fun U hU hW => ⟨rfl, by rw [hU]; exact hP, C.2.2.2.2.2.2.1.warm hW⟩⟩ rfl rfl hl.1 rfl (lv_room hrest) hdg hf) hS hA (fun v H1 locs1 h1 h2 h3 h4 => kk v H1 h1 h2 h3 ls locs1 hl h4)
theorem z_ifb_eq (C : z_C p s m args meth c cc own ret n nm G) {b : Bool} {off : Int} (tgt : Nat) (hdg : decode cc pc = .ok (.ifCond .eq off, 3)) (ht : (pc : Int) + off = (tgt : Int)) (kt : b = false → z_Z p l e R s m args below meth c A n cells slots Q H tgt L rest) (kf : b = true → z_Z p l e R s m args below meth c A n cells slots Q H (pc + 3) L rest) : z_Z p l e R s m args below meth c A n cells slots Q H pc L (.int (z_b b) :: rest) :=
  z_if_eq C tgt hdg ht (fun h => kt (by cases b with | false => rfl | true => exact absurd h (by decide))) (fun h => kf (by cases b with | true => rfl | false => exact absurd rfl h))
theorem z_ifb_ne (C : z_C p s m args meth c cc own ret n nm G) {b : Bool} {off : Int} (tgt : Nat) (hdg : decode cc pc = .ok (.ifCond .ne off, 3)) (ht : (pc : Int) + off = (tgt : Int)) (kt : b = true → z_Z p l e R s m args below meth c A n cells slots Q H tgt L rest) (kf : b = false → z_Z p l e R s m args below meth c A n cells slots Q H (pc + 3) L rest) : z_Z p l e R s m args below meth c A n cells slots Q H pc L (.int (z_b b) :: rest) :=
  z_if_ne C tgt hdg ht (fun h => kt (by cases b with | true => rfl | false => exact absurd rfl h)) (fun h => kf (by cases b with | false => rfl | true => exact absurd h (by decide)))
/-- calls of methods that only read -/
theorem z_callVR (C : z_C p s m args meth c cc own ret n nm G) {y : MethodName} {k idx b maxL ci : Nat} {Cn : String} {T : u_T} {N : Nat} {fs : List Value} {As : List Value} {P : Heap → Prop} {bytes : ByteArray} {rt : Option FieldType} {val : Value}
    (hM : z_MR l y bytes maxL rt k (.ref b :: As) G P val) (hT : z_cal y bytes maxL rt Cn As.length) (hlk : Cond.methodLink own idx y ∈ z_B) (hR : k + 1 ≤ R.frames ∧ 8 + (maxL + 11) + 30 * k ≤ R.locals)
    (hat : va_at G.1 vwCl (b, .inr (ci, fs)) H) (hc : vwCl[ci]? = some (Cn, T, N)) (hP : P H) (hf : cells ≤ R.cells ∧ slots ≤ R.slots) (hrest : (rest.map fun v => v.category).sum ≤ 8) (hdg : decode cc pc = .ok (.invokevirtual idx, 3))
    (kk : z_Z p l e R s m args below meth c A n cells slots Q H (pc + 3) L (val :: rest)) : z_Z p l e R s m args below meth c A n cells slots Q H pc L (As.reverse ++ .ref b :: rest) :=
  z_callV C hM hT hlk hR hat hc hP (fun _ h => h.elim) hf hrest hdg (fun v H' hq _ _ => by obtain ⟨rfl, rfl⟩ := hq; exact kk)
theorem z_callSR (C : z_C p s m args meth c cc own ret n nm G) {y : MethodName} {k idx maxL : Nat} {As : List Value} {P : Heap → Prop} {bytes : ByteArray} {rt : Option FieldType} {val : Value}
    (hM : z_MR l y bytes maxL rt k As G P val) (hT : z_calS y bytes maxL rt As.length) (hlk : Cond.methodLink own idx y ∈ z_B) (hR : k + 1 ≤ R.frames ∧ 8 + (maxL + 11) + 30 * k ≤ R.locals)
    (hP : P H) (hf : cells ≤ R.cells ∧ slots ≤ R.slots) (hrest : (rest.map fun v => v.category).sum ≤ 8) (hdg : decode cc pc = .ok (.invokestatic idx, 3))
    (kk : z_Z p l e R s m args below meth c A n cells slots Q H (pc + 3) L (val :: rest)) : z_Z p l e R s m args below meth c A n cells slots Q H pc L (As.reverse ++ rest) :=
  z_callS C hM hT hlk hR hP (fun _ h => h.elim) hf hrest hdg (fun v H' hq _ _ => by obtain ⟨rfl, rfl⟩ := hq; exact kk)
theorem z_callSNR (C : z_C p s m args meth c cc own ret n nm G) {y : MethodName} {host : String} {k idx maxL : Nat} {As : List Value} {P : Heap → Prop} {bytes : ByteArray} {rt : Option FieldType} {val : Value}
    (hM : z_MR l y bytes maxL rt k As G P val) (hT : z_calS y bytes maxL rt As.length) (hl0 : va_Nw (.methodLinkNest own idx y host) s) (hR : k + 1 ≤ R.frames ∧ 8 + (maxL + 11) + 30 * k ≤ R.locals)
    (hP : P H) (hf : cells ≤ R.cells ∧ slots ≤ R.slots) (hrest : (rest.map fun v => v.category).sum ≤ 8) (hdg : decode cc pc = .ok (.invokestatic idx, 3))
    (kk : z_Z p l e R s m args below meth c A n cells slots Q H (pc + 3) L (val :: rest)) : z_Z p l e R s m args below meth c A n cells slots Q H pc L (As.reverse ++ rest) :=
  z_callSN C hM hT hl0 hR hP (fun _ h => h.elim) hf hrest hdg (fun v H' hq _ _ => by obtain ⟨rfl, rfl⟩ := hq; exact kk)
end ZROWS
theorem z_lgI {L : List (Nat × Value)} {k : Nat} {x y : Int32} (h : z_lg L k = some (.int x)) (e : x = y) : z_lg L k = some (.int y) := e ▸ h
theorem z_ge {x : Int32} {n i : Nat} (hn : x = nI n) (hb : n < 2 ^ 31) (hi : i ≤ n) (h : x ≤ nI i) : i = n := by
  subst hn
  rcases Nat.lt_or_ge i n with q | q
  · exact absurd h (nI_ge q hb)
  · omega
theorem z_lt {x : Int32} {n i : Nat} (hn : x = nI n) (hb : n < 2 ^ 31) (hi : i ≤ n) (h : ¬ x ≤ nI i) : i < n := by
  subst hn
  rcases Nat.lt_or_ge i n with q | q
  · exact q
  · exact absurd (nI_le q (by omega)) h
theorem z_loopN {p : Program} {l : Launch} {e : Env} {R : Room} {s : State} {m : MethodId} {args : Array Value} {below : List Frame} {meth : Method} {c : Code} {A : Nat → Prop} {n cells slots : Nat} {Q : State → Prop} {H : Heap} {pc : Nat} {L : List (Nat × Value)} {st : List Value} (Lf : Nat → List (Nat × Value)) (n0 : Nat) (hL : z_all (Lf 0) L)
    (h : ∀ i, i ≤ n0 → (i < n0 → ∀ L', z_all (Lf (i + 1)) L' → z_Z p l e R s m args below meth c A n cells slots Q H pc L' st) → z_Z p l e R s m args below meth c A n cells slots Q H pc (Lf i) st) : z_Z p l e R s m args below meth c A n cells slots Q H pc L st := by
  have key : ∀ j i, i + j = n0 → z_Z p l e R s m args below meth c A n cells slots Q H pc (Lf i) st := by
    intro j
    induction j with
    | zero => intro i hi; exact h i (by omega) (fun q => absurd q (by omega))
    | succ j ih => intro i hi; exact h i (by omega) (fun _ L' hL' => z_sub _ hL' (ih (i + 1) (by omega)))
  exact z_sub _ hL (key n0 0 (by omega))
theorem z_loopS {σ : Type} {p : Program} {l : Launch} {e : Env} {R : Room} {s : State} {m : MethodId} {args : Array Value} {below : List Frame} {meth : Method} {c : Code} {A : Nat → Prop} {n cells slots : Nat} {Q : State → Prop} {H : Heap} {pc : Nat} {L : List (Nat × Value)} {st : List Value} (μ : σ → Nat) (I : σ → Heap → Prop) (Lf : σ → List (Nat × Value)) (x0 : σ) (h0 : I x0 H) (hL : z_all (Lf x0) L)
    (h : ∀ x H1, I x H1 → (∀ y H2 L', I y H2 → μ y < μ x → z_all (Lf y) L' → z_Z p l e R s m args below meth c A n cells slots Q H2 pc L' st) → z_Z p l e R s m args below meth c A n cells slots Q H1 pc (Lf x) st) : z_Z p l e R s m args below meth c A n cells slots Q H pc L st := by
  have key : ∀ k x H1, μ x < k → I x H1 → z_Z p l e R s m args below meth c A n cells slots Q H1 pc (Lf x) st := by
    intro k
    induction k with
    | zero => intro x H1 hk; exact absurd hk (by omega)
    | succ k ih => intro x H1 hk hx; exact h x H1 hx (fun y H2 L' hy hm hL' => z_sub _ hL' (ih y H2 (by omega) hy))
  exact z_sub _ hL (key _ x0 H (Nat.lt_succ_self _) h0)
/-- a contract from its body's walk -/
theorem z_M.of {l : Launch} {y : MethodName} {k mc ms n : Nat} {av : List Value} {G : z_G} {P : Heap → Prop} {A : Nat → Prop} {Qr : Option Value → Heap → Heap → Prop} {cc : ByteArray} {ret : Option FieldType}
    (hy : plainName y.cls = true) (hl : (lg_sl av).length ≤ n)
    (body : ∀ (p : Program) (e : Env) (s : State) (m : MethodId) (below : List Frame) (meth : Method) (c : Code), z_C p s m av.toArray meth c cc y.cls ret n y.name G → P s.heap → z_Z p l e (z_rm k mc ms) s m av.toArray below meth c A n 0 0 (MQ below (z_Q Qr A) av.toArray s mc ms A) s.heap 0 (lv_args 0 av) []) :
    z_M l y cc n ret k mc ms av G P A Qr := by
  refine Met.ofW (cc := cc) (maxL := n) (ret := ret) hy rfl ?_
  intro p e s m args below meth c s₁ B hml hv
  obtain ⟨rfl, hP, hK⟩ := hv
  have hown : s.vm.findClass y.cls = some m.cls := findClass_of_methodNamed B.named
  have hin : meth.name = y.name := (name_of_methodNamed B.named B.method).1
  have K := body p e s m below meth c ⟨B.exec, B.bytes, B.returns, hml, hown, fun w hw => atoms_spec (ws := Cond.code y cc n ret :: z_B) B.pre w (List.mem_cons_of_mem _ hw), hK, B.notSynchronized, hin⟩ hP
  rw [lg_entry_eq]
  exact K _ _ (lv_entry av hl) va_S.rf
end
section
theorem hu_Jx4a65c : ∀ w ∈ u_ws RJx4a65c TJx4a65c 3, w ∈ z_B := z_uw fun k hk => match k, hk with
  | 0, _ => wb_49
  | 1, _ => wb_45
  | 2, _ => wb_47
  | k + 3, hk => absurd hk (by omega)
theorem hu_X0 : ∀ w ∈ u_ws RX0 TX0 10, w ∈ z_B := z_uw fun k hk => match k, hk with
  | 0, _ => wb_284
  | 1, _ => wb_286
  | 2, _ => wb_288
  | 3, _ => wb_290
  | 4, _ => wb_292
  | 5, _ => wb_294
  | 6, _ => wb_296
  | 7, _ => wb_298
  | 8, _ => wb_300
  | 9, _ => wb_302
  | k + 10, hk => absurd hk (by omega)
theorem hu_X1 : ∀ w ∈ u_ws RX1 TX1 6, w ∈ z_B := z_uw fun k hk => match k, hk with
  | 0, _ => wb_378
  | 1, _ => wb_380
  | 2, _ => wb_382
  | 3, _ => wb_384
  | 4, _ => wb_386
  | 5, _ => wb_388
  | k + 6, hk => absurd hk (by omega)
theorem hu_X2 : ∀ w ∈ u_ws RX2 TX2 6, w ∈ z_B := z_uw fun k hk => match k, hk with
  | 0, _ => wb_339
  | 1, _ => wb_341
  | 2, _ => wb_343
  | 3, _ => wb_345
  | 4, _ => wb_347
  | 5, _ => wb_349
  | k + 6, hk => absurd hk (by omega)
theorem hu_X3 : ∀ w ∈ u_ws RX3 TX3 10, w ∈ z_B := z_uw fun k hk => match k, hk with
  | 0, _ => wb_71
  | 1, _ => wb_73
  | 2, _ => wb_75
  | 3, _ => wb_77
  | 4, _ => wb_79
  | 5, _ => wb_81
  | 6, _ => wb_83
  | 7, _ => wb_85
  | 8, _ => wb_87
  | 9, _ => wb_89
  | k + 10, hk => absurd hk (by omega)
theorem hu_X4 : ∀ w ∈ u_ws RX4 TX4 3, w ∈ z_B := z_uw fun k hk => match k, hk with
  | 0, _ => wb_148
  | 1, _ => wb_150
  | 2, _ => wb_152
  | k + 3, hk => absurd hk (by omega)
theorem hu_X5 : ∀ w ∈ u_ws RX5 TX5 10, w ∈ z_B := z_uw fun k hk => match k, hk with
  | 0, _ => wb_104
  | 1, _ => wb_106
  | 2, _ => wb_108
  | 3, _ => wb_110
  | 4, _ => wb_112
  | 5, _ => wb_114
  | 6, _ => wb_116
  | 7, _ => wb_118
  | 8, _ => wb_120
  | 9, _ => wb_122
  | k + 10, hk => absurd hk (by omega)
theorem hu_X6 : ∀ w ∈ u_ws RX6 TX6 32, w ∈ z_B := z_uw fun k hk => match k, hk with
  | 0, _ => wb_667
  | 1, _ => wb_669
  | 2, _ => wb_671
  | 3, _ => wb_673
  | 4, _ => wb_675
  | 5, _ => wb_677
  | 6, _ => wb_679
  | 7, _ => wb_681
  | 8, _ => wb_683
  | 9, _ => wb_685
  | 10, _ => wb_687
  | 11, _ => wb_689
  | 12, _ => wb_691
  | 13, _ => wb_693
  | 14, _ => wb_695
  | 15, _ => wb_697
  | 16, _ => wb_699
  | 17, _ => wb_701
  | 18, _ => wb_703
  | 19, _ => wb_705
  | 20, _ => wb_707
  | 21, _ => wb_709
  | 22, _ => wb_711
  | 23, _ => wb_713
  | 24, _ => wb_715
  | 25, _ => wb_717
  | 26, _ => wb_719
  | 27, _ => wb_721
  | 28, _ => wb_723
  | 29, _ => wb_725
  | 30, _ => wb_727
  | 31, _ => wb_729
  | k + 32, hk => absurd hk (by omega)
theorem kc_X5_init : z_calI yX5_init cX5_init 1 0 := ⟨⟨wb_1, wb_21, wb_22, rfl⟩, by decide +kernel⟩
theorem kc_Jx4a65c_init_da8c8 : z_calI yJx4a65c_init_da8c8 cJx4a65c_init_da8c8 1 0 := ⟨⟨wb_4, wb_29, wb_30, rfl⟩, by decide +kernel⟩
theorem kc_Jxc12de_init_da8c8 : z_calI yJxc12de_init_da8c8 cJxc12de_init_da8c8 1 0 := ⟨⟨wb_3, wb_32, wb_33, rfl⟩, by decide +kernel⟩
theorem kc_Jxa1e45_init_da8c8 : z_calI yJxa1e45_init_da8c8 cJxa1e45_init_da8c8 1 0 := ⟨⟨wb_2, wb_35, wb_36, rfl⟩, by decide +kernel⟩
theorem kc_X3_init : z_calI yX3_init cX3_init 1 0 := ⟨⟨wb_5, wb_55, wb_56, rfl⟩, by decide +kernel⟩
theorem kc_X5_addRoom : z_cal yX5_addRoom cX5_addRoom 2 (some .int) RX5 0 := ⟨⟨wb_126, wb_127, wb_1, wb_128⟩, by decide +kernel⟩
theorem kc_Jx4a65c_size_8abf5 : z_cal yJx4a65c_size_8abf5 cJx4a65c_size_8abf5 1 (some .int) RJx4a65c 0 := ⟨⟨wb_130, wb_131, wb_4, wb_132⟩, by decide +kernel⟩
theorem kc_X4_init : z_calI yX4_init cX4_init 2 1 := ⟨⟨wb_7, wb_136, wb_137, rfl⟩, by decide +kernel⟩
theorem kc_Jx4a65c_add_9ea2d : z_cal yJx4a65c_add_9ea2d cJx4a65c_add_9ea2d 2 (some .boolean) RJx4a65c 1 := ⟨⟨wb_156, wb_157, wb_4, wb_158⟩, by decide +kernel⟩
theorem kc_Jx4a65c_add_72be8 : z_cal yJx4a65c_add_72be8 cJx4a65c_add_72be8 4 none RJx4a65c 3 := ⟨⟨wb_161, wb_s0, wb_4, wb_162⟩, by decide +kernel⟩
theorem kc_Jx4a65c_grow_d5877 : z_cal yJx4a65c_grow_d5877 cJx4a65c_grow_d5877 1 (some (.array (.object "java/lang/Object"))) RJx4a65c 0 := ⟨⟨wb_165, wb_s1, wb_4, wb_166⟩, by decide +kernel⟩
theorem kc_Jx4a65c_grow_92f84 : z_cal yJx4a65c_grow_92f84 cJx4a65c_grow_92f84 4 (some (.array (.object "java/lang/Object"))) RJx4a65c 1 := ⟨⟨wb_169, wb_s2, wb_4, wb_170⟩, by decide +kernel⟩
theorem kc_J8_newLength_cabcc : z_calS yJ8_newLength_cabcc cJ8_newLength_cabcc 4 (some .int) 3 := ⟨⟨wb_172, wb_8, wb_173⟩, by decide +kernel⟩
theorem kc_J8_hugeLength_7cf53 : z_calS yJ8_hugeLength_7cf53 cJ8_hugeLength_7cf53 3 (some .int) 2 := ⟨⟨wb_179, wb_8, wb_180⟩, by decide +kernel⟩
theorem kc_J7_copyOf_1904c : z_calS yJ7_copyOf_1904c cJ7_copyOf_1904c 2 (some (.array (.object "java/lang/Object"))) 2 := ⟨⟨wb_182, wb_10, wb_183⟩, by decide +kernel⟩
theorem kc_J7_copyOf_6403c : z_calS yJ7_copyOf_6403c cJ7_copyOf_6403c 4 (some (.array (.object "java/lang/Object"))) 3 := ⟨⟨wb_197, wb_10, wb_198⟩, by decide +kernel⟩
theorem kc_X5_setExit : z_cal yX5_setExit cX5_setExit 3 (some .int) RX5 1 := ⟨⟨wb_211, wb_212, wb_1, wb_213⟩, by decide +kernel⟩
theorem kc_X5_isRoom : z_cal yX5_isRoom cX5_isRoom 2 (some .boolean) RX5 1 := ⟨⟨wb_216, wb_s3, wb_1, wb_217⟩, by decide +kernel⟩
theorem kc_X5_exitNumber : z_cal yX5_exitNumber cX5_exitNumber 1 (some .int) RX5 0 := ⟨⟨wb_220, wb_s4, wb_1, wb_221⟩, by decide +kernel⟩
theorem kc_Jx4a65c_get_915e3 : z_cal yJx4a65c_get_915e3 cJx4a65c_get_915e3 2 (some (.object "java/lang/Object")) RJx4a65c 1 := ⟨⟨wb_223, wb_224, wb_4, wb_225⟩, by decide +kernel⟩
theorem kc_J15_checkIndex_7cf53 : z_calS yJ15_checkIndex_7cf53 cJ15_checkIndex_7cf53 2 (some .int) 2 := ⟨⟨wb_227, wb_12, wb_228⟩, by decide +kernel⟩
theorem kc_J3_checkIndex_8e157 : z_calS yJ3_checkIndex_8e157 cJ3_checkIndex_8e157 3 (some .int) 3 := ⟨⟨wb_230, wb_13, wb_231⟩, by decide +kernel⟩
theorem kc_Jx4a65c_elementData_915e3 : z_cal yJx4a65c_elementData_915e3 cJx4a65c_elementData_915e3 2 (some (.object "java/lang/Object")) RJx4a65c 1 := ⟨⟨wb_233, wb_234, wb_4, wb_235⟩, by decide +kernel⟩
theorem kc_X5_addDoor : z_cal yX5_addDoor cX5_addDoor 5 (some .int) RX5 3 := ⟨⟨wb_237, wb_238, wb_1, wb_239⟩, by decide +kernel⟩
theorem kc_X5_isBetween : z_calS yX5_isBetween cX5_isBetween 3 (some .boolean) 3 := ⟨⟨wb_241, wb_1, wb_242⟩, by decide +kernel⟩
theorem kc_X5_lowerRoom : z_cal yX5_lowerRoom cX5_lowerRoom 3 (some (.object "EscapeRooms$Room")) RX5 2 := ⟨⟨wb_247, wb_s5, wb_1, wb_248⟩, by decide +kernel⟩
theorem kc_X5_higherRoom : z_cal yX5_higherRoom cX5_higherRoom 3 (some (.object "EscapeRooms$Room")) RX5 2 := ⟨⟨wb_252, wb_s6, wb_1, wb_253⟩, by decide +kernel⟩
theorem kc_X0_init : z_calI yX0_init cX0_init 5 4 := ⟨⟨wb_14, wb_256, wb_257, rfl⟩, by decide +kernel⟩
theorem kc_X5_addLock : z_cal yX5_addLock cX5_addLock 8 (some .int) RX5 5 := ⟨⟨wb_306, wb_307, wb_1, wb_308⟩, by decide +kernel⟩
theorem kc_X5_isColor : z_calS yX5_isColor cX5_isColor 1 (some .boolean) 1 := ⟨⟨wb_310, wb_1, wb_311⟩, by decide +kernel⟩
theorem kc_X0_putLock : z_cal yX0_putLock cX0_putLock 4 none RX0 3 := ⟨⟨wb_313, wb_314, wb_14, wb_315⟩, by decide +kernel⟩
theorem kc_X5_addKey : z_cal yX5_addKey cX5_addKey 4 (some .int) RX5 2 := ⟨⟨wb_317, wb_318, wb_1, wb_319⟩, by decide +kernel⟩
theorem kc_X2_init : z_calI yX2_init cX2_init 4 3 := ⟨⟨wb_15, wb_323, wb_324, rfl⟩, by decide +kernel⟩
theorem kc_X5_addGroup : z_cal yX5_addGroup cX5_addGroup 5 (some .int) RX5 2 := ⟨⟨wb_353, wb_354, wb_1, wb_355⟩, by decide +kernel⟩
theorem kc_X5_playersThat : z_cal yX5_playersThat cX5_playersThat 5 (some .int) RX5 1 := ⟨⟨wb_358, wb_s7, wb_1, wb_359⟩, by decide +kernel⟩
theorem kc_X1_init : z_calI yX1_init cX1_init 5 4 := ⟨⟨wb_16, wb_363, wb_364, rfl⟩, by decide +kernel⟩
theorem kc_X5_setHints : z_cal yX5_setHints cX5_setHints 4 (some .int) RX5 2 := ⟨⟨wb_392, wb_393, wb_1, wb_394⟩, by decide +kernel⟩
theorem kc_X5_walk : z_cal yX5_walk cX5_walk 6 (some .int) RX5 2 := ⟨⟨wb_396, wb_397, wb_1, wb_398⟩, by decide +kernel⟩
theorem kc_X5_isGroup : z_cal yX5_isGroup cX5_isGroup 2 (some .boolean) RX5 1 := ⟨⟨wb_401, wb_s8, wb_1, wb_402⟩, by decide +kernel⟩
theorem kc_X5_isDoor : z_cal yX5_isDoor cX5_isDoor 2 (some .boolean) RX5 1 := ⟨⟨wb_405, wb_s9, wb_1, wb_406⟩, by decide +kernel⟩
theorem kc_X1_isInPlay : z_cal yX1_isInPlay cX1_isInPlay 1 (some .boolean) RX1 0 := ⟨⟨wb_408, wb_409, wb_16, wb_410⟩, by decide +kernel⟩
theorem kc_X0_isAt : z_cal yX0_isAt cX0_isAt 2 (some .boolean) RX0 1 := ⟨⟨wb_412, wb_413, wb_14, wb_414⟩, by decide +kernel⟩
theorem kc_X0_timeBehind : z_cal yX0_timeBehind cX0_timeBehind 2 (some .int) RX0 1 := ⟨⟨wb_416, wb_417, wb_14, wb_418⟩, by decide +kernel⟩
theorem kc_X0_otherRoom : z_cal yX0_otherRoom cX0_otherRoom 2 (some (.object "EscapeRooms$Room")) RX0 1 := ⟨⟨wb_422, wb_423, wb_14, wb_424⟩, by decide +kernel⟩
theorem kc_X5_unlock : z_cal yX5_unlock cX5_unlock 7 (some .int) RX5 2 := ⟨⟨wb_426, wb_427, wb_1, wb_428⟩, by decide +kernel⟩
theorem kc_X5_lowestHeldKey : z_cal yX5_lowestHeldKey cX5_lowestHeldKey 5 (some (.object "EscapeRooms$Key")) RX5 2 := ⟨⟨wb_431, wb_s10, wb_1, wb_432⟩, by decide +kernel⟩
theorem kc_X0_openFrom : z_cal yX0_openFrom cX0_openFrom 2 none RX0 1 := ⟨⟨wb_434, wb_435, wb_14, wb_436⟩, by decide +kernel⟩
theorem kc_X2_useUp : z_cal yX2_useUp cX2_useUp 2 none RX2 1 := ⟨⟨wb_438, wb_439, wb_15, wb_440⟩, by decide +kernel⟩
theorem kc_X5_take : z_cal yX5_take cX5_take 5 (some .int) RX5 2 := ⟨⟨wb_442, wb_443, wb_1, wb_444⟩, by decide +kernel⟩
theorem kc_X5_isKey : z_cal yX5_isKey cX5_isKey 2 (some .boolean) RX5 1 := ⟨⟨wb_447, wb_s11, wb_1, wb_448⟩, by decide +kernel⟩
theorem kc_X2_giveTo : z_cal yX2_giveTo cX2_giveTo 2 none RX2 1 := ⟨⟨wb_450, wb_451, wb_15, wb_452⟩, by decide +kernel⟩
theorem kc_X5_keysHeldBy : z_cal yX5_keysHeldBy cX5_keysHeldBy 4 (some .int) RX5 1 := ⟨⟨wb_455, wb_s12, wb_1, wb_456⟩, by decide +kernel⟩
theorem kc_X5_drop : z_cal yX5_drop cX5_drop 5 (some .int) RX5 2 := ⟨⟨wb_458, wb_459, wb_1, wb_460⟩, by decide +kernel⟩
theorem kc_X2_layDown : z_cal yX2_layDown cX2_layDown 3 none RX2 2 := ⟨⟨wb_462, wb_463, wb_15, wb_464⟩, by decide +kernel⟩
theorem kc_X5_idle : z_cal yX5_idle cX5_idle 5 (some .int) RX5 2 := ⟨⟨wb_466, wb_467, wb_1, wb_468⟩, by decide +kernel⟩
theorem kc_X5_part : z_cal yX5_part cX5_part 5 (some .int) RX5 2 := ⟨⟨wb_470, wb_471, wb_1, wb_472⟩, by decide +kernel⟩
theorem kc_X5_join : z_cal yX5_join cX5_join 5 (some .int) RX5 2 := ⟨⟨wb_474, wb_475, wb_1, wb_476⟩, by decide +kernel⟩
theorem kc_X5_handOverKeys : z_cal yX5_handOverKeys cX5_handOverKeys 5 none RX5 2 := ⟨⟨wb_479, wb_s13, wb_1, wb_480⟩, by decide +kernel⟩
theorem kc_X5_leave : z_cal yX5_leave cX5_leave 3 (some .int) RX5 1 := ⟨⟨wb_482, wb_483, wb_1, wb_484⟩, by decide +kernel⟩
theorem kc_X5_hint : z_cal yX5_hint cX5_hint 4 (some .int) RX5 1 := ⟨⟨wb_486, wb_487, wb_1, wb_488⟩, by decide +kernel⟩
theorem kc_X3_find : z_cal yX3_find cX3_find 8 none RX3 5 := ⟨⟨wb_490, wb_491, wb_5, wb_492⟩, by decide +kernel⟩
theorem kc_X5_openLocks : z_calS yX5_openLocks cX5_openLocks 4 (some .int) 1 := ⟨⟨wb_494, wb_1, wb_495⟩, by decide +kernel⟩
theorem kc_X3_comeTo : z_cal yX3_comeTo cX3_comeTo 5 none RX3 3 := ⟨⟨wb_499, wb_s14, wb_5, wb_500⟩, by decide +kernel⟩
theorem kc_X5_spread : z_calS yX5_spread cX5_spread 8 (some .int) 3 := ⟨⟨wb_502, wb_1, wb_503⟩, by decide +kernel⟩
theorem kc_X0_isPassable : z_cal yX0_isPassable cX0_isPassable 2 (some .boolean) RX0 1 := ⟨⟨wb_505, wb_506, wb_14, wb_507⟩, by decide +kernel⟩
theorem kc_X0_leadsOutOf : z_cal yX0_leadsOutOf cX0_leadsOutOf 3 (some .boolean) RX0 1 := ⟨⟨wb_509, wb_510, wb_14, wb_511⟩, by decide +kernel⟩
theorem kc_X3_keepIfBetter : z_cal yX3_keepIfBetter cX3_keepIfBetter 6 none RX3 2 := ⟨⟨wb_514, wb_s15, wb_5, wb_515⟩, by decide +kernel⟩
theorem kc_X3_costOf : z_cal yX3_costOf cX3_costOf 5 (some .int) RX3 1 := ⟨⟨wb_518, wb_s16, wb_5, wb_519⟩, by decide +kernel⟩
theorem kc_X3_isOpenedByPlan : z_cal yX3_isOpenedByPlan cX3_isOpenedByPlan 3 (some .boolean) RX3 2 := ⟨⟨wb_525, wb_s17, wb_5, wb_526⟩, by decide +kernel⟩
theorem kc_J6_bitCount_0f7a4 : z_calS yJ6_bitCount_0f7a4 cJ6_bitCount_0f7a4 1 (some .int) 1 := ⟨⟨wb_528, wb_17, wb_529⟩, by decide +kernel⟩
theorem kc_X3_isBetter : z_cal yX3_isBetter cX3_isBetter 5 (some .boolean) RX3 3 := ⟨⟨wb_535, wb_s18, wb_5, wb_536⟩, by decide +kernel⟩
theorem kc_X3_goOnFrom : z_cal yX3_goOnFrom cX3_goOnFrom 8 none RX3 3 := ⟨⟨wb_539, wb_s19, wb_5, wb_540⟩, by decide +kernel⟩
theorem kc_X3_keysLeft : z_cal yX3_keysLeft cX3_keysLeft 6 (some .int) RX3 2 := ⟨⟨wb_543, wb_s20, wb_5, wb_544⟩, by decide +kernel⟩
theorem kc_X2_isWithin : z_cal yX2_isWithin cX2_isWithin 3 (some .boolean) RX2 2 := ⟨⟨wb_547, wb_548, wb_15, wb_549⟩, by decide +kernel⟩
theorem kc_X3_hasOne : z_calS yX3_hasOne cX3_hasOne 2 (some .boolean) 2 := ⟨⟨wb_553, wb_5, wb_554⟩, by decide +kernel⟩
theorem kc_X3_doorAt : z_cal yX3_doorAt cX3_doorAt 2 (some .int) RX3 1 := ⟨⟨wb_556, wb_557, wb_5, wb_558⟩, by decide +kernel⟩
theorem kc_X5_plan : z_cal yX5_plan cX5_plan 4 (some .int) RX5 2 := ⟨⟨wb_560, wb_561, wb_1, wb_562⟩, by decide +kernel⟩
theorem kc_X5_planned : z_cal yX5_planned cX5_planned 4 (some .int) RX5 2 := ⟨⟨wb_564, wb_565, wb_1, wb_566⟩, by decide +kernel⟩
theorem kc_X5_way : z_cal yX5_way cX5_way 5 (some .int) RX5 2 := ⟨⟨wb_568, wb_569, wb_1, wb_570⟩, by decide +kernel⟩
theorem kc_X5_findArrivals : z_cal yX5_findArrivals cX5_findArrivals 6 none RX5 1 := ⟨⟨wb_573, wb_s21, wb_1, wb_574⟩, by decide +kernel⟩
theorem kc_X0_speedsUp : z_cal yX0_speedsUp cX0_speedsUp 3 (some .boolean) RX0 2 := ⟨⟨wb_577, wb_578, wb_14, wb_579⟩, by decide +kernel⟩
theorem kc_X5_reach : z_cal yX5_reach cX5_reach 3 (some .int) RX5 1 := ⟨⟨wb_583, wb_584, wb_1, wb_585⟩, by decide +kernel⟩
theorem kc_X5_door : z_cal yX5_door cX5_door 4 (some .int) RX5 2 := ⟨⟨wb_589, wb_590, wb_1, wb_591⟩, by decide +kernel⟩
theorem kc_X5_key : z_cal yX5_key cX5_key 4 (some .int) RX5 2 := ⟨⟨wb_593, wb_594, wb_1, wb_595⟩, by decide +kernel⟩
theorem kc_X2_state : z_cal yX2_state cX2_state 1 (some .int) RX2 0 := ⟨⟨wb_597, wb_598, wb_15, wb_599⟩, by decide +kernel⟩
theorem kc_X5_group : z_cal yX5_group cX5_group 4 (some .int) RX5 2 := ⟨⟨wb_601, wb_602, wb_1, wb_603⟩, by decide +kernel⟩
theorem kc_X5_color : z_cal yX5_color cX5_color 3 (some .int) RX5 2 := ⟨⟨wb_605, wb_606, wb_1, wb_607⟩, by decide +kernel⟩
theorem kc_X5_closedLocksOf : z_cal yX5_closedLocksOf cX5_closedLocksOf 5 (some .int) RX5 1 := ⟨⟨wb_610, wb_s22, wb_1, wb_611⟩, by decide +kernel⟩
theorem kc_X5_keysLeftOf : z_cal yX5_keysLeftOf cX5_keysLeftOf 5 (some .int) RX5 1 := ⟨⟨wb_614, wb_s23, wb_1, wb_615⟩, by decide +kernel⟩
theorem kc_X5_count : z_cal yX5_count cX5_count 2 (some .int) RX5 1 := ⟨⟨wb_617, wb_618, wb_1, wb_619⟩, by decide +kernel⟩
theorem kc_X5_latestEscape : z_cal yX5_latestEscape cX5_latestEscape 4 (some .int) RX5 0 := ⟨⟨wb_623, wb_s24, wb_1, wb_624⟩, by decide +kernel⟩
theorem kc_X5_groupsInDeadEnd : z_cal yX5_groupsInDeadEnd cX5_groupsInDeadEnd 4 (some .int) RX5 0 := ⟨⟨wb_627, wb_s25, wb_1, wb_628⟩, by decide +kernel⟩
theorem kc_X6_init : z_calI yX6_init cX6_init 1 0 := ⟨⟨wb_6, wb_632, wb_633, rfl⟩, by decide +kernel⟩
theorem kc_X6_addRoom : z_cal yX6_addRoom cX6_addRoom 1 (some .int) RX6 0 := ⟨⟨wb_734, wb_735, wb_6, wb_736⟩, by decide +kernel⟩
theorem kc_X6_setExit : z_cal yX6_setExit cX6_setExit 3 (some .int) RX6 1 := ⟨⟨wb_738, wb_739, wb_6, wb_740⟩, by decide +kernel⟩
theorem kc_X6_noRoom : z_cal yX6_noRoom cX6_noRoom 2 (some .boolean) RX6 1 := ⟨⟨wb_743, wb_s26, wb_6, wb_744⟩, by decide +kernel⟩
theorem kc_X6_in : z_calS yX6_in cX6_in 3 (some .boolean) 3 := ⟨⟨wb_746, wb_6, wb_747⟩, by decide +kernel⟩
theorem kc_X6_addDoor : z_cal yX6_addDoor cX6_addDoor 4 (some .int) RX6 3 := ⟨⟨wb_749, wb_750, wb_6, wb_751⟩, by decide +kernel⟩
theorem kc_X6_putDoor : z_cal yX6_putDoor cX6_putDoor 6 (some .int) RX6 5 := ⟨⟨wb_754, wb_s27, wb_6, wb_755⟩, by decide +kernel⟩
theorem kc_X6_addLock : z_cal yX6_addLock cX6_addLock 6 (some .int) RX6 5 := ⟨⟨wb_757, wb_758, wb_6, wb_759⟩, by decide +kernel⟩
theorem kc_X6_locks : z_cal yX6_locks cX6_locks 3 (some .int) RX6 0 := ⟨⟨wb_762, wb_s28, wb_6, wb_763⟩, by decide +kernel⟩
theorem kc_X6_addKey : z_cal yX6_addKey cX6_addKey 3 (some .int) RX6 2 := ⟨⟨wb_765, wb_766, wb_6, wb_767⟩, by decide +kernel⟩
theorem kc_X6_addGroup : z_cal yX6_addGroup cX6_addGroup 3 (some .int) RX6 2 := ⟨⟨wb_769, wb_770, wb_6, wb_771⟩, by decide +kernel⟩
theorem kc_X6_players : z_cal yX6_players cX6_players 3 (some .int) RX6 0 := ⟨⟨wb_774, wb_s29, wb_6, wb_775⟩, by decide +kernel⟩
theorem kc_X6_putGroup : z_cal yX6_putGroup cX6_putGroup 4 (some .int) RX6 3 := ⟨⟨wb_778, wb_s30, wb_6, wb_779⟩, by decide +kernel⟩
theorem kc_X6_setHints : z_cal yX6_setHints cX6_setHints 4 (some .int) RX6 2 := ⟨⟨wb_781, wb_782, wb_6, wb_783⟩, by decide +kernel⟩
theorem kc_X6_walk : z_cal yX6_walk cX6_walk 4 (some .int) RX6 2 := ⟨⟨wb_785, wb_786, wb_6, wb_787⟩, by decide +kernel⟩
theorem kc_X6_noGroup : z_cal yX6_noGroup cX6_noGroup 2 (some .boolean) RX6 1 := ⟨⟨wb_790, wb_s31, wb_6, wb_791⟩, by decide +kernel⟩
theorem kc_X6_noDoor : z_cal yX6_noDoor cX6_noDoor 2 (some .boolean) RX6 1 := ⟨⟨wb_794, wb_s32, wb_6, wb_795⟩, by decide +kernel⟩
theorem kc_X6_plays : z_cal yX6_plays cX6_plays 2 (some .boolean) RX6 1 := ⟨⟨wb_798, wb_s33, wb_6, wb_799⟩, by decide +kernel⟩
theorem kc_X6_isAt : z_cal yX6_isAt cX6_isAt 3 (some .boolean) RX6 2 := ⟨⟨wb_802, wb_s34, wb_6, wb_803⟩, by decide +kernel⟩
theorem kc_X6_unlock : z_cal yX6_unlock cX6_unlock 4 (some .int) RX6 2 := ⟨⟨wb_806, wb_807, wb_6, wb_808⟩, by decide +kernel⟩
theorem kc_X6_keyFor : z_cal yX6_keyFor cX6_keyFor 4 (some .int) RX6 2 := ⟨⟨wb_811, wb_s35, wb_6, wb_812⟩, by decide +kernel⟩
theorem kc_X6_holds : z_cal yX6_holds cX6_holds 3 (some .boolean) RX6 2 := ⟨⟨wb_815, wb_s36, wb_6, wb_816⟩, by decide +kernel⟩
theorem kc_X6_take : z_cal yX6_take cX6_take 3 (some .int) RX6 2 := ⟨⟨wb_818, wb_819, wb_6, wb_820⟩, by decide +kernel⟩
theorem kc_X6_noKey : z_cal yX6_noKey cX6_noKey 2 (some .boolean) RX6 1 := ⟨⟨wb_823, wb_s37, wb_6, wb_824⟩, by decide +kernel⟩
theorem kc_X6_held : z_cal yX6_held cX6_held 4 (some .int) RX6 1 := ⟨⟨wb_827, wb_s38, wb_6, wb_828⟩, by decide +kernel⟩
theorem kc_X6_drop : z_cal yX6_drop cX6_drop 3 (some .int) RX6 2 := ⟨⟨wb_830, wb_831, wb_6, wb_832⟩, by decide +kernel⟩
theorem kc_X6_idle : z_cal yX6_idle cX6_idle 3 (some .int) RX6 2 := ⟨⟨wb_834, wb_835, wb_6, wb_836⟩, by decide +kernel⟩
theorem kc_X6_part : z_cal yX6_part cX6_part 3 (some .int) RX6 2 := ⟨⟨wb_838, wb_839, wb_6, wb_840⟩, by decide +kernel⟩
theorem kc_X6_join : z_cal yX6_join cX6_join 4 (some .int) RX6 2 := ⟨⟨wb_842, wb_843, wb_6, wb_844⟩, by decide +kernel⟩
theorem kc_X6_leave : z_cal yX6_leave cX6_leave 2 (some .int) RX6 1 := ⟨⟨wb_846, wb_847, wb_6, wb_848⟩, by decide +kernel⟩
theorem kc_X6_hint : z_cal yX6_hint cX6_hint 3 (some .int) RX6 1 := ⟨⟨wb_850, wb_851, wb_6, wb_852⟩, by decide +kernel⟩
theorem kc_X6_findPlan : z_cal yX6_findPlan cX6_findPlan 6 none RX6 1 := ⟨⟨wb_855, wb_s39, wb_6, wb_856⟩, by decide +kernel⟩
theorem kc_X6_layLocks : z_cal yX6_layLocks cX6_layLocks 2 none RX6 0 := ⟨⟨wb_859, wb_s40, wb_6, wb_860⟩, by decide +kernel⟩
theorem kc_X6_has : z_calS yX6_has cX6_has 2 (some .boolean) 2 := ⟨⟨wb_862, wb_6, wb_863⟩, by decide +kernel⟩
theorem kc_X6_reachable : z_cal yX6_reachable cX6_reachable 7 (some .int) RX6 2 := ⟨⟨wb_866, wb_s41, wb_6, wb_867⟩, by decide +kernel⟩
theorem kc_X6_canAdd : z_cal yX6_canAdd cX6_canAdd 9 (some .boolean) RX6 3 := ⟨⟨wb_870, wb_s42, wb_6, wb_871⟩, by decide +kernel⟩
theorem kc_X6_costOf : z_cal yX6_costOf cX6_costOf 4 (some .int) RX6 1 := ⟨⟨wb_874, wb_s43, wb_6, wb_875⟩, by decide +kernel⟩
theorem kc_X6_sizeOfSet : z_cal yX6_sizeOfSet cX6_sizeOfSet 4 (some .int) RX6 1 := ⟨⟨wb_878, wb_s44, wb_6, wb_879⟩, by decide +kernel⟩
theorem kc_X6_escapes : z_cal yX6_escapes cX6_escapes 2 (some .boolean) RX6 1 := ⟨⟨wb_882, wb_s45, wb_6, wb_883⟩, by decide +kernel⟩
theorem kc_X6_findDoors : z_cal yX6_findDoors cX6_findDoors 6 none RX6 2 := ⟨⟨wb_886, wb_s46, wb_6, wb_887⟩, by decide +kernel⟩
theorem kc_X6_plan : z_cal yX6_plan cX6_plan 3 (some .int) RX6 2 := ⟨⟨wb_889, wb_890, wb_6, wb_891⟩, by decide +kernel⟩
theorem kc_X6_planned : z_cal yX6_planned cX6_planned 3 (some .int) RX6 2 := ⟨⟨wb_893, wb_894, wb_6, wb_895⟩, by decide +kernel⟩
theorem kc_X6_way : z_cal yX6_way cX6_way 5 (some .int) RX6 2 := ⟨⟨wb_897, wb_898, wb_6, wb_899⟩, by decide +kernel⟩
theorem kc_X6_passes : z_cal yX6_passes cX6_passes 5 (some .boolean) RX6 3 := ⟨⟨wb_903, wb_s47, wb_6, wb_904⟩, by decide +kernel⟩
theorem kc_X6_reach : z_cal yX6_reach cX6_reach 2 (some .int) RX6 1 := ⟨⟨wb_906, wb_907, wb_6, wb_908⟩, by decide +kernel⟩
theorem kc_X6_door : z_cal yX6_door cX6_door 3 (some .int) RX6 2 := ⟨⟨wb_910, wb_911, wb_6, wb_912⟩, by decide +kernel⟩
theorem kc_X6_key : z_cal yX6_key cX6_key 3 (some .int) RX6 2 := ⟨⟨wb_914, wb_915, wb_6, wb_916⟩, by decide +kernel⟩
theorem kc_X6_group : z_cal yX6_group cX6_group 3 (some .int) RX6 2 := ⟨⟨wb_918, wb_919, wb_6, wb_920⟩, by decide +kernel⟩
theorem kc_X6_color : z_cal yX6_color cX6_color 5 (some .int) RX6 2 := ⟨⟨wb_922, wb_923, wb_6, wb_924⟩, by decide +kernel⟩
theorem kc_X6_count : z_cal yX6_count cX6_count 2 (some .int) RX6 1 := ⟨⟨wb_926, wb_927, wb_6, wb_928⟩, by decide +kernel⟩
theorem kc_X6_unlocked : z_cal yX6_unlocked cX6_unlocked 3 (some .int) RX6 0 := ⟨⟨wb_931, wb_s48, wb_6, wb_932⟩, by decide +kernel⟩
theorem kc_X6_sizes : z_cal yX6_sizes cX6_sizes 4 (some .int) RX6 1 := ⟨⟨wb_935, wb_s49, wb_6, wb_936⟩, by decide +kernel⟩
theorem kc_X6_latest : z_cal yX6_latest cX6_latest 3 (some .int) RX6 0 := ⟨⟨wb_939, wb_s50, wb_6, wb_940⟩, by decide +kernel⟩
theorem kc_X6_hints : z_cal yX6_hints cX6_hints 3 (some .int) RX6 0 := ⟨⟨wb_943, wb_s51, wb_6, wb_944⟩, by decide +kernel⟩
theorem kc_X6_deadEnds : z_cal yX6_deadEnds cX6_deadEnds 3 (some .int) RX6 0 := ⟨⟨wb_947, wb_s52, wb_6, wb_948⟩, by decide +kernel⟩
end
section
/-! The reference's state: numbers by the slots of its fields, rows of numbers by the slots of its arrays. -/
abbrev m_S : Type := (Nat → Int32) × (Nat → Nat → Int32)
def m_sS (M : m_S) (k : Nat) (v : Int32) : m_S := (upd M.1 k v, M.2)
def m_sA (M : m_S) (k i : Nat) (v : Int32) : m_S := (M.1, fun j => if j = k then upd (M.2 k) i v else M.2 j)
theorem m_sA1 (M : m_S) (k i : Nat) (v : Int32) : (m_sA M k i v).1 = M.1 := rfl
theorem m_sS2 (M : m_S) (k : Nat) (v : Int32) : (m_sS M k v).2 = M.2 := rfl
theorem m_sS1 (M : m_S) (k j : Nat) (v : Int32) : (m_sS M k v).1 j = if j = k then v else M.1 j := rfl
theorem m_sA2 (M : m_S) (k i j q : Nat) (v : Int32) : (m_sA M k i v).2 j q = if j = k then (if q = i then v else M.2 k q) else M.2 j q := by
  show (if j = k then upd (M.2 k) i v else M.2 j) q = _
  by_cases h : j = k
  · simp [h, upd]
  · simp [h]
theorem m_sA2r (M : m_S) (k i j : Nat) (v : Int32) : (m_sA M k i v).2 j = if j = k then upd (M.2 k) i v else M.2 j := rfl
def m_isS (k : Nat) : Bool := [0, 1, 2, 9, 14, 20, 21, 22, 28, 29].contains k
def m_isI (k : Nat) : Bool := [3, 4, 5, 6, 7, 8, 10, 11, 12, 13, 15, 16, 17, 18, 19, 23, 24, 25, 30, 31].contains k
def m_isZ (k : Nat) : Bool := [26, 27].contains k
def m_is (k : Nat) : Bool := Nat.beq k 0 || m_isI k || m_isZ k
def m_len (k : Nat) : Nat := if k ≤ 13 then 16 else if k ≤ 19 then 6 else if k = 23 then 10 else if k = 30 then 10 else if k = 31 then 12 else 1024
def m_fs (M : m_S) (ad : Nat → Nat) : List Value := [.int (M.1 0), .int (M.1 1), .int (M.1 2), .ref (ad 3), .ref (ad 4), .ref (ad 5), .ref (ad 6), .ref (ad 7), .ref (ad 8), .int (M.1 9), .ref (ad 10), .ref (ad 11), .ref (ad 12), .ref (ad 13), .int (M.1 14), .ref (ad 15), .ref (ad 16), .ref (ad 17), .ref (ad 18), .ref (ad 19), .int (M.1 20), .int (M.1 21), .int (M.1 22), .ref (ad 23), .ref (ad 24), .ref (ad 25), .ref (ad 26), .ref (ad 27), .int (M.1 28), .int (M.1 29), .ref (ad 30), .ref (ad 31)]
/-- the reference's cells hold the state M: its object at ad 0, its arrays at ad k -/
def m_R (G : z_G) (ad : Nat → Nat) (M : m_S) (H : Heap) : Prop :=
  va_at G.1 vwCl (ad 0, .inr (7, m_fs M ad)) H ∧ (∀ k, m_isI k = true → va_at G.1 vwCl (ad k, .inl (G.2 0, m_len k, .inl (M.2 k))) H) ∧ (∀ k, m_isZ k = true → va_at G.1 vwCl (ad k, .inl (G.2 2, m_len k, .inl (M.2 k))) H) ∧ ∀ j k, m_is j = true → m_is k = true → ad j = ad k → j = k
def m_A (ad : Nat → Nat) : Nat → Prop := fun q => ∃ k, m_is k = true ∧ q = ad k
theorem m_is_I {k : Nat} (h : m_isI k = true) : m_is k = true := by simp [m_is, h]
theorem m_is_Z {k : Nat} (h : m_isZ k = true) : m_is k = true := by simp [m_is, h]
theorem m_fs_set {M : m_S} {ad : Nat → Nat} {k : Nat} {v : Int32} (h : m_isS k = true) : (m_fs M ad).set k (.int v) = m_fs (m_sS M k v) ad := by
  simp [m_isS] at h
  rcases h with rfl | rfl | rfl | rfl | rfl | rfl | rfl | rfl | rfl | rfl <;> rfl
theorem m_R.sS {G : z_G} {ad : Nat → Nat} {M : m_S} {H H' : Heap} {k : Nat} {v : Int32} (h : m_R G ad M H) (hU : z_U G (ad 0) (.inr (7, (m_fs M ad).set k (.int v))) H H') (hk : m_isS k = true) : m_R G ad (m_sS M k v) H' := by
  refine ⟨?_, fun j hj => ?_, fun j hj => ?_, h.2.2.2⟩
  · rw [← m_fs_set hk]; exact hU.1
  · exact z_at_keep hU (h.2.1 j hj) (fun e => absurd (h.2.2.2 j 0 (m_is_I hj) rfl e) (by intro e2; subst e2; exact absurd hj (by decide)))
  · exact z_at_keep hU (h.2.2.1 j hj) (fun e => absurd (h.2.2.2 j 0 (m_is_Z hj) rfl e) (by intro e2; subst e2; exact absurd hj (by decide)))
theorem m_R.sI {G : z_G} {ad : Nat → Nat} {M : m_S} {H H' : Heap} {k i : Nat} {v : Int32} (h : m_R G ad M H) (hU : z_U G (ad k) (.inl (G.2 0, m_len k, .inl (upd (M.2 k) i v))) H H') (hk : m_isI k = true) : m_R G ad (m_sA M k i v) H' := by
  refine ⟨?_, fun j hj => ?_, fun j hj => ?_, h.2.2.2⟩
  · exact z_at_keep hU h.1 (fun e => absurd (h.2.2.2 0 k rfl (m_is_I hk) e) (by intro e2; subst e2; exact absurd hk (by decide)))
  · by_cases e : j = k
    · subst e
      have e2 : (m_sA M j i v).2 j = upd (M.2 j) i v := if_pos rfl
      rw [e2]; exact hU.1
    · have e2 : (m_sA M k i v).2 j = M.2 j := if_neg e
      rw [e2]; exact z_at_keep hU (h.2.1 j hj) (fun q => e (h.2.2.2 j k (m_is_I hj) (m_is_I hk) q))
  · have e : j ≠ k := by
      intro e; subst e
      simp [m_isI] at hk; simp [m_isZ] at hj; omega
    have e2 : (m_sA M k i v).2 j = M.2 j := if_neg e
    rw [e2]; exact z_at_keep hU (h.2.2.1 j hj) (fun q => e (h.2.2.2 j k (m_is_Z hj) (m_is_I hk) q))
theorem m_R.sZ {G : z_G} {ad : Nat → Nat} {M : m_S} {H H' : Heap} {k i : Nat} {v : Int32} (h : m_R G ad M H) (hU : z_U G (ad k) (.inl (G.2 2, m_len k, .inl (upd (M.2 k) i v))) H H') (hk : m_isZ k = true) : m_R G ad (m_sA M k i v) H' := by
  refine ⟨?_, fun j hj => ?_, fun j hj => ?_, h.2.2.2⟩
  · exact z_at_keep hU h.1 (fun e => absurd (h.2.2.2 0 k rfl (m_is_Z hk) e) (by intro e2; subst e2; exact absurd hk (by decide)))
  · have e : j ≠ k := by
      intro e; subst e
      simp [m_isI] at hj; simp [m_isZ] at hk; omega
    have e2 : (m_sA M k i v).2 j = M.2 j := if_neg e
    rw [e2]; exact z_at_keep hU (h.2.1 j hj) (fun q => e (h.2.2.2 j k (m_is_I hj) (m_is_Z hk) q))
  · by_cases e : j = k
    · subst e
      have e2 : (m_sA M j i v).2 j = upd (M.2 j) i v := if_pos rfl
      rw [e2]; exact hU.1
    · have e2 : (m_sA M k i v).2 j = M.2 j := if_neg e
      rw [e2]; exact z_at_keep hU (h.2.2.1 j hj) (fun q => e (h.2.2.2 j k (m_is_Z hj) (m_is_Z hk) q))
/-! what the reference's small methods answer -/
def m_in (v lo hi : Int32) : Bool := !(decide (v < lo)) && !(decide (hi < v))
def m_no (r n : Int32) : Bool := !(m_in r 0 (n - 1))
end
section
/-! what the reference answers, and the state behind it -/
def m_pl (M : m_S) (g : Int32) : Bool := decide (M.2 19 g.toNatClampNeg = 0)
def m_at (M : m_S) (d r : Int32) : Bool := decide (M.2 3 d.toNatClampNeg = r) || decide (M.2 4 d.toNatClampNeg = r)
def m_ho (M : m_S) (g k : Int32) : Bool := decide (M.2 11 k.toNatClampNeg = 1) && decide (M.2 12 k.toNatClampNeg = g)
def m_sum (f : Nat → Int32) : Nat → Int32
  | 0 => 0
  | n + 1 => m_sum f n + f n
def m_c (b : Bool) : Int32 := bif b then 1 else 0
def m_cnt (p : Nat → Bool) (n : Nat) : Int32 := m_sum (fun i => m_c (p i)) n
def m_ff (p : Nat → Bool) : Nat → Nat → Int32
  | 0, _ => -6
  | f + 1, i => bif p i then nI i else m_ff p f (i + 1)
/-- the counts: rooms, doors, keys, groups -/
def m_N (M : m_S) (nR nD nK nG : Nat) : Prop := (M.1 0 = nI nR ∧ nR ≤ 12) ∧ (M.1 2 = nI nD ∧ nD ≤ 16) ∧ (M.1 9 = nI nK ∧ nK ≤ 16) ∧ (M.1 14 = nI nG ∧ nG ≤ 6)
theorem z_sub1 {n : Nat} (hn : n < 2 ^ 31) : (nI n - 1).toInt = (n : Int) - 1 := by
  have h1 : (nI n).toInt = (n : Int) := nI_toInt hn
  have h2 : (1 : Int32).toInt = 1 := rfl
  rw [Int32.toInt_sub, h1, h2, Int.bmod_eq_of_le (by omega) (by omega)]
theorem m_no_iff {r : Int32} {n : Nat} (hn : n < 2 ^ 31) : m_no r (nI n) = false ↔ ∃ j, j < n ∧ r = nI j := by
  have e0 := z_sub1 hn
  constructor
  · intro h
    have h1 : ¬ r < 0 ∧ ¬ nI n - 1 < r := by
      unfold m_no m_in at h
      by_cases c1 : r < 0 <;> by_cases c2 : nI n - 1 < r <;> simp [c1, c2] at h ⊢
    obtain ⟨j, hj, rfl⟩ := nI_of h1.1
    refine ⟨j, ?_, rfl⟩
    have h2 := h1.2
    rw [Int32.lt_iff_toInt_lt, e0, nI_toInt hj] at h2
    omega
  · rintro ⟨j, hj, rfl⟩
    have h1 : ¬ nI j < 0 := nI_pos (by omega)
    have h2 : ¬ nI n - 1 < nI j := by
      rw [Int32.lt_iff_toInt_lt, e0, nI_toInt (by omega)]
      omega
    simp [m_no, m_in, h1, h2]
theorem m_noX {M : m_S} {k n K : Nat} {r : Int32} (hn : M.1 k = nI n) (hK : n ≤ K) (hK2 : K < 2 ^ 31) (h : m_no r (M.1 k) = false) : vp_in r K := by
  rw [hn] at h
  obtain ⟨j, hj, rfl⟩ := (m_no_iff (by omega)).mp h
  exact vp_in_nI (by omega) hK2
theorem m_noG {M : m_S} {nR nD nK nG : Nat} (hN : m_N M nR nD nK nG) {r : Int32} (h : m_no r (M.1 14) = false) : vp_in r 6 := m_noX hN.2.2.2.1 hN.2.2.2.2 (by decide) h
theorem m_noD {M : m_S} {nR nD nK nG : Nat} (hN : m_N M nR nD nK nG) {r : Int32} (h : m_no r (M.1 2) = false) : vp_in r 16 := m_noX hN.2.1.1 hN.2.1.2 (by decide) h
theorem m_noK {M : m_S} {nR nD nK nG : Nat} (hN : m_N M nR nD nK nG) {r : Int32} (h : m_no r (M.1 9) = false) : vp_in r 16 := m_noX hN.2.2.1.1 hN.2.2.1.2 (by decide) h
theorem m_noR {M : m_S} {nR nD nK nG : Nat} (hN : m_N M nR nD nK nG) {r : Int32} (h : m_no r (M.1 0) = false) : vp_in r 12 := m_noX hN.1.1 hN.1.2 (by decide) h
theorem m_roomX {M : m_S} {k n K : Nat} (hn : M.1 k = nI n) (hK : n ≤ K) (hK2 : K < 2 ^ 31) (h : ¬ M.1 k = nI K) : vp_in (M.1 k) K := by
  rw [hn] at h ⊢
  exact vp_in_nI (Nat.lt_of_le_of_ne hK (fun e => h (by rw [e]))) hK2
def F_addRoom (M : m_S) : Int32 × m_S := if M.1 0 = 12 then (-3, M) else (M.1 0 + 1 - 1, m_sS M 0 (M.1 0 + 1))
def F_setExit (M : m_S) (r : Int32) : Int32 × m_S := if m_no r (M.1 0) then (-1, M) else (M.1 1, m_sS M 1 r)
def F_putDoor (M : m_S) (a b w c u : Int32) : Int32 × m_S :=
  (M.1 2 + 1 - 1, m_sS (m_sA (m_sA (m_sA (m_sA (m_sA (m_sA M 3 (M.1 2).toNatClampNeg (if a < b then a else b)) 4 (M.1 2).toNatClampNeg (if a < b then b else a)) 5 (M.1 2).toNatClampNeg w) 6 (M.1 2).toNatClampNeg c) 7 (M.1 2).toNatClampNeg u) 8 (M.1 2).toNatClampNeg (if c < 0 then 0 else -6)) 2 (M.1 2 + 1))
def m_locks (M : m_S) (nD : Nat) : Int32 := m_cnt (fun d => !(decide (M.2 6 d < 0))) nD
def F_addDoor (M : m_S) (a b w : Int32) : Int32 × m_S :=
  if m_no a (M.1 0) || m_no b (M.1 0) then (-1, M) else if decide (a = b) || !(m_in w 1 30) then (-2, M) else if M.1 2 = 16 then (-3, M) else F_putDoor M a b w (-6) 0
def F_addLock (M : m_S) (nD : Nat) (a b w c u : Int32) : Int32 × m_S :=
  if m_no a (M.1 0) || m_no b (M.1 0) then (-1, M) else if decide (a = b) || !(m_in w 1 30) || !(m_in c 0 5) || !(m_in u 1 60) then (-2, M) else if decide (M.1 2 = 16) || decide (m_locks M nD = 10) then (-3, M) else F_putDoor M a b w c u
def F_addKey (M : m_S) (r c : Int32) : Int32 × m_S :=
  if m_no r (M.1 0) then (-1, M) else if !(m_in c 0 5) then (-2, M) else if M.1 9 = 16 then (-3, M) else
  (M.1 9 + 1 - 1, m_sS (m_sA (m_sA (m_sA (m_sA M 10 (M.1 9).toNatClampNeg c) 11 (M.1 9).toNatClampNeg 0) 12 (M.1 9).toNatClampNeg r) 13 (M.1 9).toNatClampNeg 0) 9 (M.1 9 + 1))
def F_putGroup (M : m_S) (z r t : Int32) : Int32 × m_S :=
  (M.1 14 + 1 - 1, m_sS (m_sA (m_sA (m_sA (m_sA (m_sA M 15 (M.1 14).toNatClampNeg z) 16 (M.1 14).toNatClampNeg r) 17 (M.1 14).toNatClampNeg t) 18 (M.1 14).toNatClampNeg 0) 19 (M.1 14).toNatClampNeg 0) 14 (M.1 14 + 1))
def m_players (M : m_S) (nG : Nat) : Int32 := m_sum (M.2 15) nG
def F_addGroup (M : m_S) (nG : Nat) (z r : Int32) : Int32 × m_S :=
  if m_no r (M.1 0) then (-1, M) else if !(m_in z 1 24) then (-2, M) else if decide (M.1 14 = 6) || decide (24 < m_players M nG + z) then (-3, M) else F_putGroup M z r 0
def F_setHints (M : m_S) (b t : Int32) : Int32 × m_S :=
  if !(m_in b 1 30) || !(m_in t 0 30) then (-2, M) else (M.1 20, m_sS (m_sS M 20 b) 21 t)
def m_later (x y : Int32) : Int32 := if x < y then y else x
def F_walk (M : m_S) (g d : Int32) : Int32 × m_S :=
  if m_no g (M.1 14) || m_no d (M.1 2) then (-1, M) else
  if !(m_pl M g) || !(m_at M d (M.2 16 g.toNatClampNeg)) || decide (M.2 8 d.toNatClampNeg < 0) then (-4, M) else
  if 100000 < m_later (M.2 17 g.toNatClampNeg) (M.2 8 d.toNatClampNeg) + M.2 5 d.toNatClampNeg then (-5, M) else
  (m_later (M.2 17 g.toNatClampNeg) (M.2 8 d.toNatClampNeg) + M.2 5 d.toNatClampNeg, m_sA (m_sA M 17 g.toNatClampNeg (m_later (M.2 17 g.toNatClampNeg) (M.2 8 d.toNatClampNeg) + M.2 5 d.toNatClampNeg)) 16 g.toNatClampNeg (M.2 3 d.toNatClampNeg + M.2 4 d.toNatClampNeg - M.2 16 g.toNatClampNeg))
def m_kf (M : m_S) (nK : Nat) (g c : Int32) : Int32 := m_ff (fun k => m_ho M g (nI k) && decide (M.2 10 k = c)) nK 0
def F_unlock (M : m_S) (nK : Nat) (g d : Int32) : Int32 × m_S :=
  if m_no g (M.1 14) || m_no d (M.1 2) then (-1, M) else
  if !(m_pl M g) || !(m_at M d (M.2 16 g.toNatClampNeg)) || !(decide (M.2 8 d.toNatClampNeg < 0)) then (-4, M) else
  if m_kf M nK g (M.2 6 d.toNatClampNeg) < 0 then (-4, M) else
  if 100000 < M.2 17 g.toNatClampNeg + M.2 7 d.toNatClampNeg then (-5, M) else
  (m_kf M nK g (M.2 6 d.toNatClampNeg), m_sA (m_sA (m_sA (m_sA M 17 g.toNatClampNeg (M.2 17 g.toNatClampNeg + M.2 7 d.toNatClampNeg)) 8 d.toNatClampNeg (M.2 17 g.toNatClampNeg + M.2 7 d.toNatClampNeg)) 11 (m_kf M nK g (M.2 6 d.toNatClampNeg)).toNatClampNeg 2) 12 (m_kf M nK g (M.2 6 d.toNatClampNeg)).toNatClampNeg d)
def m_held (M : m_S) (nK : Nat) (g : Int32) : Int32 := m_cnt (fun k => m_ho M g (nI k)) nK
def F_take (M : m_S) (nK : Nat) (g k : Int32) : Int32 × m_S :=
  if m_no g (M.1 14) || m_no k (M.1 9) then (-1, M) else
  if !(m_pl M g) || !(decide (M.2 11 k.toNatClampNeg = 0)) || !(decide (M.2 12 k.toNatClampNeg = M.2 16 g.toNatClampNeg)) then (-4, M) else
  let M2 := m_sA (m_sA (m_sA M 17 g.toNatClampNeg (m_later (M.2 17 g.toNatClampNeg) (M.2 13 k.toNatClampNeg))) 11 k.toNatClampNeg 1) 12 k.toNatClampNeg g
  (m_held M2 nK g, M2)
def F_drop (M : m_S) (nK : Nat) (g k : Int32) : Int32 × m_S :=
  if m_no g (M.1 14) || m_no k (M.1 9) then (-1, M) else
  if !(m_pl M g) || !(m_ho M g k) then (-4, M) else
  let M2 := m_sA (m_sA (m_sA M 11 k.toNatClampNeg 0) 12 k.toNatClampNeg (M.2 16 g.toNatClampNeg)) 13 k.toNatClampNeg (M.2 17 g.toNatClampNeg)
  (m_held M2 nK g, M2)
def F_idle (M : m_S) (g t : Int32) : Int32 × m_S :=
  if m_no g (M.1 14) then (-1, M) else if !(m_in t 1 1000) then (-2, M) else if !(m_pl M g) then (-4, M) else
  if 100000 < M.2 17 g.toNatClampNeg + t then (-5, M) else (M.2 17 g.toNatClampNeg + t, m_sA M 17 g.toNatClampNeg (M.2 17 g.toNatClampNeg + t))
def F_part (M : m_S) (g z : Int32) : Int32 × m_S :=
  if m_no g (M.1 14) then (-1, M) else if !(m_in z 1 23) then (-2, M) else if !(m_pl M g) || decide (M.2 15 g.toNatClampNeg ≤ z) then (-4, M) else
  if M.1 14 = 6 then (-3, M) else
  F_putGroup (m_sA M 15 g.toNatClampNeg (M.2 15 g.toNatClampNeg - z)) z (M.2 16 g.toNatClampNeg) (M.2 17 g.toNatClampNeg)
/-- the keys of g go over to o, the first n of them -/
def m_over (M : m_S) (g o : Int32) : Nat → m_S
  | 0 => M
  | n + 1 => m_sA (m_over M g o n) 12 n (if m_ho (m_over M g o n) g (nI n) then o else (m_over M g o n).2 12 n)
def m_join (M : m_S) (g o : Int32) : m_S :=
  let M1 := m_sA M 15 o.toNatClampNeg (M.2 15 o.toNatClampNeg + M.2 15 g.toNatClampNeg)
  let M2 := m_sA M1 15 g.toNatClampNeg 0
  let M3 := m_sA M2 19 g.toNatClampNeg 2
  let M4 := m_sA M3 17 o.toNatClampNeg (m_later (M.2 17 o.toNatClampNeg) (M.2 17 g.toNatClampNeg))
  m_sA M4 18 o.toNatClampNeg (M.2 18 o.toNatClampNeg + M.2 18 g.toNatClampNeg)
def F_join (M : m_S) (nK : Nat) (g o : Int32) : Int32 × m_S :=
  if m_no g (M.1 14) || m_no o (M.1 14) then (-1, M) else if g = o then (-2, M) else
  if !(m_pl M g) || !(m_pl M o) || !(decide (M.2 16 g.toNatClampNeg = M.2 16 o.toNatClampNeg)) then (-4, M) else
  ((m_over (m_join M g o) g o nK).2 15 o.toNatClampNeg, m_over (m_join M g o) g o nK)
def F_leave (M : m_S) (g : Int32) : Int32 × m_S :=
  if m_no g (M.1 14) then (-1, M) else if !(m_pl M g) || !(decide (M.2 16 g.toNatClampNeg = M.1 1)) then (-4, M) else
  (M.2 17 g.toNatClampNeg, m_sA M 19 g.toNatClampNeg 1)
def F_door (M : m_S) (d w : Int32) : Int32 :=
  if m_no d (M.1 2) then -1 else if w = 0 then M.2 3 d.toNatClampNeg else if w = 1 then M.2 4 d.toNatClampNeg else if w = 2 then M.2 5 d.toNatClampNeg else if w = 3 then M.2 6 d.toNatClampNeg else if w = 4 then M.2 7 d.toNatClampNeg else if w = 5 then M.2 8 d.toNatClampNeg else -2
def F_key (M : m_S) (k w : Int32) : Int32 :=
  if m_no k (M.1 9) then -1 else if w = 0 then M.2 10 k.toNatClampNeg else if w = 1 then M.2 11 k.toNatClampNeg else if w = 2 then (if M.2 11 k.toNatClampNeg = 0 then M.2 12 k.toNatClampNeg else -6) else if w = 3 then (if M.2 11 k.toNatClampNeg = 1 then M.2 12 k.toNatClampNeg else -6) else if w = 4 then (if M.2 11 k.toNatClampNeg = 2 then M.2 12 k.toNatClampNeg else -6) else -2
def F_group (M : m_S) (nK : Nat) (g w : Int32) : Int32 :=
  if m_no g (M.1 14) then -1 else if w = 0 then M.2 15 g.toNatClampNeg else if w = 1 then M.2 16 g.toNatClampNeg else if w = 2 then M.2 17 g.toNatClampNeg else if w = 3 then m_held M nK g else if w = 4 then M.2 18 g.toNatClampNeg else if w = 5 then M.2 19 g.toNatClampNeg else -2
def F_color (M : m_S) (nD nK : Nat) (c w : Int32) : Int32 :=
  if !(m_in c 0 5) || !(m_in w 0 1) then -2 else if w = 0 then m_cnt (fun d => decide (M.2 6 d = c) && decide (M.2 8 d < 0)) nD else m_cnt (fun k => decide (M.2 10 k = c) && !(decide (M.2 11 k = 2))) nK
def m_sizes (M : m_S) (nG : Nat) (z : Int32) : Int32 := m_sum (fun g => if M.2 19 g = z then M.2 15 g else 0) nG
def m_unl (M : m_S) (nD : Nat) : Int32 := m_cnt (fun d => !(decide (M.2 6 d < 0)) && !(decide (M.2 8 d < 0))) nD
def m_late (M : m_S) : Nat → Int32
  | 0 => -6
  | n + 1 => if M.2 19 n = 1 ∧ m_late M n < M.2 17 n then M.2 17 n else m_late M n
def m_hints (M : m_S) (nG : Nat) : Int32 := m_sum (fun g => if M.2 19 g = 2 then 0 else M.2 18 g) nG
end
