-- ===== PART A: goes FIRST, ahead of the names: the tables' words, and 'selects' of the private methods out of them =====
/-- a private method of a class that the tables say can be made, by its rows of tables_1 -/
def lw_okq (q : MethodName × Nat) : Prop := (q.1.cls ≠ "java/lang/invoke/MethodHandle" ∧ q.1.cls ≠ "java/lang/invoke/VarHandle") ∧ Cond.instantiable q.1.cls q.2 ∈ tables_1 ∧ Cond.privateMethod q.1 ∈ tables_1 ∧ Cond.instanceMethod q.1 ∈ tables_1
theorem lw_p0 : lw_okq (⟨"SlipwayPlan", "refresh", "()V"⟩, 8) := ⟨⟨by decide +kernel, by decide +kernel⟩, List.mem_of_getElem? (i := 33) (by decide +kernel), List.mem_of_getElem? (i := 375) (by decide +kernel), List.mem_of_getElem? (i := 376) (by decide +kernel)⟩
theorem lw_p1 : lw_okq (⟨"SlipwayPlan$Network", "latestDay", "(I)I"⟩, 5) := ⟨⟨by decide +kernel, by decide +kernel⟩, List.mem_of_getElem? (i := 210) (by decide +kernel), List.mem_of_getElem? (i := 433) (by decide +kernel), List.mem_of_getElem? (i := 434) (by decide +kernel)⟩
theorem lw_p2 : lw_okq (⟨"SlipwayPlan$Network", "roomUpTo", "(II)I"⟩, 5) := ⟨⟨by decide +kernel, by decide +kernel⟩, List.mem_of_getElem? (i := 210) (by decide +kernel), List.mem_of_getElem? (i := 445) (by decide +kernel), List.mem_of_getElem? (i := 446) (by decide +kernel)⟩
theorem lw_p3 : lw_okq (⟨"java/lang/Throwable", "fillInStackTrace", "(I)Ljava/lang/Throwable;"⟩, 6) := ⟨⟨by decide +kernel, by decide +kernel⟩, List.mem_of_getElem? (i := 502) (by decide +kernel), List.mem_of_getElem? (i := 500) (by decide +kernel), List.mem_of_getElem? (i := 501) (by decide +kernel)⟩
theorem lw_p4 : lw_okq (⟨"SlipwayPlan$Levelling", "clear", "()V"⟩, 7) := ⟨⟨by decide +kernel, by decide +kernel⟩, List.mem_of_getElem? (i := 258) (by decide +kernel), List.mem_of_getElem? (i := 805) (by decide +kernel), List.mem_of_getElem? (i := 806) (by decide +kernel)⟩
theorem lw_p5 : lw_okq (⟨"SlipwayPlan$Levelling", "putIn", "(III)V"⟩, 7) := ⟨⟨by decide +kernel, by decide +kernel⟩, List.mem_of_getElem? (i := 258) (by decide +kernel), List.mem_of_getElem? (i := 811) (by decide +kernel), List.mem_of_getElem? (i := 812) (by decide +kernel)⟩
theorem lw_p6 : lw_okq (⟨"SlipwayPlan$Levelling", "choose", "(LSlipwayPlan$Network;I)I"⟩, 7) := ⟨⟨by decide +kernel, by decide +kernel⟩, List.mem_of_getElem? (i := 258) (by decide +kernel), List.mem_of_getElem? (i := 818) (by decide +kernel), List.mem_of_getElem? (i := 819) (by decide +kernel)⟩
theorem lw_p7 : lw_okq (⟨"SlipwayPlan$Levelling", "isTooLarge", "(I)Z"⟩, 7) := ⟨⟨by decide +kernel, by decide +kernel⟩, List.mem_of_getElem? (i := 258) (by decide +kernel), List.mem_of_getElem? (i := 822) (by decide +kernel), List.mem_of_getElem? (i := 823) (by decide +kernel)⟩
theorem lw_p8 : lw_okq (⟨"SlipwayPlan$Levelling", "keyOf", "(ILSlipwayPlan$Network;I)I"⟩, 7) := ⟨⟨by decide +kernel, by decide +kernel⟩, List.mem_of_getElem? (i := 258) (by decide +kernel), List.mem_of_getElem? (i := 830) (by decide +kernel), List.mem_of_getElem? (i := 831) (by decide +kernel)⟩
theorem lw_p9 : lw_okq (⟨"SlipwayPlan$Levelling", "firstWithCrews", "(II)I"⟩, 7) := ⟨⟨by decide +kernel, by decide +kernel⟩, List.mem_of_getElem? (i := 258) (by decide +kernel), List.mem_of_getElem? (i := 835) (by decide +kernel), List.mem_of_getElem? (i := 836) (by decide +kernel)⟩
theorem lw_p10 : lw_okq (⟨"SlipwayPlan$Levelling", "crewsSuffice", "(LSlipwayPlan$Task;I)Z"⟩, 7) := ⟨⟨by decide +kernel, by decide +kernel⟩, List.mem_of_getElem? (i := 258) (by decide +kernel), List.mem_of_getElem? (i := 840) (by decide +kernel), List.mem_of_getElem? (i := 841) (by decide +kernel)⟩
theorem lw_p11 : lw_okq (⟨"SlipwayPlan$Kept", "partUpTo", "(II)I"⟩, 5) := ⟨⟨by decide +kernel, by decide +kernel⟩, List.mem_of_getElem? (i := 312) (by decide +kernel), List.mem_of_getElem? (i := 945) (by decide +kernel), List.mem_of_getElem? (i := 946) (by decide +kernel)⟩
theorem lw_p12 : lw_okq (⟨"SlipwayPlan", "checkTask", "(I)V"⟩, 8) := ⟨⟨by decide +kernel, by decide +kernel⟩, List.mem_of_getElem? (i := 33) (by decide +kernel), List.mem_of_getElem? (i := 1045) (by decide +kernel), List.mem_of_getElem? (i := 1046) (by decide +kernel)⟩
theorem lw_p13 : lw_okq (⟨"SlipwayPlan", "checkLink", "(I)V"⟩, 8) := ⟨⟨by decide +kernel, by decide +kernel⟩, List.mem_of_getElem? (i := 33) (by decide +kernel), List.mem_of_getElem? (i := 1102) (by decide +kernel), List.mem_of_getElem? (i := 1103) (by decide +kernel)⟩
theorem lw_p14 : lw_okq (⟨"SlipwayPlan", "lastIfLengthWere", "(II)I"⟩, 8) := ⟨⟨by decide +kernel, by decide +kernel⟩, List.mem_of_getElem? (i := 33) (by decide +kernel), List.mem_of_getElem? (i := 1276) (by decide +kernel), List.mem_of_getElem? (i := 1277) (by decide +kernel)⟩
theorem lw_p15 : lw_okq (⟨"SlipwayPlanModel", "refuse", "(I)I"⟩, 35) := ⟨⟨by decide +kernel, by decide +kernel⟩, List.mem_of_getElem? (i := 1305) (by decide +kernel), List.mem_of_getElem? (i := 1432) (by decide +kernel), List.mem_of_getElem? (i := 1433) (by decide +kernel)⟩
def lw_privs_1 : List (MethodName × Nat) := [(⟨"SlipwayPlan", "refresh", "()V"⟩, 8), (⟨"SlipwayPlan$Network", "latestDay", "(I)I"⟩, 5), (⟨"SlipwayPlan$Network", "roomUpTo", "(II)I"⟩, 5), (⟨"java/lang/Throwable", "fillInStackTrace", "(I)Ljava/lang/Throwable;"⟩, 6), (⟨"SlipwayPlan$Levelling", "clear", "()V"⟩, 7), (⟨"SlipwayPlan$Levelling", "putIn", "(III)V"⟩, 7), (⟨"SlipwayPlan$Levelling", "choose", "(LSlipwayPlan$Network;I)I"⟩, 7), (⟨"SlipwayPlan$Levelling", "isTooLarge", "(I)Z"⟩, 7), (⟨"SlipwayPlan$Levelling", "keyOf", "(ILSlipwayPlan$Network;I)I"⟩, 7), (⟨"SlipwayPlan$Levelling", "firstWithCrews", "(II)I"⟩, 7), (⟨"SlipwayPlan$Levelling", "crewsSuffice", "(LSlipwayPlan$Task;I)Z"⟩, 7), (⟨"SlipwayPlan$Kept", "partUpTo", "(II)I"⟩, 5), (⟨"SlipwayPlan", "checkTask", "(I)V"⟩, 8), (⟨"SlipwayPlan", "checkLink", "(I)V"⟩, 8), (⟨"SlipwayPlan", "lastIfLengthWere", "(II)I"⟩, 8), (⟨"SlipwayPlanModel", "refuse", "(I)I"⟩, 35)]
theorem lw_r1 : ∀ q ∈ lw_privs_1, lw_okq q := List.forall_mem_cons.mpr ⟨lw_p0, List.forall_mem_cons.mpr ⟨lw_p1, List.forall_mem_cons.mpr ⟨lw_p2, List.forall_mem_cons.mpr ⟨lw_p3, List.forall_mem_cons.mpr ⟨lw_p4, List.forall_mem_cons.mpr ⟨lw_p5, List.forall_mem_cons.mpr ⟨lw_p6, List.forall_mem_cons.mpr ⟨lw_p7, List.forall_mem_cons.mpr ⟨lw_p8, List.forall_mem_cons.mpr ⟨lw_p9, List.forall_mem_cons.mpr ⟨lw_p10, List.forall_mem_cons.mpr ⟨lw_p11, List.forall_mem_cons.mpr ⟨lw_p12, List.forall_mem_cons.mpr ⟨lw_p13, List.forall_mem_cons.mpr ⟨lw_p14, List.forall_mem_cons.mpr ⟨lw_p15, fun _ h => absurd h List.not_mem_nil⟩⟩⟩⟩⟩⟩⟩⟩⟩⟩⟩⟩⟩⟩⟩⟩
theorem lw_p16 : lw_okq (⟨"SlipwayPlanModel", "freeAt", "(II)I"⟩, 35) := ⟨⟨by decide +kernel, by decide +kernel⟩, List.mem_of_getElem? (i := 1305) (by decide +kernel), List.mem_of_getElem? (i := 1440) (by decide +kernel), List.mem_of_getElem? (i := 1441) (by decide +kernel)⟩
theorem lw_p17 : lw_okq (⟨"SlipwayPlanModel", "isTask", "(I)Z"⟩, 35) := ⟨⟨by decide +kernel, by decide +kernel⟩, List.mem_of_getElem? (i := 1305) (by decide +kernel), List.mem_of_getElem? (i := 1459) (by decide +kernel), List.mem_of_getElem? (i := 1460) (by decide +kernel)⟩
theorem lw_p18 : lw_okq (⟨"SlipwayPlanModel", "comes", "(II)Z"⟩, 35) := ⟨⟨by decide +kernel, by decide +kernel⟩, List.mem_of_getElem? (i := 1305) (by decide +kernel), List.mem_of_getElem? (i := 1475) (by decide +kernel), List.mem_of_getElem? (i := 1476) (by decide +kernel)⟩
theorem lw_p19 : lw_okq (⟨"SlipwayPlanModel", "isLink", "(I)Z"⟩, 35) := ⟨⟨by decide +kernel, by decide +kernel⟩, List.mem_of_getElem? (i := 1305) (by decide +kernel), List.mem_of_getElem? (i := 1483) (by decide +kernel), List.mem_of_getElem? (i := 1484) (by decide +kernel)⟩
theorem lw_p20 : lw_okq (⟨"SlipwayPlanModel", "take", "(I)V"⟩, 35) := ⟨⟨by decide +kernel, by decide +kernel⟩, List.mem_of_getElem? (i := 1305) (by decide +kernel), List.mem_of_getElem? (i := 1487) (by decide +kernel), List.mem_of_getElem? (i := 1488) (by decide +kernel)⟩
theorem lw_p21 : lw_okq (⟨"SlipwayPlanModel", "worksOn", "(II)Z"⟩, 35) := ⟨⟨by decide +kernel, by decide +kernel⟩, List.mem_of_getElem? (i := 1305) (by decide +kernel), List.mem_of_getElem? (i := 1516) (by decide +kernel), List.mem_of_getElem? (i := 1517) (by decide +kernel)⟩
theorem lw_p22 : lw_okq (⟨"SlipwayPlanModel", "hasTask", "(I)Z"⟩, 35) := ⟨⟨by decide +kernel, by decide +kernel⟩, List.mem_of_getElem? (i := 1305) (by decide +kernel), List.mem_of_getElem? (i := 1524) (by decide +kernel), List.mem_of_getElem? (i := 1525) (by decide +kernel)⟩
theorem lw_p23 : lw_okq (⟨"SlipwayPlanModel", "lay", "()V"⟩, 35) := ⟨⟨by decide +kernel, by decide +kernel⟩, List.mem_of_getElem? (i := 1305) (by decide +kernel), List.mem_of_getElem? (i := 1528) (by decide +kernel), List.mem_of_getElem? (i := 1529) (by decide +kernel)⟩
theorem lw_p24 : lw_okq (⟨"SlipwayPlanModel", "sort", "()V"⟩, 35) := ⟨⟨by decide +kernel, by decide +kernel⟩, List.mem_of_getElem? (i := 1305) (by decide +kernel), List.mem_of_getElem? (i := 1532) (by decide +kernel), List.mem_of_getElem? (i := 1533) (by decide +kernel)⟩
theorem lw_p25 : lw_okq (⟨"SlipwayPlanModel", "isFree", "(I[Z)Z"⟩, 35) := ⟨⟨by decide +kernel, by decide +kernel⟩, List.mem_of_getElem? (i := 1305) (by decide +kernel), List.mem_of_getElem? (i := 1536) (by decide +kernel), List.mem_of_getElem? (i := 1537) (by decide +kernel)⟩
theorem lw_p26 : lw_okq (⟨"SlipwayPlanModel", "layEarly", "()V"⟩, 35) := ⟨⟨by decide +kernel, by decide +kernel⟩, List.mem_of_getElem? (i := 1305) (by decide +kernel), List.mem_of_getElem? (i := 1540) (by decide +kernel), List.mem_of_getElem? (i := 1541) (by decide +kernel)⟩
theorem lw_p27 : lw_okq (⟨"SlipwayPlanModel", "byAll", "(I[[I)I"⟩, 35) := ⟨⟨by decide +kernel, by decide +kernel⟩, List.mem_of_getElem? (i := 1305) (by decide +kernel), List.mem_of_getElem? (i := 1544) (by decide +kernel), List.mem_of_getElem? (i := 1545) (by decide +kernel)⟩
theorem lw_p28 : lw_okq (⟨"SlipwayPlanModel", "from", "(II)I"⟩, 35) := ⟨⟨by decide +kernel, by decide +kernel⟩, List.mem_of_getElem? (i := 1305) (by decide +kernel), List.mem_of_getElem? (i := 1548) (by decide +kernel), List.mem_of_getElem? (i := 1549) (by decide +kernel)⟩
theorem lw_p29 : lw_okq (⟨"SlipwayPlanModel", "byLink", "(I[[II)I"⟩, 35) := ⟨⟨by decide +kernel, by decide +kernel⟩, List.mem_of_getElem? (i := 1305) (by decide +kernel), List.mem_of_getElem? (i := 1552) (by decide +kernel), List.mem_of_getElem? (i := 1553) (by decide +kernel)⟩
theorem lw_p30 : lw_okq (⟨"SlipwayPlanModel", "ending", "(III)I"⟩, 35) := ⟨⟨by decide +kernel, by decide +kernel⟩, List.mem_of_getElem? (i := 1305) (by decide +kernel), List.mem_of_getElem? (i := 1557) (by decide +kernel), List.mem_of_getElem? (i := 1558) (by decide +kernel)⟩
theorem lw_p31 : lw_okq (⟨"SlipwayPlanModel", "endOf", "(II)I"⟩, 35) := ⟨⟨by decide +kernel, by decide +kernel⟩, List.mem_of_getElem? (i := 1305) (by decide +kernel), List.mem_of_getElem? (i := 1561) (by decide +kernel), List.mem_of_getElem? (i := 1562) (by decide +kernel)⟩
def lw_privs_2 : List (MethodName × Nat) := [(⟨"SlipwayPlanModel", "freeAt", "(II)I"⟩, 35), (⟨"SlipwayPlanModel", "isTask", "(I)Z"⟩, 35), (⟨"SlipwayPlanModel", "comes", "(II)Z"⟩, 35), (⟨"SlipwayPlanModel", "isLink", "(I)Z"⟩, 35), (⟨"SlipwayPlanModel", "take", "(I)V"⟩, 35), (⟨"SlipwayPlanModel", "worksOn", "(II)Z"⟩, 35), (⟨"SlipwayPlanModel", "hasTask", "(I)Z"⟩, 35), (⟨"SlipwayPlanModel", "lay", "()V"⟩, 35), (⟨"SlipwayPlanModel", "sort", "()V"⟩, 35), (⟨"SlipwayPlanModel", "isFree", "(I[Z)Z"⟩, 35), (⟨"SlipwayPlanModel", "layEarly", "()V"⟩, 35), (⟨"SlipwayPlanModel", "byAll", "(I[[I)I"⟩, 35), (⟨"SlipwayPlanModel", "from", "(II)I"⟩, 35), (⟨"SlipwayPlanModel", "byLink", "(I[[II)I"⟩, 35), (⟨"SlipwayPlanModel", "ending", "(III)I"⟩, 35), (⟨"SlipwayPlanModel", "endOf", "(II)I"⟩, 35)]
theorem lw_r2 : ∀ q ∈ lw_privs_2, lw_okq q := List.forall_mem_cons.mpr ⟨lw_p16, List.forall_mem_cons.mpr ⟨lw_p17, List.forall_mem_cons.mpr ⟨lw_p18, List.forall_mem_cons.mpr ⟨lw_p19, List.forall_mem_cons.mpr ⟨lw_p20, List.forall_mem_cons.mpr ⟨lw_p21, List.forall_mem_cons.mpr ⟨lw_p22, List.forall_mem_cons.mpr ⟨lw_p23, List.forall_mem_cons.mpr ⟨lw_p24, List.forall_mem_cons.mpr ⟨lw_p25, List.forall_mem_cons.mpr ⟨lw_p26, List.forall_mem_cons.mpr ⟨lw_p27, List.forall_mem_cons.mpr ⟨lw_p28, List.forall_mem_cons.mpr ⟨lw_p29, List.forall_mem_cons.mpr ⟨lw_p30, List.forall_mem_cons.mpr ⟨lw_p31, fun _ h => absurd h List.not_mem_nil⟩⟩⟩⟩⟩⟩⟩⟩⟩⟩⟩⟩⟩⟩⟩⟩
theorem lw_p32 : lw_okq (⟨"SlipwayPlanModel", "layLate", "()V"⟩, 35) := ⟨⟨by decide +kernel, by decide +kernel⟩, List.mem_of_getElem? (i := 1305) (by decide +kernel), List.mem_of_getElem? (i := 1565) (by decide +kernel), List.mem_of_getElem? (i := 1566) (by decide +kernel)⟩
theorem lw_p33 : lw_okq (⟨"SlipwayPlanModel", "canBeLate", "(II)Z"⟩, 35) := ⟨⟨by decide +kernel, by decide +kernel⟩, List.mem_of_getElem? (i := 1305) (by decide +kernel), List.mem_of_getElem? (i := 1569) (by decide +kernel), List.mem_of_getElem? (i := 1570) (by decide +kernel)⟩
theorem lw_p34 : lw_okq (⟨"SlipwayPlanModel", "layLevelled", "()V"⟩, 35) := ⟨⟨by decide +kernel, by decide +kernel⟩, List.mem_of_getElem? (i := 1305) (by decide +kernel), List.mem_of_getElem? (i := 1573) (by decide +kernel), List.mem_of_getElem? (i := 1574) (by decide +kernel)⟩
theorem lw_p35 : lw_okq (⟨"SlipwayPlanModel", "place", "(III)V"⟩, 35) := ⟨⟨by decide +kernel, by decide +kernel⟩, List.mem_of_getElem? (i := 1305) (by decide +kernel), List.mem_of_getElem? (i := 1580) (by decide +kernel), List.mem_of_getElem? (i := 1581) (by decide +kernel)⟩
theorem lw_p36 : lw_okq (⟨"SlipwayPlanModel", "use", "(III)V"⟩, 35) := ⟨⟨by decide +kernel, by decide +kernel⟩, List.mem_of_getElem? (i := 1305) (by decide +kernel), List.mem_of_getElem? (i := 1584) (by decide +kernel), List.mem_of_getElem? (i := 1585) (by decide +kernel)⟩
theorem lw_p37 : lw_okq (⟨"SlipwayPlanModel", "isTooMuch", "(I)Z"⟩, 35) := ⟨⟨by decide +kernel, by decide +kernel⟩, List.mem_of_getElem? (i := 1305) (by decide +kernel), List.mem_of_getElem? (i := 1588) (by decide +kernel), List.mem_of_getElem? (i := 1589) (by decide +kernel)⟩
theorem lw_p38 : lw_okq (⟨"SlipwayPlanModel", "isBetter", "(II)Z"⟩, 35) := ⟨⟨by decide +kernel, by decide +kernel⟩, List.mem_of_getElem? (i := 1305) (by decide +kernel), List.mem_of_getElem? (i := 1592) (by decide +kernel), List.mem_of_getElem? (i := 1593) (by decide +kernel)⟩
theorem lw_p39 : lw_okq (⟨"SlipwayPlanModel", "hasCrews", "(II)Z"⟩, 35) := ⟨⟨by decide +kernel, by decide +kernel⟩, List.mem_of_getElem? (i := 1305) (by decide +kernel), List.mem_of_getElem? (i := 1596) (by decide +kernel), List.mem_of_getElem? (i := 1597) (by decide +kernel)⟩
theorem lw_p40 : lw_okq (⟨"SlipwayPlanModel", "tightNow", "()I"⟩, 35) := ⟨⟨by decide +kernel, by decide +kernel⟩, List.mem_of_getElem? (i := 1305) (by decide +kernel), List.mem_of_getElem? (i := 1624) (by decide +kernel), List.mem_of_getElem? (i := 1625) (by decide +kernel)⟩
theorem lw_p41 : lw_okq (⟨"SlipwayPlanModel", "wantedOn", "(II)I"⟩, 35) := ⟨⟨by decide +kernel, by decide +kernel⟩, List.mem_of_getElem? (i := 1305) (by decide +kernel), List.mem_of_getElem? (i := 1632) (by decide +kernel), List.mem_of_getElem? (i := 1633) (by decide +kernel)⟩
theorem lw_p42 : lw_okq (⟨"SlipwayPlanModel", "overloadedNow", "(I)I"⟩, 35) := ⟨⟨by decide +kernel, by decide +kernel⟩, List.mem_of_getElem? (i := 1305) (by decide +kernel), List.mem_of_getElem? (i := 1640) (by decide +kernel), List.mem_of_getElem? (i := 1641) (by decide +kernel)⟩
theorem lw_p43 : lw_okq (⟨"SlipwayPlanModel", "peakNow", "(I)I"⟩, 35) := ⟨⟨by decide +kernel, by decide +kernel⟩, List.mem_of_getElem? (i := 1305) (by decide +kernel), List.mem_of_getElem? (i := 1672) (by decide +kernel), List.mem_of_getElem? (i := 1673) (by decide +kernel)⟩
theorem lw_p44 : lw_okq (⟨"SlipwayPlanModel", "holdsNow", "(I)I"⟩, 35) := ⟨⟨by decide +kernel, by decide +kernel⟩, List.mem_of_getElem? (i := 1305) (by decide +kernel), List.mem_of_getElem? (i := 1680) (by decide +kernel), List.mem_of_getElem? (i := 1681) (by decide +kernel)⟩
theorem lw_p45 : lw_okq (⟨"SlipwayPlanModel", "holder", "(I)I"⟩, 35) := ⟨⟨by decide +kernel, by decide +kernel⟩, List.mem_of_getElem? (i := 1305) (by decide +kernel), List.mem_of_getElem? (i := 1688) (by decide +kernel), List.mem_of_getElem? (i := 1689) (by decide +kernel)⟩
theorem lw_p46 : lw_okq (⟨"SlipwayPlanModel", "idleNow", "(I)I"⟩, 35) := ⟨⟨by decide +kernel, by decide +kernel⟩, List.mem_of_getElem? (i := 1305) (by decide +kernel), List.mem_of_getElem? (i := 1696) (by decide +kernel), List.mem_of_getElem? (i := 1697) (by decide +kernel)⟩
theorem lw_p47 : lw_okq (⟨"SlipwayPlanModel", "worthOf", "(I)I"⟩, 35) := ⟨⟨by decide +kernel, by decide +kernel⟩, List.mem_of_getElem? (i := 1305) (by decide +kernel), List.mem_of_getElem? (i := 1704) (by decide +kernel), List.mem_of_getElem? (i := 1705) (by decide +kernel)⟩
def lw_privs_3 : List (MethodName × Nat) := [(⟨"SlipwayPlanModel", "layLate", "()V"⟩, 35), (⟨"SlipwayPlanModel", "canBeLate", "(II)Z"⟩, 35), (⟨"SlipwayPlanModel", "layLevelled", "()V"⟩, 35), (⟨"SlipwayPlanModel", "place", "(III)V"⟩, 35), (⟨"SlipwayPlanModel", "use", "(III)V"⟩, 35), (⟨"SlipwayPlanModel", "isTooMuch", "(I)Z"⟩, 35), (⟨"SlipwayPlanModel", "isBetter", "(II)Z"⟩, 35), (⟨"SlipwayPlanModel", "hasCrews", "(II)Z"⟩, 35), (⟨"SlipwayPlanModel", "tightNow", "()I"⟩, 35), (⟨"SlipwayPlanModel", "wantedOn", "(II)I"⟩, 35), (⟨"SlipwayPlanModel", "overloadedNow", "(I)I"⟩, 35), (⟨"SlipwayPlanModel", "peakNow", "(I)I"⟩, 35), (⟨"SlipwayPlanModel", "holdsNow", "(I)I"⟩, 35), (⟨"SlipwayPlanModel", "holder", "(I)I"⟩, 35), (⟨"SlipwayPlanModel", "idleNow", "(I)I"⟩, 35), (⟨"SlipwayPlanModel", "worthOf", "(I)I"⟩, 35)]
theorem lw_r3 : ∀ q ∈ lw_privs_3, lw_okq q := List.forall_mem_cons.mpr ⟨lw_p32, List.forall_mem_cons.mpr ⟨lw_p33, List.forall_mem_cons.mpr ⟨lw_p34, List.forall_mem_cons.mpr ⟨lw_p35, List.forall_mem_cons.mpr ⟨lw_p36, List.forall_mem_cons.mpr ⟨lw_p37, List.forall_mem_cons.mpr ⟨lw_p38, List.forall_mem_cons.mpr ⟨lw_p39, List.forall_mem_cons.mpr ⟨lw_p40, List.forall_mem_cons.mpr ⟨lw_p41, List.forall_mem_cons.mpr ⟨lw_p42, List.forall_mem_cons.mpr ⟨lw_p43, List.forall_mem_cons.mpr ⟨lw_p44, List.forall_mem_cons.mpr ⟨lw_p45, List.forall_mem_cons.mpr ⟨lw_p46, List.forall_mem_cons.mpr ⟨lw_p47, fun _ h => absurd h List.not_mem_nil⟩⟩⟩⟩⟩⟩⟩⟩⟩⟩⟩⟩⟩⟩⟩⟩
theorem lw_p48 : lw_okq (⟨"SlipwayPlanModel", "behindNow", "(I)I"⟩, 35) := ⟨⟨by decide +kernel, by decide +kernel⟩, List.mem_of_getElem? (i := 1305) (by decide +kernel), List.mem_of_getElem? (i := 1712) (by decide +kernel), List.mem_of_getElem? (i := 1713) (by decide +kernel)⟩
theorem lw_p49 : lw_okq (⟨"SlipwayPlanModel", "isKept", "(I)Z"⟩, 35) := ⟨⟨by decide +kernel, by decide +kernel⟩, List.mem_of_getElem? (i := 1305) (by decide +kernel), List.mem_of_getElem? (i := 1716) (by decide +kernel), List.mem_of_getElem? (i := 1717) (by decide +kernel)⟩
theorem lw_p50 : lw_okq (⟨"SlipwayPlanModel", "plannedNow", "(I)I"⟩, 35) := ⟨⟨by decide +kernel, by decide +kernel⟩, List.mem_of_getElem? (i := 1305) (by decide +kernel), List.mem_of_getElem? (i := 1724) (by decide +kernel), List.mem_of_getElem? (i := 1725) (by decide +kernel)⟩
theorem lw_p51 : lw_okq (⟨"SlipwayPlanModel", "worked", "(II)Z"⟩, 35) := ⟨⟨by decide +kernel, by decide +kernel⟩, List.mem_of_getElem? (i := 1305) (by decide +kernel), List.mem_of_getElem? (i := 1728) (by decide +kernel), List.mem_of_getElem? (i := 1729) (by decide +kernel)⟩
theorem lw_p52 : lw_okq (⟨"SlipwayPlanModel", "earnedNow", "()I"⟩, 35) := ⟨⟨by decide +kernel, by decide +kernel⟩, List.mem_of_getElem? (i := 1305) (by decide +kernel), List.mem_of_getElem? (i := 1736) (by decide +kernel), List.mem_of_getElem? (i := 1737) (by decide +kernel)⟩
theorem lw_p53 : lw_okq (⟨"SlipwayPlanModel", "worthNow", "()I"⟩, 35) := ⟨⟨by decide +kernel, by decide +kernel⟩, List.mem_of_getElem? (i := 1305) (by decide +kernel), List.mem_of_getElem? (i := 1744) (by decide +kernel), List.mem_of_getElem? (i := 1745) (by decide +kernel)⟩
theorem lw_p54 : lw_okq (⟨"SlipwayPlanModel", "relaid", "(Z)I"⟩, 35) := ⟨⟨by decide +kernel, by decide +kernel⟩, List.mem_of_getElem? (i := 1305) (by decide +kernel), List.mem_of_getElem? (i := 1756) (by decide +kernel), List.mem_of_getElem? (i := 1757) (by decide +kernel)⟩
theorem lw_p55 : lw_okq (⟨"SlipwayPlanModel", "add", "(I)V"⟩, 35) := ⟨⟨by decide +kernel, by decide +kernel⟩, List.mem_of_getElem? (i := 1305) (by decide +kernel), List.mem_of_getElem? (i := 1782) (by decide +kernel), List.mem_of_getElem? (i := 1783) (by decide +kernel)⟩
def lw_privs_4 : List (MethodName × Nat) := [(⟨"SlipwayPlanModel", "behindNow", "(I)I"⟩, 35), (⟨"SlipwayPlanModel", "isKept", "(I)Z"⟩, 35), (⟨"SlipwayPlanModel", "plannedNow", "(I)I"⟩, 35), (⟨"SlipwayPlanModel", "worked", "(II)Z"⟩, 35), (⟨"SlipwayPlanModel", "earnedNow", "()I"⟩, 35), (⟨"SlipwayPlanModel", "worthNow", "()I"⟩, 35), (⟨"SlipwayPlanModel", "relaid", "(Z)I"⟩, 35), (⟨"SlipwayPlanModel", "add", "(I)V"⟩, 35)]
theorem lw_r4 : ∀ q ∈ lw_privs_4, lw_okq q := List.forall_mem_cons.mpr ⟨lw_p48, List.forall_mem_cons.mpr ⟨lw_p49, List.forall_mem_cons.mpr ⟨lw_p50, List.forall_mem_cons.mpr ⟨lw_p51, List.forall_mem_cons.mpr ⟨lw_p52, List.forall_mem_cons.mpr ⟨lw_p53, List.forall_mem_cons.mpr ⟨lw_p54, List.forall_mem_cons.mpr ⟨lw_p55, fun _ h => absurd h List.not_mem_nil⟩⟩⟩⟩⟩⟩⟩⟩
def lw_privs : List (MethodName × Nat) := lw_privs_1 ++ (lw_privs_2 ++ (lw_privs_3 ++ (lw_privs_4)))
def lw_tbl : List Cond := k2_sels lw_privs ++ tables_1
theorem lw_privs_ok : ∀ q ∈ lw_privs, lw_okq q := by
  show ∀ q ∈ lw_privs_1 ++ (lw_privs_2 ++ (lw_privs_3 ++ (lw_privs_4))), lw_okq q
  exact List.forall_mem_append.mpr ⟨lw_r1, List.forall_mem_append.mpr ⟨lw_r2, List.forall_mem_append.mpr ⟨lw_r3, lw_r4⟩⟩⟩
/-- the streams that the claim lets the run draw from -/
abbrev lw_cs : List Choice := [Jvm.Choice.named "NaN.bits"]
theorem lw_bits : nanBits ∈ lw_cs := by first | decide | exact List.mem_cons_self | simp [lw_cs, nanBits]
def RX0 : String := "SlipwayPlan$Calendar"
def TX0 : u_T := fun k => match k with
  | 0 => ("SlipwayPlan$Calendar", "weekdays", "I", false)
  | 1 => ("SlipwayPlan$Calendar", "freeCount", "I", false)
  | _ => ("SlipwayPlan$Calendar", "free", "[Z", true)
def tyX0 : Nat → FieldType := fun k => match k with
  | 0 => .int
  | 1 => .int
  | _ => .array .boolean
abbrev wsX00 : List Cond := u_ws RX0 TX0 3
theorem nmX0 : ∀ a, a < 3 → ∀ b, b < 3 → a ≠ b → (TX0 a).2.1 ≠ (TX0 b).2.1 := by decide +kernel
theorem tyX0_ok : ∀ k, k < 3 → parseFieldDescriptor (TX0 k).2.2.1 = some (tyX0 k) := by decide +kernel
abbrev cX0_init : ByteArray := prog_2_method_1_code
def yX0_init : MethodName := ⟨RX0, "<init>", "()V"⟩
abbrev cX0_makeFree : ByteArray := prog_2_method_2_code
def yX0_makeFree : MethodName := ⟨RX0, "makeFree", "(IZ)V"⟩
abbrev cX0_copyFrom : ByteArray := prog_2_method_3_code
def yX0_copyFrom : MethodName := ⟨RX0, "copyFrom", "(LSlipwayPlan$Calendar;)V"⟩
abbrev cX0_worksOn : ByteArray := prog_2_method_4_code
def yX0_worksOn : MethodName := ⟨RX0, "worksOn", "(I)Z"⟩
abbrev cX0_firstFrom : ByteArray := prog_2_method_5_code
def yX0_firstFrom : MethodName := ⟨RX0, "firstFrom", "(I)I"⟩
abbrev cX0_countBack : ByteArray := prog_2_method_6_code
def yX0_countBack : MethodName := ⟨RX0, "countBack", "(II)I"⟩
abbrev cX0_countWithin : ByteArray := prog_2_method_7_code
def yX0_countWithin : MethodName := ⟨RX0, "countWithin", "(II)I"⟩
abbrev cX0_endOf : ByteArray := prog_2_method_8_code
def yX0_endOf : MethodName := ⟨RX0, "endOf", "(II)I"⟩
abbrev cX0_firstBegin : ByteArray := prog_2_method_9_code
def yX0_firstBegin : MethodName := ⟨RX0, "firstBegin", "(III)I"⟩
abbrev cX0_latestBegin : ByteArray := prog_2_method_10_code
def yX0_latestBegin : MethodName := ⟨RX0, "latestBegin", "(III)I"⟩
def RX1 : String := "SlipwayPlan$Crew"
def TX1 : u_T := fun k => match k with
  | 0 => ("SlipwayPlan$Crew", "size", "I", false)
  | _ => ("SlipwayPlan$Crew", "price", "I", false)
def tyX1 : Nat → FieldType := fun k => match k with
  | 0 => .int
  | _ => .int
abbrev wsX10 : List Cond := u_ws RX1 TX1 2
theorem nmX1 : ∀ a, a < 2 → ∀ b, b < 2 → a ≠ b → (TX1 a).2.1 ≠ (TX1 b).2.1 := by decide +kernel
theorem tyX1_ok : ∀ k, k < 2 → parseFieldDescriptor (TX1 k).2.2.1 = some (tyX1 k) := by decide +kernel
abbrev cX1_init : ByteArray := prog_3_method_1_code
def yX1_init : MethodName := ⟨RX1, "<init>", "()V"⟩
def RX2 : String := "SlipwayPlan$Kept"
def TX2 : u_T := fun k => match k with
  | 0 => ("SlipwayPlan$Kept", "project", "LSlipwayPlan$Project;", true)
  | 1 => ("SlipwayPlan$Kept", "plan", "LSlipwayPlan$Plan;", true)
  | 2 => ("SlipwayPlan$Kept", "in", "[Z", true)
  | 3 => ("SlipwayPlan$Kept", "worths", "[I", true)
  | _ => ("SlipwayPlan$Kept", "calendars", "[LSlipwayPlan$Calendar;", true)
def tyX2 : Nat → FieldType := fun k => match k with
  | 0 => .object "SlipwayPlan$Project"
  | 1 => .object "SlipwayPlan$Plan"
  | 2 => .array .boolean
  | 3 => .array .int
  | _ => .array (.object "SlipwayPlan$Calendar")
abbrev wsX20 : List Cond := u_ws RX2 TX2 5
theorem nmX2 : ∀ a, a < 5 → ∀ b, b < 5 → a ≠ b → (TX2 a).2.1 ≠ (TX2 b).2.1 := by decide +kernel
theorem tyX2_ok : ∀ k, k < 5 → parseFieldDescriptor (TX2 k).2.2.1 = some (tyX2 k) := by decide +kernel
abbrev cX2_init : ByteArray := prog_4_method_1_code
def yX2_init : MethodName := ⟨RX2, "<init>", "(LSlipwayPlan$Project;)V"⟩
abbrev cX2_take : ByteArray := prog_4_method_2_code
def yX2_take : MethodName := ⟨RX2, "take", "(LSlipwayPlan$Levelling;)V"⟩
abbrev cX2_delayOf : ByteArray := prog_4_method_3_code
def yX2_delayOf : MethodName := ⟨RX2, "delayOf", "(ILSlipwayPlan$Levelling;)I"⟩
abbrev cX2_plannedUpTo : ByteArray := prog_4_method_4_code
def yX2_plannedUpTo : MethodName := ⟨RX2, "plannedUpTo", "(I)I"⟩
abbrev cX2_partUpTo : ByteArray := prog_4_method_5_code
def yX2_partUpTo : MethodName := ⟨RX2, "partUpTo", "(II)I"⟩
abbrev cX2_earnedNow : ByteArray := prog_4_method_6_code
def yX2_earnedNow : MethodName := ⟨RX2, "earnedNow", "()I"⟩
def RX3 : String := "SlipwayPlan$Levelling"
def TX3 : u_T := fun k => match k with
  | 0 => ("SlipwayPlan$Levelling", "project", "LSlipwayPlan$Project;", true)
  | 1 => ("SlipwayPlan$Levelling", "plan", "LSlipwayPlan$Plan;", true)
  | 2 => ("SlipwayPlan$Levelling", "load", "LSlipwayPlan$Load;", true)
  | 3 => ("SlipwayPlan$Levelling", "in", "[Z", true)
  | 4 => ("SlipwayPlan$Levelling", "order", "[I", true)
  | 5 => ("SlipwayPlan$Levelling", "count", "I", false)
  | _ => ("SlipwayPlan$Levelling", "lastDay", "I", false)
def tyX3 : Nat → FieldType := fun k => match k with
  | 0 => .object "SlipwayPlan$Project"
  | 1 => .object "SlipwayPlan$Plan"
  | 2 => .object "SlipwayPlan$Load"
  | 3 => .array .boolean
  | 4 => .array .int
  | 5 => .int
  | _ => .int
abbrev wsX30 : List Cond := u_ws RX3 TX3 7
theorem nmX3 : ∀ a, a < 7 → ∀ b, b < 7 → a ≠ b → (TX3 a).2.1 ≠ (TX3 b).2.1 := by decide +kernel
theorem tyX3_ok : ∀ k, k < 7 → parseFieldDescriptor (TX3 k).2.2.1 = some (tyX3 k) := by decide +kernel
abbrev cX3_init : ByteArray := prog_5_method_1_code
def yX3_init : MethodName := ⟨RX3, "<init>", "(LSlipwayPlan$Project;)V"⟩
abbrev cX3_reckon : ByteArray := prog_5_method_2_code
def yX3_reckon : MethodName := ⟨RX3, "reckon", "(LSlipwayPlan$Network;I)V"⟩
abbrev cX3_clear : ByteArray := prog_5_method_3_code
def yX3_clear : MethodName := ⟨RX3, "clear", "()V"⟩
abbrev cX3_putIn : ByteArray := prog_5_method_4_code
def yX3_putIn : MethodName := ⟨RX3, "putIn", "(III)V"⟩
abbrev cX3_choose : ByteArray := prog_5_method_5_code
def yX3_choose : MethodName := ⟨RX3, "choose", "(LSlipwayPlan$Network;I)I"⟩
abbrev cX3_keyOf : ByteArray := prog_5_method_6_code
def yX3_keyOf : MethodName := ⟨RX3, "keyOf", "(ILSlipwayPlan$Network;I)I"⟩
abbrev cX3_isTooLarge : ByteArray := prog_5_method_7_code
def yX3_isTooLarge : MethodName := ⟨RX3, "isTooLarge", "(I)Z"⟩
abbrev cX3_firstWithCrews : ByteArray := prog_5_method_8_code
def yX3_firstWithCrews : MethodName := ⟨RX3, "firstWithCrews", "(II)I"⟩
abbrev cX3_crewsSuffice : ByteArray := prog_5_method_9_code
def yX3_crewsSuffice : MethodName := ⟨RX3, "crewsSuffice", "(LSlipwayPlan$Task;I)Z"⟩
abbrev cX3_holdOf : ByteArray := prog_5_method_10_code
def yX3_holdOf : MethodName := ⟨RX3, "holdOf", "(I)I"⟩
abbrev cX3_linkThatHolds : ByteArray := prog_5_method_11_code
def yX3_linkThatHolds : MethodName := ⟨RX3, "linkThatHolds", "(I)I"⟩
def RX4 : String := "SlipwayPlan$Link"
def TX4 : u_T := fun k => match k with
  | 0 => ("SlipwayPlan$Link", "from", "I", false)
  | 1 => ("SlipwayPlan$Link", "to", "I", false)
  | 2 => ("SlipwayPlan$Link", "kind", "I", false)
  | _ => ("SlipwayPlan$Link", "lag", "I", false)
def tyX4 : Nat → FieldType := fun k => match k with
  | 0 => .int
  | 1 => .int
  | 2 => .int
  | _ => .int
abbrev wsX40 : List Cond := u_ws RX4 TX4 4
theorem nmX4 : ∀ a, a < 4 → ∀ b, b < 4 → a ≠ b → (TX4 a).2.1 ≠ (TX4 b).2.1 := by decide +kernel
theorem tyX4_ok : ∀ k, k < 4 → parseFieldDescriptor (TX4 k).2.2.1 = some (tyX4 k) := by decide +kernel
abbrev cX4_init : ByteArray := prog_6_method_1_code
def yX4_init : MethodName := ⟨RX4, "<init>", "()V"⟩
def RX5 : String := "SlipwayPlan$Load"
def TX5 : u_T := fun k => match k with
  | 0 => ("SlipwayPlan$Load", "hands", "[[I", true)
  | _ => ("SlipwayPlan$Load", "upTo", "I", false)
def tyX5 : Nat → FieldType := fun k => match k with
  | 0 => .array (.array .int)
  | _ => .int
abbrev wsX50 : List Cond := u_ws RX5 TX5 2
theorem nmX5 : ∀ a, a < 2 → ∀ b, b < 2 → a ≠ b → (TX5 a).2.1 ≠ (TX5 b).2.1 := by decide +kernel
theorem tyX5_ok : ∀ k, k < 2 → parseFieldDescriptor (TX5 k).2.2.1 = some (tyX5 k) := by decide +kernel
abbrev cX5_init : ByteArray := prog_7_method_1_code
def yX5_init : MethodName := ⟨RX5, "<init>", "()V"⟩
abbrev cX5_clear : ByteArray := prog_7_method_2_code
def yX5_clear : MethodName := ⟨RX5, "clear", "()V"⟩
abbrev cX5_add : ByteArray := prog_7_method_3_code
def yX5_add : MethodName := ⟨RX5, "add", "(LSlipwayPlan$Task;LSlipwayPlan$Calendar;II)V"⟩
abbrev cX5_on : ByteArray := prog_7_method_4_code
def yX5_on : MethodName := ⟨RX5, "on", "(II)I"⟩
abbrev cX5_daysAbove : ByteArray := prog_7_method_5_code
def yX5_daysAbove : MethodName := ⟨RX5, "daysAbove", "(II)I"⟩
abbrev cX5_greatest : ByteArray := prog_7_method_6_code
def yX5_greatest : MethodName := ⟨RX5, "greatest", "(I)I"⟩
abbrev cX5_leftOver : ByteArray := prog_7_method_7_code
def yX5_leftOver : MethodName := ⟨RX5, "leftOver", "(III)I"⟩
def RX6 : String := "SlipwayPlan$Network"
def TX6 : u_T := fun k => match k with
  | 0 => ("SlipwayPlan$Network", "project", "LSlipwayPlan$Project;", true)
  | 1 => ("SlipwayPlan$Network", "early", "LSlipwayPlan$Plan;", true)
  | 2 => ("SlipwayPlan$Network", "late", "LSlipwayPlan$Plan;", true)
  | 3 => ("SlipwayPlan$Network", "rooms", "[I", true)
  | _ => ("SlipwayPlan$Network", "lastDay", "I", false)
def tyX6 : Nat → FieldType := fun k => match k with
  | 0 => .object "SlipwayPlan$Project"
  | 1 => .object "SlipwayPlan$Plan"
  | 2 => .object "SlipwayPlan$Plan"
  | 3 => .array .int
  | _ => .int
abbrev wsX60 : List Cond := u_ws RX6 TX6 5
theorem nmX6 : ∀ a, a < 5 → ∀ b, b < 5 → a ≠ b → (TX6 a).2.1 ≠ (TX6 b).2.1 := by decide +kernel
theorem tyX6_ok : ∀ k, k < 5 → parseFieldDescriptor (TX6 k).2.2.1 = some (tyX6 k) := by decide +kernel
abbrev cX6_init : ByteArray := prog_8_method_1_code
def yX6_init : MethodName := ⟨RX6, "<init>", "(LSlipwayPlan$Project;)V"⟩
abbrev cX6_reckonEarly : ByteArray := prog_8_method_2_code
def yX6_reckonEarly : MethodName := ⟨RX6, "reckonEarly", "()V"⟩
abbrev cX6_reckonLate : ByteArray := prog_8_method_3_code
def yX6_reckonLate : MethodName := ⟨RX6, "reckonLate", "()V"⟩
abbrev cX6_latestDay : ByteArray := prog_8_method_4_code
def yX6_latestDay : MethodName := ⟨RX6, "latestDay", "(I)I"⟩
abbrev cX6_roomUpTo : ByteArray := prog_8_method_5_code
def yX6_roomUpTo : MethodName := ⟨RX6, "roomUpTo", "(II)I"⟩
abbrev cX6_countTight : ByteArray := prog_8_method_6_code
def yX6_countTight : MethodName := ⟨RX6, "countTight", "()I"⟩
def RX7 : String := "SlipwayPlan$Plan"
def TX7 : u_T := fun k => match k with
  | 0 => ("SlipwayPlan$Plan", "begins", "[I", true)
  | _ => ("SlipwayPlan$Plan", "ends", "[I", true)
def tyX7 : Nat → FieldType := fun k => match k with
  | 0 => .array .int
  | _ => .array .int
abbrev wsX70 : List Cond := u_ws RX7 TX7 2
theorem nmX7 : ∀ a, a < 2 → ∀ b, b < 2 → a ≠ b → (TX7 a).2.1 ≠ (TX7 b).2.1 := by decide +kernel
theorem tyX7_ok : ∀ k, k < 2 → parseFieldDescriptor (TX7 k).2.2.1 = some (tyX7 k) := by decide +kernel
abbrev cX7_init : ByteArray := prog_9_method_1_code
def yX7_init : MethodName := ⟨RX7, "<init>", "()V"⟩
abbrev cX7_set : ByteArray := prog_9_method_2_code
def yX7_set : MethodName := ⟨RX7, "set", "(III)V"⟩
abbrev cX7_beginAsked : ByteArray := prog_9_method_3_code
def yX7_beginAsked : MethodName := ⟨RX7, "beginAsked", "(LSlipwayPlan$Link;)I"⟩
abbrev cX7_endAsked : ByteArray := prog_9_method_4_code
def yX7_endAsked : MethodName := ⟨RX7, "endAsked", "(LSlipwayPlan$Link;)I"⟩
def RX8 : String := "SlipwayPlan$Project"
def TX8 : u_T := fun k => match k with
  | 0 => ("SlipwayPlan$Project", "calendars", "[LSlipwayPlan$Calendar;", true)
  | 1 => ("SlipwayPlan$Project", "crews", "[LSlipwayPlan$Crew;", true)
  | 2 => ("SlipwayPlan$Project", "tasks", "[LSlipwayPlan$Task;", true)
  | 3 => ("SlipwayPlan$Project", "links", "[LSlipwayPlan$Link;", true)
  | 4 => ("SlipwayPlan$Project", "taskCount", "I", false)
  | 5 => ("SlipwayPlan$Project", "linkCount", "I", false)
  | 6 => ("SlipwayPlan$Project", "rule", "I", false)
  | 7 => ("SlipwayPlan$Project", "sorted", "[I", true)
  | _ => ("SlipwayPlan$Project", "marks", "[Z", true)
def tyX8 : Nat → FieldType := fun k => match k with
  | 0 => .array (.object "SlipwayPlan$Calendar")
  | 1 => .array (.object "SlipwayPlan$Crew")
  | 2 => .array (.object "SlipwayPlan$Task")
  | 3 => .array (.object "SlipwayPlan$Link")
  | 4 => .int
  | 5 => .int
  | 6 => .int
  | 7 => .array .int
  | _ => .array .boolean
abbrev wsX80 : List Cond := u_ws RX8 TX8 9
theorem nmX8 : ∀ a, a < 9 → ∀ b, b < 9 → a ≠ b → (TX8 a).2.1 ≠ (TX8 b).2.1 := by decide +kernel
theorem tyX8_ok : ∀ k, k < 9 → parseFieldDescriptor (TX8 k).2.2.1 = some (tyX8 k) := by decide +kernel
abbrev cX8_init : ByteArray := prog_10_method_1_code
def yX8_init : MethodName := ⟨RX8, "<init>", "()V"⟩
abbrev cX8_calendarOf : ByteArray := prog_10_method_2_code
def yX8_calendarOf : MethodName := ⟨RX8, "calendarOf", "(I)LSlipwayPlan$Calendar;"⟩
abbrev cX8_worthOf : ByteArray := prog_10_method_3_code
def yX8_worthOf : MethodName := ⟨RX8, "worthOf", "(I)I"⟩
abbrev cX8_appendTask : ByteArray := prog_10_method_4_code
def yX8_appendTask : MethodName := ⟨RX8, "appendTask", "(II)I"⟩
abbrev cX8_appendLink : ByteArray := prog_10_method_5_code
def yX8_appendLink : MethodName := ⟨RX8, "appendLink", "(IIII)I"⟩
abbrev cX8_takeOut : ByteArray := prog_10_method_6_code
def yX8_takeOut : MethodName := ⟨RX8, "takeOut", "(I)V"⟩
abbrev cX8_putBack : ByteArray := prog_10_method_7_code
def yX8_putBack : MethodName := ⟨RX8, "putBack", "(I)V"⟩
abbrev cX8_reaches : ByteArray := prog_10_method_8_code
def yX8_reaches : MethodName := ⟨RX8, "reaches", "(II)Z"⟩
abbrev cX8_markBehind : ByteArray := prog_10_method_9_code
def yX8_markBehind : MethodName := ⟨RX8, "markBehind", "(I)V"⟩
abbrev cX8_sortTasks : ByteArray := prog_10_method_10_code
def yX8_sortTasks : MethodName := ⟨RX8, "sortTasks", "()V"⟩
abbrev cX8_firstOpen : ByteArray := prog_10_method_11_code
def yX8_firstOpen : MethodName := ⟨RX8, "firstOpen", "()I"⟩
abbrev cX8_clearMarks : ByteArray := prog_10_method_12_code
def yX8_clearMarks : MethodName := ⟨RX8, "clearMarks", "()V"⟩
abbrev cX8_isOpen : ByteArray := prog_10_method_13_code
def yX8_isOpen : MethodName := ⟨RX8, "isOpen", "(I[Z)Z"⟩
abbrev cX8_firstDay : ByteArray := prog_10_method_14_code
def yX8_firstDay : MethodName := ⟨RX8, "firstDay", "(ILSlipwayPlan$Plan;)I"⟩
abbrev cX8_firstDayBy : ByteArray := prog_10_method_15_code
def yX8_firstDayBy : MethodName := ⟨RX8, "firstDayBy", "(LSlipwayPlan$Link;LSlipwayPlan$Plan;)I"⟩
def RX9 : String := "SlipwayPlan$Task"
def TX9 : u_T := fun k => match k with
  | 0 => ("SlipwayPlan$Task", "length", "I", false)
  | 1 => ("SlipwayPlan$Task", "calendar", "I", false)
  | 2 => ("SlipwayPlan$Task", "rank", "I", false)
  | 3 => ("SlipwayPlan$Task", "first", "I", false)
  | 4 => ("SlipwayPlan$Task", "done", "Z", false)
  | 5 => ("SlipwayPlan$Task", "doneBegin", "I", false)
  | 6 => ("SlipwayPlan$Task", "doneEnd", "I", false)
  | _ => ("SlipwayPlan$Task", "needs", "[I", true)
def tyX9 : Nat → FieldType := fun k => match k with
  | 0 => .int
  | 1 => .int
  | 2 => .int
  | 3 => .int
  | 4 => .boolean
  | 5 => .int
  | 6 => .int
  | _ => .array .int
abbrev wsX90 : List Cond := u_ws RX9 TX9 8
theorem nmX9 : ∀ a, a < 8 → ∀ b, b < 8 → a ≠ b → (TX9 a).2.1 ≠ (TX9 b).2.1 := by decide +kernel
theorem tyX9_ok : ∀ k, k < 8 → parseFieldDescriptor (TX9 k).2.2.1 = some (tyX9 k) := by decide +kernel
abbrev cX9_init : ByteArray := prog_11_method_1_code
def yX9_init : MethodName := ⟨RX9, "<init>", "()V"⟩
def RX10 : String := "SlipwayPlan"
def TX10 : u_T := fun k => match k with
  | 0 => ("SlipwayPlan", "project", "LSlipwayPlan$Project;", true)
  | 1 => ("SlipwayPlan", "network", "LSlipwayPlan$Network;", true)
  | 2 => ("SlipwayPlan", "levelling", "LSlipwayPlan$Levelling;", true)
  | 3 => ("SlipwayPlan", "wantedLoad", "LSlipwayPlan$Load;", true)
  | 4 => ("SlipwayPlan", "trialNetwork", "LSlipwayPlan$Network;", true)
  | 5 => ("SlipwayPlan", "trialLevelling", "LSlipwayPlan$Levelling;", true)
  | 6 => ("SlipwayPlan", "kept", "LSlipwayPlan$Kept;", true)
  | _ => ("SlipwayPlan", "stale", "Z", false)
def tyX10 : Nat → FieldType := fun k => match k with
  | 0 => .object "SlipwayPlan$Project"
  | 1 => .object "SlipwayPlan$Network"
  | 2 => .object "SlipwayPlan$Levelling"
  | 3 => .object "SlipwayPlan$Load"
  | 4 => .object "SlipwayPlan$Network"
  | 5 => .object "SlipwayPlan$Levelling"
  | 6 => .object "SlipwayPlan$Kept"
  | _ => .boolean
abbrev wsX100 : List Cond := u_ws RX10 TX10 8
theorem nmX10 : ∀ a, a < 8 → ∀ b, b < 8 → a ≠ b → (TX10 a).2.1 ≠ (TX10 b).2.1 := by decide +kernel
theorem tyX10_ok : ∀ k, k < 8 → parseFieldDescriptor (TX10 k).2.2.1 = some (tyX10 k) := by decide +kernel
abbrev cX10_init : ByteArray := prog_1_method_1_code
def yX10_init : MethodName := ⟨RX10, "<init>", "()V"⟩
abbrev cX10_setWeek : ByteArray := prog_1_method_2_code
def yX10_setWeek : MethodName := ⟨RX10, "setWeek", "(II)I"⟩
abbrev cX10_setFree : ByteArray := prog_1_method_3_code
def yX10_setFree : MethodName := ⟨RX10, "setFree", "(IIZ)Z"⟩
abbrev cX10_setCrew : ByteArray := prog_1_method_4_code
def yX10_setCrew : MethodName := ⟨RX10, "setCrew", "(III)I"⟩
abbrev cX10_addTask : ByteArray := prog_1_method_5_code
def yX10_addTask : MethodName := ⟨RX10, "addTask", "(II)I"⟩
abbrev cX10_setLength : ByteArray := prog_1_method_6_code
def yX10_setLength : MethodName := ⟨RX10, "setLength", "(II)I"⟩
abbrev cX10_setTerms : ByteArray := prog_1_method_7_code
def yX10_setTerms : MethodName := ⟨RX10, "setTerms", "(III)I"⟩
abbrev cX10_setNeed : ByteArray := prog_1_method_8_code
def yX10_setNeed : MethodName := ⟨RX10, "setNeed", "(III)I"⟩
abbrev cX10_link : ByteArray := prog_1_method_9_code
def yX10_link : MethodName := ⟨RX10, "link", "(IIII)I"⟩
abbrev cX10_drop : ByteArray := prog_1_method_10_code
def yX10_drop : MethodName := ⟨RX10, "drop", "(I)I"⟩
abbrev cX10_finish : ByteArray := prog_1_method_11_code
def yX10_finish : MethodName := ⟨RX10, "finish", "(III)Z"⟩
abbrev cX10_reopen : ByteArray := prog_1_method_12_code
def yX10_reopen : MethodName := ⟨RX10, "reopen", "(I)Z"⟩
abbrev cX10_setRule : ByteArray := prog_1_method_13_code
def yX10_setRule : MethodName := ⟨RX10, "setRule", "(I)I"⟩
abbrev cX10_tasks : ByteArray := prog_1_method_14_code
def yX10_tasks : MethodName := ⟨RX10, "tasks", "()I"⟩
abbrev cX10_links : ByteArray := prog_1_method_15_code
def yX10_links : MethodName := ⟨RX10, "links", "()I"⟩
abbrev cX10_works : ByteArray := prog_1_method_16_code
def yX10_works : MethodName := ⟨RX10, "works", "(II)Z"⟩
abbrev cX10_earlyBegin : ByteArray := prog_1_method_17_code
def yX10_earlyBegin : MethodName := ⟨RX10, "earlyBegin", "(I)I"⟩
abbrev cX10_earlyEnd : ByteArray := prog_1_method_18_code
def yX10_earlyEnd : MethodName := ⟨RX10, "earlyEnd", "(I)I"⟩
abbrev cX10_lateBegin : ByteArray := prog_1_method_19_code
def yX10_lateBegin : MethodName := ⟨RX10, "lateBegin", "(I)I"⟩
abbrev cX10_lateEnd : ByteArray := prog_1_method_20_code
def yX10_lateEnd : MethodName := ⟨RX10, "lateEnd", "(I)I"⟩
abbrev cX10_room : ByteArray := prog_1_method_21_code
def yX10_room : MethodName := ⟨RX10, "room", "(I)I"⟩
abbrev cX10_last : ByteArray := prog_1_method_22_code
def yX10_last : MethodName := ⟨RX10, "last", "()I"⟩
abbrev cX10_tight : ByteArray := prog_1_method_23_code
def yX10_tight : MethodName := ⟨RX10, "tight", "()I"⟩
abbrev cX10_wanted : ByteArray := prog_1_method_24_code
def yX10_wanted : MethodName := ⟨RX10, "wanted", "(II)I"⟩
abbrev cX10_overloaded : ByteArray := prog_1_method_25_code
def yX10_overloaded : MethodName := ⟨RX10, "overloaded", "(I)I"⟩
abbrev cX10_begin : ByteArray := prog_1_method_26_code
def yX10_begin : MethodName := ⟨RX10, "begin", "(I)I"⟩
abbrev cX10_end : ByteArray := prog_1_method_27_code
def yX10_end : MethodName := ⟨RX10, "end", "(I)I"⟩
abbrev cX10_levelledLast : ByteArray := prog_1_method_28_code
def yX10_levelledLast : MethodName := ⟨RX10, "levelledLast", "()I"⟩
abbrev cX10_stuck : ByteArray := prog_1_method_29_code
def yX10_stuck : MethodName := ⟨RX10, "stuck", "()I"⟩
abbrev cX10_orderAt : ByteArray := prog_1_method_30_code
def yX10_orderAt : MethodName := ⟨RX10, "orderAt", "(I)I"⟩
abbrev cX10_used : ByteArray := prog_1_method_31_code
def yX10_used : MethodName := ⟨RX10, "used", "(II)I"⟩
abbrev cX10_peak : ByteArray := prog_1_method_32_code
def yX10_peak : MethodName := ⟨RX10, "peak", "(I)I"⟩
abbrev cX10_holds : ByteArray := prog_1_method_33_code
def yX10_holds : MethodName := ⟨RX10, "holds", "(I)I"⟩
abbrev cX10_heldBy : ByteArray := prog_1_method_34_code
def yX10_heldBy : MethodName := ⟨RX10, "heldBy", "(I)I"⟩
abbrev cX10_idle : ByteArray := prog_1_method_35_code
def yX10_idle : MethodName := ⟨RX10, "idle", "(I)I"⟩
abbrev cX10_keep : ByteArray := prog_1_method_36_code
def yX10_keep : MethodName := ⟨RX10, "keep", "()I"⟩
abbrev cX10_behind : ByteArray := prog_1_method_37_code
def yX10_behind : MethodName := ⟨RX10, "behind", "(I)I"⟩
abbrev cX10_planned : ByteArray := prog_1_method_38_code
def yX10_planned : MethodName := ⟨RX10, "planned", "(I)I"⟩
abbrev cX10_earned : ByteArray := prog_1_method_39_code
def yX10_earned : MethodName := ⟨RX10, "earned", "()I"⟩
abbrev cX10_worth : ByteArray := prog_1_method_40_code
def yX10_worth : MethodName := ⟨RX10, "worth", "()I"⟩
abbrev cX10_pace : ByteArray := prog_1_method_41_code
def yX10_pace : MethodName := ⟨RX10, "pace", "(I)D"⟩
abbrev cX10_lastWith : ByteArray := prog_1_method_42_code
def yX10_lastWith : MethodName := ⟨RX10, "lastWith", "(II)I"⟩
abbrev cX10_levelledWith : ByteArray := prog_1_method_43_code
def yX10_levelledWith : MethodName := ⟨RX10, "levelledWith", "(II)I"⟩
abbrev cX10_levelledWithout : ByteArray := prog_1_method_44_code
def yX10_levelledWithout : MethodName := ⟨RX10, "levelledWithout", "(I)I"⟩
abbrev cX10_bestRule : ByteArray := prog_1_method_45_code
def yX10_bestRule : MethodName := ⟨RX10, "bestRule", "()I"⟩
abbrev cX10_couldGrow : ByteArray := prog_1_method_46_code
def yX10_couldGrow : MethodName := ⟨RX10, "couldGrow", "(I)I"⟩
abbrev cX10_digest : ByteArray := prog_1_method_47_code
def yX10_digest : MethodName := ⟨RX10, "digest", "()J"⟩
abbrev cX10_isWithin : ByteArray := prog_1_method_48_code
def yX10_isWithin : MethodName := ⟨RX10, "isWithin", "(II)Z"⟩
abbrev cX10_checkIndex : ByteArray := prog_1_method_49_code
def yX10_checkIndex : MethodName := ⟨RX10, "checkIndex", "(II)V"⟩
abbrev cX10_checkArgument : ByteArray := prog_1_method_50_code
def yX10_checkArgument : MethodName := ⟨RX10, "checkArgument", "(Z)V"⟩
abbrev cX10_checkState : ByteArray := prog_1_method_51_code
def yX10_checkState : MethodName := ⟨RX10, "checkState", "(Z)V"⟩
abbrev cX10_checkCalendar : ByteArray := prog_1_method_52_code
def yX10_checkCalendar : MethodName := ⟨RX10, "checkCalendar", "(I)V"⟩
abbrev cX10_checkCrew : ByteArray := prog_1_method_53_code
def yX10_checkCrew : MethodName := ⟨RX10, "checkCrew", "(I)V"⟩
abbrev cX10_checkAskedDay : ByteArray := prog_1_method_54_code
def yX10_checkAskedDay : MethodName := ⟨RX10, "checkAskedDay", "(I)V"⟩
abbrev cX10_checkTask : ByteArray := prog_1_method_55_code
def yX10_checkTask : MethodName := ⟨RX10, "checkTask", "(I)V"⟩
abbrev cX10_checkLink : ByteArray := prog_1_method_56_code
def yX10_checkLink : MethodName := ⟨RX10, "checkLink", "(I)V"⟩
abbrev cX10_refresh : ByteArray := prog_1_method_57_code
def yX10_refresh : MethodName := ⟨RX10, "refresh", "()V"⟩
abbrev cX10_lastIfLengthWere : ByteArray := prog_1_method_58_code
def yX10_lastIfLengthWere : MethodName := ⟨RX10, "lastIfLengthWere", "(II)I"⟩
def RX11 : String := "SlipwayPlanModel"
def TX11 : u_T := fun k => match k with
  | 0 => ("SlipwayPlanModel", "thrown", "I", false)
  | 1 => ("SlipwayPlanModel", "week", "[I", true)
  | 2 => ("SlipwayPlanModel", "frees", "[I", true)
  | 3 => ("SlipwayPlanModel", "free", "[[I", true)
  | 4 => ("SlipwayPlanModel", "size", "[I", true)
  | 5 => ("SlipwayPlanModel", "price", "[I", true)
  | 6 => ("SlipwayPlanModel", "tasks", "I", false)
  | 7 => ("SlipwayPlanModel", "length", "[I", true)
  | 8 => ("SlipwayPlanModel", "calendar", "[I", true)
  | 9 => ("SlipwayPlanModel", "rank", "[I", true)
  | 10 => ("SlipwayPlanModel", "first", "[I", true)
  | 11 => ("SlipwayPlanModel", "need", "[[I", true)
  | 12 => ("SlipwayPlanModel", "isDone", "[Z", true)
  | 13 => ("SlipwayPlanModel", "own", "[[I", true)
  | 14 => ("SlipwayPlanModel", "links", "I", false)
  | 15 => ("SlipwayPlanModel", "link", "[[I", true)
  | 16 => ("SlipwayPlanModel", "rule", "I", false)
  | 17 => ("SlipwayPlanModel", "isLaid", "Z", false)
  | 18 => ("SlipwayPlanModel", "sorted", "[I", true)
  | 19 => ("SlipwayPlanModel", "early", "[[I", true)
  | 20 => ("SlipwayPlanModel", "late", "[[I", true)
  | 21 => ("SlipwayPlanModel", "room", "[I", true)
  | 22 => ("SlipwayPlanModel", "level", "[[I", true)
  | 23 => ("SlipwayPlanModel", "order", "[I", true)
  | 24 => ("SlipwayPlanModel", "put", "I", false)
  | 25 => ("SlipwayPlanModel", "lastDay", "I", false)
  | 26 => ("SlipwayPlanModel", "levelDay", "I", false)
  | 27 => ("SlipwayPlanModel", "usage", "[[I", true)
  | 28 => ("SlipwayPlanModel", "kept", "I", false)
  | 29 => ("SlipwayPlanModel", "keptDays", "[[I", true)
  | 30 => ("SlipwayPlanModel", "keptWorth", "[I", true)
  | 31 => ("SlipwayPlanModel", "keptWeek", "[I", true)
  | 32 => ("SlipwayPlanModel", "keptFrees", "[I", true)
  | 33 => ("SlipwayPlanModel", "keptFree", "[[I", true)
  | _ => ("SlipwayPlanModel", "sum", "J", false)
def tyX11 : Nat → FieldType := fun k => match k with
  | 0 => .int
  | 1 => .array .int
  | 2 => .array .int
  | 3 => .array (.array .int)
  | 4 => .array .int
  | 5 => .array .int
  | 6 => .int
  | 7 => .array .int
  | 8 => .array .int
  | 9 => .array .int
  | 10 => .array .int
  | 11 => .array (.array .int)
  | 12 => .array .boolean
  | 13 => .array (.array .int)
  | 14 => .int
  | 15 => .array (.array .int)
  | 16 => .int
  | 17 => .boolean
  | 18 => .array .int
  | 19 => .array (.array .int)
  | 20 => .array (.array .int)
  | 21 => .array .int
  | 22 => .array (.array .int)
  | 23 => .array .int
  | 24 => .int
  | 25 => .int
  | 26 => .int
  | 27 => .array (.array .int)
  | 28 => .int
  | 29 => .array (.array .int)
  | 30 => .array .int
  | 31 => .array .int
  | 32 => .array .int
  | 33 => .array (.array .int)
  | _ => .long
abbrev wsX110 : List Cond := u_ws RX11 TX11 35
theorem nmX11 : ∀ a, a < 35 → ∀ b, b < 35 → a ≠ b → (TX11 a).2.1 ≠ (TX11 b).2.1 := by decide +kernel
theorem tyX11_ok : ∀ k, k < 35 → parseFieldDescriptor (TX11 k).2.2.1 = some (tyX11 k) := by decide +kernel
abbrev cX11_init : ByteArray := prog_13_method_1_code
def yX11_init : MethodName := ⟨RX11, "<init>", "()V"⟩
abbrev cX11_thrown : ByteArray := prog_13_method_2_code
def yX11_thrown : MethodName := ⟨RX11, "thrown", "()I"⟩
abbrev cX11_refuse : ByteArray := prog_13_method_3_code
def yX11_refuse : MethodName := ⟨RX11, "refuse", "(I)I"⟩
abbrev cX11_is : ByteArray := prog_13_method_4_code
def yX11_is : MethodName := ⟨RX11, "is", "(III)Z"⟩
abbrev cX11_isCalendar : ByteArray := prog_13_method_5_code
def yX11_isCalendar : MethodName := ⟨RX11, "isCalendar", "(I)Z"⟩
abbrev cX11_isCrew : ByteArray := prog_13_method_6_code
def yX11_isCrew : MethodName := ⟨RX11, "isCrew", "(I)Z"⟩
abbrev cX11_isTask : ByteArray := prog_13_method_7_code
def yX11_isTask : MethodName := ⟨RX11, "isTask", "(I)Z"⟩
abbrev cX11_isLink : ByteArray := prog_13_method_8_code
def yX11_isLink : MethodName := ⟨RX11, "isLink", "(I)Z"⟩
abbrev cX11_freeAt : ByteArray := prog_13_method_9_code
def yX11_freeAt : MethodName := ⟨RX11, "freeAt", "(II)I"⟩
abbrev cX11_worksOn : ByteArray := prog_13_method_10_code
def yX11_worksOn : MethodName := ⟨RX11, "worksOn", "(II)Z"⟩
abbrev cX11_from : ByteArray := prog_13_method_11_code
def yX11_from : MethodName := ⟨RX11, "from", "(II)I"⟩
abbrev cX11_endOf : ByteArray := prog_13_method_12_code
def yX11_endOf : MethodName := ⟨RX11, "endOf", "(II)I"⟩
abbrev cX11_ending : ByteArray := prog_13_method_13_code
def yX11_ending : MethodName := ⟨RX11, "ending", "(III)I"⟩
abbrev cX11_byLink : ByteArray := prog_13_method_14_code
def yX11_byLink : MethodName := ⟨RX11, "byLink", "(I[[II)I"⟩
abbrev cX11_byAll : ByteArray := prog_13_method_15_code
def yX11_byAll : MethodName := ⟨RX11, "byAll", "(I[[I)I"⟩
abbrev cX11_sort : ByteArray := prog_13_method_16_code
def yX11_sort : MethodName := ⟨RX11, "sort", "()V"⟩
abbrev cX11_isFree : ByteArray := prog_13_method_17_code
def yX11_isFree : MethodName := ⟨RX11, "isFree", "(I[Z)Z"⟩
abbrev cX11_layEarly : ByteArray := prog_13_method_18_code
def yX11_layEarly : MethodName := ⟨RX11, "layEarly", "()V"⟩
abbrev cX11_canBeLate : ByteArray := prog_13_method_19_code
def yX11_canBeLate : MethodName := ⟨RX11, "canBeLate", "(II)Z"⟩
abbrev cX11_layLate : ByteArray := prog_13_method_20_code
def yX11_layLate : MethodName := ⟨RX11, "layLate", "()V"⟩
abbrev cX11_isTooMuch : ByteArray := prog_13_method_21_code
def yX11_isTooMuch : MethodName := ⟨RX11, "isTooMuch", "(I)Z"⟩
abbrev cX11_use : ByteArray := prog_13_method_22_code
def yX11_use : MethodName := ⟨RX11, "use", "(III)V"⟩
abbrev cX11_hasCrews : ByteArray := prog_13_method_23_code
def yX11_hasCrews : MethodName := ⟨RX11, "hasCrews", "(II)Z"⟩
abbrev cX11_isBetter : ByteArray := prog_13_method_24_code
def yX11_isBetter : MethodName := ⟨RX11, "isBetter", "(II)Z"⟩
abbrev cX11_place : ByteArray := prog_13_method_25_code
def yX11_place : MethodName := ⟨RX11, "place", "(III)V"⟩
abbrev cX11_layLevelled : ByteArray := prog_13_method_26_code
def yX11_layLevelled : MethodName := ⟨RX11, "layLevelled", "()V"⟩
abbrev cX11_lay : ByteArray := prog_13_method_27_code
def yX11_lay : MethodName := ⟨RX11, "lay", "()V"⟩
abbrev cX11_setWeek : ByteArray := prog_13_method_28_code
def yX11_setWeek : MethodName := ⟨RX11, "setWeek", "(II)I"⟩
abbrev cX11_setFree : ByteArray := prog_13_method_29_code
def yX11_setFree : MethodName := ⟨RX11, "setFree", "(IIZ)Z"⟩
abbrev cX11_setCrew : ByteArray := prog_13_method_30_code
def yX11_setCrew : MethodName := ⟨RX11, "setCrew", "(III)I"⟩
abbrev cX11_addTask : ByteArray := prog_13_method_31_code
def yX11_addTask : MethodName := ⟨RX11, "addTask", "(II)I"⟩
abbrev cX11_setLength : ByteArray := prog_13_method_32_code
def yX11_setLength : MethodName := ⟨RX11, "setLength", "(II)I"⟩
abbrev cX11_setTerms : ByteArray := prog_13_method_33_code
def yX11_setTerms : MethodName := ⟨RX11, "setTerms", "(III)I"⟩
abbrev cX11_setNeed : ByteArray := prog_13_method_34_code
def yX11_setNeed : MethodName := ⟨RX11, "setNeed", "(III)I"⟩
abbrev cX11_comes : ByteArray := prog_13_method_35_code
def yX11_comes : MethodName := ⟨RX11, "comes", "(II)Z"⟩
abbrev cX11_link : ByteArray := prog_13_method_36_code
def yX11_link : MethodName := ⟨RX11, "link", "(IIII)I"⟩
abbrev cX11_take : ByteArray := prog_13_method_37_code
def yX11_take : MethodName := ⟨RX11, "take", "(I)V"⟩
abbrev cX11_drop : ByteArray := prog_13_method_38_code
def yX11_drop : MethodName := ⟨RX11, "drop", "(I)I"⟩
abbrev cX11_finish : ByteArray := prog_13_method_39_code
def yX11_finish : MethodName := ⟨RX11, "finish", "(III)Z"⟩
abbrev cX11_reopen : ByteArray := prog_13_method_40_code
def yX11_reopen : MethodName := ⟨RX11, "reopen", "(I)Z"⟩
abbrev cX11_setRule : ByteArray := prog_13_method_41_code
def yX11_setRule : MethodName := ⟨RX11, "setRule", "(I)I"⟩
abbrev cX11_tasks : ByteArray := prog_13_method_42_code
def yX11_tasks : MethodName := ⟨RX11, "tasks", "()I"⟩
abbrev cX11_links : ByteArray := prog_13_method_43_code
def yX11_links : MethodName := ⟨RX11, "links", "()I"⟩
abbrev cX11_works : ByteArray := prog_13_method_44_code
def yX11_works : MethodName := ⟨RX11, "works", "(II)Z"⟩
abbrev cX11_hasTask : ByteArray := prog_13_method_45_code
def yX11_hasTask : MethodName := ⟨RX11, "hasTask", "(I)Z"⟩
abbrev cX11_earlyBegin : ByteArray := prog_13_method_46_code
def yX11_earlyBegin : MethodName := ⟨RX11, "earlyBegin", "(I)I"⟩
abbrev cX11_earlyEnd : ByteArray := prog_13_method_47_code
def yX11_earlyEnd : MethodName := ⟨RX11, "earlyEnd", "(I)I"⟩
abbrev cX11_lateBegin : ByteArray := prog_13_method_48_code
def yX11_lateBegin : MethodName := ⟨RX11, "lateBegin", "(I)I"⟩
abbrev cX11_lateEnd : ByteArray := prog_13_method_49_code
def yX11_lateEnd : MethodName := ⟨RX11, "lateEnd", "(I)I"⟩
abbrev cX11_room : ByteArray := prog_13_method_50_code
def yX11_room : MethodName := ⟨RX11, "room", "(I)I"⟩
abbrev cX11_last : ByteArray := prog_13_method_51_code
def yX11_last : MethodName := ⟨RX11, "last", "()I"⟩
abbrev cX11_tightNow : ByteArray := prog_13_method_52_code
def yX11_tightNow : MethodName := ⟨RX11, "tightNow", "()I"⟩
abbrev cX11_tight : ByteArray := prog_13_method_53_code
def yX11_tight : MethodName := ⟨RX11, "tight", "()I"⟩
abbrev cX11_wantedOn : ByteArray := prog_13_method_54_code
def yX11_wantedOn : MethodName := ⟨RX11, "wantedOn", "(II)I"⟩
abbrev cX11_wanted : ByteArray := prog_13_method_55_code
def yX11_wanted : MethodName := ⟨RX11, "wanted", "(II)I"⟩
abbrev cX11_overloadedNow : ByteArray := prog_13_method_56_code
def yX11_overloadedNow : MethodName := ⟨RX11, "overloadedNow", "(I)I"⟩
abbrev cX11_overloaded : ByteArray := prog_13_method_57_code
def yX11_overloaded : MethodName := ⟨RX11, "overloaded", "(I)I"⟩
abbrev cX11_begin : ByteArray := prog_13_method_58_code
def yX11_begin : MethodName := ⟨RX11, "begin", "(I)I"⟩
abbrev cX11_end : ByteArray := prog_13_method_59_code
def yX11_end : MethodName := ⟨RX11, "end", "(I)I"⟩
abbrev cX11_levelledLast : ByteArray := prog_13_method_60_code
def yX11_levelledLast : MethodName := ⟨RX11, "levelledLast", "()I"⟩
abbrev cX11_stuck : ByteArray := prog_13_method_61_code
def yX11_stuck : MethodName := ⟨RX11, "stuck", "()I"⟩
abbrev cX11_orderAt : ByteArray := prog_13_method_62_code
def yX11_orderAt : MethodName := ⟨RX11, "orderAt", "(I)I"⟩
abbrev cX11_used : ByteArray := prog_13_method_63_code
def yX11_used : MethodName := ⟨RX11, "used", "(II)I"⟩
abbrev cX11_peakNow : ByteArray := prog_13_method_64_code
def yX11_peakNow : MethodName := ⟨RX11, "peakNow", "(I)I"⟩
abbrev cX11_peak : ByteArray := prog_13_method_65_code
def yX11_peak : MethodName := ⟨RX11, "peak", "(I)I"⟩
abbrev cX11_holdsNow : ByteArray := prog_13_method_66_code
def yX11_holdsNow : MethodName := ⟨RX11, "holdsNow", "(I)I"⟩
abbrev cX11_holder : ByteArray := prog_13_method_67_code
def yX11_holder : MethodName := ⟨RX11, "holder", "(I)I"⟩
abbrev cX11_holds : ByteArray := prog_13_method_68_code
def yX11_holds : MethodName := ⟨RX11, "holds", "(I)I"⟩
abbrev cX11_heldBy : ByteArray := prog_13_method_69_code
def yX11_heldBy : MethodName := ⟨RX11, "heldBy", "(I)I"⟩
abbrev cX11_idleNow : ByteArray := prog_13_method_70_code
def yX11_idleNow : MethodName := ⟨RX11, "idleNow", "(I)I"⟩
abbrev cX11_idle : ByteArray := prog_13_method_71_code
def yX11_idle : MethodName := ⟨RX11, "idle", "(I)I"⟩
abbrev cX11_worthOf : ByteArray := prog_13_method_72_code
def yX11_worthOf : MethodName := ⟨RX11, "worthOf", "(I)I"⟩
abbrev cX11_keep : ByteArray := prog_13_method_73_code
def yX11_keep : MethodName := ⟨RX11, "keep", "()I"⟩
abbrev cX11_isKept : ByteArray := prog_13_method_74_code
def yX11_isKept : MethodName := ⟨RX11, "isKept", "(I)Z"⟩
abbrev cX11_behindNow : ByteArray := prog_13_method_75_code
def yX11_behindNow : MethodName := ⟨RX11, "behindNow", "(I)I"⟩
abbrev cX11_behind : ByteArray := prog_13_method_76_code
def yX11_behind : MethodName := ⟨RX11, "behind", "(I)I"⟩
abbrev cX11_worked : ByteArray := prog_13_method_77_code
def yX11_worked : MethodName := ⟨RX11, "worked", "(II)Z"⟩
abbrev cX11_plannedNow : ByteArray := prog_13_method_78_code
def yX11_plannedNow : MethodName := ⟨RX11, "plannedNow", "(I)I"⟩
abbrev cX11_planned : ByteArray := prog_13_method_79_code
def yX11_planned : MethodName := ⟨RX11, "planned", "(I)I"⟩
abbrev cX11_earnedNow : ByteArray := prog_13_method_80_code
def yX11_earnedNow : MethodName := ⟨RX11, "earnedNow", "()I"⟩
abbrev cX11_earned : ByteArray := prog_13_method_81_code
def yX11_earned : MethodName := ⟨RX11, "earned", "()I"⟩
abbrev cX11_worthNow : ByteArray := prog_13_method_82_code
def yX11_worthNow : MethodName := ⟨RX11, "worthNow", "()I"⟩
abbrev cX11_worth : ByteArray := prog_13_method_83_code
def yX11_worth : MethodName := ⟨RX11, "worth", "()I"⟩
abbrev cX11_pace : ByteArray := prog_13_method_84_code
def yX11_pace : MethodName := ⟨RX11, "pace", "(I)D"⟩
abbrev cX11_relaid : ByteArray := prog_13_method_85_code
def yX11_relaid : MethodName := ⟨RX11, "relaid", "(Z)I"⟩
abbrev cX11_lastWith : ByteArray := prog_13_method_86_code
def yX11_lastWith : MethodName := ⟨RX11, "lastWith", "(II)I"⟩
abbrev cX11_levelledWith : ByteArray := prog_13_method_87_code
def yX11_levelledWith : MethodName := ⟨RX11, "levelledWith", "(II)I"⟩
abbrev cX11_levelledWithout : ByteArray := prog_13_method_88_code
def yX11_levelledWithout : MethodName := ⟨RX11, "levelledWithout", "(I)I"⟩
abbrev cX11_bestRule : ByteArray := prog_13_method_89_code
def yX11_bestRule : MethodName := ⟨RX11, "bestRule", "()I"⟩
abbrev cX11_couldGrow : ByteArray := prog_13_method_90_code
def yX11_couldGrow : MethodName := ⟨RX11, "couldGrow", "(I)I"⟩
abbrev cX11_add : ByteArray := prog_13_method_91_code
def yX11_add : MethodName := ⟨RX11, "add", "(I)V"⟩
abbrev cX11_digest : ByteArray := prog_13_method_92_code
def yX11_digest : MethodName := ⟨RX11, "digest", "()J"⟩
def RL : String := "SlipwayPlanLaw"
abbrev cL_setWeek : ByteArray := method_3_code
def yL_setWeek : MethodName := ⟨RL, "setWeek", "(LSlipwayPlan;II[J)I"⟩
abbrev cL_setFree : ByteArray := method_4_code
def yL_setFree : MethodName := ⟨RL, "setFree", "(LSlipwayPlan;IIZ[J)I"⟩
abbrev cL_setCrew : ByteArray := method_5_code
def yL_setCrew : MethodName := ⟨RL, "setCrew", "(LSlipwayPlan;III[J)I"⟩
abbrev cL_addTask : ByteArray := method_6_code
def yL_addTask : MethodName := ⟨RL, "addTask", "(LSlipwayPlan;II[J)I"⟩
abbrev cL_setLength : ByteArray := method_7_code
def yL_setLength : MethodName := ⟨RL, "setLength", "(LSlipwayPlan;II[J)I"⟩
abbrev cL_setTerms : ByteArray := method_8_code
def yL_setTerms : MethodName := ⟨RL, "setTerms", "(LSlipwayPlan;III[J)I"⟩
abbrev cL_setNeed : ByteArray := method_9_code
def yL_setNeed : MethodName := ⟨RL, "setNeed", "(LSlipwayPlan;III[J)I"⟩
abbrev cL_link : ByteArray := method_10_code
def yL_link : MethodName := ⟨RL, "link", "(LSlipwayPlan;IIII[J)I"⟩
abbrev cL_drop : ByteArray := method_11_code
def yL_drop : MethodName := ⟨RL, "drop", "(LSlipwayPlan;I[J)I"⟩
abbrev cL_finish : ByteArray := method_12_code
def yL_finish : MethodName := ⟨RL, "finish", "(LSlipwayPlan;III[J)I"⟩
abbrev cL_reopen : ByteArray := method_13_code
def yL_reopen : MethodName := ⟨RL, "reopen", "(LSlipwayPlan;I[J)I"⟩
abbrev cL_setRule : ByteArray := method_14_code
def yL_setRule : MethodName := ⟨RL, "setRule", "(LSlipwayPlan;I[J)I"⟩
abbrev cL_works : ByteArray := method_15_code
def yL_works : MethodName := ⟨RL, "works", "(LSlipwayPlan;II[J)I"⟩
abbrev cL_earlyBegin : ByteArray := method_16_code
def yL_earlyBegin : MethodName := ⟨RL, "earlyBegin", "(LSlipwayPlan;I[J)I"⟩
abbrev cL_earlyEnd : ByteArray := method_17_code
def yL_earlyEnd : MethodName := ⟨RL, "earlyEnd", "(LSlipwayPlan;I[J)I"⟩
abbrev cL_lateBegin : ByteArray := method_18_code
def yL_lateBegin : MethodName := ⟨RL, "lateBegin", "(LSlipwayPlan;I[J)I"⟩
abbrev cL_lateEnd : ByteArray := method_19_code
def yL_lateEnd : MethodName := ⟨RL, "lateEnd", "(LSlipwayPlan;I[J)I"⟩
abbrev cL_room : ByteArray := method_20_code
def yL_room : MethodName := ⟨RL, "room", "(LSlipwayPlan;I[J)I"⟩
abbrev cL_wanted : ByteArray := method_21_code
def yL_wanted : MethodName := ⟨RL, "wanted", "(LSlipwayPlan;II[J)I"⟩
abbrev cL_overloaded : ByteArray := method_22_code
def yL_overloaded : MethodName := ⟨RL, "overloaded", "(LSlipwayPlan;I[J)I"⟩
abbrev cL_begin : ByteArray := method_23_code
def yL_begin : MethodName := ⟨RL, "begin", "(LSlipwayPlan;I[J)I"⟩
abbrev cL_end : ByteArray := method_24_code
def yL_end : MethodName := ⟨RL, "end", "(LSlipwayPlan;I[J)I"⟩
abbrev cL_orderAt : ByteArray := method_25_code
def yL_orderAt : MethodName := ⟨RL, "orderAt", "(LSlipwayPlan;I[J)I"⟩
abbrev cL_used : ByteArray := method_26_code
def yL_used : MethodName := ⟨RL, "used", "(LSlipwayPlan;II[J)I"⟩
abbrev cL_peak : ByteArray := method_27_code
def yL_peak : MethodName := ⟨RL, "peak", "(LSlipwayPlan;I[J)I"⟩
abbrev cL_holds : ByteArray := method_28_code
def yL_holds : MethodName := ⟨RL, "holds", "(LSlipwayPlan;I[J)I"⟩
abbrev cL_heldBy : ByteArray := method_29_code
def yL_heldBy : MethodName := ⟨RL, "heldBy", "(LSlipwayPlan;I[J)I"⟩
abbrev cL_idle : ByteArray := method_30_code
def yL_idle : MethodName := ⟨RL, "idle", "(LSlipwayPlan;I[J)I"⟩
abbrev cL_behind : ByteArray := method_31_code
def yL_behind : MethodName := ⟨RL, "behind", "(LSlipwayPlan;I[J)I"⟩
abbrev cL_planned : ByteArray := method_32_code
def yL_planned : MethodName := ⟨RL, "planned", "(LSlipwayPlan;I[J)I"⟩
abbrev cL_pace : ByteArray := method_33_code
def yL_pace : MethodName := ⟨RL, "pace", "(LSlipwayPlan;I[D)I"⟩
abbrev cL_lastWith : ByteArray := method_34_code
def yL_lastWith : MethodName := ⟨RL, "lastWith", "(LSlipwayPlan;II[J)I"⟩
abbrev cL_levelledWith : ByteArray := method_35_code
def yL_levelledWith : MethodName := ⟨RL, "levelledWith", "(LSlipwayPlan;II[J)I"⟩
abbrev cL_levelledWithout : ByteArray := method_36_code
def yL_levelledWithout : MethodName := ⟨RL, "levelledWithout", "(LSlipwayPlan;I[J)I"⟩
abbrev cL_couldGrow : ByteArray := method_37_code
def yL_couldGrow : MethodName := ⟨RL, "couldGrow", "(LSlipwayPlan;I[J)I"⟩
abbrev cL_law : ByteArray := code
def yL_law : MethodName := ⟨RL, "law", "([I)Z"⟩
