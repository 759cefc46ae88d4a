-- ===== PART A: goes FIRST, ahead of the names: the tables' words, and 'selects' of the private methods out of them =====
/-- a private method of a class that the tables say can be made, by its rows of tables_1 -/
def lw_okq (q : MethodName × Nat) : Prop := (q.1.cls ≠ "java/lang/invoke/MethodHandle" ∧ q.1.cls ≠ "java/lang/invoke/VarHandle") ∧ Cond.instantiable q.1.cls q.2 ∈ tables_1 ∧ Cond.privateMethod q.1 ∈ tables_1 ∧ Cond.instanceMethod q.1 ∈ tables_1
theorem lw_p0 : lw_okq (⟨"SlipwayPlan", "refresh", "()V"⟩, 8) := ⟨⟨by decide +kernel, by decide +kernel⟩, List.mem_of_getElem? (i := 32) (by decide +kernel), List.mem_of_getElem? (i := 364) (by decide +kernel), List.mem_of_getElem? (i := 365) (by decide +kernel)⟩
theorem lw_p1 : lw_okq (⟨"SlipwayPlan$Network", "latestDay", "(I)I"⟩, 5) := ⟨⟨by decide +kernel, by decide +kernel⟩, List.mem_of_getElem? (i := 207) (by decide +kernel), List.mem_of_getElem? (i := 422) (by decide +kernel), List.mem_of_getElem? (i := 423) (by decide +kernel)⟩
theorem lw_p2 : lw_okq (⟨"SlipwayPlan$Network", "roomUpTo", "(II)I"⟩, 5) := ⟨⟨by decide +kernel, by decide +kernel⟩, List.mem_of_getElem? (i := 207) (by decide +kernel), List.mem_of_getElem? (i := 434) (by decide +kernel), List.mem_of_getElem? (i := 435) (by decide +kernel)⟩
theorem lw_p3 : lw_okq (⟨"java/lang/Throwable", "fillInStackTrace", "(I)Ljava/lang/Throwable;"⟩, 6) := ⟨⟨by decide +kernel, by decide +kernel⟩, List.mem_of_getElem? (i := 493) (by decide +kernel), List.mem_of_getElem? (i := 491) (by decide +kernel), List.mem_of_getElem? (i := 492) (by decide +kernel)⟩
theorem lw_p4 : lw_okq (⟨"SlipwayPlan$Levelling", "clear", "()V"⟩, 7) := ⟨⟨by decide +kernel, by decide +kernel⟩, List.mem_of_getElem? (i := 255) (by decide +kernel), List.mem_of_getElem? (i := 770) (by decide +kernel), List.mem_of_getElem? (i := 771) (by decide +kernel)⟩
theorem lw_p5 : lw_okq (⟨"SlipwayPlan$Levelling", "putIn", "(III)V"⟩, 7) := ⟨⟨by decide +kernel, by decide +kernel⟩, List.mem_of_getElem? (i := 255) (by decide +kernel), List.mem_of_getElem? (i := 776) (by decide +kernel), List.mem_of_getElem? (i := 777) (by decide +kernel)⟩
theorem lw_p6 : lw_okq (⟨"SlipwayPlan$Levelling", "choose", "(LSlipwayPlan$Network;I)I"⟩, 7) := ⟨⟨by decide +kernel, by decide +kernel⟩, List.mem_of_getElem? (i := 255) (by decide +kernel), List.mem_of_getElem? (i := 783) (by decide +kernel), List.mem_of_getElem? (i := 784) (by decide +kernel)⟩
theorem lw_p7 : lw_okq (⟨"SlipwayPlan$Levelling", "isTooLarge", "(I)Z"⟩, 7) := ⟨⟨by decide +kernel, by decide +kernel⟩, List.mem_of_getElem? (i := 255) (by decide +kernel), List.mem_of_getElem? (i := 787) (by decide +kernel), List.mem_of_getElem? (i := 788) (by decide +kernel)⟩
theorem lw_p8 : lw_okq (⟨"SlipwayPlan$Levelling", "keyOf", "(ILSlipwayPlan$Network;I)I"⟩, 7) := ⟨⟨by decide +kernel, by decide +kernel⟩, List.mem_of_getElem? (i := 255) (by decide +kernel), List.mem_of_getElem? (i := 795) (by decide +kernel), List.mem_of_getElem? (i := 796) (by decide +kernel)⟩
theorem lw_p9 : lw_okq (⟨"SlipwayPlan$Levelling", "firstWithCrews", "(II)I"⟩, 7) := ⟨⟨by decide +kernel, by decide +kernel⟩, List.mem_of_getElem? (i := 255) (by decide +kernel), List.mem_of_getElem? (i := 800) (by decide +kernel), List.mem_of_getElem? (i := 801) (by decide +kernel)⟩
theorem lw_p10 : lw_okq (⟨"SlipwayPlan$Levelling", "crewsSuffice", "(LSlipwayPlan$Task;I)Z"⟩, 7) := ⟨⟨by decide +kernel, by decide +kernel⟩, List.mem_of_getElem? (i := 255) (by decide +kernel), List.mem_of_getElem? (i := 805) (by decide +kernel), List.mem_of_getElem? (i := 806) (by decide +kernel)⟩
theorem lw_p11 : lw_okq (⟨"SlipwayPlan$Kept", "partUpTo", "(II)I"⟩, 5) := ⟨⟨by decide +kernel, by decide +kernel⟩, List.mem_of_getElem? (i := 309) (by decide +kernel), List.mem_of_getElem? (i := 870) (by decide +kernel), List.mem_of_getElem? (i := 871) (by decide +kernel)⟩
theorem lw_p12 : lw_okq (⟨"SlipwayPlan", "checkTask", "(I)V"⟩, 8) := ⟨⟨by decide +kernel, by decide +kernel⟩, List.mem_of_getElem? (i := 32) (by decide +kernel), List.mem_of_getElem? (i := 964) (by decide +kernel), List.mem_of_getElem? (i := 965) (by decide +kernel)⟩
theorem lw_p13 : lw_okq (⟨"SlipwayPlan", "checkLink", "(I)V"⟩, 8) := ⟨⟨by decide +kernel, by decide +kernel⟩, List.mem_of_getElem? (i := 32) (by decide +kernel), List.mem_of_getElem? (i := 1001) (by decide +kernel), List.mem_of_getElem? (i := 1002) (by decide +kernel)⟩
def lw_privs_1 : List (MethodName × Nat) := [(⟨"SlipwayPlan", "refresh", "()V"⟩, 8), (⟨"SlipwayPlan$Network", "latestDay", "(I)I"⟩, 5), (⟨"SlipwayPlan$Network", "roomUpTo", "(II)I"⟩, 5), (⟨"java/lang/Throwable", "fillInStackTrace", "(I)Ljava/lang/Throwable;"⟩, 6), (⟨"SlipwayPlan$Levelling", "clear", "()V"⟩, 7), (⟨"SlipwayPlan$Levelling", "putIn", "(III)V"⟩, 7), (⟨"SlipwayPlan$Levelling", "choose", "(LSlipwayPlan$Network;I)I"⟩, 7), (⟨"SlipwayPlan$Levelling", "isTooLarge", "(I)Z"⟩, 7), (⟨"SlipwayPlan$Levelling", "keyOf", "(ILSlipwayPlan$Network;I)I"⟩, 7), (⟨"SlipwayPlan$Levelling", "firstWithCrews", "(II)I"⟩, 7), (⟨"SlipwayPlan$Levelling", "crewsSuffice", "(LSlipwayPlan$Task;I)Z"⟩, 7), (⟨"SlipwayPlan$Kept", "partUpTo", "(II)I"⟩, 5), (⟨"SlipwayPlan", "checkTask", "(I)V"⟩, 8), (⟨"SlipwayPlan", "checkLink", "(I)V"⟩, 8)]
theorem lw_r1 : ∀ q ∈ lw_privs_1, lw_okq q := List.forall_mem_cons.mpr ⟨lw_p0, List.forall_mem_cons.mpr ⟨lw_p1, List.forall_mem_cons.mpr ⟨lw_p2, List.forall_mem_cons.mpr ⟨lw_p3, List.forall_mem_cons.mpr ⟨lw_p4, List.forall_mem_cons.mpr ⟨lw_p5, List.forall_mem_cons.mpr ⟨lw_p6, List.forall_mem_cons.mpr ⟨lw_p7, List.forall_mem_cons.mpr ⟨lw_p8, List.forall_mem_cons.mpr ⟨lw_p9, List.forall_mem_cons.mpr ⟨lw_p10, List.forall_mem_cons.mpr ⟨lw_p11, List.forall_mem_cons.mpr ⟨lw_p12, List.forall_mem_cons.mpr ⟨lw_p13, fun _ h => absurd h List.not_mem_nil⟩⟩⟩⟩⟩⟩⟩⟩⟩⟩⟩⟩⟩⟩
def lw_privs : List (MethodName × Nat) := lw_privs_1
def lw_tbl : List Cond := k2_sels lw_privs ++ tables_1
theorem lw_privs_ok : ∀ q ∈ lw_privs, lw_okq q := lw_r1
def RX0 : String := "SlipwayPlan$Calendar"
def TX0 : u_T := fun k => match k with
  | 0 => ("SlipwayPlan$Calendar", "weekdays", "I", false)
  | 1 => ("SlipwayPlan$Calendar", "freeCount", "I", false)
  | _ => ("SlipwayPlan$Calendar", "free", "[Z", true)
def tyX0 : Nat → FieldType := fun k => match k with
  | 0 => .int
  | 1 => .int
  | _ => .array .boolean
abbrev wsX00 : List Cond := u_ws RX0 TX0 3
theorem nmX0 : ∀ a, a < 3 → ∀ b, b < 3 → a ≠ b → (TX0 a).2.1 ≠ (TX0 b).2.1 := by decide +kernel
theorem tyX0_ok : ∀ k, k < 3 → parseFieldDescriptor (TX0 k).2.2.1 = some (tyX0 k) := by decide +kernel
abbrev cX0_init : ByteArray := prog_2_method_1_code
def yX0_init : MethodName := ⟨RX0, "<init>", "()V"⟩
abbrev cX0_copyFrom : ByteArray := prog_2_method_3_code
def yX0_copyFrom : MethodName := ⟨RX0, "copyFrom", "(LSlipwayPlan$Calendar;)V"⟩
abbrev cX0_worksOn : ByteArray := prog_2_method_4_code
def yX0_worksOn : MethodName := ⟨RX0, "worksOn", "(I)Z"⟩
abbrev cX0_firstFrom : ByteArray := prog_2_method_5_code
def yX0_firstFrom : MethodName := ⟨RX0, "firstFrom", "(I)I"⟩
abbrev cX0_countBack : ByteArray := prog_2_method_6_code
def yX0_countBack : MethodName := ⟨RX0, "countBack", "(II)I"⟩
abbrev cX0_countWithin : ByteArray := prog_2_method_7_code
def yX0_countWithin : MethodName := ⟨RX0, "countWithin", "(II)I"⟩
abbrev cX0_endOf : ByteArray := prog_2_method_8_code
def yX0_endOf : MethodName := ⟨RX0, "endOf", "(II)I"⟩
abbrev cX0_firstBegin : ByteArray := prog_2_method_9_code
def yX0_firstBegin : MethodName := ⟨RX0, "firstBegin", "(III)I"⟩
abbrev cX0_latestBegin : ByteArray := prog_2_method_10_code
def yX0_latestBegin : MethodName := ⟨RX0, "latestBegin", "(III)I"⟩
def RX1 : String := "SlipwayPlan$Crew"
def TX1 : u_T := fun k => match k with
  | 0 => ("SlipwayPlan$Crew", "size", "I", false)
  | _ => ("SlipwayPlan$Crew", "price", "I", false)
def tyX1 : Nat → FieldType := fun k => match k with
  | 0 => .int
  | _ => .int
abbrev wsX10 : List Cond := u_ws RX1 TX1 2
theorem nmX1 : ∀ a, a < 2 → ∀ b, b < 2 → a ≠ b → (TX1 a).2.1 ≠ (TX1 b).2.1 := by decide +kernel
theorem tyX1_ok : ∀ k, k < 2 → parseFieldDescriptor (TX1 k).2.2.1 = some (tyX1 k) := by decide +kernel
abbrev cX1_init : ByteArray := prog_3_method_1_code
def yX1_init : MethodName := ⟨RX1, "<init>", "()V"⟩
def RX2 : String := "SlipwayPlan$Kept"
def TX2 : u_T := fun k => match k with
  | 0 => ("SlipwayPlan$Kept", "project", "LSlipwayPlan$Project;", true)
  | 1 => ("SlipwayPlan$Kept", "plan", "LSlipwayPlan$Plan;", true)
  | 2 => ("SlipwayPlan$Kept", "in", "[Z", true)
  | 3 => ("SlipwayPlan$Kept", "worths", "[I", true)
  | _ => ("SlipwayPlan$Kept", "calendars", "[LSlipwayPlan$Calendar;", true)
def tyX2 : Nat → FieldType := fun k => match k with
  | 0 => .object "SlipwayPlan$Project"
  | 1 => .object "SlipwayPlan$Plan"
  | 2 => .array .boolean
  | 3 => .array .int
  | _ => .array (.object "SlipwayPlan$Calendar")
abbrev wsX20 : List Cond := u_ws RX2 TX2 5
theorem nmX2 : ∀ a, a < 5 → ∀ b, b < 5 → a ≠ b → (TX2 a).2.1 ≠ (TX2 b).2.1 := by decide +kernel
theorem tyX2_ok : ∀ k, k < 5 → parseFieldDescriptor (TX2 k).2.2.1 = some (tyX2 k) := by decide +kernel
abbrev cX2_init : ByteArray := prog_4_method_1_code
def yX2_init : MethodName := ⟨RX2, "<init>", "(LSlipwayPlan$Project;)V"⟩
abbrev cX2_take : ByteArray := prog_4_method_2_code
def yX2_take : MethodName := ⟨RX2, "take", "(LSlipwayPlan$Levelling;)V"⟩
abbrev cX2_delayOf : ByteArray := prog_4_method_3_code
def yX2_delayOf : MethodName := ⟨RX2, "delayOf", "(ILSlipwayPlan$Levelling;)I"⟩
abbrev cX2_plannedUpTo : ByteArray := prog_4_method_4_code
def yX2_plannedUpTo : MethodName := ⟨RX2, "plannedUpTo", "(I)I"⟩
abbrev cX2_partUpTo : ByteArray := prog_4_method_5_code
def yX2_partUpTo : MethodName := ⟨RX2, "partUpTo", "(II)I"⟩
abbrev cX2_earnedNow : ByteArray := prog_4_method_6_code
def yX2_earnedNow : MethodName := ⟨RX2, "earnedNow", "()I"⟩
def RX3 : String := "SlipwayPlan$Levelling"
def TX3 : u_T := fun k => match k with
  | 0 => ("SlipwayPlan$Levelling", "project", "LSlipwayPlan$Project;", true)
  | 1 => ("SlipwayPlan$Levelling", "plan", "LSlipwayPlan$Plan;", true)
  | 2 => ("SlipwayPlan$Levelling", "load", "LSlipwayPlan$Load;", true)
  | 3 => ("SlipwayPlan$Levelling", "in", "[Z", true)
  | 4 => ("SlipwayPlan$Levelling", "order", "[I", true)
  | 5 => ("SlipwayPlan$Levelling", "count", "I", false)
  | _ => ("SlipwayPlan$Levelling", "lastDay", "I", false)
def tyX3 : Nat → FieldType := fun k => match k with
  | 0 => .object "SlipwayPlan$Project"
  | 1 => .object "SlipwayPlan$Plan"
  | 2 => .object "SlipwayPlan$Load"
  | 3 => .array .boolean
  | 4 => .array .int
  | 5 => .int
  | _ => .int
abbrev wsX30 : List Cond := u_ws RX3 TX3 7
theorem nmX3 : ∀ a, a < 7 → ∀ b, b < 7 → a ≠ b → (TX3 a).2.1 ≠ (TX3 b).2.1 := by decide +kernel
theorem tyX3_ok : ∀ k, k < 7 → parseFieldDescriptor (TX3 k).2.2.1 = some (tyX3 k) := by decide +kernel
abbrev cX3_init : ByteArray := prog_5_method_1_code
def yX3_init : MethodName := ⟨RX3, "<init>", "(LSlipwayPlan$Project;)V"⟩
abbrev cX3_reckon : ByteArray := prog_5_method_2_code
def yX3_reckon : MethodName := ⟨RX3, "reckon", "(LSlipwayPlan$Network;I)V"⟩
abbrev cX3_clear : ByteArray := prog_5_method_3_code
def yX3_clear : MethodName := ⟨RX3, "clear", "()V"⟩
abbrev cX3_putIn : ByteArray := prog_5_method_4_code
def yX3_putIn : MethodName := ⟨RX3, "putIn", "(III)V"⟩
abbrev cX3_choose : ByteArray := prog_5_method_5_code
def yX3_choose : MethodName := ⟨RX3, "choose", "(LSlipwayPlan$Network;I)I"⟩
abbrev cX3_keyOf : ByteArray := prog_5_method_6_code
def yX3_keyOf : MethodName := ⟨RX3, "keyOf", "(ILSlipwayPlan$Network;I)I"⟩
abbrev cX3_isTooLarge : ByteArray := prog_5_method_7_code
def yX3_isTooLarge : MethodName := ⟨RX3, "isTooLarge", "(I)Z"⟩
abbrev cX3_firstWithCrews : ByteArray := prog_5_method_8_code
def yX3_firstWithCrews : MethodName := ⟨RX3, "firstWithCrews", "(II)I"⟩
abbrev cX3_crewsSuffice : ByteArray := prog_5_method_9_code
def yX3_crewsSuffice : MethodName := ⟨RX3, "crewsSuffice", "(LSlipwayPlan$Task;I)Z"⟩
abbrev cX3_holdOf : ByteArray := prog_5_method_10_code
def yX3_holdOf : MethodName := ⟨RX3, "holdOf", "(I)I"⟩
abbrev cX3_linkThatHolds : ByteArray := prog_5_method_11_code
def yX3_linkThatHolds : MethodName := ⟨RX3, "linkThatHolds", "(I)I"⟩
def RX4 : String := "SlipwayPlan$Link"
def TX4 : u_T := fun k => match k with
  | 0 => ("SlipwayPlan$Link", "from", "I", false)
  | 1 => ("SlipwayPlan$Link", "to", "I", false)
  | 2 => ("SlipwayPlan$Link", "kind", "I", false)
  | _ => ("SlipwayPlan$Link", "lag", "I", false)
def tyX4 : Nat → FieldType := fun k => match k with
  | 0 => .int
  | 1 => .int
  | 2 => .int
  | _ => .int
abbrev wsX40 : List Cond := u_ws RX4 TX4 4
theorem nmX4 : ∀ a, a < 4 → ∀ b, b < 4 → a ≠ b → (TX4 a).2.1 ≠ (TX4 b).2.1 := by decide +kernel
theorem tyX4_ok : ∀ k, k < 4 → parseFieldDescriptor (TX4 k).2.2.1 = some (tyX4 k) := by decide +kernel
abbrev cX4_init : ByteArray := prog_6_method_1_code
def yX4_init : MethodName := ⟨RX4, "<init>", "()V"⟩
def RX5 : String := "SlipwayPlan$Load"
def TX5 : u_T := fun k => match k with
  | 0 => ("SlipwayPlan$Load", "hands", "[[I", true)
  | _ => ("SlipwayPlan$Load", "upTo", "I", false)
def tyX5 : Nat → FieldType := fun k => match k with
  | 0 => .array (.array .int)
  | _ => .int
abbrev wsX50 : List Cond := u_ws RX5 TX5 2
theorem nmX5 : ∀ a, a < 2 → ∀ b, b < 2 → a ≠ b → (TX5 a).2.1 ≠ (TX5 b).2.1 := by decide +kernel
theorem tyX5_ok : ∀ k, k < 2 → parseFieldDescriptor (TX5 k).2.2.1 = some (tyX5 k) := by decide +kernel
abbrev cX5_init : ByteArray := prog_7_method_1_code
def yX5_init : MethodName := ⟨RX5, "<init>", "()V"⟩
abbrev cX5_clear : ByteArray := prog_7_method_2_code
def yX5_clear : MethodName := ⟨RX5, "clear", "()V"⟩
abbrev cX5_add : ByteArray := prog_7_method_3_code
def yX5_add : MethodName := ⟨RX5, "add", "(LSlipwayPlan$Task;LSlipwayPlan$Calendar;II)V"⟩
abbrev cX5_on : ByteArray := prog_7_method_4_code
def yX5_on : MethodName := ⟨RX5, "on", "(II)I"⟩
abbrev cX5_daysAbove : ByteArray := prog_7_method_5_code
def yX5_daysAbove : MethodName := ⟨RX5, "daysAbove", "(II)I"⟩
abbrev cX5_greatest : ByteArray := prog_7_method_6_code
def yX5_greatest : MethodName := ⟨RX5, "greatest", "(I)I"⟩
abbrev cX5_leftOver : ByteArray := prog_7_method_7_code
def yX5_leftOver : MethodName := ⟨RX5, "leftOver", "(III)I"⟩
def RX6 : String := "SlipwayPlan$Network"
def TX6 : u_T := fun k => match k with
  | 0 => ("SlipwayPlan$Network", "project", "LSlipwayPlan$Project;", true)
  | 1 => ("SlipwayPlan$Network", "early", "LSlipwayPlan$Plan;", true)
  | 2 => ("SlipwayPlan$Network", "late", "LSlipwayPlan$Plan;", true)
  | 3 => ("SlipwayPlan$Network", "rooms", "[I", true)
  | _ => ("SlipwayPlan$Network", "lastDay", "I", false)
def tyX6 : Nat → FieldType := fun k => match k with
  | 0 => .object "SlipwayPlan$Project"
  | 1 => .object "SlipwayPlan$Plan"
  | 2 => .object "SlipwayPlan$Plan"
  | 3 => .array .int
  | _ => .int
abbrev wsX60 : List Cond := u_ws RX6 TX6 5
theorem nmX6 : ∀ a, a < 5 → ∀ b, b < 5 → a ≠ b → (TX6 a).2.1 ≠ (TX6 b).2.1 := by decide +kernel
theorem tyX6_ok : ∀ k, k < 5 → parseFieldDescriptor (TX6 k).2.2.1 = some (tyX6 k) := by decide +kernel
abbrev cX6_init : ByteArray := prog_8_method_1_code
def yX6_init : MethodName := ⟨RX6, "<init>", "(LSlipwayPlan$Project;)V"⟩
abbrev cX6_reckonEarly : ByteArray := prog_8_method_2_code
def yX6_reckonEarly : MethodName := ⟨RX6, "reckonEarly", "()V"⟩
abbrev cX6_reckonLate : ByteArray := prog_8_method_3_code
def yX6_reckonLate : MethodName := ⟨RX6, "reckonLate", "()V"⟩
abbrev cX6_latestDay : ByteArray := prog_8_method_4_code
def yX6_latestDay : MethodName := ⟨RX6, "latestDay", "(I)I"⟩
abbrev cX6_roomUpTo : ByteArray := prog_8_method_5_code
def yX6_roomUpTo : MethodName := ⟨RX6, "roomUpTo", "(II)I"⟩
abbrev cX6_countTight : ByteArray := prog_8_method_6_code
def yX6_countTight : MethodName := ⟨RX6, "countTight", "()I"⟩
def RX7 : String := "SlipwayPlan$Plan"
def TX7 : u_T := fun k => match k with
  | 0 => ("SlipwayPlan$Plan", "begins", "[I", true)
  | _ => ("SlipwayPlan$Plan", "ends", "[I", true)
def tyX7 : Nat → FieldType := fun k => match k with
  | 0 => .array .int
  | _ => .array .int
abbrev wsX70 : List Cond := u_ws RX7 TX7 2
theorem nmX7 : ∀ a, a < 2 → ∀ b, b < 2 → a ≠ b → (TX7 a).2.1 ≠ (TX7 b).2.1 := by decide +kernel
theorem tyX7_ok : ∀ k, k < 2 → parseFieldDescriptor (TX7 k).2.2.1 = some (tyX7 k) := by decide +kernel
abbrev cX7_init : ByteArray := prog_9_method_1_code
def yX7_init : MethodName := ⟨RX7, "<init>", "()V"⟩
abbrev cX7_set : ByteArray := prog_9_method_2_code
def yX7_set : MethodName := ⟨RX7, "set", "(III)V"⟩
abbrev cX7_beginAsked : ByteArray := prog_9_method_3_code
def yX7_beginAsked : MethodName := ⟨RX7, "beginAsked", "(LSlipwayPlan$Link;)I"⟩
abbrev cX7_endAsked : ByteArray := prog_9_method_4_code
def yX7_endAsked : MethodName := ⟨RX7, "endAsked", "(LSlipwayPlan$Link;)I"⟩
def RX8 : String := "SlipwayPlan$Project"
def TX8 : u_T := fun k => match k with
  | 0 => ("SlipwayPlan$Project", "calendars", "[LSlipwayPlan$Calendar;", true)
  | 1 => ("SlipwayPlan$Project", "crews", "[LSlipwayPlan$Crew;", true)
  | 2 => ("SlipwayPlan$Project", "tasks", "[LSlipwayPlan$Task;", true)
  | 3 => ("SlipwayPlan$Project", "links", "[LSlipwayPlan$Link;", true)
  | 4 => ("SlipwayPlan$Project", "taskCount", "I", false)
  | 5 => ("SlipwayPlan$Project", "linkCount", "I", false)
  | 6 => ("SlipwayPlan$Project", "rule", "I", false)
  | 7 => ("SlipwayPlan$Project", "sorted", "[I", true)
  | _ => ("SlipwayPlan$Project", "marks", "[Z", true)
def tyX8 : Nat → FieldType := fun k => match k with
  | 0 => .array (.object "SlipwayPlan$Calendar")
  | 1 => .array (.object "SlipwayPlan$Crew")
  | 2 => .array (.object "SlipwayPlan$Task")
  | 3 => .array (.object "SlipwayPlan$Link")
  | 4 => .int
  | 5 => .int
  | 6 => .int
  | 7 => .array .int
  | _ => .array .boolean
abbrev wsX80 : List Cond := u_ws RX8 TX8 9
theorem nmX8 : ∀ a, a < 9 → ∀ b, b < 9 → a ≠ b → (TX8 a).2.1 ≠ (TX8 b).2.1 := by decide +kernel
theorem tyX8_ok : ∀ k, k < 9 → parseFieldDescriptor (TX8 k).2.2.1 = some (tyX8 k) := by decide +kernel
abbrev cX8_init : ByteArray := prog_10_method_1_code
def yX8_init : MethodName := ⟨RX8, "<init>", "()V"⟩
abbrev cX8_calendarOf : ByteArray := prog_10_method_2_code
def yX8_calendarOf : MethodName := ⟨RX8, "calendarOf", "(I)LSlipwayPlan$Calendar;"⟩
abbrev cX8_worthOf : ByteArray := prog_10_method_3_code
def yX8_worthOf : MethodName := ⟨RX8, "worthOf", "(I)I"⟩
abbrev cX8_appendTask : ByteArray := prog_10_method_4_code
def yX8_appendTask : MethodName := ⟨RX8, "appendTask", "(II)I"⟩
abbrev cX8_appendLink : ByteArray := prog_10_method_5_code
def yX8_appendLink : MethodName := ⟨RX8, "appendLink", "(IIII)I"⟩
abbrev cX8_takeOut : ByteArray := prog_10_method_6_code
def yX8_takeOut : MethodName := ⟨RX8, "takeOut", "(I)V"⟩
abbrev cX8_reaches : ByteArray := prog_10_method_8_code
def yX8_reaches : MethodName := ⟨RX8, "reaches", "(II)Z"⟩
abbrev cX8_markBehind : ByteArray := prog_10_method_9_code
def yX8_markBehind : MethodName := ⟨RX8, "markBehind", "(I)V"⟩
abbrev cX8_sortTasks : ByteArray := prog_10_method_10_code
def yX8_sortTasks : MethodName := ⟨RX8, "sortTasks", "()V"⟩
abbrev cX8_firstOpen : ByteArray := prog_10_method_11_code
def yX8_firstOpen : MethodName := ⟨RX8, "firstOpen", "()I"⟩
abbrev cX8_clearMarks : ByteArray := prog_10_method_12_code
def yX8_clearMarks : MethodName := ⟨RX8, "clearMarks", "()V"⟩
abbrev cX8_isOpen : ByteArray := prog_10_method_13_code
def yX8_isOpen : MethodName := ⟨RX8, "isOpen", "(I[Z)Z"⟩
abbrev cX8_firstDay : ByteArray := prog_10_method_14_code
def yX8_firstDay : MethodName := ⟨RX8, "firstDay", "(ILSlipwayPlan$Plan;)I"⟩
abbrev cX8_firstDayBy : ByteArray := prog_10_method_15_code
def yX8_firstDayBy : MethodName := ⟨RX8, "firstDayBy", "(LSlipwayPlan$Link;LSlipwayPlan$Plan;)I"⟩
def RX9 : String := "SlipwayPlan$Task"
def TX9 : u_T := fun k => match k with
  | 0 => ("SlipwayPlan$Task", "length", "I", false)
  | 1 => ("SlipwayPlan$Task", "calendar", "I", false)
  | 2 => ("SlipwayPlan$Task", "rank", "I", false)
  | 3 => ("SlipwayPlan$Task", "first", "I", false)
  | 4 => ("SlipwayPlan$Task", "done", "Z", false)
  | 5 => ("SlipwayPlan$Task", "doneBegin", "I", false)
  | 6 => ("SlipwayPlan$Task", "doneEnd", "I", false)
  | _ => ("SlipwayPlan$Task", "needs", "[I", true)
def tyX9 : Nat → FieldType := fun k => match k with
  | 0 => .int
  | 1 => .int
  | 2 => .int
  | 3 => .int
  | 4 => .boolean
  | 5 => .int
  | 6 => .int
  | _ => .array .int
abbrev wsX90 : List Cond := u_ws RX9 TX9 8
theorem nmX9 : ∀ a, a < 8 → ∀ b, b < 8 → a ≠ b → (TX9 a).2.1 ≠ (TX9 b).2.1 := by decide +kernel
theorem tyX9_ok : ∀ k, k < 8 → parseFieldDescriptor (TX9 k).2.2.1 = some (tyX9 k) := by decide +kernel
abbrev cX9_init : ByteArray := prog_11_method_1_code
def yX9_init : MethodName := ⟨RX9, "<init>", "()V"⟩
def RX10 : String := "SlipwayPlan"
def TX10 : u_T := fun k => match k with
  | 0 => ("SlipwayPlan", "project", "LSlipwayPlan$Project;", true)
  | 1 => ("SlipwayPlan", "network", "LSlipwayPlan$Network;", true)
  | 2 => ("SlipwayPlan", "levelling", "LSlipwayPlan$Levelling;", true)
  | 3 => ("SlipwayPlan", "wantedLoad", "LSlipwayPlan$Load;", true)
  | 4 => ("SlipwayPlan", "trialNetwork", "LSlipwayPlan$Network;", true)
  | 5 => ("SlipwayPlan", "trialLevelling", "LSlipwayPlan$Levelling;", true)
  | 6 => ("SlipwayPlan", "kept", "LSlipwayPlan$Kept;", true)
  | _ => ("SlipwayPlan", "stale", "Z", false)
def tyX10 : Nat → FieldType := fun k => match k with
  | 0 => .object "SlipwayPlan$Project"
  | 1 => .object "SlipwayPlan$Network"
  | 2 => .object "SlipwayPlan$Levelling"
  | 3 => .object "SlipwayPlan$Load"
  | 4 => .object "SlipwayPlan$Network"
  | 5 => .object "SlipwayPlan$Levelling"
  | 6 => .object "SlipwayPlan$Kept"
  | _ => .boolean
abbrev wsX100 : List Cond := u_ws RX10 TX10 8
theorem nmX10 : ∀ a, a < 8 → ∀ b, b < 8 → a ≠ b → (TX10 a).2.1 ≠ (TX10 b).2.1 := by decide +kernel
theorem tyX10_ok : ∀ k, k < 8 → parseFieldDescriptor (TX10 k).2.2.1 = some (tyX10 k) := by decide +kernel
abbrev cX10_init : ByteArray := prog_1_method_1_code
def yX10_init : MethodName := ⟨RX10, "<init>", "()V"⟩
abbrev cX10_setWeek : ByteArray := prog_1_method_2_code
def yX10_setWeek : MethodName := ⟨RX10, "setWeek", "(II)I"⟩
abbrev cX10_setCrew : ByteArray := prog_1_method_4_code
def yX10_setCrew : MethodName := ⟨RX10, "setCrew", "(III)I"⟩
abbrev cX10_addTask : ByteArray := prog_1_method_5_code
def yX10_addTask : MethodName := ⟨RX10, "addTask", "(II)I"⟩
abbrev cX10_setLength : ByteArray := prog_1_method_6_code
def yX10_setLength : MethodName := ⟨RX10, "setLength", "(II)I"⟩
abbrev cX10_setTerms : ByteArray := prog_1_method_7_code
def yX10_setTerms : MethodName := ⟨RX10, "setTerms", "(III)I"⟩
abbrev cX10_setNeed : ByteArray := prog_1_method_8_code
def yX10_setNeed : MethodName := ⟨RX10, "setNeed", "(III)I"⟩
abbrev cX10_link : ByteArray := prog_1_method_9_code
def yX10_link : MethodName := ⟨RX10, "link", "(IIII)I"⟩
abbrev cX10_drop : ByteArray := prog_1_method_10_code
def yX10_drop : MethodName := ⟨RX10, "drop", "(I)I"⟩
abbrev cX10_finish : ByteArray := prog_1_method_11_code
def yX10_finish : MethodName := ⟨RX10, "finish", "(III)Z"⟩
abbrev cX10_reopen : ByteArray := prog_1_method_12_code
def yX10_reopen : MethodName := ⟨RX10, "reopen", "(I)Z"⟩
abbrev cX10_setRule : ByteArray := prog_1_method_13_code
def yX10_setRule : MethodName := ⟨RX10, "setRule", "(I)I"⟩
abbrev cX10_tasks : ByteArray := prog_1_method_14_code
def yX10_tasks : MethodName := ⟨RX10, "tasks", "()I"⟩
abbrev cX10_links : ByteArray := prog_1_method_15_code
def yX10_links : MethodName := ⟨RX10, "links", "()I"⟩
abbrev cX10_earlyBegin : ByteArray := prog_1_method_17_code
def yX10_earlyBegin : MethodName := ⟨RX10, "earlyBegin", "(I)I"⟩
abbrev cX10_earlyEnd : ByteArray := prog_1_method_18_code
def yX10_earlyEnd : MethodName := ⟨RX10, "earlyEnd", "(I)I"⟩
abbrev cX10_lateBegin : ByteArray := prog_1_method_19_code
def yX10_lateBegin : MethodName := ⟨RX10, "lateBegin", "(I)I"⟩
abbrev cX10_lateEnd : ByteArray := prog_1_method_20_code
def yX10_lateEnd : MethodName := ⟨RX10, "lateEnd", "(I)I"⟩
abbrev cX10_room : ByteArray := prog_1_method_21_code
def yX10_room : MethodName := ⟨RX10, "room", "(I)I"⟩
abbrev cX10_last : ByteArray := prog_1_method_22_code
def yX10_last : MethodName := ⟨RX10, "last", "()I"⟩
abbrev cX10_tight : ByteArray := prog_1_method_23_code
def yX10_tight : MethodName := ⟨RX10, "tight", "()I"⟩
abbrev cX10_overloaded : ByteArray := prog_1_method_25_code
def yX10_overloaded : MethodName := ⟨RX10, "overloaded", "(I)I"⟩
abbrev cX10_begin : ByteArray := prog_1_method_26_code
def yX10_begin : MethodName := ⟨RX10, "begin", "(I)I"⟩
abbrev cX10_end : ByteArray := prog_1_method_27_code
def yX10_end : MethodName := ⟨RX10, "end", "(I)I"⟩
abbrev cX10_levelledLast : ByteArray := prog_1_method_28_code
def yX10_levelledLast : MethodName := ⟨RX10, "levelledLast", "()I"⟩
abbrev cX10_stuck : ByteArray := prog_1_method_29_code
def yX10_stuck : MethodName := ⟨RX10, "stuck", "()I"⟩
abbrev cX10_orderAt : ByteArray := prog_1_method_30_code
def yX10_orderAt : MethodName := ⟨RX10, "orderAt", "(I)I"⟩
abbrev cX10_used : ByteArray := prog_1_method_31_code
def yX10_used : MethodName := ⟨RX10, "used", "(II)I"⟩
abbrev cX10_peak : ByteArray := prog_1_method_32_code
def yX10_peak : MethodName := ⟨RX10, "peak", "(I)I"⟩
abbrev cX10_holds : ByteArray := prog_1_method_33_code
def yX10_holds : MethodName := ⟨RX10, "holds", "(I)I"⟩
abbrev cX10_heldBy : ByteArray := prog_1_method_34_code
def yX10_heldBy : MethodName := ⟨RX10, "heldBy", "(I)I"⟩
abbrev cX10_idle : ByteArray := prog_1_method_35_code
def yX10_idle : MethodName := ⟨RX10, "idle", "(I)I"⟩
abbrev cX10_keep : ByteArray := prog_1_method_36_code
def yX10_keep : MethodName := ⟨RX10, "keep", "()I"⟩
abbrev cX10_planned : ByteArray := prog_1_method_38_code
def yX10_planned : MethodName := ⟨RX10, "planned", "(I)I"⟩
abbrev cX10_earned : ByteArray := prog_1_method_39_code
def yX10_earned : MethodName := ⟨RX10, "earned", "()I"⟩
abbrev cX10_worth : ByteArray := prog_1_method_40_code
def yX10_worth : MethodName := ⟨RX10, "worth", "()I"⟩
abbrev cX10_digest : ByteArray := prog_1_method_47_code
def yX10_digest : MethodName := ⟨RX10, "digest", "()J"⟩
abbrev cX10_isWithin : ByteArray := prog_1_method_48_code
def yX10_isWithin : MethodName := ⟨RX10, "isWithin", "(II)Z"⟩
abbrev cX10_checkIndex : ByteArray := prog_1_method_49_code
def yX10_checkIndex : MethodName := ⟨RX10, "checkIndex", "(II)V"⟩
abbrev cX10_checkArgument : ByteArray := prog_1_method_50_code
def yX10_checkArgument : MethodName := ⟨RX10, "checkArgument", "(Z)V"⟩
abbrev cX10_checkState : ByteArray := prog_1_method_51_code
def yX10_checkState : MethodName := ⟨RX10, "checkState", "(Z)V"⟩
abbrev cX10_checkCalendar : ByteArray := prog_1_method_52_code
def yX10_checkCalendar : MethodName := ⟨RX10, "checkCalendar", "(I)V"⟩
abbrev cX10_checkCrew : ByteArray := prog_1_method_53_code
def yX10_checkCrew : MethodName := ⟨RX10, "checkCrew", "(I)V"⟩
abbrev cX10_checkAskedDay : ByteArray := prog_1_method_54_code
def yX10_checkAskedDay : MethodName := ⟨RX10, "checkAskedDay", "(I)V"⟩
abbrev cX10_checkTask : ByteArray := prog_1_method_55_code
def yX10_checkTask : MethodName := ⟨RX10, "checkTask", "(I)V"⟩
abbrev cX10_checkLink : ByteArray := prog_1_method_56_code
def yX10_checkLink : MethodName := ⟨RX10, "checkLink", "(I)V"⟩
abbrev cX10_refresh : ByteArray := prog_1_method_57_code
def yX10_refresh : MethodName := ⟨RX10, "refresh", "()V"⟩
def RX11 : String := "SlipwayPlanModel"
def TX11 : u_T := fun k => match k with
  | _ => ("", "", "", false)
def tyX11 : Nat → FieldType := fun k => match k with
  | _ => .int
abbrev wsX110 : List Cond := u_ws RX11 TX11 0
theorem nmX11 : ∀ a, a < 0 → ∀ b, b < 0 → a ≠ b → (TX11 a).2.1 ≠ (TX11 b).2.1 := by decide +kernel
theorem tyX11_ok : ∀ k, k < 0 → parseFieldDescriptor (TX11 k).2.2.1 = some (tyX11 k) := by decide +kernel
def RL : String := "SlipwayPlanLaw"
abbrev cL_below : ByteArray := method_2_code
def yL_below : MethodName := ⟨RL, "below", "(II)I"⟩
abbrev cL_cell : ByteArray := method_3_code
def yL_cell : MethodName := ⟨RL, "cell", "([II)I"⟩
abbrev cL_law : ByteArray := code
def yL_law : MethodName := ⟨RL, "law", "([I)Z"⟩
abbrev cL_act : ByteArray := method_5_code
def yL_act : MethodName := ⟨RL, "act", "(LSlipwayPlan;I[[I[I[I)Z"⟩
abbrev cL_isDone : ByteArray := method_6_code
def yL_isDone : MethodName := ⟨RL, "isDone", "(LSlipwayPlan;I)Z"⟩
abbrev cL_arePlansRight : ByteArray := method_7_code
def yL_arePlansRight : MethodName := ⟨RL, "arePlansRight", "(LSlipwayPlan;[I)Z"⟩
abbrev cL_areLinksRight : ByteArray := method_8_code
def yL_areLinksRight : MethodName := ⟨RL, "areLinksRight", "(LSlipwayPlan;[[I)Z"⟩
abbrev cL_areCrewsRight : ByteArray := method_9_code
def yL_areCrewsRight : MethodName := ⟨RL, "areCrewsRight", "(LSlipwayPlan;[I)Z"⟩
