section
-- ===== PART A: goes FIRST, ahead of the names: the tables' words, and 'selects' of the private methods out of them =====
/-- a private method of a class that the tables say can be made, by its rows of tables_1 -/
def lw_okq (q : MethodName × Nat) : Prop := (q.1.cls ≠ "java/lang/invoke/MethodHandle" ∧ q.1.cls ≠ "java/lang/invoke/VarHandle") ∧ Cond.instantiable q.1.cls q.2 ∈ tables_1 ∧ Cond.privateMethod q.1 ∈ tables_1 ∧ Cond.instanceMethod q.1 ∈ tables_1
theorem lw_p0 : lw_okq (⟨"SlipwayPlan", "refresh", "()V"⟩, 8) := ⟨⟨by decide +kernel, by decide +kernel⟩, List.mem_of_getElem? (i := 32) (by decide +kernel), List.mem_of_getElem? (i := 364) (by decide +kernel), List.mem_of_getElem? (i := 365) (by decide +kernel)⟩
theorem lw_p1 : lw_okq (⟨"SlipwayPlan$Network", "latestDay", "(I)I"⟩, 5) := ⟨⟨by decide +kernel, by decide +kernel⟩, List.mem_of_getElem? (i := 207) (by decide +kernel), List.mem_of_getElem? (i := 422) (by decide +kernel), List.mem_of_getElem? (i := 423) (by decide +kernel)⟩
theorem lw_p2 : lw_okq (⟨"SlipwayPlan$Network", "roomUpTo", "(II)I"⟩, 5) := ⟨⟨by decide +kernel, by decide +kernel⟩, List.mem_of_getElem? (i := 207) (by decide +kernel), List.mem_of_getElem? (i := 434) (by decide +kernel), List.mem_of_getElem? (i := 435) (by decide +kernel)⟩
theorem lw_p3 : lw_okq (⟨"java/lang/Throwable", "fillInStackTrace", "(I)Ljava/lang/Throwable;"⟩, 6) := ⟨⟨by decide +kernel, by decide +kernel⟩, List.mem_of_getElem? (i := 493) (by decide +kernel), List.mem_of_getElem? (i := 491) (by decide +kernel), List.mem_of_getElem? (i := 492) (by decide +kernel)⟩
theorem lw_p4 : lw_okq (⟨"SlipwayPlan$Levelling", "clear", "()V"⟩, 7) := ⟨⟨by decide +kernel, by decide +kernel⟩, List.mem_of_getElem? (i := 255) (by decide +kernel), List.mem_of_getElem? (i := 770) (by decide +kernel), List.mem_of_getElem? (i := 771) (by decide +kernel)⟩
theorem lw_p5 : lw_okq (⟨"SlipwayPlan$Levelling", "putIn", "(III)V"⟩, 7) := ⟨⟨by decide +kernel, by decide +kernel⟩, List.mem_of_getElem? (i := 255) (by decide +kernel), List.mem_of_getElem? (i := 776) (by decide +kernel), List.mem_of_getElem? (i := 777) (by decide +kernel)⟩
theorem lw_p6 : lw_okq (⟨"SlipwayPlan$Levelling", "choose", "(LSlipwayPlan$Network;I)I"⟩, 7) := ⟨⟨by decide +kernel, by decide +kernel⟩, List.mem_of_getElem? (i := 255) (by decide +kernel), List.mem_of_getElem? (i := 783) (by decide +kernel), List.mem_of_getElem? (i := 784) (by decide +kernel)⟩
theorem lw_p7 : lw_okq (⟨"SlipwayPlan$Levelling", "isTooLarge", "(I)Z"⟩, 7) := ⟨⟨by decide +kernel, by decide +kernel⟩, List.mem_of_getElem? (i := 255) (by decide +kernel), List.mem_of_getElem? (i := 787) (by decide +kernel), List.mem_of_getElem? (i := 788) (by decide +kernel)⟩
theorem lw_p8 : lw_okq (⟨"SlipwayPlan$Levelling", "keyOf", "(ILSlipwayPlan$Network;I)I"⟩, 7) := ⟨⟨by decide +kernel, by decide +kernel⟩, List.mem_of_getElem? (i := 255) (by decide +kernel), List.mem_of_getElem? (i := 795) (by decide +kernel), List.mem_of_getElem? (i := 796) (by decide +kernel)⟩
theorem lw_p9 : lw_okq (⟨"SlipwayPlan$Levelling", "firstWithCrews", "(II)I"⟩, 7) := ⟨⟨by decide +kernel, by decide +kernel⟩, List.mem_of_getElem? (i := 255) (by decide +kernel), List.mem_of_getElem? (i := 800) (by decide +kernel), List.mem_of_getElem? (i := 801) (by decide +kernel)⟩
theorem lw_p10 : lw_okq (⟨"SlipwayPlan$Levelling", "crewsSuffice", "(LSlipwayPlan$Task;I)Z"⟩, 7) := ⟨⟨by decide +kernel, by decide +kernel⟩, List.mem_of_getElem? (i := 255) (by decide +kernel), List.mem_of_getElem? (i := 805) (by decide +kernel), List.mem_of_getElem? (i := 806) (by decide +kernel)⟩
theorem lw_p11 : lw_okq (⟨"SlipwayPlan$Kept", "partUpTo", "(II)I"⟩, 5) := ⟨⟨by decide +kernel, by decide +kernel⟩, List.mem_of_getElem? (i := 309) (by decide +kernel), List.mem_of_getElem? (i := 870) (by decide +kernel), List.mem_of_getElem? (i := 871) (by decide +kernel)⟩
theorem lw_p12 : lw_okq (⟨"SlipwayPlan", "checkTask", "(I)V"⟩, 8) := ⟨⟨by decide +kernel, by decide +kernel⟩, List.mem_of_getElem? (i := 32) (by decide +kernel), List.mem_of_getElem? (i := 964) (by decide +kernel), List.mem_of_getElem? (i := 965) (by decide +kernel)⟩
theorem lw_p13 : lw_okq (⟨"SlipwayPlan", "checkLink", "(I)V"⟩, 8) := ⟨⟨by decide +kernel, by decide +kernel⟩, List.mem_of_getElem? (i := 32) (by decide +kernel), List.mem_of_getElem? (i := 1001) (by decide +kernel), List.mem_of_getElem? (i := 1002) (by decide +kernel)⟩
def lw_privs_1 : List (MethodName × Nat) := [(⟨"SlipwayPlan", "refresh", "()V"⟩, 8), (⟨"SlipwayPlan$Network", "latestDay", "(I)I"⟩, 5), (⟨"SlipwayPlan$Network", "roomUpTo", "(II)I"⟩, 5), (⟨"java/lang/Throwable", "fillInStackTrace", "(I)Ljava/lang/Throwable;"⟩, 6), (⟨"SlipwayPlan$Levelling", "clear", "()V"⟩, 7), (⟨"SlipwayPlan$Levelling", "putIn", "(III)V"⟩, 7), (⟨"SlipwayPlan$Levelling", "choose", "(LSlipwayPlan$Network;I)I"⟩, 7), (⟨"SlipwayPlan$Levelling", "isTooLarge", "(I)Z"⟩, 7), (⟨"SlipwayPlan$Levelling", "keyOf", "(ILSlipwayPlan$Network;I)I"⟩, 7), (⟨"SlipwayPlan$Levelling", "firstWithCrews", "(II)I"⟩, 7), (⟨"SlipwayPlan$Levelling", "crewsSuffice", "(LSlipwayPlan$Task;I)Z"⟩, 7), (⟨"SlipwayPlan$Kept", "partUpTo", "(II)I"⟩, 5), (⟨"SlipwayPlan", "checkTask", "(I)V"⟩, 8), (⟨"SlipwayPlan", "checkLink", "(I)V"⟩, 8)]
theorem lw_r1 : ∀ q ∈ lw_privs_1, lw_okq q := List.forall_mem_cons.mpr ⟨lw_p0, List.forall_mem_cons.mpr ⟨lw_p1, List.forall_mem_cons.mpr ⟨lw_p2, List.forall_mem_cons.mpr ⟨lw_p3, List.forall_mem_cons.mpr ⟨lw_p4, List.forall_mem_cons.mpr ⟨lw_p5, List.forall_mem_cons.mpr ⟨lw_p6, List.forall_mem_cons.mpr ⟨lw_p7, List.forall_mem_cons.mpr ⟨lw_p8, List.forall_mem_cons.mpr ⟨lw_p9, List.forall_mem_cons.mpr ⟨lw_p10, List.forall_mem_cons.mpr ⟨lw_p11, List.forall_mem_cons.mpr ⟨lw_p12, List.forall_mem_cons.mpr ⟨lw_p13, fun _ h => absurd h List.not_mem_nil⟩⟩⟩⟩⟩⟩⟩⟩⟩⟩⟩⟩⟩⟩
def lw_privs : List (MethodName × Nat) := lw_privs_1
def lw_tbl : List Cond := k2_sels lw_privs ++ tables_1
theorem lw_privs_ok : ∀ q ∈ lw_privs, lw_okq q := lw_r1
def RX0 : String := "SlipwayPlan$Calendar"
def TX0 : u_T := fun k => match k with
  | 0 => ("SlipwayPlan$Calendar", "weekdays", "I", false)
  | 1 => ("SlipwayPlan$Calendar", "freeCount", "I", false)
  | _ => ("SlipwayPlan$Calendar", "free", "[Z", true)
def tyX0 : Nat → FieldType := fun k => match k with
  | 0 => .int
  | 1 => .int
  | _ => .array .boolean
abbrev wsX00 : List Cond := u_ws RX0 TX0 3
theorem nmX0 : ∀ a, a < 3 → ∀ b, b < 3 → a ≠ b → (TX0 a).2.1 ≠ (TX0 b).2.1 := by decide +kernel
theorem tyX0_ok : ∀ k, k < 3 → parseFieldDescriptor (TX0 k).2.2.1 = some (tyX0 k) := by decide +kernel
abbrev cX0_init : ByteArray := prog_2_method_1_code
def yX0_init : MethodName := ⟨RX0, "<init>", "()V"⟩
abbrev cX0_copyFrom : ByteArray := prog_2_method_3_code
def yX0_copyFrom : MethodName := ⟨RX0, "copyFrom", "(LSlipwayPlan$Calendar;)V"⟩
abbrev cX0_worksOn : ByteArray := prog_2_method_4_code
def yX0_worksOn : MethodName := ⟨RX0, "worksOn", "(I)Z"⟩
abbrev cX0_firstFrom : ByteArray := prog_2_method_5_code
def yX0_firstFrom : MethodName := ⟨RX0, "firstFrom", "(I)I"⟩
abbrev cX0_countBack : ByteArray := prog_2_method_6_code
def yX0_countBack : MethodName := ⟨RX0, "countBack", "(II)I"⟩
abbrev cX0_countWithin : ByteArray := prog_2_method_7_code
def yX0_countWithin : MethodName := ⟨RX0, "countWithin", "(II)I"⟩
abbrev cX0_endOf : ByteArray := prog_2_method_8_code
def yX0_endOf : MethodName := ⟨RX0, "endOf", "(II)I"⟩
abbrev cX0_firstBegin : ByteArray := prog_2_method_9_code
def yX0_firstBegin : MethodName := ⟨RX0, "firstBegin", "(III)I"⟩
abbrev cX0_latestBegin : ByteArray := prog_2_method_10_code
def yX0_latestBegin : MethodName := ⟨RX0, "latestBegin", "(III)I"⟩
def RX1 : String := "SlipwayPlan$Crew"
def TX1 : u_T := fun k => match k with
  | 0 => ("SlipwayPlan$Crew", "size", "I", false)
  | _ => ("SlipwayPlan$Crew", "price", "I", false)
def tyX1 : Nat → FieldType := fun k => match k with
  | 0 => .int
  | _ => .int
abbrev wsX10 : List Cond := u_ws RX1 TX1 2
theorem nmX1 : ∀ a, a < 2 → ∀ b, b < 2 → a ≠ b → (TX1 a).2.1 ≠ (TX1 b).2.1 := by decide +kernel
theorem tyX1_ok : ∀ k, k < 2 → parseFieldDescriptor (TX1 k).2.2.1 = some (tyX1 k) := by decide +kernel
abbrev cX1_init : ByteArray := prog_3_method_1_code
def yX1_init : MethodName := ⟨RX1, "<init>", "()V"⟩
def RX2 : String := "SlipwayPlan$Kept"
def TX2 : u_T := fun k => match k with
  | 0 => ("SlipwayPlan$Kept", "project", "LSlipwayPlan$Project;", true)
  | 1 => ("SlipwayPlan$Kept", "plan", "LSlipwayPlan$Plan;", true)
  | 2 => ("SlipwayPlan$Kept", "in", "[Z", true)
  | 3 => ("SlipwayPlan$Kept", "worths", "[I", true)
  | _ => ("SlipwayPlan$Kept", "calendars", "[LSlipwayPlan$Calendar;", true)
def tyX2 : Nat → FieldType := fun k => match k with
  | 0 => .object "SlipwayPlan$Project"
  | 1 => .object "SlipwayPlan$Plan"
  | 2 => .array .boolean
  | 3 => .array .int
  | _ => .array (.object "SlipwayPlan$Calendar")
abbrev wsX20 : List Cond := u_ws RX2 TX2 5
theorem nmX2 : ∀ a, a < 5 → ∀ b, b < 5 → a ≠ b → (TX2 a).2.1 ≠ (TX2 b).2.1 := by decide +kernel
theorem tyX2_ok : ∀ k, k < 5 → parseFieldDescriptor (TX2 k).2.2.1 = some (tyX2 k) := by decide +kernel
abbrev cX2_init : ByteArray := prog_4_method_1_code
def yX2_init : MethodName := ⟨RX2, "<init>", "(LSlipwayPlan$Project;)V"⟩
abbrev cX2_take : ByteArray := prog_4_method_2_code
def yX2_take : MethodName := ⟨RX2, "take", "(LSlipwayPlan$Levelling;)V"⟩
abbrev cX2_delayOf : ByteArray := prog_4_method_3_code
def yX2_delayOf : MethodName := ⟨RX2, "delayOf", "(ILSlipwayPlan$Levelling;)I"⟩
abbrev cX2_plannedUpTo : ByteArray := prog_4_method_4_code
def yX2_plannedUpTo : MethodName := ⟨RX2, "plannedUpTo", "(I)I"⟩
abbrev cX2_partUpTo : ByteArray := prog_4_method_5_code
def yX2_partUpTo : MethodName := ⟨RX2, "partUpTo", "(II)I"⟩
abbrev cX2_earnedNow : ByteArray := prog_4_method_6_code
def yX2_earnedNow : MethodName := ⟨RX2, "earnedNow", "()I"⟩
def RX3 : String := "SlipwayPlan$Levelling"
def TX3 : u_T := fun k => match k with
  | 0 => ("SlipwayPlan$Levelling", "project", "LSlipwayPlan$Project;", true)
  | 1 => ("SlipwayPlan$Levelling", "plan", "LSlipwayPlan$Plan;", true)
  | 2 => ("SlipwayPlan$Levelling", "load", "LSlipwayPlan$Load;", true)
  | 3 => ("SlipwayPlan$Levelling", "in", "[Z", true)
  | 4 => ("SlipwayPlan$Levelling", "order", "[I", true)
  | 5 => ("SlipwayPlan$Levelling", "count", "I", false)
  | _ => ("SlipwayPlan$Levelling", "lastDay", "I", false)
def tyX3 : Nat → FieldType := fun k => match k with
  | 0 => .object "SlipwayPlan$Project"
  | 1 => .object "SlipwayPlan$Plan"
  | 2 => .object "SlipwayPlan$Load"
  | 3 => .array .boolean
  | 4 => .array .int
  | 5 => .int
  | _ => .int
abbrev wsX30 : List Cond := u_ws RX3 TX3 7
theorem nmX3 : ∀ a, a < 7 → ∀ b, b < 7 → a ≠ b → (TX3 a).2.1 ≠ (TX3 b).2.1 := by decide +kernel
theorem tyX3_ok : ∀ k, k < 7 → parseFieldDescriptor (TX3 k).2.2.1 = some (tyX3 k) := by decide +kernel
abbrev cX3_init : ByteArray := prog_5_method_1_code
def yX3_init : MethodName := ⟨RX3, "<init>", "(LSlipwayPlan$Project;)V"⟩
abbrev cX3_reckon : ByteArray := prog_5_method_2_code
def yX3_reckon : MethodName := ⟨RX3, "reckon", "(LSlipwayPlan$Network;I)V"⟩
abbrev cX3_clear : ByteArray := prog_5_method_3_code
def yX3_clear : MethodName := ⟨RX3, "clear", "()V"⟩
abbrev cX3_putIn : ByteArray := prog_5_method_4_code
def yX3_putIn : MethodName := ⟨RX3, "putIn", "(III)V"⟩
abbrev cX3_choose : ByteArray := prog_5_method_5_code
def yX3_choose : MethodName := ⟨RX3, "choose", "(LSlipwayPlan$Network;I)I"⟩
abbrev cX3_keyOf : ByteArray := prog_5_method_6_code
def yX3_keyOf : MethodName := ⟨RX3, "keyOf", "(ILSlipwayPlan$Network;I)I"⟩
abbrev cX3_isTooLarge : ByteArray := prog_5_method_7_code
def yX3_isTooLarge : MethodName := ⟨RX3, "isTooLarge", "(I)Z"⟩
abbrev cX3_firstWithCrews : ByteArray := prog_5_method_8_code
def yX3_firstWithCrews : MethodName := ⟨RX3, "firstWithCrews", "(II)I"⟩
abbrev cX3_crewsSuffice : ByteArray := prog_5_method_9_code
def yX3_crewsSuffice : MethodName := ⟨RX3, "crewsSuffice", "(LSlipwayPlan$Task;I)Z"⟩
abbrev cX3_holdOf : ByteArray := prog_5_method_10_code
def yX3_holdOf : MethodName := ⟨RX3, "holdOf", "(I)I"⟩
abbrev cX3_linkThatHolds : ByteArray := prog_5_method_11_code
def yX3_linkThatHolds : MethodName := ⟨RX3, "linkThatHolds", "(I)I"⟩
def RX4 : String := "SlipwayPlan$Link"
def TX4 : u_T := fun k => match k with
  | 0 => ("SlipwayPlan$Link", "from", "I", false)
  | 1 => ("SlipwayPlan$Link", "to", "I", false)
  | 2 => ("SlipwayPlan$Link", "kind", "I", false)
  | _ => ("SlipwayPlan$Link", "lag", "I", false)
def tyX4 : Nat → FieldType := fun k => match k with
  | 0 => .int
  | 1 => .int
  | 2 => .int
  | _ => .int
abbrev wsX40 : List Cond := u_ws RX4 TX4 4
theorem nmX4 : ∀ a, a < 4 → ∀ b, b < 4 → a ≠ b → (TX4 a).2.1 ≠ (TX4 b).2.1 := by decide +kernel
theorem tyX4_ok : ∀ k, k < 4 → parseFieldDescriptor (TX4 k).2.2.1 = some (tyX4 k) := by decide +kernel
abbrev cX4_init : ByteArray := prog_6_method_1_code
def yX4_init : MethodName := ⟨RX4, "<init>", "()V"⟩
def RX5 : String := "SlipwayPlan$Load"
def TX5 : u_T := fun k => match k with
  | 0 => ("SlipwayPlan$Load", "hands", "[[I", true)
  | _ => ("SlipwayPlan$Load", "upTo", "I", false)
def tyX5 : Nat → FieldType := fun k => match k with
  | 0 => .array (.array .int)
  | _ => .int
abbrev wsX50 : List Cond := u_ws RX5 TX5 2
theorem nmX5 : ∀ a, a < 2 → ∀ b, b < 2 → a ≠ b → (TX5 a).2.1 ≠ (TX5 b).2.1 := by decide +kernel
theorem tyX5_ok : ∀ k, k < 2 → parseFieldDescriptor (TX5 k).2.2.1 = some (tyX5 k) := by decide +kernel
abbrev cX5_init : ByteArray := prog_7_method_1_code
def yX5_init : MethodName := ⟨RX5, "<init>", "()V"⟩
abbrev cX5_clear : ByteArray := prog_7_method_2_code
def yX5_clear : MethodName := ⟨RX5, "clear", "()V"⟩
abbrev cX5_add : ByteArray := prog_7_method_3_code
def yX5_add : MethodName := ⟨RX5, "add", "(LSlipwayPlan$Task;LSlipwayPlan$Calendar;II)V"⟩
abbrev cX5_on : ByteArray := prog_7_method_4_code
def yX5_on : MethodName := ⟨RX5, "on", "(II)I"⟩
abbrev cX5_daysAbove : ByteArray := prog_7_method_5_code
def yX5_daysAbove : MethodName := ⟨RX5, "daysAbove", "(II)I"⟩
abbrev cX5_greatest : ByteArray := prog_7_method_6_code
def yX5_greatest : MethodName := ⟨RX5, "greatest", "(I)I"⟩
abbrev cX5_leftOver : ByteArray := prog_7_method_7_code
def yX5_leftOver : MethodName := ⟨RX5, "leftOver", "(III)I"⟩
def RX6 : String := "SlipwayPlan$Network"
def TX6 : u_T := fun k => match k with
  | 0 => ("SlipwayPlan$Network", "project", "LSlipwayPlan$Project;", true)
  | 1 => ("SlipwayPlan$Network", "early", "LSlipwayPlan$Plan;", true)
  | 2 => ("SlipwayPlan$Network", "late", "LSlipwayPlan$Plan;", true)
  | 3 => ("SlipwayPlan$Network", "rooms", "[I", true)
  | _ => ("SlipwayPlan$Network", "lastDay", "I", false)
def tyX6 : Nat → FieldType := fun k => match k with
  | 0 => .object "SlipwayPlan$Project"
  | 1 => .object "SlipwayPlan$Plan"
  | 2 => .object "SlipwayPlan$Plan"
  | 3 => .array .int
  | _ => .int
abbrev wsX60 : List Cond := u_ws RX6 TX6 5
theorem nmX6 : ∀ a, a < 5 → ∀ b, b < 5 → a ≠ b → (TX6 a).2.1 ≠ (TX6 b).2.1 := by decide +kernel
theorem tyX6_ok : ∀ k, k < 5 → parseFieldDescriptor (TX6 k).2.2.1 = some (tyX6 k) := by decide +kernel
abbrev cX6_init : ByteArray := prog_8_method_1_code
def yX6_init : MethodName := ⟨RX6, "<init>", "(LSlipwayPlan$Project;)V"⟩
abbrev cX6_reckonEarly : ByteArray := prog_8_method_2_code
def yX6_reckonEarly : MethodName := ⟨RX6, "reckonEarly", "()V"⟩
abbrev cX6_reckonLate : ByteArray := prog_8_method_3_code
def yX6_reckonLate : MethodName := ⟨RX6, "reckonLate", "()V"⟩
abbrev cX6_latestDay : ByteArray := prog_8_method_4_code
def yX6_latestDay : MethodName := ⟨RX6, "latestDay", "(I)I"⟩
abbrev cX6_roomUpTo : ByteArray := prog_8_method_5_code
def yX6_roomUpTo : MethodName := ⟨RX6, "roomUpTo", "(II)I"⟩
abbrev cX6_countTight : ByteArray := prog_8_method_6_code
def yX6_countTight : MethodName := ⟨RX6, "countTight", "()I"⟩
def RX7 : String := "SlipwayPlan$Plan"
def TX7 : u_T := fun k => match k with
  | 0 => ("SlipwayPlan$Plan", "begins", "[I", true)
  | _ => ("SlipwayPlan$Plan", "ends", "[I", true)
def tyX7 : Nat → FieldType := fun k => match k with
  | 0 => .array .int
  | _ => .array .int
abbrev wsX70 : List Cond := u_ws RX7 TX7 2
theorem nmX7 : ∀ a, a < 2 → ∀ b, b < 2 → a ≠ b → (TX7 a).2.1 ≠ (TX7 b).2.1 := by decide +kernel
theorem tyX7_ok : ∀ k, k < 2 → parseFieldDescriptor (TX7 k).2.2.1 = some (tyX7 k) := by decide +kernel
abbrev cX7_init : ByteArray := prog_9_method_1_code
def yX7_init : MethodName := ⟨RX7, "<init>", "()V"⟩
abbrev cX7_set : ByteArray := prog_9_method_2_code
def yX7_set : MethodName := ⟨RX7, "set", "(III)V"⟩
abbrev cX7_beginAsked : ByteArray := prog_9_method_3_code
def yX7_beginAsked : MethodName := ⟨RX7, "beginAsked", "(LSlipwayPlan$Link;)I"⟩
abbrev cX7_endAsked : ByteArray := prog_9_method_4_code
def yX7_endAsked : MethodName := ⟨RX7, "endAsked", "(LSlipwayPlan$Link;)I"⟩
def RX8 : String := "SlipwayPlan$Project"
def TX8 : u_T := fun k => match k with
  | 0 => ("SlipwayPlan$Project", "calendars", "[LSlipwayPlan$Calendar;", true)
  | 1 => ("SlipwayPlan$Project", "crews", "[LSlipwayPlan$Crew;", true)
  | 2 => ("SlipwayPlan$Project", "tasks", "[LSlipwayPlan$Task;", true)
  | 3 => ("SlipwayPlan$Project", "links", "[LSlipwayPlan$Link;", true)
  | 4 => ("SlipwayPlan$Project", "taskCount", "I", false)
  | 5 => ("SlipwayPlan$Project", "linkCount", "I", false)
  | 6 => ("SlipwayPlan$Project", "rule", "I", false)
  | 7 => ("SlipwayPlan$Project", "sorted", "[I", true)
  | _ => ("SlipwayPlan$Project", "marks", "[Z", true)
def tyX8 : Nat → FieldType := fun k => match k with
  | 0 => .array (.object "SlipwayPlan$Calendar")
  | 1 => .array (.object "SlipwayPlan$Crew")
  | 2 => .array (.object "SlipwayPlan$Task")
  | 3 => .array (.object "SlipwayPlan$Link")
  | 4 => .int
  | 5 => .int
  | 6 => .int
  | 7 => .array .int
  | _ => .array .boolean
abbrev wsX80 : List Cond := u_ws RX8 TX8 9
theorem nmX8 : ∀ a, a < 9 → ∀ b, b < 9 → a ≠ b → (TX8 a).2.1 ≠ (TX8 b).2.1 := by decide +kernel
theorem tyX8_ok : ∀ k, k < 9 → parseFieldDescriptor (TX8 k).2.2.1 = some (tyX8 k) := by decide +kernel
abbrev cX8_init : ByteArray := prog_10_method_1_code
def yX8_init : MethodName := ⟨RX8, "<init>", "()V"⟩
abbrev cX8_calendarOf : ByteArray := prog_10_method_2_code
def yX8_calendarOf : MethodName := ⟨RX8, "calendarOf", "(I)LSlipwayPlan$Calendar;"⟩
abbrev cX8_worthOf : ByteArray := prog_10_method_3_code
def yX8_worthOf : MethodName := ⟨RX8, "worthOf", "(I)I"⟩
abbrev cX8_appendTask : ByteArray := prog_10_method_4_code
def yX8_appendTask : MethodName := ⟨RX8, "appendTask", "(II)I"⟩
abbrev cX8_appendLink : ByteArray := prog_10_method_5_code
def yX8_appendLink : MethodName := ⟨RX8, "appendLink", "(IIII)I"⟩
abbrev cX8_takeOut : ByteArray := prog_10_method_6_code
def yX8_takeOut : MethodName := ⟨RX8, "takeOut", "(I)V"⟩
abbrev cX8_reaches : ByteArray := prog_10_method_8_code
def yX8_reaches : MethodName := ⟨RX8, "reaches", "(II)Z"⟩
abbrev cX8_markBehind : ByteArray := prog_10_method_9_code
def yX8_markBehind : MethodName := ⟨RX8, "markBehind", "(I)V"⟩
abbrev cX8_sortTasks : ByteArray := prog_10_method_10_code
def yX8_sortTasks : MethodName := ⟨RX8, "sortTasks", "()V"⟩
abbrev cX8_firstOpen : ByteArray := prog_10_method_11_code
def yX8_firstOpen : MethodName := ⟨RX8, "firstOpen", "()I"⟩
abbrev cX8_clearMarks : ByteArray := prog_10_method_12_code
def yX8_clearMarks : MethodName := ⟨RX8, "clearMarks", "()V"⟩
abbrev cX8_isOpen : ByteArray := prog_10_method_13_code
def yX8_isOpen : MethodName := ⟨RX8, "isOpen", "(I[Z)Z"⟩
abbrev cX8_firstDay : ByteArray := prog_10_method_14_code
def yX8_firstDay : MethodName := ⟨RX8, "firstDay", "(ILSlipwayPlan$Plan;)I"⟩
abbrev cX8_firstDayBy : ByteArray := prog_10_method_15_code
def yX8_firstDayBy : MethodName := ⟨RX8, "firstDayBy", "(LSlipwayPlan$Link;LSlipwayPlan$Plan;)I"⟩
def RX9 : String := "SlipwayPlan$Task"
def TX9 : u_T := fun k => match k with
  | 0 => ("SlipwayPlan$Task", "length", "I", false)
  | 1 => ("SlipwayPlan$Task", "calendar", "I", false)
  | 2 => ("SlipwayPlan$Task", "rank", "I", false)
  | 3 => ("SlipwayPlan$Task", "first", "I", false)
  | 4 => ("SlipwayPlan$Task", "done", "Z", false)
  | 5 => ("SlipwayPlan$Task", "doneBegin", "I", false)
  | 6 => ("SlipwayPlan$Task", "doneEnd", "I", false)
  | _ => ("SlipwayPlan$Task", "needs", "[I", true)
def tyX9 : Nat → FieldType := fun k => match k with
  | 0 => .int
  | 1 => .int
  | 2 => .int
  | 3 => .int
  | 4 => .boolean
  | 5 => .int
  | 6 => .int
  | _ => .array .int
abbrev wsX90 : List Cond := u_ws RX9 TX9 8
theorem nmX9 : ∀ a, a < 8 → ∀ b, b < 8 → a ≠ b → (TX9 a).2.1 ≠ (TX9 b).2.1 := by decide +kernel
theorem tyX9_ok : ∀ k, k < 8 → parseFieldDescriptor (TX9 k).2.2.1 = some (tyX9 k) := by decide +kernel
abbrev cX9_init : ByteArray := prog_11_method_1_code
def yX9_init : MethodName := ⟨RX9, "<init>", "()V"⟩
def RX10 : String := "SlipwayPlan"
def TX10 : u_T := fun k => match k with
  | 0 => ("SlipwayPlan", "project", "LSlipwayPlan$Project;", true)
  | 1 => ("SlipwayPlan", "network", "LSlipwayPlan$Network;", true)
  | 2 => ("SlipwayPlan", "levelling", "LSlipwayPlan$Levelling;", true)
  | 3 => ("SlipwayPlan", "wantedLoad", "LSlipwayPlan$Load;", true)
  | 4 => ("SlipwayPlan", "trialNetwork", "LSlipwayPlan$Network;", true)
  | 5 => ("SlipwayPlan", "trialLevelling", "LSlipwayPlan$Levelling;", true)
  | 6 => ("SlipwayPlan", "kept", "LSlipwayPlan$Kept;", true)
  | _ => ("SlipwayPlan", "stale", "Z", false)
def tyX10 : Nat → FieldType := fun k => match k with
  | 0 => .object "SlipwayPlan$Project"
  | 1 => .object "SlipwayPlan$Network"
  | 2 => .object "SlipwayPlan$Levelling"
  | 3 => .object "SlipwayPlan$Load"
  | 4 => .object "SlipwayPlan$Network"
  | 5 => .object "SlipwayPlan$Levelling"
  | 6 => .object "SlipwayPlan$Kept"
  | _ => .boolean
abbrev wsX100 : List Cond := u_ws RX10 TX10 8
theorem nmX10 : ∀ a, a < 8 → ∀ b, b < 8 → a ≠ b → (TX10 a).2.1 ≠ (TX10 b).2.1 := by decide +kernel
theorem tyX10_ok : ∀ k, k < 8 → parseFieldDescriptor (TX10 k).2.2.1 = some (tyX10 k) := by decide +kernel
abbrev cX10_init : ByteArray := prog_1_method_1_code
def yX10_init : MethodName := ⟨RX10, "<init>", "()V"⟩
abbrev cX10_setWeek : ByteArray := prog_1_method_2_code
def yX10_setWeek : MethodName := ⟨RX10, "setWeek", "(II)I"⟩
abbrev cX10_setCrew : ByteArray := prog_1_method_4_code
def yX10_setCrew : MethodName := ⟨RX10, "setCrew", "(III)I"⟩
abbrev cX10_addTask : ByteArray := prog_1_method_5_code
def yX10_addTask : MethodName := ⟨RX10, "addTask", "(II)I"⟩
abbrev cX10_setLength : ByteArray := prog_1_method_6_code
def yX10_setLength : MethodName := ⟨RX10, "setLength", "(II)I"⟩
abbrev cX10_setTerms : ByteArray := prog_1_method_7_code
def yX10_setTerms : MethodName := ⟨RX10, "setTerms", "(III)I"⟩
abbrev cX10_setNeed : ByteArray := prog_1_method_8_code
def yX10_setNeed : MethodName := ⟨RX10, "setNeed", "(III)I"⟩
abbrev cX10_link : ByteArray := prog_1_method_9_code
def yX10_link : MethodName := ⟨RX10, "link", "(IIII)I"⟩
abbrev cX10_drop : ByteArray := prog_1_method_10_code
def yX10_drop : MethodName := ⟨RX10, "drop", "(I)I"⟩
abbrev cX10_finish : ByteArray := prog_1_method_11_code
def yX10_finish : MethodName := ⟨RX10, "finish", "(III)Z"⟩
abbrev cX10_reopen : ByteArray := prog_1_method_12_code
def yX10_reopen : MethodName := ⟨RX10, "reopen", "(I)Z"⟩
abbrev cX10_setRule : ByteArray := prog_1_method_13_code
def yX10_setRule : MethodName := ⟨RX10, "setRule", "(I)I"⟩
abbrev cX10_tasks : ByteArray := prog_1_method_14_code
def yX10_tasks : MethodName := ⟨RX10, "tasks", "()I"⟩
abbrev cX10_links : ByteArray := prog_1_method_15_code
def yX10_links : MethodName := ⟨RX10, "links", "()I"⟩
abbrev cX10_earlyBegin : ByteArray := prog_1_method_17_code
def yX10_earlyBegin : MethodName := ⟨RX10, "earlyBegin", "(I)I"⟩
abbrev cX10_earlyEnd : ByteArray := prog_1_method_18_code
def yX10_earlyEnd : MethodName := ⟨RX10, "earlyEnd", "(I)I"⟩
abbrev cX10_lateBegin : ByteArray := prog_1_method_19_code
def yX10_lateBegin : MethodName := ⟨RX10, "lateBegin", "(I)I"⟩
abbrev cX10_lateEnd : ByteArray := prog_1_method_20_code
def yX10_lateEnd : MethodName := ⟨RX10, "lateEnd", "(I)I"⟩
abbrev cX10_room : ByteArray := prog_1_method_21_code
def yX10_room : MethodName := ⟨RX10, "room", "(I)I"⟩
abbrev cX10_last : ByteArray := prog_1_method_22_code
def yX10_last : MethodName := ⟨RX10, "last", "()I"⟩
abbrev cX10_tight : ByteArray := prog_1_method_23_code
def yX10_tight : MethodName := ⟨RX10, "tight", "()I"⟩
abbrev cX10_overloaded : ByteArray := prog_1_method_25_code
def yX10_overloaded : MethodName := ⟨RX10, "overloaded", "(I)I"⟩
abbrev cX10_begin : ByteArray := prog_1_method_26_code
def yX10_begin : MethodName := ⟨RX10, "begin", "(I)I"⟩
abbrev cX10_end : ByteArray := prog_1_method_27_code
def yX10_end : MethodName := ⟨RX10, "end", "(I)I"⟩
abbrev cX10_levelledLast : ByteArray := prog_1_method_28_code
def yX10_levelledLast : MethodName := ⟨RX10, "levelledLast", "()I"⟩
abbrev cX10_stuck : ByteArray := prog_1_method_29_code
def yX10_stuck : MethodName := ⟨RX10, "stuck", "()I"⟩
abbrev cX10_orderAt : ByteArray := prog_1_method_30_code
def yX10_orderAt : MethodName := ⟨RX10, "orderAt", "(I)I"⟩
abbrev cX10_used : ByteArray := prog_1_method_31_code
def yX10_used : MethodName := ⟨RX10, "used", "(II)I"⟩
abbrev cX10_peak : ByteArray := prog_1_method_32_code
def yX10_peak : MethodName := ⟨RX10, "peak", "(I)I"⟩
abbrev cX10_holds : ByteArray := prog_1_method_33_code
def yX10_holds : MethodName := ⟨RX10, "holds", "(I)I"⟩
abbrev cX10_heldBy : ByteArray := prog_1_method_34_code
def yX10_heldBy : MethodName := ⟨RX10, "heldBy", "(I)I"⟩
abbrev cX10_idle : ByteArray := prog_1_method_35_code
def yX10_idle : MethodName := ⟨RX10, "idle", "(I)I"⟩
abbrev cX10_keep : ByteArray := prog_1_method_36_code
def yX10_keep : MethodName := ⟨RX10, "keep", "()I"⟩
abbrev cX10_planned : ByteArray := prog_1_method_38_code
def yX10_planned : MethodName := ⟨RX10, "planned", "(I)I"⟩
abbrev cX10_earned : ByteArray := prog_1_method_39_code
def yX10_earned : MethodName := ⟨RX10, "earned", "()I"⟩
abbrev cX10_worth : ByteArray := prog_1_method_40_code
def yX10_worth : MethodName := ⟨RX10, "worth", "()I"⟩
abbrev cX10_digest : ByteArray := prog_1_method_47_code
def yX10_digest : MethodName := ⟨RX10, "digest", "()J"⟩
abbrev cX10_isWithin : ByteArray := prog_1_method_48_code
def yX10_isWithin : MethodName := ⟨RX10, "isWithin", "(II)Z"⟩
abbrev cX10_checkIndex : ByteArray := prog_1_method_49_code
def yX10_checkIndex : MethodName := ⟨RX10, "checkIndex", "(II)V"⟩
abbrev cX10_checkArgument : ByteArray := prog_1_method_50_code
def yX10_checkArgument : MethodName := ⟨RX10, "checkArgument", "(Z)V"⟩
abbrev cX10_checkState : ByteArray := prog_1_method_51_code
def yX10_checkState : MethodName := ⟨RX10, "checkState", "(Z)V"⟩
abbrev cX10_checkCalendar : ByteArray := prog_1_method_52_code
def yX10_checkCalendar : MethodName := ⟨RX10, "checkCalendar", "(I)V"⟩
abbrev cX10_checkCrew : ByteArray := prog_1_method_53_code
def yX10_checkCrew : MethodName := ⟨RX10, "checkCrew", "(I)V"⟩
abbrev cX10_checkAskedDay : ByteArray := prog_1_method_54_code
def yX10_checkAskedDay : MethodName := ⟨RX10, "checkAskedDay", "(I)V"⟩
abbrev cX10_checkTask : ByteArray := prog_1_method_55_code
def yX10_checkTask : MethodName := ⟨RX10, "checkTask", "(I)V"⟩
abbrev cX10_checkLink : ByteArray := prog_1_method_56_code
def yX10_checkLink : MethodName := ⟨RX10, "checkLink", "(I)V"⟩
abbrev cX10_refresh : ByteArray := prog_1_method_57_code
def yX10_refresh : MethodName := ⟨RX10, "refresh", "()V"⟩
def RX11 : String := "SlipwayPlanModel"
def TX11 : u_T := fun k => match k with
  | _ => ("", "", "", false)
def tyX11 : Nat → FieldType := fun k => match k with
  | _ => .int
abbrev wsX110 : List Cond := u_ws RX11 TX11 0
theorem nmX11 : ∀ a, a < 0 → ∀ b, b < 0 → a ≠ b → (TX11 a).2.1 ≠ (TX11 b).2.1 := by decide +kernel
theorem tyX11_ok : ∀ k, k < 0 → parseFieldDescriptor (TX11 k).2.2.1 = some (tyX11 k) := by decide +kernel
def RL : String := "SlipwayPlanLaw"
abbrev cL_below : ByteArray := method_2_code
def yL_below : MethodName := ⟨RL, "below", "(II)I"⟩
abbrev cL_cell : ByteArray := method_3_code
def yL_cell : MethodName := ⟨RL, "cell", "([II)I"⟩
abbrev cL_law : ByteArray := code
def yL_law : MethodName := ⟨RL, "law", "([I)Z"⟩
abbrev cL_act : ByteArray := method_5_code
def yL_act : MethodName := ⟨RL, "act", "(LSlipwayPlan;I[[I[I[I)Z"⟩
abbrev cL_isDone : ByteArray := method_6_code
def yL_isDone : MethodName := ⟨RL, "isDone", "(LSlipwayPlan;I)Z"⟩
abbrev cL_arePlansRight : ByteArray := method_7_code
def yL_arePlansRight : MethodName := ⟨RL, "arePlansRight", "(LSlipwayPlan;[I)Z"⟩
abbrev cL_areLinksRight : ByteArray := method_8_code
def yL_areLinksRight : MethodName := ⟨RL, "areLinksRight", "(LSlipwayPlan;[[I)Z"⟩
abbrev cL_areCrewsRight : ByteArray := method_9_code
def yL_areCrewsRight : MethodName := ⟨RL, "areCrewsRight", "(LSlipwayPlan;[I)Z"⟩
end
section
/-! ===== BEGIN words of one list among another's, by their places ===== -/
theorem goodIn_r {big : List Cond} (ws : List Cond) (ps : List Nat) (hp : ws = ps.filterMap (fun i => big[i]?)) (h : ws.all goodWord = true) : GoodIn big ws := by
  intro w hw
  have h1 := List.all_eq_true.mp h w hw
  rw [hp] at hw
  obtain ⟨i, -, hi⟩ := List.mem_filterMap.mp hw
  have hm : w ∈ big := by first | exact List.mem_of_getElem? hi | exact List.getElem?_mem hi
  exact ⟨hm, good_of_word h1⟩
theorem goodIn_app {big a b : List Cond} (ha : GoodIn big a) (hb : GoodIn big b) : GoodIn big (a ++ b) := fun w h => (List.mem_append.mp h).elim (ha w) (hb w)
theorem goodIn_ca {big a b : List Cond} {c : Cond} (ha : GoodIn big (c :: a)) (hb : GoodIn big b) : GoodIn big (c :: (a ++ b)) := fun w h => (List.mem_cons.mp h).elim (fun e => ha w (List.mem_cons.mpr (Or.inl e))) (fun h => (List.mem_append.mp h).elim (fun h => ha w (List.mem_cons.mpr (Or.inr h))) (hb w))
theorem goodIn_sub {big ws : List Cond} (hm : ∀ w ∈ ws, w ∈ big) (h : ws.all goodWord = true) : GoodIn big ws := fun w hw => ⟨hm w hw, good_of_word (List.all_eq_true.mp h w hw)⟩
/-! ===== END ===== -/
/-! ===== BEGIN exceptions that leave a method, and their catching by the caller (launches without stack traces) ===== -/
section VXA
/-! The laws vx_back, vx_callV, vx_callS, vx_callSW, vx_throw0, vx_throwS follow proofs of the library, with one case more: JvmDerived/Free/Laws.lean (Back.of_free), Shelf42/LK1.lean (callV, callS), Shelf/KitTraced.lean (throwNew0V, throwNewS). -/
/-- where a method has thrown q: the class by its name, the cell, what was written, the world -/
def vx_T (XC : String → State → State → Prop) (st : State) (q : Addr) (t : State) (mc ms : Nat) (free : Addr → Prop) : Prop :=
  ∃ (E : String) (ce : Cell) (L : List Loc), XC E st t ∧ t.heap[q]? = some ce ∧ ce.vm = .none ∧ st.vm.findClass E = some ce.cls ∧ st.WarmedH t.vm ∧ st.sameButNew ({ t with vm := st.vm } : State) L mc ms ∧ ∀ z ∈ L, free z.base
def vx_Q (Qc : Array Value → State → Outcome → State → Prop) (XC : String → State → State → Prop) (mc ms : Nat) (free : Addr → Prop) : Array Value → State → Outcome → State → Prop := fun a st o t =>
  (Qc a st o t ∧ ∃ L, FrameEnd st o t L mc ms ∧ ∀ q ∈ L, free q.base) ∨ ∃ q, o = .threw q ∧ vx_T XC st q t mc ms free
/-- a callee that returns or throws -/
def vx_Met (l : Launch) (y : MethodName) (ws : List Cond) (rm : Room) (Pc : Array Value → State → Prop) (Qc : Array Value → State → Outcome → State → Prop) (XC : String → State → State → Prop) (mc ms : Nat) (free : Addr → Prop) : Prop :=
  MetFree l y (headSpec ws rm) Pc (fun _ _ _ _ _ => True) (vx_Q Qc XC mc ms free)
def vx_Post (XC : String → State → State → Prop) (mc ms : Nat) (free : Addr → Prop) : Pt → Array Value → Addr → Pt → Prop := fun A a q B =>
  ∃ (g : JFrame) (mk : MethodId) (t : State) (L : List Loc) (E : String) (ce : Cell), B.U.heap = t.heap ∧ B.U.vm = t.vm ∧ XC E (A.U.calling g mk a) t ∧ t.heap[q]? = some ce ∧ ce.vm = .none ∧ A.U.vm.findClass E = some ce.cls ∧ B.locs = A.locs ++ L ∧ (∀ z ∈ L, free z.base) ∧ B.cells = A.cells + mc ∧ B.slots = A.slots + ms
def vx_Back (l : Launch) (R : Room) (p : Program) (e : Env) (below : List Frame) (s : State) (sargs : Array Value) (y : MethodName) (len W9 : Nat)
    (Pre : Pt → Array Value → Prop) (Post : Pt → Array Value → Option Value → Pt → Prop) (PostX : Pt → Array Value → Addr → Pt → Prop) : Prop :=
  ∀ (m : MethodId) (meth : Method) (c : Code) (A : Pt) (g : JFrame) (ig : Instr) (mk : MethodId) (a : Array Value),
    Stand p l e R s m sargs below meth c A.U A.locs A.cells A.slots → g.method = m → g.locals.size = c.maxLocals → decode c.code g.pc = .ok (ig, len) →
    2 * g.monitorRoom + (g.stack.map fun v => v.category).sum ≤ W9 → A.U.methodNamed? y = some mk → Pre A a →
    (∃ (v : Option Value) (B : Pt), Stand p l e R s m sargs below meth c B.U B.locs B.cells B.slots ∧ Post A a v B ∧
      Steps p.tables e below (doInvoke e (A.U.setTop g) [] mk a).1 (B.U.setTop { g with pc := g.pc + len, stack := v.toList ++ g.stack })) ∨
    (∃ (q : Addr) (B : Pt), Stand p l e R s m sargs below meth c B.U B.locs B.cells B.slots ∧ PostX A a q B ∧
      Steps p.tables e below (doInvoke e (A.U.setTop g) [] mk a).1 ((B.U.setTop g).pushFrame (.throwing q)))
section Payer
variable {l : Launch} {R : Room} {p : Program} {e : Env} {below : List Frame} {s : State} {sargs : Array Value} {y : MethodName} {len W9 : Nat}
theorem vx_back {ws : List Cond} {rm : Room} {Pc : Array Value → State → Prop} {Qc : Array Value → State → Outcome → State → Prop} {XC : String → State → State → Prop} {mc ms : Nat} {free : Addr → Prop} {bytes : ByteArray} {maxL : Nat} {ret : Option FieldType}
    (hM : vx_Met l y ws rm Pc Qc XC mc ms free) (hblind : FrameBlind Pc) (hrc : rm.cells = mc) (hrs : rm.slots = ms)
    (hframes : rm.frames + 1 ≤ R.frames) (hlocals : W9 + (maxL + 11) + rm.locals ≤ R.locals)
    (hws : ∀ w ∈ ws, ∀ a' U, s.WarmedH U.vm → w.before a' U = true) (hcode : Cond.code y bytes maxL ret ∈ ws) (hinit : ∀ a' U, s.WarmedH U.vm → (Cond.initialized y.cls).before a' U = true) :
    vx_Back l R p e below s sargs y len W9 (PreOf R mc ms Pc) (PostOf Qc mc ms free) (vx_Post XC mc ms free) := by
  intro m meth c A g ig mk a X hg hsize hdg hW hn hp
  have h1 : (headSpec ws rm).pre.before a A.U = true := atoms_intro fun w hw => hws w hw _ _ X.warmed
  have h2 : (Cond.code y bytes maxL ret).before a A.U = true := hws _ hcode _ _ X.warmed
  have h3 : (Cond.initialized y.cls).before a A.U = true := hinit _ _ X.warmed
  have h4 : A.cells + (headSpec ws rm).room.cells ≤ R.cells := by rw [show (headSpec ws rm).room.cells = mc from hrc]; exact hp.1
  have h5 : A.slots + (headSpec ws rm).room.slots ≤ R.slots := by rw [show (headSpec ws rm).room.slots = ms from hrs]; exact hp.2.1
  have hPc : Pc a (A.U.calling g mk a) := hblind _ _ _ _ hp.2.2
  obtain ⟨U, Ls, c0, s0⟩ := A
  dsimp only [Pt.U, Pt.locs, Pt.cells, Pt.slots] at h1 h2 h3 h4 h5 X hn hPc ⊢
  obtain ⟨methY, cY, hmY, hcY, -, hlY, -, -, -, -⟩ := Cond.code_spec hn h2
  obtain ⟨kY, hkY, -⟩ := className_of_methodNamed hn
  have hinitY : kY.init = .initialized := Cond.initialized_spec (findClass_of_methodNamed hn) hkY h3
  have h : At U g.method c below := by rw [hg]; exact X.here
  have hlocals9 : W9 + (maxL + 11) + (headSpec ws rm).room.locals ≤ R.locals := hlocals
  have happ : (headSpec ws rm).appliesLoose y e.platform (U.calling g mk a) = true :=
    Spec.appliesLoose_calling (g := g) h hdg hn hkY hinitY
      (X.room_calling (g := g) (R' := (headSpec ws rm).room) hsize hmY hcY hframes (by rw [hlY]; omega) h4 h5) h1
  obtain ⟨mid, hmid⟩ := h.above
  have hfr : (U.setTop g).frames = (.java g :: mid) ++ below := by rw [State.frames_setTop' g h.top, hmid]; rfl
  obtain ⟨o, s₂, hsteps, -, hend, hq⟩ := Steps.callFree hM p X.admits X.cas X.clock (acts := []) hfr happ hPc trivial
  have hq' : vx_Q Qc XC mc ms free a (U.calling g mk a) o s₂ := hq
  rw [State.frames_setTop' g h.top] at hend
  obtain ⟨g₀, hg0⟩ := Option.isSome_iff_exists.mp h.top
  obtain ⟨r, hr⟩ := State.topJava?_eq_some.mp hg0
  have hr' : (({ U with heap := s₂.heap, slotsUsed := s₂.slotsUsed } : State).setVm s₂.vm).frames = .java g₀ :: r := hr
  rcases hq' with ⟨hqc, L, hfe, hL⟩ | ⟨q, rfl, E, ce, L, hx, hce, hcv, hcl, hW₂, hsm, hL⟩
  · obtain ⟨⟨v, rfl⟩, hW₂, e2, q2, q3, q4, q5, q6⟩ := id hfe
    have e3 : s₂ = ({ (U.calling g mk a).setFrames s₂.frames with heap := s₂.heap, slotsUsed := s₂.slotsUsed } : State).setVm s₂.vm := by
      have : s₂ = ({ s₂ with vm := (U.calling g mk a).vm } : State).setVm s₂.vm := rfl
      rw [e2] at this
      exact this
    obtain ⟨c₂, i₂, len₂, hc₂, hd₂, hf₂⟩ := hend
    have hW' : U.WarmedH s₂.vm := hW₂
    have hcc : c₂ = c := by
      have h1 : s₂.code? g.method = U.code? g.method := by
        rw [State.code?_eq, State.code?_eq, hW'.alike.method?]
      exact Option.some.inj (hc₂.symm.trans (h1.trans h.code))
    subst hcc
    have hlen : len₂ = len := by rw [hdg] at hd₂; cases hd₂; rfl
    subst hlen
    have hs₂ : s₂ = (({ U with heap := s₂.heap, slotsUsed := s₂.slotsUsed } : State).setVm s₂.vm).setTop { g with pc := g.pc + len₂, stack := v.toList ++ g.stack } := by
      refine e3.trans ?_
      rw [hf₂, State.calling_eq h.top, State.setFrames_setFrames, State.setTop_of_frames _ hr', hr]
      rfl
    have hsame : U.sameButNew ({ U with heap := s₂.heap, slotsUsed := s₂.slotsUsed } : State) L mc ms := by
      refine ⟨?_, q2, q3, q4, q5, q6⟩
      obtain ⟨t, ht, -⟩ := State.frames_cons hr
      show ({ U with heap := s₂.heap, slotsUsed := s₂.slotsUsed } : State) = { U.setFrames U.frames with heap := s₂.heap, slotsUsed := s₂.slotsUsed }
      rw [State.setFrames_self ht]
    subst hg
    refine Or.inl ⟨v, ⟨(({ U with heap := s₂.heap, slotsUsed := s₂.slotsUsed } : State).setVm s₂.vm), Ls ++ L, c0 + mc, s0 + ms⟩,
      ⟨X.admits, X.cas, X.clock, X.frames, X.room, X.hears, X.method, X.code, (X.here.setHeapUsed s₂.heap s₂.slotsUsed).setVm hW'.alike, X.tail, State.WarmedH.trans X.warmed hW', X.limits, X.bytes, X.same.trans (hsame.setVm s.vm)⟩,
      ⟨g, mk, s₂, L, rfl, rfl, hqc, rfl, hL, rfl, rfl⟩, ?_⟩
    show Steps p.tables e below _ ((({ U with heap := s₂.heap, slotsUsed := s₂.slotsUsed } : State).setVm s₂.vm).setTop { g with pc := g.pc + len₂, stack := v.toList ++ g.stack })
    rw [← hs₂]
    exact hsteps
  · obtain ⟨e2, q2, q3, q4, q5, q6⟩ := id hsm
    have e3 : s₂ = ({ (U.calling g mk a).setFrames s₂.frames with heap := s₂.heap, slotsUsed := s₂.slotsUsed } : State).setVm s₂.vm := by
      have : s₂ = ({ s₂ with vm := (U.calling g mk a).vm } : State).setVm s₂.vm := rfl
      rw [e2] at this
      exact this
    have hf₂ : s₂.frames = .throwing q :: .java g :: U.frames.tail := hend
    have hW' : U.WarmedH s₂.vm := hW₂
    have hs₂ : s₂ = ((({ U with heap := s₂.heap, slotsUsed := s₂.slotsUsed } : State).setVm s₂.vm).setTop g).pushFrame (.throwing q) := by
      refine e3.trans ?_
      rw [hf₂, State.calling_eq h.top, State.setFrames_setFrames, State.pushFrame, State.frames_setTop _ hr', State.setTop_of_frames _ hr', State.setFrames_setFrames, hr]
      rfl
    have hsame : U.sameButNew ({ U with heap := s₂.heap, slotsUsed := s₂.slotsUsed } : State) L mc ms := by
      refine ⟨?_, q2, q3, q4, q5, q6⟩
      obtain ⟨t, ht, -⟩ := State.frames_cons hr
      show ({ U with heap := s₂.heap, slotsUsed := s₂.slotsUsed } : State) = { U.setFrames U.frames with heap := s₂.heap, slotsUsed := s₂.slotsUsed }
      rw [State.setFrames_self ht]
    subst hg
    refine Or.inr ⟨q, ⟨(({ U with heap := s₂.heap, slotsUsed := s₂.slotsUsed } : State).setVm s₂.vm), Ls ++ L, c0 + mc, s0 + ms⟩,
      ⟨X.admits, X.cas, X.clock, X.frames, X.room, X.hears, X.method, X.code, (X.here.setHeapUsed s₂.heap s₂.slotsUsed).setVm hW'.alike, X.tail, State.WarmedH.trans X.warmed hW', X.limits, X.bytes, X.same.trans (hsame.setVm s.vm)⟩,
      ⟨g, mk, s₂, L, E, ce, rfl, rfl, hx, hce, hcv, hcl, rfl, hL, rfl, rfl⟩, ?_⟩
    show Steps p.tables e below _ (((({ U with heap := s₂.heap, slotsUsed := s₂.slotsUsed } : State).setVm s₂.vm).setTop g).pushFrame (.throwing q))
    rw [← hs₂]
    exact hsteps
end Payer
section Calls
variable {p : Program} {l : Launch} {e : Env} {R : Room} {s : State} {m : MethodId} {args : Array Value} {below : List Frame} {meth : Method} {c : Code} {T : State} {locs : List Loc} {cells slots : Nat}
theorem vx_callV (X : Stand p l e R s m args below meth c T locs cells slots) (hexec : p.tables.exec = Jvm.exec) {own C : String} {index : Nat} {y : MethodName} {bytes : ByteArray} {maxL : Nat} {ret : Option FieldType}
    (hown : s.vm.findClass own = some m.cls) (hlink : (Cond.methodLink own index y).before args s = true) (hinst : (Cond.instanceMethod y).before args s = true) (hsel : (Cond.selects C y y).before args s = true)
    (hcode : (Cond.code y bytes maxL ret).before args s = true) (hy : y.cls ≠ "java/lang/invoke/MethodHandle" ∧ y.cls ≠ "java/lang/invoke/VarHandle")
    {W9 : Nat} {Pre : Pt → Array Value → Prop} {Post : Pt → Array Value → Option Value → Pt → Prop} {PostX : Pt → Array Value → Addr → Pt → Prop} (hK : vx_Back l R p e below s args y 3 W9 Pre Post PostX)
    {b : Addr} {cellB : Cell} (hcell : T.heap[b]? = some cellB) (hobj : cellB.vm.isStatics = false) (hcls : s.vm.findClass C = some cellB.cls)
    {g : JFrame} (hg : g.method = m) (hsize : g.locals.size = c.maxLocals) {argsL rest : List Value} (hlen : ∀ sig, parseMethodDescriptor y.desc = some sig → argsL.length = sig.parameters.length)
    (hstack : g.stack = argsL.reverse ++ .ref b :: rest) (hW : 2 * g.monitorRoom + (rest.map fun v => v.category).sum ≤ W9) (hdg : decode c.code g.pc = .ok (.invokevirtual index, 3))
    (hpre : ∀ vm₁, s.WarmedH vm₁ → Pre ⟨T.setVm vm₁, locs, cells, slots⟩ (Value.ref b :: argsL).toArray) :
    (∃ (v : Option Value) (vm₁ : Vm) (B : Pt), s.WarmedH vm₁ ∧ Stand p l e R s m args below meth c B.U B.locs B.cells B.slots ∧ Post ⟨T.setVm vm₁, locs, cells, slots⟩ (Value.ref b :: argsL).toArray v B ∧
      ∀ target, Steps p.tables e below (B.U.setTop { g with pc := g.pc + 3, stack := v.toList ++ rest }) target → Steps p.tables e below (T.setTop g) target) ∨
    (∃ (q : Addr) (vm₁ : Vm) (B : Pt), s.WarmedH vm₁ ∧ Stand p l e R s m args below meth c B.U B.locs B.cells B.slots ∧ PostX ⟨T.setVm vm₁, locs, cells, slots⟩ (Value.ref b :: argsL).toArray q B ∧
      Steps p.tables e below (T.setTop g) ((B.U.setTop { g with stack := rest }).pushFrame (.throwing q))) := by
  obtain ⟨mk, methM, hnamed, hmethM, hstM, habM⟩ := Cond.instanceMethod_spec hinst
  obtain ⟨methM', cM, hmethM', -, -, -, -, -, -, hsigM⟩ := Cond.code_spec hnamed hcode
  cases hmethM.symm.trans hmethM'
  obtain ⟨c2, r2, m2, q1, q2, q3, q4, kP, hkP, hkPi⟩ := Cond.selects_spec hsel
  cases hcls.symm.trans q1
  cases (State.methodFound?_of_named hnamed hy).symm.trans q2
  cases hnamed.symm.trans q3
  have hselP : selectMethod e.platform s.vm cellB.cls mk = .method mk := by rw [Launch.admits_selectMethod X.admits]; exact q4
  obtain ⟨vm₁, X₁, hstep₁⟩ := X.invokevirtual hexec hown hlink hnamed hmethM hstM hkP hkPi hy (a := b) (cell := cellB) hcell
    (fun z h => by rw [h] at hobj; cases hobj) hselP hmethM habM hkP hkPi (g := g) hg (argsL := argsL) (rest := rest) (hlen _ hsigM) hstack hdg
  rcases hK m meth c ⟨T.setVm vm₁, locs, cells, slots⟩ { g with stack := rest } (.invokevirtual index) mk (Value.ref b :: argsL).toArray X₁ hg hsize hdg hW (X₁.named hnamed) (hpre vm₁ X₁.warmed) with ⟨v, B, X', hpost, hsteps⟩ | ⟨q, B, X', hpost, hsteps⟩
  · exact Or.inl ⟨v, vm₁, B, X₁.warmed, X', hpost, fun target h => hstep₁ _ fun acts => by rw [doInvoke_state]; exact hsteps.trans h⟩
  · exact Or.inr ⟨q, vm₁, B, X₁.warmed, X', hpost, hstep₁ _ fun acts => by rw [doInvoke_state]; exact hsteps⟩
theorem vx_callS (X : Stand p l e R s m args below meth c T locs cells slots) (hexec : p.tables.exec = Jvm.exec) {own : String} {index : Nat} {y : MethodName} {bytes : ByteArray} {maxL : Nat} {ret : Option FieldType}
    (hown : s.vm.findClass own = some m.cls) (hlink : (Cond.methodLink own index y).before args s = true) (hstat : (Cond.static y).before args s = true) (hinit : (Cond.initialized y.cls).before args s = true)
    (hcode : (Cond.code y bytes maxL ret).before args s = true) (hy : y.cls ≠ "java/lang/invoke/MethodHandle" ∧ y.cls ≠ "java/lang/invoke/VarHandle")
    {W9 : Nat} {Pre : Pt → Array Value → Prop} {Post : Pt → Array Value → Option Value → Pt → Prop} {PostX : Pt → Array Value → Addr → Pt → Prop} (hK : vx_Back l R p e below s args y 3 W9 Pre Post PostX)
    {g : JFrame} (hg : g.method = m) (hsize : g.locals.size = c.maxLocals) {argsL rest : List Value} (hlen : ∀ sig, parseMethodDescriptor y.desc = some sig → argsL.length = sig.parameters.length)
    (hstack : g.stack = argsL.reverse ++ rest) (hW : 2 * g.monitorRoom + (rest.map fun v => v.category).sum ≤ W9) (hdg : decode c.code g.pc = .ok (.invokestatic index, 3))
    (hpre : ∀ vm₁, s.WarmedH vm₁ → Pre ⟨T.setVm vm₁, locs, cells, slots⟩ argsL.toArray) :
    (∃ (v : Option Value) (vm₁ : Vm) (B : Pt), s.WarmedH vm₁ ∧ Stand p l e R s m args below meth c B.U B.locs B.cells B.slots ∧ Post ⟨T.setVm vm₁, locs, cells, slots⟩ argsL.toArray v B ∧
      ∀ target, Steps p.tables e below (B.U.setTop { g with pc := g.pc + 3, stack := v.toList ++ rest }) target → Steps p.tables e below (T.setTop g) target) ∨
    (∃ (q : Addr) (vm₁ : Vm) (B : Pt), s.WarmedH vm₁ ∧ Stand p l e R s m args below meth c B.U B.locs B.cells B.slots ∧ PostX ⟨T.setVm vm₁, locs, cells, slots⟩ argsL.toArray q B ∧
      Steps p.tables e below (T.setTop g) ((B.U.setTop { g with stack := rest }).pushFrame (.throwing q))) := by
  obtain ⟨mk, hnamed⟩ := Cond.code_named hcode
  obtain ⟨methM, cM, hmethM, -, -, -, -, -, -, hsigM⟩ := Cond.code_spec hnamed hcode
  have hstatic : methM.isStatic = true := Cond.static_spec hnamed hmethM hstat
  obtain ⟨kP, hkP, -⟩ := className_of_methodNamed hnamed
  have hinitP : kP.init = .initialized := Cond.initialized_spec (findClass_of_methodNamed hnamed) hkP hinit
  obtain ⟨vm₁, X₁, hstep₁⟩ := X.invokestatic hexec hown hlink hnamed hmethM hstatic hkP hinitP hy (g := g) hg (argsL := argsL) (rest := rest) (hlen _ hsigM) hstack hdg
  rcases hK m meth c ⟨T.setVm vm₁, locs, cells, slots⟩ { g with stack := rest } (.invokestatic index) mk argsL.toArray X₁ hg hsize hdg hW (X₁.named hnamed) (hpre vm₁ X₁.warmed) with ⟨v, B, X', hpost, hsteps⟩ | ⟨q, B, X', hpost, hsteps⟩
  · exact Or.inl ⟨v, vm₁, B, X₁.warmed, X', hpost, fun target h => hstep₁ _ fun acts => by rw [doInvoke_state]; exact hsteps.trans h⟩
  · exact Or.inr ⟨q, vm₁, B, X₁.warmed, X', hpost, hstep₁ _ fun acts => by rw [doInvoke_state]; exact hsteps⟩
end Calls
theorem vx_cls {s : State} {T : State} {vm₁ : Vm} {E : String} {k : ClassId} (hW : s.WarmedH vm₁) (h : (T.setVm vm₁).vm.findClass E = some k) : s.vm.findClass E = some k := by
  have h1 : vm₁.findClass E = some k := h
  rw [hW.alike.findClass] at h1
  exact h1
/-- the method's frame g, with q thrown over it -/
def vx_W (p : Program) (l : Launch) (e : Env) (R : Room) (s : State) (m : MethodId) (args : Array Value) (below : List Frame) (meth : Method) (c : Code) (H : Heap) (locs : List Loc) (cells slots : Nat) (Q : State → Prop) (g : JFrame) (q : Addr) : Prop :=
  ∀ T : State, T.heap = H → Stand p l e R s m args below meth c T locs cells slots → ∃ t, Steps p.tables e below ((T.setTop g).pushFrame (.throwing q)) t ∧ Q t
def vx_Run (p : Program) (l : Launch) (e : Env) (R : Room) (s : State) (m : MethodId) (args : Array Value) (below : List Frame) (meth : Method) (c : Code) (H : Heap) (locs : List Loc) (cells slots mc ms : Nat) (g : JFrame) (rest : List Value) (Qa : State → Outcome → State → Prop) (XC : String → State → State → Prop) (free : Addr → Prop) : Prop :=
  ∀ T : State, T.heap = H → Stand p l e R s m args below meth c T locs cells slots →
    (∃ (v : Option Value) (st₀ t T' : State) (L : List Loc), st₀.heap = H ∧ Stand p l e R s m args below meth c T' (locs ++ L) (cells + mc) (slots + ms) ∧ (∀ q ∈ L, free q.base) ∧ T'.heap = t.heap ∧ T'.vm = t.vm ∧ Qa st₀ (.returned v) t ∧
      Goes p e below T g T' { g with pc := g.pc + 3, stack := v.toList ++ rest }) ∨
    (∃ (q : Addr) (st₀ t T' : State) (L : List Loc) (E : String) (ce : Cell), st₀.heap = H ∧ Stand p l e R s m args below meth c T' (locs ++ L) (cells + mc) (slots + ms) ∧ (∀ z ∈ L, free z.base) ∧ T'.heap = t.heap ∧ T'.vm = t.vm ∧ XC E st₀ t ∧ t.heap[q]? = some ce ∧ ce.vm = .none ∧ s.vm.findClass E = some ce.cls ∧
      Steps p.tables e below (T.setTop g) ((T'.setTop { g with stack := rest }).pushFrame (.throwing q)))
def vx_X {S : Type} (px : S → Prop) (B : String → S → State → Prop) (A : Nat → Prop) : String → State → State → Prop := fun E st t => ∃ u : S, px u ∧ B E u t ∧ va_F A st t
section Runs
variable {p : Program} {l : Launch} {e : Env} {R : Room} {s : State} {m : MethodId} {args : Array Value} {below : List Frame} {meth : Method} {c : Code} {H : Heap} {locs : List Loc} {cells slots : Nat}
variable {y : MethodName} {bytes cc : ByteArray} {maxL nL mc ms n index : Nat} {ret : Option FieldType} {ws : List Cond} {rm : Room} {Pc : Array Value → State → Prop} {Qc : Array Value → State → Outcome → State → Prop} {XC : String → State → State → Prop} {free : Addr → Prop} {Ts : List Cond} {own C : String} {b : Addr} {As rest : List Value} {g : JFrame}
theorem vx_callBack (cb : CallB R s args own index y bytes maxL ret ws rm mc ms n) (hM : vx_Met l y ws rm Pc Qc XC mc ms free) (hbl : FrameBlind Pc) : vx_Back l R p e below s args y 3 8 (PreOf R mc ms Pc) (PostOf Qc mc ms free) (vx_Post XC mc ms free) := by
  obtain ⟨hrc, hrs, hfr, hlo, hws, hcw, -, hini, -⟩ := cb
  exact vx_back (bytes := bytes) (maxL := maxL) (ret := ret) hM hbl hrc hrs hfr hlo hws hcw (fun a' U hW => word_at hW (Or.inl (by first | rfl | simp [Cond.onTables, Cond.keeps, Cond.steady])) hini)
theorem vx_runV (S : CallFix p m c cc nL s args Ts own) (hM : vx_Met l y ws rm Pc Qc XC mc ms free) (cw : CallW R s args own C index y bytes maxL ret ws rm mc ms n) (hp : PreV s H C b Pc As)
    (hg : g.method = m) (hn : As.length = n) (hsize : g.locals.size = nL) (hstack : g.stack = As.reverse ++ .ref b :: rest) (hW : 2 * g.monitorRoom + (rest.map fun v => v.category).sum ≤ 8) (hdg : decode cc g.pc = .ok (.invokevirtual index, 3)) (hf : cells + mc ≤ R.cells ∧ slots + ms ≤ R.slots) :
    vx_Run p l e R s m args below meth c H locs cells slots mc ms g rest (Qc (Value.ref b :: As).toArray) XC free := by
  have hK : vx_Back l R p e below s args y 3 8 (PreOf R mc ms Pc) (PostOf Qc mc ms free) (vx_Post XC mc ms free) := vx_callBack cw.1 hM hp.1
  obtain ⟨⟨-, -, -, -, -, -, hcode, -, hy, hlen, hl⟩, hin, hse⟩ := cw
  obtain ⟨hx, hb, hml, ho, -⟩ := S
  obtain ⟨-, ⟨cellB, hcB, hoB, hclB⟩, hPc⟩ := hp
  intro T hT X
  rcases vx_callV X hx (C := C) (bytes := bytes) (maxL := maxL) (ret := ret) ho hl hin hse hcode hy hK (by rw [hT]; exact hcB) hoB hclB hg (hsize.trans hml.symm) (argsL := As) (rest := rest) (fun sig h => hn.trans (hlen sig h)) hstack hW (by rw [hb]; exact hdg)
    (fun vm₁ hW₁ => ⟨hf.1, hf.2, hPc (T.setVm vm₁) hT hW₁⟩) with ⟨v, vm₁, ⟨U', l2, c2, s2⟩, hW₁, X', ⟨g', mk, t, L, e1, e2, hq, h1, hL, h2, h3⟩, st⟩ | ⟨q, vm₁, ⟨U', l2, c2, s2⟩, hW₁, X', ⟨g', mk, t, L, E, ce, e1, e2, hq, hce, hcv, hcl, h1, hL, h2, h3⟩, st⟩
  · dsimp only [Pt.U, Pt.locs, Pt.cells, Pt.slots] at X' e1 e2 h1 h2 h3 st
    subst h1; subst h2; subst h3
    exact Or.inl ⟨v, (T.setVm vm₁).calling g' mk (Value.ref b :: As).toArray, t, U', L, hT, X', hL, e1, e2, hq, st⟩
  · dsimp only [Pt.U, Pt.locs, Pt.cells, Pt.slots] at X' e1 e2 h1 h2 h3 st hcl
    subst h1; subst h2; subst h3
    exact Or.inr ⟨q, (T.setVm vm₁).calling g' mk (Value.ref b :: As).toArray, t, U', L, E, ce, hT, X', hL, e1, e2, hq, hce, hcv, vx_cls hW₁ hcl, st⟩
theorem vx_runS (S : CallFix p m c cc nL s args Ts own) (hM : vx_Met l y ws rm Pc Qc XC mc ms free) (cw : CallB R s args own index y bytes maxL ret ws rm mc ms n ∧ (Cond.static y).before args s = true) (hp : PreS s H Pc As)
    (hg : g.method = m) (hn : As.length = n) (hsize : g.locals.size = nL) (hstack : g.stack = As.reverse ++ rest) (hW : 2 * g.monitorRoom + (rest.map fun v => v.category).sum ≤ 8) (hdg : decode cc g.pc = .ok (.invokestatic index, 3)) (hf : cells + mc ≤ R.cells ∧ slots + ms ≤ R.slots) :
    vx_Run p l e R s m args below meth c H locs cells slots mc ms g rest (Qc As.toArray) XC free := by
  have hK : vx_Back l R p e below s args y 3 8 (PreOf R mc ms Pc) (PostOf Qc mc ms free) (vx_Post XC mc ms free) := vx_callBack cw.1 hM hp.1
  obtain ⟨⟨-, -, -, -, -, -, hcode, hini, hy, hlen, hl⟩, hstt⟩ := cw
  obtain ⟨hx, hb, hml, ho, -⟩ := S
  intro T hT X
  rcases vx_callS X hx (bytes := bytes) (maxL := maxL) (ret := ret) ho hl hstt hini hcode hy hK hg (hsize.trans hml.symm) (argsL := As) (rest := rest) (fun sig h => hn.trans (hlen sig h)) hstack hW (by rw [hb]; exact hdg)
    (fun vm₁ hW₁ => ⟨hf.1, hf.2, hp.2 (T.setVm vm₁) hT hW₁⟩) with ⟨v, vm₁, ⟨U', l2, c2, s2⟩, hW₁, X', ⟨g', mk, t, L, e1, e2, hq, h1, hL, h2, h3⟩, st⟩ | ⟨q, vm₁, ⟨U', l2, c2, s2⟩, hW₁, X', ⟨g', mk, t, L, E, ce, e1, e2, hq, hce, hcv, hcl, h1, hL, h2, h3⟩, st⟩
  · dsimp only [Pt.U, Pt.locs, Pt.cells, Pt.slots] at X' e1 e2 h1 h2 h3 st
    subst h1; subst h2; subst h3
    exact Or.inl ⟨v, (T.setVm vm₁).calling g' mk As.toArray, t, U', L, hT, X', hL, e1, e2, hq, st⟩
  · dsimp only [Pt.U, Pt.locs, Pt.cells, Pt.slots] at X' e1 e2 h1 h2 h3 st hcl
    subst h1; subst h2; subst h3
    exact Or.inr ⟨q, (T.setVm vm₁).calling g' mk As.toArray, t, U', L, E, ce, hT, X', hL, e1, e2, hq, hce, hcv, vx_cls hW₁ hcl, st⟩
end Runs
section Rows
variable {p : Program} {l : Launch} {e : Env} {R : Room} {s : State} {m : MethodId} {args : Array Value} {below : List Frame} {meth : Method} {c : Code} {H : Heap} {locs : List Loc} {cells slots : Nat} {Q : State → Prop}
variable {mc ms : Nat} {free : Addr → Prop} {A0 A1 : Nat → Prop} {H0 : Heap} {a : Array Value} {pc : Nat} {ls : Array Slot} {st0 rest : List Value}
theorem vx_keep {st₀ t T' : State} {L : List Loc} (h0 : st₀.heap = H) (e1 : T'.heap = t.heap) (hS : va_S A0 H0 H locs) (hA : ∀ q, q < H.size → A1 q → A0 q) (hf : ∀ q, free q → A0 q) (hL : ∀ q ∈ L, free q.base) (hF : va_F A1 st₀ t) :
    H.size ≤ T'.heap.size ∧ (∀ q : Nat, q < H.size → ¬ A1 q → T'.heap[q]? = H[q]?) ∧ va_S A0 H0 T'.heap (locs ++ L) := by
  obtain ⟨hz, hk⟩ := hF
  rw [h0] at hz hk
  exact ⟨by rw [e1]; exact hz, fun q h1 h2 => by rw [e1]; exact hk q h1 h2,
    ⟨Nat.le_trans hS.1 (by rw [e1]; exact hz), fun q h1 h2 => by rw [e1, hk q (Nat.lt_of_lt_of_le h1 hS.1) (fun z => h2 (hA q (Nat.lt_of_lt_of_le h1 hS.1) z))]; exact hS.2.1 q h1 h2, fun q hq => by
      rcases List.mem_append.mp hq with h | h
      · exact hS.2.2 q h
      · exact hf _ (hL q h)⟩⟩
theorem vx_calli {S SX : Type} {post : Int32 → S → Prop} {px : SX → Prop} {B : S → State → Prop} {BX : String → SX → State → Prop} {AX : Nat → Prop} (hr : vx_Run p l e R s m args below meth c H locs cells slots mc ms (F0 m pc ls st0) rest (va_Qi post B A1 a) (vx_X px BX AX) free) (hS : va_S A0 H0 H locs) (hA : ∀ q, q < H.size → A1 q → A0 q) (hf : ∀ q, free q → A0 q) (hAX : ∀ q, q < H.size → AX q → A0 q)
    (kx : ∀ (E : String) (ce : Cell) (q9 : Addr) (u : SX) (t : State) (H1 : Heap) (locs1 : List Loc), t.heap = H1 → s.vm.Alike t.vm → px u → BX E u t → H.size ≤ H1.size → (∀ q : Nat, q < H.size → ¬ AX q → H1[q]? = H[q]?) → va_S A0 H0 H1 locs1 → H1[q9]? = some ce → ce.vm = .none → s.vm.findClass E = some ce.cls → vx_W p l e R s m args below meth c H1 locs1 (cells + mc) (slots + ms) Q (F0 m pc ls rest) q9)
    (kk : ∀ (r : Int32) (u : S) (t : State) (H1 : Heap) (locs1 : List Loc), t.heap = H1 → s.vm.Alike t.vm → post r u → B u t → H.size ≤ H1.size → (∀ q : Nat, q < H.size → ¬ A1 q → H1[q]? = H[q]?) → va_S A0 H0 H1 locs1 → W p l e R s m args below meth c H1 locs1 (cells + mc) (slots + ms) Q (F0 m (pc + 3) ls (.int r :: rest))) : W p l e R s m args below meth c H locs cells slots Q (F0 m pc ls st0) := by
  intro T hT X
  rcases hr T hT X with ⟨v, st₀, t, T', L, h0, X', hL, e1, e2, ⟨⟨r, u, hv, hp, hb⟩, hF⟩, st⟩ | ⟨q, st₀, t, T', L, E, ce, h0, X', hL, e1, e2, ⟨u, hp, hb, hF⟩, hce, hcv, hcl, st⟩
  · cases hv
    obtain ⟨k1, k2, k3⟩ := vx_keep h0 e1 hS hA hf hL hF
    obtain ⟨t2, a1, b1⟩ := kk r u t T'.heap (locs ++ L) e1.symm (by rw [← e2]; exact X'.warmed.alike) hp hb k1 k2 k3 T' rfl X'
    exact ⟨t2, st t2 a1, b1⟩
  · obtain ⟨k1, k2, k3⟩ := vx_keep h0 e1 hS hAX hf hL hF
    obtain ⟨t2, a1, b1⟩ := kx E ce q u t T'.heap (locs ++ L) e1.symm (by rw [← e2]; exact X'.warmed.alike) hp hb k1 k2 k3 (by rw [e1]; exact hce) hcv hcl T' rfl X'
    exact ⟨t2, st.trans a1, b1⟩
theorem vx_calll {S SX : Type} {post : Int64 → S → Prop} {px : SX → Prop} {B : S → State → Prop} {BX : String → SX → State → Prop} {AX : Nat → Prop} (hr : vx_Run p l e R s m args below meth c H locs cells slots mc ms (F0 m pc ls st0) rest (va_Ql post B A1 a) (vx_X px BX AX) free) (hS : va_S A0 H0 H locs) (hA : ∀ q, q < H.size → A1 q → A0 q) (hf : ∀ q, free q → A0 q) (hAX : ∀ q, q < H.size → AX q → A0 q)
    (kx : ∀ (E : String) (ce : Cell) (q9 : Addr) (u : SX) (t : State) (H1 : Heap) (locs1 : List Loc), t.heap = H1 → s.vm.Alike t.vm → px u → BX E u t → H.size ≤ H1.size → (∀ q : Nat, q < H.size → ¬ AX q → H1[q]? = H[q]?) → va_S A0 H0 H1 locs1 → H1[q9]? = some ce → ce.vm = .none → s.vm.findClass E = some ce.cls → vx_W p l e R s m args below meth c H1 locs1 (cells + mc) (slots + ms) Q (F0 m pc ls rest) q9)
    (kk : ∀ (r : Int64) (u : S) (t : State) (H1 : Heap) (locs1 : List Loc), t.heap = H1 → s.vm.Alike t.vm → post r u → B u t → H.size ≤ H1.size → (∀ q : Nat, q < H.size → ¬ A1 q → H1[q]? = H[q]?) → va_S A0 H0 H1 locs1 → W p l e R s m args below meth c H1 locs1 (cells + mc) (slots + ms) Q (F0 m (pc + 3) ls (.long r :: rest))) : W p l e R s m args below meth c H locs cells slots Q (F0 m pc ls st0) := by
  intro T hT X
  rcases hr T hT X with ⟨v, st₀, t, T', L, h0, X', hL, e1, e2, ⟨⟨r, u, hv, hp, hb⟩, hF⟩, st⟩ | ⟨q, st₀, t, T', L, E, ce, h0, X', hL, e1, e2, ⟨u, hp, hb, hF⟩, hce, hcv, hcl, st⟩
  · cases hv
    obtain ⟨k1, k2, k3⟩ := vx_keep h0 e1 hS hA hf hL hF
    obtain ⟨t2, a1, b1⟩ := kk r u t T'.heap (locs ++ L) e1.symm (by rw [← e2]; exact X'.warmed.alike) hp hb k1 k2 k3 T' rfl X'
    exact ⟨t2, st t2 a1, b1⟩
  · obtain ⟨k1, k2, k3⟩ := vx_keep h0 e1 hS hAX hf hL hF
    obtain ⟨t2, a1, b1⟩ := kx E ce q u t T'.heap (locs ++ L) e1.symm (by rw [← e2]; exact X'.warmed.alike) hp hb k1 k2 k3 (by rw [e1]; exact hce) hcv hcl T' rfl X'
    exact ⟨t2, st.trans a1, b1⟩
theorem vx_callf {S SX : Type} {post : UInt32 → S → Prop} {px : SX → Prop} {B : S → State → Prop} {BX : String → SX → State → Prop} {AX : Nat → Prop} (hr : vx_Run p l e R s m args below meth c H locs cells slots mc ms (F0 m pc ls st0) rest (va_Qf post B A1 a) (vx_X px BX AX) free) (hS : va_S A0 H0 H locs) (hA : ∀ q, q < H.size → A1 q → A0 q) (hf : ∀ q, free q → A0 q) (hAX : ∀ q, q < H.size → AX q → A0 q)
    (kx : ∀ (E : String) (ce : Cell) (q9 : Addr) (u : SX) (t : State) (H1 : Heap) (locs1 : List Loc), t.heap = H1 → s.vm.Alike t.vm → px u → BX E u t → H.size ≤ H1.size → (∀ q : Nat, q < H.size → ¬ AX q → H1[q]? = H[q]?) → va_S A0 H0 H1 locs1 → H1[q9]? = some ce → ce.vm = .none → s.vm.findClass E = some ce.cls → vx_W p l e R s m args below meth c H1 locs1 (cells + mc) (slots + ms) Q (F0 m pc ls rest) q9)
    (kk : ∀ (r : UInt32) (u : S) (t : State) (H1 : Heap) (locs1 : List Loc), t.heap = H1 → s.vm.Alike t.vm → post r u → B u t → H.size ≤ H1.size → (∀ q : Nat, q < H.size → ¬ A1 q → H1[q]? = H[q]?) → va_S A0 H0 H1 locs1 → W p l e R s m args below meth c H1 locs1 (cells + mc) (slots + ms) Q (F0 m (pc + 3) ls (.float r :: rest))) : W p l e R s m args below meth c H locs cells slots Q (F0 m pc ls st0) := by
  intro T hT X
  rcases hr T hT X with ⟨v, st₀, t, T', L, h0, X', hL, e1, e2, ⟨⟨r, u, hv, hp, hb⟩, hF⟩, st⟩ | ⟨q, st₀, t, T', L, E, ce, h0, X', hL, e1, e2, ⟨u, hp, hb, hF⟩, hce, hcv, hcl, st⟩
  · cases hv
    obtain ⟨k1, k2, k3⟩ := vx_keep h0 e1 hS hA hf hL hF
    obtain ⟨t2, a1, b1⟩ := kk r u t T'.heap (locs ++ L) e1.symm (by rw [← e2]; exact X'.warmed.alike) hp hb k1 k2 k3 T' rfl X'
    exact ⟨t2, st t2 a1, b1⟩
  · obtain ⟨k1, k2, k3⟩ := vx_keep h0 e1 hS hAX hf hL hF
    obtain ⟨t2, a1, b1⟩ := kx E ce q u t T'.heap (locs ++ L) e1.symm (by rw [← e2]; exact X'.warmed.alike) hp hb k1 k2 k3 (by rw [e1]; exact hce) hcv hcl T' rfl X'
    exact ⟨t2, st.trans a1, b1⟩
theorem vx_calld {S SX : Type} {post : UInt64 → S → Prop} {px : SX → Prop} {B : S → State → Prop} {BX : String → SX → State → Prop} {AX : Nat → Prop} (hr : vx_Run p l e R s m args below meth c H locs cells slots mc ms (F0 m pc ls st0) rest (va_Qd post B A1 a) (vx_X px BX AX) free) (hS : va_S A0 H0 H locs) (hA : ∀ q, q < H.size → A1 q → A0 q) (hf : ∀ q, free q → A0 q) (hAX : ∀ q, q < H.size → AX q → A0 q)
    (kx : ∀ (E : String) (ce : Cell) (q9 : Addr) (u : SX) (t : State) (H1 : Heap) (locs1 : List Loc), t.heap = H1 → s.vm.Alike t.vm → px u → BX E u t → H.size ≤ H1.size → (∀ q : Nat, q < H.size → ¬ AX q → H1[q]? = H[q]?) → va_S A0 H0 H1 locs1 → H1[q9]? = some ce → ce.vm = .none → s.vm.findClass E = some ce.cls → vx_W p l e R s m args below meth c H1 locs1 (cells + mc) (slots + ms) Q (F0 m pc ls rest) q9)
    (kk : ∀ (r : UInt64) (u : S) (t : State) (H1 : Heap) (locs1 : List Loc), t.heap = H1 → s.vm.Alike t.vm → post r u → B u t → H.size ≤ H1.size → (∀ q : Nat, q < H.size → ¬ A1 q → H1[q]? = H[q]?) → va_S A0 H0 H1 locs1 → W p l e R s m args below meth c H1 locs1 (cells + mc) (slots + ms) Q (F0 m (pc + 3) ls (.double r :: rest))) : W p l e R s m args below meth c H locs cells slots Q (F0 m pc ls st0) := by
  intro T hT X
  rcases hr T hT X with ⟨v, st₀, t, T', L, h0, X', hL, e1, e2, ⟨⟨r, u, hv, hp, hb⟩, hF⟩, st⟩ | ⟨q, st₀, t, T', L, E, ce, h0, X', hL, e1, e2, ⟨u, hp, hb, hF⟩, hce, hcv, hcl, st⟩
  · cases hv
    obtain ⟨k1, k2, k3⟩ := vx_keep h0 e1 hS hA hf hL hF
    obtain ⟨t2, a1, b1⟩ := kk r u t T'.heap (locs ++ L) e1.symm (by rw [← e2]; exact X'.warmed.alike) hp hb k1 k2 k3 T' rfl X'
    exact ⟨t2, st t2 a1, b1⟩
  · obtain ⟨k1, k2, k3⟩ := vx_keep h0 e1 hS hAX hf hL hF
    obtain ⟨t2, a1, b1⟩ := kx E ce q u t T'.heap (locs ++ L) e1.symm (by rw [← e2]; exact X'.warmed.alike) hp hb k1 k2 k3 (by rw [e1]; exact hce) hcv hcl T' rfl X'
    exact ⟨t2, st.trans a1, b1⟩
theorem vx_callv {S SX : Type} {post : S → Prop} {px : SX → Prop} {B : S → State → Prop} {BX : String → SX → State → Prop} {AX : Nat → Prop} (hr : vx_Run p l e R s m args below meth c H locs cells slots mc ms (F0 m pc ls st0) rest (va_Qv post B A1 a) (vx_X px BX AX) free) (hS : va_S A0 H0 H locs) (hA : ∀ q, q < H.size → A1 q → A0 q) (hf : ∀ q, free q → A0 q) (hAX : ∀ q, q < H.size → AX q → A0 q)
    (kx : ∀ (E : String) (ce : Cell) (q9 : Addr) (u : SX) (t : State) (H1 : Heap) (locs1 : List Loc), t.heap = H1 → s.vm.Alike t.vm → px u → BX E u t → H.size ≤ H1.size → (∀ q : Nat, q < H.size → ¬ AX q → H1[q]? = H[q]?) → va_S A0 H0 H1 locs1 → H1[q9]? = some ce → ce.vm = .none → s.vm.findClass E = some ce.cls → vx_W p l e R s m args below meth c H1 locs1 (cells + mc) (slots + ms) Q (F0 m pc ls rest) q9)
    (kk : ∀ (u : S) (t : State) (H1 : Heap) (locs1 : List Loc), t.heap = H1 → s.vm.Alike t.vm → post u → B u t → H.size ≤ H1.size → (∀ q : Nat, q < H.size → ¬ A1 q → H1[q]? = H[q]?) → va_S A0 H0 H1 locs1 → W p l e R s m args below meth c H1 locs1 (cells + mc) (slots + ms) Q (F0 m (pc + 3) ls (rest))) : W p l e R s m args below meth c H locs cells slots Q (F0 m pc ls st0) := by
  intro T hT X
  rcases hr T hT X with ⟨v, st₀, t, T', L, h0, X', hL, e1, e2, ⟨⟨u, hv, hp, hb⟩, hF⟩, st⟩ | ⟨q, st₀, t, T', L, E, ce, h0, X', hL, e1, e2, ⟨u, hp, hb, hF⟩, hce, hcv, hcl, st⟩
  · cases hv
    obtain ⟨k1, k2, k3⟩ := vx_keep h0 e1 hS hA hf hL hF
    obtain ⟨t2, a1, b1⟩ := kk u t T'.heap (locs ++ L) e1.symm (by rw [← e2]; exact X'.warmed.alike) hp hb k1 k2 k3 T' rfl X'
    exact ⟨t2, st t2 a1, b1⟩
  · obtain ⟨k1, k2, k3⟩ := vx_keep h0 e1 hS hAX hf hL hF
    obtain ⟨t2, a1, b1⟩ := kx E ce q u t T'.heap (locs ++ L) e1.symm (by rw [← e2]; exact X'.warmed.alike) hp hb k1 k2 k3 (by rw [e1]; exact hce) hcv hcl T' rfl X'
    exact ⟨t2, st.trans a1, b1⟩
/-- caught by the row x of this method's table; the rows ahead don't take it -/
theorem vx_catch {own name : String} {E : String} {ce : Cell} {q : Addr} (hown : s.vm.findClass own = some m.cls) (pre : List ExceptionTableEntry) (x : ExceptionTableEntry) (suf : List ExceptionTableEntry) (hsplit : c.exceptionTable.toList = pre ++ x :: suf)
    (hpass : ∀ z ∈ pre, covers z pc = false ∨ (z.catchType ≠ 0 ∧ ∃ nm : String, (Cond.classLink own z.catchType nm).before args s = true ∧ va_Nc E nm s)) (hx : covers x pc = true) (h0 : x.catchType ≠ 0)
    (hlink : (Cond.classLink own x.catchType name).before args s = true) (hcast : (Cond.castable E name).before args s = true) (hcell : H[q]? = some ce) (hv : ce.vm = .none) (hcl : s.vm.findClass E = some ce.cls)
    (kk : W p l e R s m args below meth c H locs cells slots Q (F0 m x.handlerPc ls [.ref q])) : vx_W p l e R s m args below meth c H locs cells slots Q (F0 m pc ls rest) q := by
  intro T hT X
  have hpl : e.platform.magicAccessors = ({} : Platform).magicAccessors := by rw [X.admits.platform]
  obtain ⟨c3, c4, hc3, hc4, hasg⟩ := Cond.castable_spec hcast
  cases Option.some.inj (hc3.symm.trans hcl)
  obtain ⟨c5, hc5, hcl5⟩ := Cond.classLink_spec hown hlink e.platform hpl
  cases Option.some.inj (hc4.symm.trans hc5)
  obtain ⟨vm', X', st⟩ := X.thenCaughtThrough q (g := F0 m pc ls rest) rfl (Steps.refl _) (by rw [hT]; exact hcell) (by rw [hv]; rfl) (by obtain ⟨k9, h9, -⟩ := Vm.findClass_spec hcl; exact ⟨k9, h9⟩) pre x suf hsplit
    (fun z hz => by
      rcases hpass z hz with h | ⟨hz0, nm, hl1, hn1⟩
      · exact Or.inl h
      · obtain ⟨c6, hc6, hcl6⟩ := Cond.classLink_spec hown hl1 e.platform hpl
        obtain ⟨a8, b8, h1, h2, h3⟩ := hn1
        cases Option.some.inj (h1.symm.trans hcl)
        cases Option.some.inj (h2.symm.trans hc6)
        exact Or.inr ⟨hz0, _, hcl6, h3⟩) hx (Or.inr ⟨h0, c4, hcl5, hasg⟩)
  obtain ⟨t, a1, b1⟩ := kk (T.setVm vm') hT X'
  exact ⟨t, st.trans a1, b1⟩
end Rows
section Ends
variable {p : Program} {l : Launch} {e : Env} {R : Room} {s : State} {m : MethodId} {args : Array Value} {below : List Frame} {meth : Method} {c : Code} {H : Heap} {locs : List Loc} {cells slots : Nat} {Q : State → Prop}
variable {mc ms : Nat} {free : Addr → Prop} {A0 A1 : Nat → Prop} {H0 : Heap} {a : Array Value} {ls : Array Slot} {st0 rest : List Value}
variable {Qc : Array Value → State → Outcome → State → Prop} {XC : String → State → State → Prop}
/-- what a body that may throw owes at its end -/
def vx_MQ (below : List Frame) (Qc : Array Value → State → Outcome → State → Prop) (XC : String → State → State → Prop) (a : Array Value) (s : State) (mc ms : Nat) (free : Addr → Prop) : State → Prop := fun t =>
  ∃ o, t.status = .running ∧ Ended t below o ∧ vx_Q Qc XC mc ms free a s o t
theorem vx_ret {g : JFrame} {mc ms : Nat} (k : W p l e R s m args below meth c H locs cells slots (MQ below Qc args s mc ms free) g) : W p l e R s m args below meth c H locs cells slots (vx_MQ below Qc XC args s mc ms free) g := by
  intro T hT X
  obtain ⟨t, a1, o, b1, b2, b3, b4⟩ := k T hT X
  exact ⟨t, a1, o, b1, b2, Or.inl ⟨b3, b4⟩⟩
/-- not caught here: it goes on to the caller -/
theorem vx_widen {g : JFrame} {q : Addr} {k n : Nat} (h1 : cells ≤ k) (h2 : slots ≤ n) (kk : vx_W p l e R s m args below meth c H locs k n Q g q) : vx_W p l e R s m args below meth c H locs cells slots Q g q := fun T hT X => kk T hT (stand_widen X h1 h2)
theorem vx_out {pc : Nat} {E : String} {ce : Cell} {q : Addr} {mc ms : Nat} (hout : ∀ x ∈ c.exceptionTable.toList, covers x pc = false) (hlocks : meth.locks = false) (hcell : H[q]? = some ce) (hv : ce.vm = .none) (hcl : s.vm.findClass E = some ce.cls)
    (hx : ∀ t : State, t.heap = H → s.vm.Alike t.vm → XC E s t) (hf : ∀ z ∈ locs, free z.base) (hc : cells ≤ mc) (hs : slots ≤ ms) :
    vx_W p l e R s m args below meth c H locs cells slots (vx_MQ below Qc XC args s mc ms free) (F0 m pc ls rest) q := by
  intro T hT X
  obtain ⟨st1, hrun, hend, hW, hsm⟩ := X.leaveThrown q (g := F0 m pc ls rest) rfl rfl rfl hout hlocks
  have hcell9 : (T.setFrames (.throwing q :: below)).heap[q]? = some ce := by
    show T.heap[q]? = some ce
    rw [hT]; exact hcell
  exact ⟨_, st1, .threw q, hrun, hend, Or.inr ⟨q, rfl, E, ce, locs, hx _ hT hW.alike, hcell9, hv, hcl, hW, hsm.mono hc hs, hf⟩⟩
theorem vx_frame {U : State} {k n : Nat} (h : s.sameButNew ({ U with vm := s.vm } : State) locs k n) : s.heap.size ≤ U.heap.size ∧ ∀ q : Nat, q < s.heap.size → (∀ z ∈ locs, z.base ≠ q) → U.heap[q]? = s.heap[q]? := by
  obtain ⟨-, h2, -, -, -, h6⟩ := h
  refine ⟨h2, fun q hq hz => ?_⟩
  obtain ⟨c9, e1, e2, e3, e4⟩ := h6 q _ (Array.getElem?_eq_getElem hq)
  have hs : c9.slots = (s.heap[q]).slots := Array.ext_getElem? fun i => e4 i fun hm => hz _ hm rfl
  have h9 : c9 = s.heap[q] := by
    rw [hs] at e2
    exact e2
  have e5 : U.heap[q]? = some c9 := e1
  rw [e5, h9, Array.getElem?_eq_getElem hq]
/-- the words of a throw but the four that speak of the heap -/
def vx_no (w : Cond) : Bool := decide (w ≠ .isRef (.static Bundle.tN "UNASSIGNED_STACK" Bundle.steD)) && decide (w ≠ .isRef (.static Bundle.tN "SUPPRESSED_SENTINEL" Bundle.listD)) && decide (w ≠ .laysStatic Bundle.tN "UNASSIGNED_STACK" Bundle.steD) && decide (w ≠ .laysStatic Bundle.tN "SUPPRESSED_SENTINEL" Bundle.listD)
def vx_at0 (own : String) (ic : Nat) (X : String) (names : List String) : List Cond := (Bundle.ownAtoms0 own ic X names).filter vx_no
def vx_atS (own : String) (ic : Nat) (X : String) (names : List String) : List Cond := (Bundle.ownAtoms own ic X names).filter vx_no
/-- a word that the tables alone decide, or a good one -/
def vx_ot (w : Cond) : Bool := w.onTables || goodWord w
theorem vx_ot_at {args a' : Array Value} {s U : State} {w : Cond} (hW : s.WarmedH U.vm) (hvm : s.vm = U.vm) (hg : vx_ot w = true) (h : w.before args s = true) : w.before a' U = true := by
  simp only [vx_ot, Bool.or_eq_true] at hg
  rcases hg with hg | hg
  · exact va_tabs hg hvm h
  · exact word_at hW (good_of_word hg) h
/-- a list's words: the good ones out of the method's own list, the others by premises of their own -/
theorem vx_hat {args : Array Value} {s : State} {L B : List Cond} (h1 : ∀ w ∈ L.filter goodWord, w.before args s = true) (h2 : ∀ w ∈ L.filter (fun w => !goodWord w), w ∈ B) (h3 : ∀ w ∈ B, w.before args s = true) : ∀ w ∈ L, w.before args s = true := by
  intro w hw
  by_cases g : goodWord w = true
  · exact h1 w (List.mem_filter.mpr ⟨hw, g⟩)
  · refine h3 w (h2 w (List.mem_filter.mpr ⟨hw, ?_⟩))
    show (!goodWord w) = true
    cases hgw : goodWord w
    · rfl
    · exact absurd hgw g
theorem vx_c {args : Array Value} {s : State} {w : Cond} {B : List Cond} (h : w.before args s = true) (t : ∀ w ∈ B, w.before args s = true) : ∀ w' ∈ w :: B, w'.before args s = true := fun w' h' => (List.mem_cons.mp h').elim (fun e => by rw [e]; exact h) (t w')
theorem vx_n {args : Array Value} {s : State} : ∀ w ∈ ([] : List Cond), w.before args s = true := fun _ h => nomatch h
theorem vx_own {args : Array Value} {s : State} {L : List Cond} (h1 : ∀ w ∈ L.filter vx_no, w.before args s = true)
    (hU : (Cond.isRef (.static Bundle.tN "UNASSIGNED_STACK" Bundle.steD)).before args s = true) (hN : (Cond.isRef (.static Bundle.tN "SUPPRESSED_SENTINEL" Bundle.listD)).before args s = true)
    (lU : (Cond.laysStatic Bundle.tN "UNASSIGNED_STACK" Bundle.steD).before args s = true) (lN : (Cond.laysStatic Bundle.tN "SUPPRESSED_SENTINEL" Bundle.listD).before args s = true) : ∀ w ∈ L, w.before args s = true := by
  intro w hw
  by_cases e1 : w = .isRef (.static Bundle.tN "UNASSIGNED_STACK" Bundle.steD)
  · rw [e1]; exact hU
  · by_cases e2 : w = .isRef (.static Bundle.tN "SUPPRESSED_SENTINEL" Bundle.listD)
    · rw [e2]; exact hN
    · by_cases e3 : w = .laysStatic Bundle.tN "UNASSIGNED_STACK" Bundle.steD
      · rw [e3]; exact lU
      · by_cases e4 : w = .laysStatic Bundle.tN "SUPPRESSED_SENTINEL" Bundle.listD
        · rw [e4]; exact lN
        · exact h1 w (List.mem_filter.mpr ⟨hw, by unfold vx_no; rw [decide_eq_true e1, decide_eq_true e2, decide_eq_true e3, decide_eq_true e4]; rfl⟩)
/-- where a static field lies, its class's statics cell in H -/
def vx_L (C n d : String) (A : Nat → Prop) (U : State) (H : Heap) : Prop := ∃ (c : ClassId) (k : Class) (i : Nat) (f : Field) (a : Nat) (cell : Cell), U.vm.findClass C = some c ∧ U.fieldFound? C n d = some (c, k, i, f) ∧ f.isStatic = true ∧ k.statics = some a ∧ H[a]? = some cell ∧ cell.vm.isStatics = true ∧ cell.cls = c ∧ f.slot < cell.slots.size ∧ k.staticTypes[f.slot]? = some f.type ∧ ¬ A a
theorem vx_L.moved {C n d : String} {A : Nat → Prop} {u U : State} {H : Heap} (hvm : u.vm.Alike U.vm) (h : vx_L C n d A u H) : vx_L C n d A U H := by
  obtain ⟨c, k, i, f, a, cell, h1, h2, h3, h4, h5, h6, h7, h8, h9, h10⟩ := h
  obtain ⟨k', hi', he⟩ := State.fieldFound?_setVm hvm h2
  exact ⟨c, k', i, f, a, cell, by rw [hvm.findClass]; exact h1, hi', h3, by rw [he]; exact h4, h5, h6, h7, h8, by rw [he]; exact h9, h10⟩
theorem vx_L.kept {C n d : String} {A : Nat → Prop} {U : State} {H H1 : Heap} (h : vx_L C n d A U H) (hq : ∀ a : Nat, a < H.size → ¬ A a → H1[a]? = H[a]?) : vx_L C n d A U H1 := by
  obtain ⟨c, k, i, f, a, cell, h1, h2, h3, h4, h5, h6, h7, h8, h9, h10⟩ := h
  exact ⟨c, k, i, f, a, cell, h1, h2, h3, h4, by rw [hq a (Array.getElem?_eq_some_iff.mp h5).1 h10]; exact h5, h6, h7, h8, h9, h10⟩
theorem vx_L.narrow {C n d : String} {A B : Nat → Prop} {U : State} {H : Heap} (h : vx_L C n d A U H) (hAB : ∀ q, B q → A q) : vx_L C n d B U H := by
  obtain ⟨c, k, i, f, a, cell, h1, h2, h3, h4, h5, h6, h7, h8, h9, h10⟩ := h
  exact ⟨c, k, i, f, a, cell, h1, h2, h3, h4, h5, h6, h7, h8, h9, fun z => h10 (hAB _ z)⟩
theorem vx_L.word {C n d : String} {A : Nat → Prop} {s : State} {args : Array Value} (h : vx_L C n d A s s.heap) : (Cond.laysStatic C n d).before args s = true := by
  obtain ⟨c, k, i, f, a, cell, h1, h2, h3, h4, h5, h6, h7, h8, h9, -⟩ := h
  show (Cond.laysStatic C n d).holds args s none s [] = true
  exact Cond.laysStatic_of h1 h2 h3 h4 h5 h6 h7 h8 h9
/-- .. and what it holds: null or some reference -/
def vx_Zq (C n d : String) (A : Nat → Prop) (U : State) (H : Heap) : Prop := va_Zq C n d A U H ∧ vx_L C n d A U H
theorem vx_Zq.moved {C n d : String} {A : Nat → Prop} {u U : State} {H : Heap} (hvm : u.vm.Alike U.vm) (h : vx_Zq C n d A u H) : vx_Zq C n d A U H := ⟨va_Zq.moved hvm h.1, vx_L.moved hvm h.2⟩
theorem vx_Zq.kept {C n d : String} {A : Nat → Prop} {U : State} {H H1 : Heap} (h : vx_Zq C n d A U H) (hq : ∀ a : Nat, a < H.size → ¬ A a → H1[a]? = H[a]?) : vx_Zq C n d A U H1 := ⟨va_Zq.kept h.1 hq, vx_L.kept h.2 hq⟩
theorem vx_Zq.narrow {C n d : String} {A B : Nat → Prop} {U : State} {H : Heap} (h : vx_Zq C n d A U H) (hAB : ∀ q, B q → A q) : vx_Zq C n d B U H := ⟨va_Zq.narrow h.1 hAB, vx_L.narrow h.2 hAB⟩
theorem vx_Zqof {args : Array Value} {s : State} {C n d : String} {A : Nat → Prop} (hl : (Cond.laysStatic C n d).before args s = true) (hini : (Cond.initialized C).before args s = true) (h : (Cond.isRef (.static C n d)).before args s = true) (hA : ∀ a : Nat, a < s.heap.size → ¬ A a) : vx_Zq C n d A s s.heap := by
  refine ⟨va_Zqof hl hini h hA, ?_⟩
  obtain ⟨c, k, i, f, a, cell, h1, h2, h3, h4, h5, h6, h7, h8, h9⟩ := Cond.laysStatic_spec hl
  exact ⟨c, k, i, f, a, cell, h1, h2, h3, h4, h5, h6, h7, h8, h9, hA a (Array.getElem?_eq_some_iff.mp h5).1⟩
theorem vx_isRef {C n d : String} {v : Value} {A : Nat → Prop} {s : State} {args : Array Value} (h : va_Z C n d v A s s.heap) (hv : v.isRef = true) : (Cond.isRef (.static C n d)).before args s = true := by
  obtain ⟨cf, kf, fi, f, a, cell, h1, h2, h3, h4, h5, h6, h7, -⟩ := h
  have he : (Term.static C n d).eval args s none [] s = some v := by
    simp [Term.eval, State.fieldNamed?, h1, h2, h4, h5, h6, h7]
  simp only [Cond.before, Cond.holds, Cond.value, he]
  cases v <;> simp_all [Value.isRef]
theorem vx_isRefq {C n d : String} {A : Nat → Prop} {s : State} {args : Array Value} (h : va_Zq C n d A s s.heap) : (Cond.isRef (.static C n d)).before args s = true := by
  rcases h with h | ⟨t, h⟩
  · exact vx_isRef h rfl
  · exact vx_isRef h rfl
/-- the same frame, seen from here: as if the method were called anew in this heap -/
theorem vx_rebase {T : State} (X : Stand p l e R s m args below meth c T locs cells slots) {R' : Room} (hf : R'.frames ≤ R.frames) (hl : R'.locals ≤ R.locals) (hc : cells + R'.cells ≤ R.cells) (hs : slots + R'.slots ≤ R.slots) :
    Stand p l e R' ((T.setVm s.vm).setFrames (.invoking m args :: below)) m args below meth c T [] 0 0 := by
  have htop : (T.setVm s.vm).topJava?.isSome := X.here.top
  have hF : ((T.setVm s.vm).setFrames (.invoking m args :: below)).frames = .invoking m args :: below := State.frames_setFrames _ (State.cur_lt_of_top htop)
  obtain ⟨g₀, hg0⟩ := Option.isSome_iff_exists.mp htop
  obtain ⟨r, hr⟩ := State.topJava?_eq_some.mp hg0
  have hl9 : e.platform.stackLimits (T.setVm s.vm).me = e.platform.stackLimits s.me := X.limits
  have hb9 : (T.setVm s.vm).me.stackBytes = s.me.stackBytes := X.bytes
  refine ⟨X.admits, X.cas, X.clock, hF, ?_, X.hears, X.method, X.code, X.here, X.tail, X.warmed, ?_, ?_, ?_⟩
  · have h := X.room
    have hU : ((T.setVm s.vm).setFrames (.invoking m args :: below)).localsInUse = s.localsInUse := by
      rw [State.localsInUse_invoking hF (meth := meth) (c := c) X.method X.code, State.localsInUse_invoking X.frames X.method X.code]
    simp only [State.hasRoom, Bool.and_eq_true, decide_eq_true_eq] at h ⊢
    obtain ⟨⟨⟨⟨h1, h2, h3, h4, h5, h6⟩, h7⟩, h8⟩, h9⟩ := h
    rw [X.frames, List.length_cons] at h2 h3
    have q1 := X.heapSize
    have q2 := X.used
    simp only [hF, hU, List.length_cons, State.stackLimits_setFrames, State.stackBytes_setFrames, hl9, hb9]
    refine ⟨⟨⟨⟨by omega, by omega, by omega, by omega, by omega, h6⟩, ?_⟩, ?_⟩, X.book⟩
    · show T.heap.size + R'.cells ≤ e.platform.maxCells
      omega
    · show T.slotsUsed + R'.slots ≤ e.platform.maxSlots
      omega
  · rw [State.stackLimits_setFrames]; rfl
  · rw [State.stackBytes_setFrames]; rfl
  · refine ⟨?_, Nat.le_refl _, Nat.le_refl _, ?_, ?_, fun a c9 h9 => ⟨c9, h9, rfl, rfl, fun _ _ => rfl⟩⟩
    · obtain ⟨t, ht, -⟩ := State.frames_cons hr
      show T.setVm s.vm = { ((T.setVm s.vm).setFrames (.invoking m args :: below)).setFrames (T.setVm s.vm).frames with heap := T.heap, slotsUsed := T.slotsUsed }
      rw [State.setFrames_setFrames, State.setFrames_self ht]
      rfl
    · show T.slotsUsed = T.slotsUsed + ((T.heap.toList.drop T.heap.size).map (·.slots.size)).sum
      rw [List.drop_eq_nil_of_le (Nat.le_of_eq Array.length_toList)]
      rfl
    · show ((T.heap.toList.drop T.heap.size).map (·.slots.size)).sum ≤ 0
      rw [List.drop_eq_nil_of_le (Nat.le_of_eq Array.length_toList)]
      exact Nat.le_refl _
/-- 'throw new E()': new; dup; invokespecial; athrow -/
theorem vx_throw0 {cc : ByteArray} {pc : Nat} (hexec : p.tables.exec = Jvm.exec) (hb : c.code = cc) (hl : l.stackTraces = false) {own cls : String} {names : List String} {ik ic mc ms : Nat} {A : Nat → Prop}
    (hown : s.vm.findClass own = some m.cls) (hcls : Bundle.fit cls = true) (hnames : ∀ n ∈ names, Bundle.fit n = true)
    (hk : (Cond.classLink own ik cls).before args s = true) (hini : (Cond.initialized cls).before args s = true) (hat : ∀ w ∈ vx_at0 own ic cls names, w.before args s = true)
    (hgood : ∀ w ∈ Cond.classLink own ik cls :: Cond.initialized cls :: vx_at0 own ic cls names, vx_ot w = true)
    (hU : vx_Zq Bundle.tN "UNASSIGNED_STACK" Bundle.steD A s s.heap) (hN : vx_Zq Bundle.tN "SUPPRESSED_SENTINEL" Bundle.listD A s s.heap) (hS : va_S A s.heap H locs) (hsize : ls.size = c.maxLocals)
    (d0 : decode cc pc = .ok (.new ik, 3)) (d3 : decode cc (pc + 3) = .ok (.dup, 1)) (d4 : decode cc (pc + 4) = .ok (.invokespecial ic, 3)) (d7 : decode cc (pc + 7) = .ok (.athrow, 1))
    (hout : ∀ x ∈ c.exceptionTable.toList, covers x (pc + 7) = false)
    (hRframes : names.length + 3 < R.frames) (hRlocals : (rest.map fun v => v.category).sum + (13 * (names.length + 1) + 42) ≤ R.locals) (hRcells : cells + 1 ≤ R.cells) (hRslots : slots + 6 ≤ R.slots) (hlocks : meth.locks = false)
    (hx : ∀ t : State, s.vm.Alike t.vm → H.size ≤ t.heap.size → (∀ q : Nat, q < H.size → t.heap[q]? = H[q]?) → XC cls s t)
    (hf : ∀ z ∈ locs, free z.base) (hc : cells + 1 ≤ mc) (hs : slots + 6 ≤ ms) :
    W p l e R s m args below meth c H locs cells slots (vx_MQ below Qc XC args s mc ms free) (F0 m pc ls rest) := by
  intro T hT X
  have htr : e.platform.stackTraces = false := (show e.platform.stackTraces = l.stackTraces by rw [X.admits.platform]).trans hl
  have Y := vx_rebase X (R' := { frames := R.frames, locals := R.locals, cells := 1, slots := 6 }) (Nat.le_refl _) (Nat.le_refl _) hRcells hRslots
  obtain ⟨s', hA⟩ : ∃ z, z = (T.setVm s.vm).setFrames (.invoking m args :: below) := ⟨_, rfl⟩
  rw [← hA] at Y
  have hvm : s'.vm = s.vm := by rw [hA]; rfl
  have hhp : s'.heap = H := by rw [hA]; exact hT
  have hW0 : s.WarmedH s'.vm := by rw [hvm]; exact State.WarmedH.refl s
  have hat' : ∀ w ∈ vx_at0 own ic cls names, w.before args s' = true := fun w hw => vx_ot_at hW0 hvm.symm (hgood w (List.mem_cons_of_mem _ (List.mem_cons_of_mem _ hw))) (hat w hw)
  have hk' : (Cond.classLink own ik cls).before args s' = true := vx_ot_at hW0 hvm.symm (hgood _ List.mem_cons_self) hk
  have hini' : (Cond.initialized cls).before args s' = true := vx_ot_at hW0 hvm.symm (hgood _ (List.mem_cons_of_mem _ List.mem_cons_self)) hini
  have hU' : vx_Zq Bundle.tN "UNASSIGNED_STACK" Bundle.steD A s' s'.heap := by rw [hhp]; exact vx_Zq.moved hW0.alike (hU.kept hS.2.1)
  have hN' : vx_Zq Bundle.tN "SUPPRESSED_SENTINEL" Bundle.listD A s' s'.heap := by rw [hhp]; exact vx_Zq.moved hW0.alike (hN.kept hS.2.1)
  have h : ∀ w ∈ Bundle.ownAtoms0 own ic cls names, w.before args s' = true := vx_own hat' (vx_isRefq hU'.1) (vx_isRefq hN'.1) hU'.2.word hN'.2.word
  have hown' : s'.vm.findClass own = some m.cls := by rw [hvm]; exact hown
  have hins : (Cond.instantiable cls 6).before args s' = true := h _ (by simp [Bundle.ownAtoms0])
  obtain ⟨vm₁, cX, kX, hfX, hkX, -, -, X₁, st1⟩ := Y.newCold hexec (own := own) (C := cls) (index := ik) (n := 6) hown' hk' hins hini'
    (g := F0 m pc ls rest) rfl (by rw [hb]; exact d0) (Nat.le_refl _) (Nat.le_refl _)
  generalize hT1 : (T.setVm vm₁).pushCell { cls := cX, slots := kX.instanceTypes.map defaultValue, vm := .none } = T1 at X₁ st1
  have hcat : (Value.ref T.heap.size).category = 1 := rfl
  have hcellA : T1.heap[T.heap.size]? = some (freshCell cX kX) := by rw [← hT1]; exact State.heap_pushCell_size _ _
  have d3' : decode c.code (pc + 3) = .ok (.dup, 1) := by rw [hb]; exact d3
  obtain ⟨U, hsteps, hrun, hend, hW, hsame, ce, hce, hO⟩ := X₁.ctorThrow0 hexec htr (own := own) (cls := cls) (names := names) (ic := ic) hown' hcls hnames h (fun x hx => nomatch hx) hfX hkX hcellA (by rw [hhp, hT]; exact Nat.le_refl _)
    (g := { method := m, pc := pc + 4, locals := ls, stack := .ref T.heap.size :: .ref T.heap.size :: rest, locked := none }) rfl hsize rfl rfl (rest := rest) rfl
    (by rw [hb]; exact d4) (by rw [hb]; exact d7) hout hRframes (by simp only [List.map_cons, List.sum_cons, hcat]; omega) hlocks
  obtain ⟨f1, f2⟩ := vx_frame hsame
  rw [hhp] at f1 f2
  have hWs : s.WarmedH U.vm := State.WarmedH.trans hW0 hW
  have hcl : s.vm.findClass cls = some ce.cls := by
    have h9 := hO.cls
    rw [hvm] at h9
    exact h9
  have hall : s.sameButNew ({ U with vm := s.vm } : State) locs mc ms := by
    subst hA
    obtain ⟨e1, e2⟩ := hsame
    rw [State.setFrames_setFrames] at e1
    have h2 : (T.setVm s.vm).sameButNew ({ U with vm := s.vm } : State) [] (0 + 1) (0 + 6) := ⟨e1, e2⟩
    have h3 := X.same.trans h2
    rw [List.append_nil] at h3
    exact h3.mono hc hs
  refine ⟨U, ?_, .threw T.heap.size, hrun, hend, Or.inr ⟨T.heap.size, rfl, cls, ce, locs, hx U hWs.alike f1 (fun q hq => f2 q hq (fun z hz => nomatch hz)), hce, hO.vm, hcl, hWs, hall, hf⟩⟩
  refine st1 _ ?_
  show Steps p.tables e below (T1.setTop { method := m, pc := pc + 3, locals := ls, stack := .ref T.heap.size :: rest, locked := none }) _
  jvm_step X₁.here [X₁.here.top, hexec, d3', Value.category]
  exact hsteps
/-- 'throw new E("text")': new; dup; ldc; invokespecial; athrow -/
theorem vx_throwS {cc : ByteArray} {pc : Nat} (hexec : p.tables.exec = Jvm.exec) (hb : c.code = cc) (hl : l.stackTraces = false) {own cls text : String} {names : List String} {ik is ic mc ms sa : Nat} {A : Nat → Prop}
    (hown : s.vm.findClass own = some m.cls) (hcls : Bundle.fit cls = true) (hnames : ∀ n ∈ names, Bundle.fit n = true)
    (hk : (Cond.classLink own ik cls).before args s = true) (hini : (Cond.initialized cls).before args s = true) (hstr : vk_R own is text sa s) (hat : ∀ w ∈ vx_atS own ic cls names, w.before args s = true)
    (hgood : ∀ w ∈ Cond.classLink own ik cls :: Cond.initialized cls :: vx_atS own ic cls names, vx_ot w = true)
    (hU : vx_Zq Bundle.tN "UNASSIGNED_STACK" Bundle.steD A s s.heap) (hN : vx_Zq Bundle.tN "SUPPRESSED_SENTINEL" Bundle.listD A s s.heap) (hS : va_S A s.heap H locs) (hsize : ls.size = c.maxLocals)
    (d0 : decode cc pc = .ok (.new ik, 3)) (d3 : decode cc (pc + 3) = .ok (.dup, 1)) (d4 : decode cc (pc + 4) = .ok (.ldc is, 2)) (d6 : decode cc (pc + 6) = .ok (.invokespecial ic, 3)) (d9 : decode cc (pc + 9) = .ok (.athrow, 1))
    (hout : ∀ x ∈ c.exceptionTable.toList, covers x (pc + 9) = false)
    (hRframes : names.length + 3 < R.frames) (hRlocals : (rest.map fun v => v.category).sum + (13 * (names.length + 1) + 43) ≤ R.locals) (hRcells : cells + 1 ≤ R.cells) (hRslots : slots + 6 ≤ R.slots) (hlocks : meth.locks = false)
    (hx : ∀ t : State, s.vm.Alike t.vm → H.size ≤ t.heap.size → (∀ q : Nat, q < H.size → t.heap[q]? = H[q]?) → XC cls s t)
    (hf : ∀ z ∈ locs, free z.base) (hc : cells + 1 ≤ mc) (hs : slots + 6 ≤ ms) :
    W p l e R s m args below meth c H locs cells slots (vx_MQ below Qc XC args s mc ms free) (F0 m pc ls rest) := by
  intro T hT X
  have htr : e.platform.stackTraces = false := (show e.platform.stackTraces = l.stackTraces by rw [X.admits.platform]).trans hl
  have Y := vx_rebase X (R' := { frames := R.frames, locals := R.locals, cells := 1, slots := 6 }) (Nat.le_refl _) (Nat.le_refl _) hRcells hRslots
  obtain ⟨s', hA⟩ : ∃ z, z = (T.setVm s.vm).setFrames (.invoking m args :: below) := ⟨_, rfl⟩
  rw [← hA] at Y
  have hvm : s'.vm = s.vm := by rw [hA]; rfl
  have hhp : s'.heap = H := by rw [hA]; exact hT
  have hW0 : s.WarmedH s'.vm := by rw [hvm]; exact State.WarmedH.refl s
  have hat' : ∀ w ∈ vx_atS own ic cls names, w.before args s' = true := fun w hw => vx_ot_at hW0 hvm.symm (hgood w (List.mem_cons_of_mem _ (List.mem_cons_of_mem _ hw))) (hat w hw)
  have hk' : (Cond.classLink own ik cls).before args s' = true := vx_ot_at hW0 hvm.symm (hgood _ List.mem_cons_self) hk
  have hini' : (Cond.initialized cls).before args s' = true := vx_ot_at hW0 hvm.symm (hgood _ (List.mem_cons_of_mem _ List.mem_cons_self)) hini
  have hU' : vx_Zq Bundle.tN "UNASSIGNED_STACK" Bundle.steD A s' s'.heap := by rw [hhp]; exact vx_Zq.moved hW0.alike (hU.kept hS.2.1)
  have hN' : vx_Zq Bundle.tN "SUPPRESSED_SENTINEL" Bundle.listD A s' s'.heap := by rw [hhp]; exact vx_Zq.moved hW0.alike (hN.kept hS.2.1)
  have h : ∀ w ∈ Bundle.ownAtoms own ic cls names, w.before args s' = true := vx_own hat' (vx_isRefq hU'.1) (vx_isRefq hN'.1) hU'.2.word hN'.2.word
  have hown' : s'.vm.findClass own = some m.cls := by rw [hvm]; exact hown
  have hins : (Cond.instantiable cls 6).before args s' = true := h _ (by simp [Bundle.ownAtoms])
  obtain ⟨vm₁, cX, kX, hfX, hkX, -, -, X₁, st1⟩ := Y.newCold hexec (own := own) (C := cls) (index := ik) (n := 6) hown' hk' hins hini'
    (g := F0 m pc ls rest) rfl (by rw [hb]; exact d0) (Nat.le_refl _) (Nat.le_refl _)
  generalize hT1 : (T.setVm vm₁).pushCell { cls := cX, slots := kX.instanceTypes.map defaultValue, vm := .none } = T1 at X₁ st1
  have hcat : (Value.ref T.heap.size).category = 1 := rfl
  have hcellA : T1.heap[T.heap.size]? = some (freshCell cX kX) := by rw [← hT1]; exact State.heap_pushCell_size _ _
  have d3' : decode c.code (pc + 3) = .ok (.dup, 1) := by rw [hb]; exact d3
  have d4' : decode c.code (pc + 4) = .ok (.ldc is, 2) := by rw [hb]; exact d4
  have hstr' : vk_R own is text sa s' := vk_R.warm hW0 hstr
  obtain ⟨U, hsteps, hrun, hend, hW, hsame, ce, hce, hO⟩ := X₁.ctorThrowS hexec htr (own := own) (cls := cls) (names := names) (ic := ic) hown' hcls hnames h (fun x hx => nomatch hx) hfX hkX hcellA (by rw [hhp, hT]; exact Nat.le_refl _) (msg := .ref sa) rfl
    (g := { method := m, pc := pc + 6, locals := ls, stack := .ref sa :: .ref T.heap.size :: .ref T.heap.size :: rest, locked := none }) rfl hsize rfl rfl (rest := rest) rfl
    (by rw [hb]; exact d6) (by rw [hb]; exact d9) hout hRframes (by simp only [List.map_cons, List.sum_cons, hcat]; omega) hlocks
  obtain ⟨f1, f2⟩ := vx_frame hsame
  rw [hhp] at f1 f2
  have hWs : s.WarmedH U.vm := State.WarmedH.trans hW0 hW
  have hcl : s.vm.findClass cls = some ce.cls := by
    have h9 := hO.cls
    rw [hvm] at h9
    exact h9
  have hall : s.sameButNew ({ U with vm := s.vm } : State) locs mc ms := by
    subst hA
    obtain ⟨e1, e2⟩ := hsame
    rw [State.setFrames_setFrames] at e1
    have h2 : (T.setVm s.vm).sameButNew ({ U with vm := s.vm } : State) [] (0 + 1) (0 + 6) := ⟨e1, e2⟩
    have h3 := X.same.trans h2
    rw [List.append_nil] at h3
    exact h3.mono hc hs
  refine ⟨U, ?_, .threw T.heap.size, hrun, hend, Or.inr ⟨T.heap.size, rfl, cls, ce, locs, hx U hWs.alike f1 (fun q hq => f2 q hq (fun z hz => nomatch hz)), hce, hO.vm, hcl, hWs, hall, hf⟩⟩
  refine st1 _ ?_
  show Steps p.tables e below (T1.setTop { method := m, pc := pc + 3, locals := ls, stack := .ref T.heap.size :: rest, locked := none }) _
  jvm_step X₁.here [X₁.here.top, hexec, d3', Value.category]
  exact X₁.ldcString hexec (own := own) (text := text) (index := is) (a := sa) hown' hstr'.1 hstr'.2
    (g := { method := m, pc := pc + 4, locals := ls, stack := .ref T.heap.size :: .ref T.heap.size :: rest, locked := none }) rfl d4' _ hsteps
/-- 'throw new E("text")', the text by a wide index -/
theorem vx_throwSW {cc : ByteArray} {pc : Nat} (hexec : p.tables.exec = Jvm.exec) (hb : c.code = cc) (hl : l.stackTraces = false) {own cls text : String} {names : List String} {ik is ic mc ms sa : Nat} {A : Nat → Prop}
    (hown : s.vm.findClass own = some m.cls) (hcls : Bundle.fit cls = true) (hnames : ∀ n ∈ names, Bundle.fit n = true)
    (hk : (Cond.classLink own ik cls).before args s = true) (hini : (Cond.initialized cls).before args s = true) (hstr : vk_R own is text sa s) (hat : ∀ w ∈ vx_atS own ic cls names, w.before args s = true)
    (hgood : ∀ w ∈ Cond.classLink own ik cls :: Cond.initialized cls :: vx_atS own ic cls names, vx_ot w = true)
    (hU : vx_Zq Bundle.tN "UNASSIGNED_STACK" Bundle.steD A s s.heap) (hN : vx_Zq Bundle.tN "SUPPRESSED_SENTINEL" Bundle.listD A s s.heap) (hS : va_S A s.heap H locs) (hsize : ls.size = c.maxLocals)
    (d0 : decode cc pc = .ok (.new ik, 3)) (d3 : decode cc (pc + 3) = .ok (.dup, 1)) (d4 : decode cc (pc + 4) = .ok (.ldc_w is, 3)) (d7 : decode cc (pc + 7) = .ok (.invokespecial ic, 3)) (d10 : decode cc (pc + 10) = .ok (.athrow, 1))
    (hout : ∀ x ∈ c.exceptionTable.toList, covers x (pc + 10) = false)
    (hRframes : names.length + 3 < R.frames) (hRlocals : (rest.map fun v => v.category).sum + (13 * (names.length + 1) + 43) ≤ R.locals) (hRcells : cells + 1 ≤ R.cells) (hRslots : slots + 6 ≤ R.slots) (hlocks : meth.locks = false)
    (hx : ∀ t : State, s.vm.Alike t.vm → H.size ≤ t.heap.size → (∀ q : Nat, q < H.size → t.heap[q]? = H[q]?) → XC cls s t)
    (hf : ∀ z ∈ locs, free z.base) (hc : cells + 1 ≤ mc) (hs : slots + 6 ≤ ms) :
    W p l e R s m args below meth c H locs cells slots (vx_MQ below Qc XC args s mc ms free) (F0 m pc ls rest) := by
  intro T hT X
  have htr : e.platform.stackTraces = false := (show e.platform.stackTraces = l.stackTraces by rw [X.admits.platform]).trans hl
  have Y := vx_rebase X (R' := { frames := R.frames, locals := R.locals, cells := 1, slots := 6 }) (Nat.le_refl _) (Nat.le_refl _) hRcells hRslots
  obtain ⟨s', hA⟩ : ∃ z, z = (T.setVm s.vm).setFrames (.invoking m args :: below) := ⟨_, rfl⟩
  rw [← hA] at Y
  have hvm : s'.vm = s.vm := by rw [hA]; rfl
  have hhp : s'.heap = H := by rw [hA]; exact hT
  have hW0 : s.WarmedH s'.vm := by rw [hvm]; exact State.WarmedH.refl s
  have hat' : ∀ w ∈ vx_atS own ic cls names, w.before args s' = true := fun w hw => vx_ot_at hW0 hvm.symm (hgood w (List.mem_cons_of_mem _ (List.mem_cons_of_mem _ hw))) (hat w hw)
  have hk' : (Cond.classLink own ik cls).before args s' = true := vx_ot_at hW0 hvm.symm (hgood _ List.mem_cons_self) hk
  have hini' : (Cond.initialized cls).before args s' = true := vx_ot_at hW0 hvm.symm (hgood _ (List.mem_cons_of_mem _ List.mem_cons_self)) hini
  have hU' : vx_Zq Bundle.tN "UNASSIGNED_STACK" Bundle.steD A s' s'.heap := by rw [hhp]; exact vx_Zq.moved hW0.alike (hU.kept hS.2.1)
  have hN' : vx_Zq Bundle.tN "SUPPRESSED_SENTINEL" Bundle.listD A s' s'.heap := by rw [hhp]; exact vx_Zq.moved hW0.alike (hN.kept hS.2.1)
  have h : ∀ w ∈ Bundle.ownAtoms own ic cls names, w.before args s' = true := vx_own hat' (vx_isRefq hU'.1) (vx_isRefq hN'.1) hU'.2.word hN'.2.word
  have hown' : s'.vm.findClass own = some m.cls := by rw [hvm]; exact hown
  have hins : (Cond.instantiable cls 6).before args s' = true := h _ (by simp [Bundle.ownAtoms])
  obtain ⟨vm₁, cX, kX, hfX, hkX, -, -, X₁, st1⟩ := Y.newCold hexec (own := own) (C := cls) (index := ik) (n := 6) hown' hk' hins hini'
    (g := F0 m pc ls rest) rfl (by rw [hb]; exact d0) (Nat.le_refl _) (Nat.le_refl _)
  generalize hT1 : (T.setVm vm₁).pushCell { cls := cX, slots := kX.instanceTypes.map defaultValue, vm := .none } = T1 at X₁ st1
  have hcat : (Value.ref T.heap.size).category = 1 := rfl
  have hcellA : T1.heap[T.heap.size]? = some (freshCell cX kX) := by rw [← hT1]; exact State.heap_pushCell_size _ _
  have d3' : decode c.code (pc + 3) = .ok (.dup, 1) := by rw [hb]; exact d3
  have d4' : decode c.code (pc + 4) = .ok (.ldc_w is, 3) := by rw [hb]; exact d4
  have hstr' : vk_R own is text sa s' := vk_R.warm hW0 hstr
  obtain ⟨U, hsteps, hrun, hend, hW, hsame, ce, hce, hO⟩ := X₁.ctorThrowS hexec htr (own := own) (cls := cls) (names := names) (ic := ic) hown' hcls hnames h (fun x hx => nomatch hx) hfX hkX hcellA (by rw [hhp, hT]; exact Nat.le_refl _) (msg := .ref sa) rfl
    (g := { method := m, pc := pc + 7, locals := ls, stack := .ref sa :: .ref T.heap.size :: .ref T.heap.size :: rest, locked := none }) rfl hsize rfl rfl (rest := rest) rfl
    (by rw [hb]; exact d7) (by rw [hb]; exact d10) hout hRframes (by simp only [List.map_cons, List.sum_cons, hcat]; omega) hlocks
  obtain ⟨f1, f2⟩ := vx_frame hsame
  rw [hhp] at f1 f2
  have hWs : s.WarmedH U.vm := State.WarmedH.trans hW0 hW
  have hcl : s.vm.findClass cls = some ce.cls := by
    have h9 := hO.cls
    rw [hvm] at h9
    exact h9
  have hall : s.sameButNew ({ U with vm := s.vm } : State) locs mc ms := by
    subst hA
    obtain ⟨e1, e2⟩ := hsame
    rw [State.setFrames_setFrames] at e1
    have h2 : (T.setVm s.vm).sameButNew ({ U with vm := s.vm } : State) [] (0 + 1) (0 + 6) := ⟨e1, e2⟩
    have h3 := X.same.trans h2
    rw [List.append_nil] at h3
    exact h3.mono hc hs
  refine ⟨U, ?_, .threw T.heap.size, hrun, hend, Or.inr ⟨T.heap.size, rfl, cls, ce, locs, hx U hWs.alike f1 (fun q hq => f2 q hq (fun z hz => nomatch hz)), hce, hO.vm, hcl, hWs, hall, hf⟩⟩
  refine st1 _ ?_
  show Steps p.tables e below (T1.setTop { method := m, pc := pc + 3, locals := ls, stack := .ref T.heap.size :: rest, locked := none }) _
  jvm_step X₁.here [X₁.here.top, hexec, d3', Value.category]
  exact X₁.ldcStringW hexec (own := own) (text := text) (index := is) (a := sa) hown' hstr'.1 hstr'.2
    (g := { method := m, pc := pc + 4, locals := ls, stack := .ref T.heap.size :: .ref T.heap.size :: rest, locked := none }) rfl d4' _ hsteps
end Ends
section Bodies
variable {l : Launch}
theorem vx_ofW {y : MethodName} {ws ws' : List Cond} {rm : Room} {Pc : Array Value → State → Prop} {Qc : Array Value → State → Outcome → State → Prop} {XC : String → State → State → Prop} {mc ms : Nat} {free : Addr → Prop} {cc : ByteArray} {maxL : Nat} {ret : Option FieldType}
    (hy : plainName y.cls = true) (hw : ws = Cond.code y cc maxL ret :: ws')
    (body : ∀ p e s m args below meth c s₁, BodyLoose p l y (headSpec ws rm) cc maxL ret e s m args below meth c s₁ → c.maxLocals = maxL → (∀ x ∈ c.exceptionTable.toList, False) → Pc args s →
      W p l e (headSpec ws rm).room s m args below meth c s.heap [] 0 0 (vx_MQ below Qc XC args s mc ms free) (entryFrame m args maxL)) : vx_Met l y ws rm Pc Qc XC mc ms free := by
  refine MetFree.of_bodyS (code := cc) (maxLocals := maxL) (ret := ret) hy ?_ ?_
  · intro args s m h hn
    obtain ⟨meth, c, h1, h2, h3, h4, h5, h6, -, -⟩ := Cond.code_spec hn (atoms_spec (ws := ws) h _ (by rw [hw]; exact List.mem_cons_self))
    exact ⟨meth, c, h1, h2, h3, h4, h5, h6⟩
  · intro p e s m args below meth c s₁ B hml hP _
    have hh0 : s₁.heap = s.heap := by rw [B.state]; rfl
    have ht : ∀ x ∈ c.exceptionTable.toList, False := by
      obtain ⟨meth9, c9, h1, h2, -, -, -, -, h7, -⟩ := Cond.code_spec B.named (atoms_spec (ws := ws) B.pre _ (by rw [hw]; exact List.mem_cons_self))
      cases Option.some.inj (h1.symm.trans B.method)
      cases Option.some.inj (h2.symm.trans (Stand.of_body B).code)
      intro x hx
      rw [Array.isEmpty_iff.mp h7] at hx
      cases hx
    obtain ⟨t, a1, o, b1, b2, b3⟩ := body p e s m args below meth c s₁ B hml ht hP s₁ hh0 (Stand.of_body B)
    exact ⟨t, o, a1, b1, b2, b3⟩
/-- the table of a body with handlers -/
theorem vx_table {p : Program} {x y : MethodName} {S : Spec} {cc bytes : ByteArray} {maxL maxL' : Nat} {ret ret' : Option FieldType} {e : Env} {s s₁ : State} {m : MethodId} {args : Array Value} {below : List Frame} {meth : Method} {c : Code} {hh : List (Nat × Nat × Nat × Nat)}
    (B : BodyLoose p l y S cc maxL ret e s m args below meth c s₁) (h : (Cond.codeWith y bytes maxL' ret' hh).before args s = true) : c.exceptionTable.toList = tableOf hh := by
  obtain ⟨m9, meth9, c9, hn9, h1, h2, -, -, h6, -⟩ := Cond.codeWith_spec h
  cases Option.some.inj (hn9.symm.trans B.named)
  cases Option.some.inj (h1.symm.trans B.method)
  cases Option.some.inj (h2.symm.trans (Stand.of_body B).code)
  rw [← h6, table_eq]
end Bodies
end VXA
/-! ===== END ===== -/
/-! ===== BEGIN a static call of a method with an exception table ===== -/
section VXS
variable {p : Program} {l : Launch} {e : Env} {R : Room} {s : State} {m : MethodId} {args : Array Value} {below : List Frame} {meth : Method} {c : Code} {T : State} {H : Heap} {locs : List Loc} {cells slots : Nat}
abbrev vx_CSW (R : Room) (s : State) (args : Array Value) (own : String) (index : Nat) (y : MethodName) (bytes : ByteArray) (maxL : Nat) (ret : Option FieldType) (hh : List (Nat × Nat × Nat × Nat)) (ws : List Cond) (rm : Room) (mc ms n : Nat) : Prop :=
  (rm.cells = mc ∧ rm.slots = ms ∧ rm.frames + 1 ≤ R.frames ∧ 8 + (maxL + 11) + rm.locals ≤ R.locals ∧ (∀ w ∈ ws, ∀ (a' : Array Value) (U : State), s.WarmedH U.vm → w.before a' U = true) ∧ Cond.codeWith y bytes maxL ret hh ∈ ws) ∧
  (Cond.codeWith y bytes maxL ret hh).before args s = true ∧ (Cond.initialized y.cls).before args s = true ∧ (y.cls ≠ "java/lang/invoke/MethodHandle" ∧ y.cls ≠ "java/lang/invoke/VarHandle") ∧
  (∀ sig, parseMethodDescriptor y.desc = some sig → n = sig.parameters.length) ∧ (Cond.methodLink own index y).before args s = true ∧ (Cond.static y).before args s = true
theorem vx_cwSW {own : String} {index maxL mc ms : Nat} {y : MethodName} {bytes : ByteArray} {ret : Option FieldType} {hh : List (Nat × Nat × Nat × Nat)} {Ts ws ws' : List Cond} {rm : Room} (n : Nat) (ht : ∀ w ∈ Ts, w.before args s = true) (hT : GoodIn Ts (va_wsS own index y ws)) (hw : ws = Cond.codeWith y bytes maxL ret hh :: ws') (hrc : rm.cells = mc) (hrs : rm.slots = ms)
    (hd : y.cls ≠ "java/lang/invoke/MethodHandle" ∧ y.cls ≠ "java/lang/invoke/VarHandle" ∧ (parseMethodDescriptor y.desc).map (fun d => d.parameters.length) = some n) (hR : rm.frames + 1 ≤ R.frames ∧ 8 + (maxL + 11) + rm.locals ≤ R.locals) :
    vx_CSW R s args own index y bytes maxL ret hh ws rm mc ms n := by
  have ok : ∀ w ∈ va_wsS own index y ws, w.before args s = true := fun w h => ht w (hT w h).1
  have hG : GoodIn Ts ws := fun w h => hT w (by unfold va_wsS; exact List.mem_append_right _ h)
  have hc : Cond.codeWith y bytes maxL ret hh ∈ ws := by rw [hw]; exact List.mem_cons_self
  refine ⟨⟨hrc, hrs, hR.1, hR.2, pay_in ht hG, hc⟩, ht _ (hG _ hc).1, ok _ (by simp [va_wsS]), ⟨hd.1, hd.2.1⟩, fun sig h => ?_, ok _ (by simp [va_wsS]), ok _ (by simp [va_wsS])⟩
  have h2 := hd.2.2
  rw [h] at h2
  exact (Option.some.inj h2).symm
theorem vx_callSW (X : Stand p l e R s m args below meth c T locs cells slots) (hexec : p.tables.exec = Jvm.exec) {own : String} {index : Nat} {y : MethodName} {bytes : ByteArray} {maxL : Nat} {ret : Option FieldType} {hh : List (Nat × Nat × Nat × Nat)}
    (hown : s.vm.findClass own = some m.cls) (hlink : (Cond.methodLink own index y).before args s = true) (hstat : (Cond.static y).before args s = true) (hinit : (Cond.initialized y.cls).before args s = true)
    (hcode : (Cond.codeWith y bytes maxL ret hh).before args s = true) (hy : y.cls ≠ "java/lang/invoke/MethodHandle" ∧ y.cls ≠ "java/lang/invoke/VarHandle")
    {W9 : Nat} {Pre : Pt → Array Value → Prop} {Post : Pt → Array Value → Option Value → Pt → Prop} (hK : Back l R p e below s args y 3 W9 Pre Post)
    {g : JFrame} (hg : g.method = m) (hsize : g.locals.size = c.maxLocals) {argsL rest : List Value} (hlen : ∀ sig, parseMethodDescriptor y.desc = some sig → argsL.length = sig.parameters.length)
    (hstack : g.stack = argsL.reverse ++ rest) (hW : 2 * g.monitorRoom + (rest.map fun v => v.category).sum ≤ W9) (hdg : decode c.code g.pc = .ok (.invokestatic index, 3))
    (hpre : ∀ vm₁, s.WarmedH vm₁ → Pre ⟨T.setVm vm₁, locs, cells, slots⟩ argsL.toArray) :
    ∃ (v : Option Value) (vm₁ : Vm) (B : Pt), s.WarmedH vm₁ ∧ Stand p l e R s m args below meth c B.U B.locs B.cells B.slots ∧ Post ⟨T.setVm vm₁, locs, cells, slots⟩ argsL.toArray v B ∧
      ∀ target, Steps p.tables e below (B.U.setTop { g with pc := g.pc + 3, stack := v.toList ++ rest }) target → Steps p.tables e below (T.setTop g) target := by
  obtain ⟨mk, methM, cM, hnamed, hmethM, -, -, -, -, -, -, hsigM⟩ := Cond.codeWith_spec hcode
  have hstatic : methM.isStatic = true := Cond.static_spec hnamed hmethM hstat
  obtain ⟨kP, hkP, -⟩ := className_of_methodNamed hnamed
  have hinitP : kP.init = .initialized := Cond.initialized_spec (findClass_of_methodNamed hnamed) hkP hinit
  obtain ⟨vm₁, X₁, hstep₁⟩ := X.invokestatic hexec hown hlink hnamed hmethM hstatic hkP hinitP hy (g := g) hg (argsL := argsL) (rest := rest) (hlen _ hsigM) hstack hdg
  obtain ⟨v, B, X', hpost, hsteps⟩ := hK m meth c ⟨T.setVm vm₁, locs, cells, slots⟩ { g with stack := rest } (.invokestatic index) mk argsL.toArray X₁ hg hsize hdg hW (X₁.named hnamed) (hpre vm₁ X₁.warmed)
  exact ⟨v, vm₁, B, X₁.warmed, X', hpost, fun target h => hstep₁ _ fun acts => by rw [doInvoke_state]; exact hsteps.trans h⟩
theorem vx_runSW {y : MethodName} {bytes cc : ByteArray} {maxL nL mc ms n index : Nat} {ret : Option FieldType} {hh : List (Nat × Nat × Nat × Nat)} {ws : List Cond} {rm : Room} {Pc : Array Value → State → Prop} {Qc : Array Value → State → Outcome → State → Prop} {free : Addr → Prop} {Ts : List Cond} {own : String} {As rest : List Value} {g : JFrame}
    (S : CallFix p m c cc nL s args Ts own) (hM : Met l y ws rm Pc Qc mc ms free) (cw : vx_CSW R s args own index y bytes maxL ret hh ws rm mc ms n) (hp : PreS s H Pc As)
    (hg : g.method = m) (hn : As.length = n) (hsize : g.locals.size = nL) (hstack : g.stack = As.reverse ++ rest) (hW : 2 * g.monitorRoom + (rest.map fun v => v.category).sum ≤ 8) (hdg : decode cc g.pc = .ok (.invokestatic index, 3)) (hf : cells + mc ≤ R.cells ∧ slots + ms ≤ R.slots) :
    va_Run p l e R s m args below meth c H locs cells slots mc ms g rest (Qc As.toArray) (free) := by
  obtain ⟨⟨hrc, hrs, hfr, hlo, hws, hcw⟩, hcode, hini, hy, hlen, hl, hstt⟩ := cw
  have hK : Back l R p e below s args y 3 8 (PreOf R mc ms Pc) (PostOf Qc mc ms free) := va_backW (hh := hh) (bytes := bytes) (maxL := maxL) (ret := ret) hM hp.1 hrc hrs hfr hlo hws hcw (fun a' U hW => word_at hW (Or.inl (by first | rfl | simp [Cond.onTables, Cond.keeps, Cond.steady])) hini)
  obtain ⟨hx, hb, hml, ho, -⟩ := S
  intro T hT X
  obtain ⟨v, vm₁, ⟨U', l2, c2, s2⟩, hW₁, X', ⟨g', mk, t, L, e1, e2, hq, h1, hL, h2, h3⟩, st⟩ := vx_callSW X hx (hh := hh) (bytes := bytes) (maxL := maxL) (ret := ret) ho hl hstt hini hcode hy hK hg (hsize.trans hml.symm) (argsL := As) (rest := rest) (fun sig h => hn.trans (hlen sig h)) hstack hW (by rw [hb]; exact hdg)
    (fun vm₁ hW₁ => ⟨hf.1, hf.2, hp.2 (T.setVm vm₁) hT hW₁⟩)
  dsimp only [Pt.U, Pt.locs, Pt.cells, Pt.slots] at X' e1 e2 h1 h2 h3 st
  subst h1; subst h2; subst h3
  exact ⟨v, (T.setVm vm₁).calling g' mk As.toArray, t, U', L, hT, X', hL, e1, e2, hq, st⟩
/-- not caught here, past rows that name other classes: it goes on to the caller -/
theorem vx_outP {p : Program} {l : Launch} {e : Env} {R : Room} {s : State} {m : MethodId} {args : Array Value} {below : List Frame} {meth : Method} {c : Code} {H : Heap} {locs : List Loc} {cells slots : Nat} {free : Addr → Prop} {ls : Array Slot} {rest : List Value} {Qc : Array Value → State → Outcome → State → Prop} {XC : String → State → State → Prop}
    {pc : Nat} {own E : String} {ce : Cell} {q : Addr} {mc ms : Nat} (hown : s.vm.findClass own = some m.cls) (hlocks : meth.locks = false)
    (hpass : ∀ z ∈ c.exceptionTable.toList, covers z pc = false ∨ (z.catchType ≠ 0 ∧ ∃ nm : String, (Cond.classLink own z.catchType nm).before args s = true ∧ va_Nc E nm s)) (hcell : H[q]? = some ce) (hv : ce.vm = .none) (hcl : s.vm.findClass E = some ce.cls)
    (hx : ∀ t : State, t.heap = H → s.vm.Alike t.vm → XC E s t) (hf : ∀ z ∈ locs, free z.base) (hc : cells ≤ mc) (hs : slots ≤ ms) :
    vx_W p l e R s m args below meth c H locs cells slots (vx_MQ below Qc XC args s mc ms free) (F0 m pc ls rest) q := by
  intro T hT X
  have hpl : e.platform.magicAccessors = ({} : Platform).magicAccessors := by rw [X.admits.platform]
  obtain ⟨vm', hW', X', st⟩ := X.outThrough hlocks q (g := F0 m pc ls rest) rfl rfl rfl (cell := ce) (by rw [hT]; exact hcell) (by rw [hv]; rfl)
    (by obtain ⟨k9, h9, -⟩ := Vm.findClass_spec hcl; exact ⟨k9, h9⟩) (fun z hz => by
      rcases hpass z hz with h | ⟨hz0, nm, hl1, hn1⟩
      · exact Or.inl h
      · obtain ⟨c6, hc6, hcl6⟩ := Cond.classLink_spec hown hl1 e.platform hpl
        obtain ⟨a8, b8, h1, h2, h3⟩ := hn1
        cases Option.some.inj (h1.symm.trans hcl)
        cases Option.some.inj (h2.symm.trans hc6)
        exact Or.inr ⟨hz0, _, hcl6, h3⟩)
  obtain ⟨g₀, hfr⟩ := X'.frames_eq
  have hcell9 : ((T.setVm vm').setFrames (.throwing q :: below)).heap[q]? = some ce := by
    show T.heap[q]? = some ce
    rw [hT]; exact hcell
  have hend : Ended ((T.setVm vm').setFrames (.throwing q :: below)) below (.threw q) := State.frames_setFrames _ (State.cur_lt_of_frames hfr)
  refine ⟨(T.setVm vm').setFrames (.throwing q :: below), ?_, .threw q, X'.here.running, hend, Or.inr ⟨q, rfl, E, ce, locs, hx _ hT (X'.ends _).1.alike, hcell9, hv, hcl, (X'.ends _).1, (X'.ends _).2.mono hc hs, hf⟩⟩
  rw [X.pushThrowing_eq]
  exact st
/-- a thing of a world lies in the heap -/
theorem vx_lt {D : va_G} {cl : List vw_C} {ws : va_W} {H1 : Heap} (h : va_P D cl ws H1) {k : Nat} {q : Nat × va_E} (hk : ws[k]? = some q) : q.1 < H1.size := (h k q hk).lt
end VXS
/-! ===== END ===== -/
/-! ===== BEGIN methods with a table of their own: called by a name, returning or throwing ===== -/
section VXH
/-! vx_backW, vx_callVX, vx_callSX, vx_callVW, vx_runVW, vx_runVX, vx_runSX, vx_ofWH follow the same proofs as their sisters above (Free/Laws.lean, Shelf42/LK1.lean); vx_outP calls Shelf42/NT130.lean (outThrough). -/
section
variable {l : Launch} {R : Room} {p : Program} {e : Env} {below : List Frame} {s : State} {sargs : Array Value} {y : MethodName} {len W9 : Nat}
theorem vx_backW {ws : List Cond} {rm : Room} {Pc : Array Value → State → Prop} {Qc : Array Value → State → Outcome → State → Prop} {XC : String → State → State → Prop} {mc ms : Nat} {free : Addr → Prop} {bytes : ByteArray} {maxL : Nat} {ret : Option FieldType} {hh : List (Nat × Nat × Nat × Nat)}
    (hM : vx_Met l y ws rm Pc Qc XC mc ms free) (hblind : FrameBlind Pc) (hrc : rm.cells = mc) (hrs : rm.slots = ms)
    (hframes : rm.frames + 1 ≤ R.frames) (hlocals : W9 + (maxL + 11) + rm.locals ≤ R.locals)
    (hws : ∀ w ∈ ws, ∀ a' U, s.WarmedH U.vm → w.before a' U = true) (hcode : Cond.codeWith y bytes maxL ret hh ∈ ws) (hinit : ∀ a' U, s.WarmedH U.vm → (Cond.initialized y.cls).before a' U = true) :
    vx_Back l R p e below s sargs y len W9 (PreOf R mc ms Pc) (PostOf Qc mc ms free) (vx_Post XC mc ms free) := by
  intro m meth c A g ig mk a X hg hsize hdg hW hn hp
  have h1 : (headSpec ws rm).pre.before a A.U = true := atoms_intro fun w hw => hws w hw _ _ X.warmed
  have h2 : (Cond.codeWith y bytes maxL ret hh).before a A.U = true := hws _ hcode _ _ X.warmed
  have h3 : (Cond.initialized y.cls).before a A.U = true := hinit _ _ X.warmed
  have h4 : A.cells + (headSpec ws rm).room.cells ≤ R.cells := by rw [show (headSpec ws rm).room.cells = mc from hrc]; exact hp.1
  have h5 : A.slots + (headSpec ws rm).room.slots ≤ R.slots := by rw [show (headSpec ws rm).room.slots = ms from hrs]; exact hp.2.1
  have hPc : Pc a (A.U.calling g mk a) := hblind _ _ _ _ hp.2.2
  obtain ⟨U, Ls, c0, s0⟩ := A
  dsimp only [Pt.U, Pt.locs, Pt.cells, Pt.slots] at h1 h2 h3 h4 h5 X hn hPc ⊢
  obtain ⟨m9, methY, cY, hn9, hmY, hcY, -, hlY, -⟩ := Cond.codeWith_spec h2
  cases Option.some.inj (hn9.symm.trans hn)
  obtain ⟨kY, hkY, -⟩ := className_of_methodNamed hn
  have hinitY : kY.init = .initialized := Cond.initialized_spec (findClass_of_methodNamed hn) hkY h3
  have h : At U g.method c below := by rw [hg]; exact X.here
  have hlocals9 : W9 + (maxL + 11) + (headSpec ws rm).room.locals ≤ R.locals := hlocals
  have happ : (headSpec ws rm).appliesLoose y e.platform (U.calling g mk a) = true :=
    Spec.appliesLoose_calling (g := g) h hdg hn hkY hinitY
      (X.room_calling (g := g) (R' := (headSpec ws rm).room) hsize hmY hcY hframes (by rw [hlY]; omega) h4 h5) h1
  obtain ⟨mid, hmid⟩ := h.above
  have hfr : (U.setTop g).frames = (.java g :: mid) ++ below := by rw [State.frames_setTop' g h.top, hmid]; rfl
  obtain ⟨o, s₂, hsteps, -, hend, hq⟩ := Steps.callFree hM p X.admits X.cas X.clock (acts := []) hfr happ hPc trivial
  have hq' : vx_Q Qc XC mc ms free a (U.calling g mk a) o s₂ := hq
  rw [State.frames_setTop' g h.top] at hend
  obtain ⟨g₀, hg0⟩ := Option.isSome_iff_exists.mp h.top
  obtain ⟨r, hr⟩ := State.topJava?_eq_some.mp hg0
  have hr' : (({ U with heap := s₂.heap, slotsUsed := s₂.slotsUsed } : State).setVm s₂.vm).frames = .java g₀ :: r := hr
  rcases hq' with ⟨hqc, L, hfe, hL⟩ | ⟨q, rfl, E, ce, L, hx, hce, hcv, hcl, hW₂, hsm, hL⟩
  · obtain ⟨⟨v, rfl⟩, hW₂, e2, q2, q3, q4, q5, q6⟩ := id hfe
    have e3 : s₂ = ({ (U.calling g mk a).setFrames s₂.frames with heap := s₂.heap, slotsUsed := s₂.slotsUsed } : State).setVm s₂.vm := by
      have : s₂ = ({ s₂ with vm := (U.calling g mk a).vm } : State).setVm s₂.vm := rfl
      rw [e2] at this
      exact this
    obtain ⟨c₂, i₂, len₂, hc₂, hd₂, hf₂⟩ := hend
    have hW' : U.WarmedH s₂.vm := hW₂
    have hcc : c₂ = c := by
      have h1 : s₂.code? g.method = U.code? g.method := by
        rw [State.code?_eq, State.code?_eq, hW'.alike.method?]
      exact Option.some.inj (hc₂.symm.trans (h1.trans h.code))
    subst hcc
    have hlen : len₂ = len := by rw [hdg] at hd₂; cases hd₂; rfl
    subst hlen
    have hs₂ : s₂ = (({ U with heap := s₂.heap, slotsUsed := s₂.slotsUsed } : State).setVm s₂.vm).setTop { g with pc := g.pc + len₂, stack := v.toList ++ g.stack } := by
      refine e3.trans ?_
      rw [hf₂, State.calling_eq h.top, State.setFrames_setFrames, State.setTop_of_frames _ hr', hr]
      rfl
    have hsame : U.sameButNew ({ U with heap := s₂.heap, slotsUsed := s₂.slotsUsed } : State) L mc ms := by
      refine ⟨?_, q2, q3, q4, q5, q6⟩
      obtain ⟨t, ht, -⟩ := State.frames_cons hr
      show ({ U with heap := s₂.heap, slotsUsed := s₂.slotsUsed } : State) = { U.setFrames U.frames with heap := s₂.heap, slotsUsed := s₂.slotsUsed }
      rw [State.setFrames_self ht]
    subst hg
    refine Or.inl ⟨v, ⟨(({ U with heap := s₂.heap, slotsUsed := s₂.slotsUsed } : State).setVm s₂.vm), Ls ++ L, c0 + mc, s0 + ms⟩,
      ⟨X.admits, X.cas, X.clock, X.frames, X.room, X.hears, X.method, X.code, (X.here.setHeapUsed s₂.heap s₂.slotsUsed).setVm hW'.alike, X.tail, State.WarmedH.trans X.warmed hW', X.limits, X.bytes, X.same.trans (hsame.setVm s.vm)⟩,
      ⟨g, mk, s₂, L, rfl, rfl, hqc, rfl, hL, rfl, rfl⟩, ?_⟩
    show Steps p.tables e below _ ((({ U with heap := s₂.heap, slotsUsed := s₂.slotsUsed } : State).setVm s₂.vm).setTop { g with pc := g.pc + len₂, stack := v.toList ++ g.stack })
    rw [← hs₂]
    exact hsteps
  · obtain ⟨e2, q2, q3, q4, q5, q6⟩ := id hsm
    have e3 : s₂ = ({ (U.calling g mk a).setFrames s₂.frames with heap := s₂.heap, slotsUsed := s₂.slotsUsed } : State).setVm s₂.vm := by
      have : s₂ = ({ s₂ with vm := (U.calling g mk a).vm } : State).setVm s₂.vm := rfl
      rw [e2] at this
      exact this
    have hf₂ : s₂.frames = .throwing q :: .java g :: U.frames.tail := hend
    have hW' : U.WarmedH s₂.vm := hW₂
    have hs₂ : s₂ = ((({ U with heap := s₂.heap, slotsUsed := s₂.slotsUsed } : State).setVm s₂.vm).setTop g).pushFrame (.throwing q) := by
      refine e3.trans ?_
      rw [hf₂, State.calling_eq h.top, State.setFrames_setFrames, State.pushFrame, State.frames_setTop _ hr', State.setTop_of_frames _ hr', State.setFrames_setFrames, hr]
      rfl
    have hsame : U.sameButNew ({ U with heap := s₂.heap, slotsUsed := s₂.slotsUsed } : State) L mc ms := by
      refine ⟨?_, q2, q3, q4, q5, q6⟩
      obtain ⟨t, ht, -⟩ := State.frames_cons hr
      show ({ U with heap := s₂.heap, slotsUsed := s₂.slotsUsed } : State) = { U.setFrames U.frames with heap := s₂.heap, slotsUsed := s₂.slotsUsed }
      rw [State.setFrames_self ht]
    subst hg
    refine Or.inr ⟨q, ⟨(({ U with heap := s₂.heap, slotsUsed := s₂.slotsUsed } : State).setVm s₂.vm), Ls ++ L, c0 + mc, s0 + ms⟩,
      ⟨X.admits, X.cas, X.clock, X.frames, X.room, X.hears, X.method, X.code, (X.here.setHeapUsed s₂.heap s₂.slotsUsed).setVm hW'.alike, X.tail, State.WarmedH.trans X.warmed hW', X.limits, X.bytes, X.same.trans (hsame.setVm s.vm)⟩,
      ⟨g, mk, s₂, L, E, ce, rfl, rfl, hx, hce, hcv, hcl, rfl, hL, rfl, rfl⟩, ?_⟩
    show Steps p.tables e below _ (((({ U with heap := s₂.heap, slotsUsed := s₂.slotsUsed } : State).setVm s₂.vm).setTop g).pushFrame (.throwing q))
    rw [← hs₂]
    exact hsteps
end
variable {p : Program} {l : Launch} {e : Env} {R : Room} {s : State} {m : MethodId} {args : Array Value} {below : List Frame} {meth : Method} {c : Code} {T : State} {H : Heap} {locs : List Loc} {cells slots : Nat}
theorem vx_callVX (X : Stand p l e R s m args below meth c T locs cells slots) (hexec : p.tables.exec = Jvm.exec) {own C : String} {index : Nat} {y : MethodName} {bytes : ByteArray} {maxL : Nat} {ret : Option FieldType} {hh : List (Nat × Nat × Nat × Nat)}
    (hown : s.vm.findClass own = some m.cls) (hlink : (Cond.methodLink own index y).before args s = true) (hinst : (Cond.instanceMethod y).before args s = true) (hsel : (Cond.selects C y y).before args s = true)
    (hcode : (Cond.codeWith y bytes maxL ret hh).before args s = true) (hy : y.cls ≠ "java/lang/invoke/MethodHandle" ∧ y.cls ≠ "java/lang/invoke/VarHandle")
    {W9 : Nat} {Pre : Pt → Array Value → Prop} {Post : Pt → Array Value → Option Value → Pt → Prop} {PostX : Pt → Array Value → Addr → Pt → Prop} (hK : vx_Back l R p e below s args y 3 W9 Pre Post PostX)
    {b : Addr} {cellB : Cell} (hcell : T.heap[b]? = some cellB) (hobj : cellB.vm.isStatics = false) (hcls : s.vm.findClass C = some cellB.cls)
    {g : JFrame} (hg : g.method = m) (hsize : g.locals.size = c.maxLocals) {argsL rest : List Value} (hlen : ∀ sig, parseMethodDescriptor y.desc = some sig → argsL.length = sig.parameters.length)
    (hstack : g.stack = argsL.reverse ++ .ref b :: rest) (hW : 2 * g.monitorRoom + (rest.map fun v => v.category).sum ≤ W9) (hdg : decode c.code g.pc = .ok (.invokevirtual index, 3))
    (hpre : ∀ vm₁, s.WarmedH vm₁ → Pre ⟨T.setVm vm₁, locs, cells, slots⟩ (Value.ref b :: argsL).toArray) :
    (∃ (v : Option Value) (vm₁ : Vm) (B : Pt), s.WarmedH vm₁ ∧ Stand p l e R s m args below meth c B.U B.locs B.cells B.slots ∧ Post ⟨T.setVm vm₁, locs, cells, slots⟩ (Value.ref b :: argsL).toArray v B ∧
      ∀ target, Steps p.tables e below (B.U.setTop { g with pc := g.pc + 3, stack := v.toList ++ rest }) target → Steps p.tables e below (T.setTop g) target) ∨
    (∃ (q : Addr) (vm₁ : Vm) (B : Pt), s.WarmedH vm₁ ∧ Stand p l e R s m args below meth c B.U B.locs B.cells B.slots ∧ PostX ⟨T.setVm vm₁, locs, cells, slots⟩ (Value.ref b :: argsL).toArray q B ∧
      Steps p.tables e below (T.setTop g) ((B.U.setTop { g with stack := rest }).pushFrame (.throwing q))) := by
  obtain ⟨mk, methM, hnamed, hmethM, hstM, habM⟩ := Cond.instanceMethod_spec hinst
  obtain ⟨m8, methM', cM, hn8, hmethM', -, -, -, -, -, -, hsigM⟩ := Cond.codeWith_spec hcode
  cases Option.some.inj (hn8.symm.trans hnamed)
  cases hmethM.symm.trans hmethM'
  obtain ⟨c2, r2, m2, q1, q2, q3, q4, kP, hkP, hkPi⟩ := Cond.selects_spec hsel
  cases hcls.symm.trans q1
  cases (State.methodFound?_of_named hnamed hy).symm.trans q2
  cases hnamed.symm.trans q3
  have hselP : selectMethod e.platform s.vm cellB.cls mk = .method mk := by rw [Launch.admits_selectMethod X.admits]; exact q4
  obtain ⟨vm₁, X₁, hstep₁⟩ := X.invokevirtual hexec hown hlink hnamed hmethM hstM hkP hkPi hy (a := b) (cell := cellB) hcell
    (fun z h => by rw [h] at hobj; cases hobj) hselP hmethM habM hkP hkPi (g := g) hg (argsL := argsL) (rest := rest) (hlen _ hsigM) hstack hdg
  rcases hK m meth c ⟨T.setVm vm₁, locs, cells, slots⟩ { g with stack := rest } (.invokevirtual index) mk (Value.ref b :: argsL).toArray X₁ hg hsize hdg hW (X₁.named hnamed) (hpre vm₁ X₁.warmed) with ⟨v, B, X', hpost, hsteps⟩ | ⟨q, B, X', hpost, hsteps⟩
  · exact Or.inl ⟨v, vm₁, B, X₁.warmed, X', hpost, fun target h => hstep₁ _ fun acts => by rw [doInvoke_state]; exact hsteps.trans h⟩
  · exact Or.inr ⟨q, vm₁, B, X₁.warmed, X', hpost, hstep₁ _ fun acts => by rw [doInvoke_state]; exact hsteps⟩
theorem vx_callSX (X : Stand p l e R s m args below meth c T locs cells slots) (hexec : p.tables.exec = Jvm.exec) {own : String} {index : Nat} {y : MethodName} {bytes : ByteArray} {maxL : Nat} {ret : Option FieldType} {hh : List (Nat × Nat × Nat × Nat)}
    (hown : s.vm.findClass own = some m.cls) (hlink : (Cond.methodLink own index y).before args s = true) (hstat : (Cond.static y).before args s = true) (hinit : (Cond.initialized y.cls).before args s = true)
    (hcode : (Cond.codeWith y bytes maxL ret hh).before args s = true) (hy : y.cls ≠ "java/lang/invoke/MethodHandle" ∧ y.cls ≠ "java/lang/invoke/VarHandle")
    {W9 : Nat} {Pre : Pt → Array Value → Prop} {Post : Pt → Array Value → Option Value → Pt → Prop} {PostX : Pt → Array Value → Addr → Pt → Prop} (hK : vx_Back l R p e below s args y 3 W9 Pre Post PostX)
    {g : JFrame} (hg : g.method = m) (hsize : g.locals.size = c.maxLocals) {argsL rest : List Value} (hlen : ∀ sig, parseMethodDescriptor y.desc = some sig → argsL.length = sig.parameters.length)
    (hstack : g.stack = argsL.reverse ++ rest) (hW : 2 * g.monitorRoom + (rest.map fun v => v.category).sum ≤ W9) (hdg : decode c.code g.pc = .ok (.invokestatic index, 3))
    (hpre : ∀ vm₁, s.WarmedH vm₁ → Pre ⟨T.setVm vm₁, locs, cells, slots⟩ argsL.toArray) :
    (∃ (v : Option Value) (vm₁ : Vm) (B : Pt), s.WarmedH vm₁ ∧ Stand p l e R s m args below meth c B.U B.locs B.cells B.slots ∧ Post ⟨T.setVm vm₁, locs, cells, slots⟩ argsL.toArray v B ∧
      ∀ target, Steps p.tables e below (B.U.setTop { g with pc := g.pc + 3, stack := v.toList ++ rest }) target → Steps p.tables e below (T.setTop g) target) ∨
    (∃ (q : Addr) (vm₁ : Vm) (B : Pt), s.WarmedH vm₁ ∧ Stand p l e R s m args below meth c B.U B.locs B.cells B.slots ∧ PostX ⟨T.setVm vm₁, locs, cells, slots⟩ argsL.toArray q B ∧
      Steps p.tables e below (T.setTop g) ((B.U.setTop { g with stack := rest }).pushFrame (.throwing q))) := by
  obtain ⟨mk, methM, cM, hnamed, hmethM, -, -, -, -, -, -, hsigM⟩ := Cond.codeWith_spec hcode
  have hstatic : methM.isStatic = true := Cond.static_spec hnamed hmethM hstat
  obtain ⟨kP, hkP, -⟩ := className_of_methodNamed hnamed
  have hinitP : kP.init = .initialized := Cond.initialized_spec (findClass_of_methodNamed hnamed) hkP hinit
  obtain ⟨vm₁, X₁, hstep₁⟩ := X.invokestatic hexec hown hlink hnamed hmethM hstatic hkP hinitP hy (g := g) hg (argsL := argsL) (rest := rest) (hlen _ hsigM) hstack hdg
  rcases hK m meth c ⟨T.setVm vm₁, locs, cells, slots⟩ { g with stack := rest } (.invokestatic index) mk argsL.toArray X₁ hg hsize hdg hW (X₁.named hnamed) (hpre vm₁ X₁.warmed) with ⟨v, B, X', hpost, hsteps⟩ | ⟨q, B, X', hpost, hsteps⟩
  · exact Or.inl ⟨v, vm₁, B, X₁.warmed, X', hpost, fun target h => hstep₁ _ fun acts => by rw [doInvoke_state]; exact hsteps.trans h⟩
  · exact Or.inr ⟨q, vm₁, B, X₁.warmed, X', hpost, hstep₁ _ fun acts => by rw [doInvoke_state]; exact hsteps⟩
theorem vx_callVW (X : Stand p l e R s m args below meth c T locs cells slots) (hexec : p.tables.exec = Jvm.exec) {own C : String} {index : Nat} {y : MethodName} {bytes : ByteArray} {maxL : Nat} {ret : Option FieldType} {hh : List (Nat × Nat × Nat × Nat)}
    (hown : s.vm.findClass own = some m.cls) (hlink : (Cond.methodLink own index y).before args s = true) (hinst : (Cond.instanceMethod y).before args s = true) (hsel : (Cond.selects C y y).before args s = true)
    (hcode : (Cond.codeWith y bytes maxL ret hh).before args s = true) (hy : y.cls ≠ "java/lang/invoke/MethodHandle" ∧ y.cls ≠ "java/lang/invoke/VarHandle")
    {W9 : Nat} {Pre : Pt → Array Value → Prop} {Post : Pt → Array Value → Option Value → Pt → Prop} (hK : Back l R p e below s args y 3 W9 Pre Post)
    {b : Addr} {cellB : Cell} (hcell : T.heap[b]? = some cellB) (hobj : cellB.vm.isStatics = false) (hcls : s.vm.findClass C = some cellB.cls)
    {g : JFrame} (hg : g.method = m) (hsize : g.locals.size = c.maxLocals) {argsL rest : List Value} (hlen : ∀ sig, parseMethodDescriptor y.desc = some sig → argsL.length = sig.parameters.length)
    (hstack : g.stack = argsL.reverse ++ .ref b :: rest) (hW : 2 * g.monitorRoom + (rest.map fun v => v.category).sum ≤ W9) (hdg : decode c.code g.pc = .ok (.invokevirtual index, 3))
    (hpre : ∀ vm₁, s.WarmedH vm₁ → Pre ⟨T.setVm vm₁, locs, cells, slots⟩ (Value.ref b :: argsL).toArray) :
    ∃ (v : Option Value) (vm₁ : Vm) (B : Pt), s.WarmedH vm₁ ∧ Stand p l e R s m args below meth c B.U B.locs B.cells B.slots ∧ Post ⟨T.setVm vm₁, locs, cells, slots⟩ (Value.ref b :: argsL).toArray v B ∧
      ∀ target, Steps p.tables e below (B.U.setTop { g with pc := g.pc + 3, stack := v.toList ++ rest }) target → Steps p.tables e below (T.setTop g) target := by
  obtain ⟨mk, methM, hnamed, hmethM, hstM, habM⟩ := Cond.instanceMethod_spec hinst
  obtain ⟨m8, methM', cM, hn8, hmethM', -, -, -, -, -, -, hsigM⟩ := Cond.codeWith_spec hcode
  cases Option.some.inj (hn8.symm.trans hnamed)
  cases hmethM.symm.trans hmethM'
  obtain ⟨c2, r2, m2, q1, q2, q3, q4, kP, hkP, hkPi⟩ := Cond.selects_spec hsel
  cases hcls.symm.trans q1
  cases (State.methodFound?_of_named hnamed hy).symm.trans q2
  cases hnamed.symm.trans q3
  have hselP : selectMethod e.platform s.vm cellB.cls mk = .method mk := by rw [Launch.admits_selectMethod X.admits]; exact q4
  obtain ⟨vm₁, X₁, hstep₁⟩ := X.invokevirtual hexec hown hlink hnamed hmethM hstM hkP hkPi hy (a := b) (cell := cellB) hcell
    (fun z h => by rw [h] at hobj; cases hobj) hselP hmethM habM hkP hkPi (g := g) hg (argsL := argsL) (rest := rest) (hlen _ hsigM) hstack hdg
  obtain ⟨v, B, X', hpost, hsteps⟩ := hK m meth c ⟨T.setVm vm₁, locs, cells, slots⟩ { g with stack := rest } (.invokevirtual index) mk (Value.ref b :: argsL).toArray X₁ hg hsize hdg hW (X₁.named hnamed) (hpre vm₁ X₁.warmed)
  exact ⟨v, vm₁, B, X₁.warmed, X', hpost, fun target h => hstep₁ _ fun acts => by rw [doInvoke_state]; exact hsteps.trans h⟩
abbrev vx_CVW (R : Room) (s : State) (args : Array Value) (own C : String) (index : Nat) (y : MethodName) (bytes : ByteArray) (maxL : Nat) (ret : Option FieldType) (hh : List (Nat × Nat × Nat × Nat)) (ws : List Cond) (rm : Room) (mc ms n : Nat) : Prop :=
  (rm.cells = mc ∧ rm.slots = ms ∧ rm.frames + 1 ≤ R.frames ∧ 8 + (maxL + 11) + rm.locals ≤ R.locals ∧ (∀ w ∈ ws, ∀ (a' : Array Value) (U : State), s.WarmedH U.vm → w.before a' U = true) ∧ Cond.codeWith y bytes maxL ret hh ∈ ws) ∧
  (Cond.codeWith y bytes maxL ret hh).before args s = true ∧ (Cond.initialized y.cls).before args s = true ∧ (y.cls ≠ "java/lang/invoke/MethodHandle" ∧ y.cls ≠ "java/lang/invoke/VarHandle") ∧
  (∀ sig, parseMethodDescriptor y.desc = some sig → n = sig.parameters.length) ∧ (Cond.methodLink own index y).before args s = true ∧ (Cond.instanceMethod y).before args s = true ∧ (Cond.selects C y y).before args s = true
theorem vx_cwVW {own C : String} {index maxL mc ms : Nat} {y : MethodName} {bytes : ByteArray} {ret : Option FieldType} {hh : List (Nat × Nat × Nat × Nat)} {Ts ws ws' : List Cond} {rm : Room} (n : Nat) (ht : ∀ w ∈ Ts, w.before args s = true) (hT : GoodIn Ts (wsV own index C y ws)) (hw : ws = Cond.codeWith y bytes maxL ret hh :: ws') (hrc : rm.cells = mc) (hrs : rm.slots = ms)
    (hd : y.cls = C ∧ y.cls ≠ "java/lang/invoke/MethodHandle" ∧ y.cls ≠ "java/lang/invoke/VarHandle" ∧ (parseMethodDescriptor y.desc).map (fun d => d.parameters.length) = some n) (hR : rm.frames + 1 ≤ R.frames ∧ 8 + (maxL + 11) + rm.locals ≤ R.locals) :
    vx_CVW R s args own C index y bytes maxL ret hh ws rm mc ms n := by
  obtain ⟨hC, hd⟩ := hd
  subst hC
  have ok : ∀ w ∈ wsV own index y.cls y ws, w.before args s = true := fun w h => ht w (hT w h).1
  have hG : GoodIn Ts ws := fun w h => hT w (by unfold wsV; exact List.mem_append_right _ h)
  have hc : Cond.codeWith y bytes maxL ret hh ∈ ws := by rw [hw]; exact List.mem_cons_self
  refine ⟨⟨hrc, hrs, hR.1, hR.2, pay_in ht hG, hc⟩, ht _ (hG _ hc).1, ok _ (by simp [wsV]), ⟨hd.1, hd.2.1⟩, fun sig h => ?_, ok _ (by simp [wsV]), ok _ (by simp [wsV]), ok _ (by simp [wsV])⟩
  have h2 := hd.2.2
  rw [h] at h2
  exact (Option.some.inj h2).symm
theorem vx_runVW {y : MethodName} {bytes cc : ByteArray} {maxL nL mc ms n index : Nat} {ret : Option FieldType} {hh : List (Nat × Nat × Nat × Nat)} {ws : List Cond} {rm : Room} {Pc : Array Value → State → Prop} {Qc : Array Value → State → Outcome → State → Prop} {free : Addr → Prop} {Ts : List Cond} {own C : String} {b : Addr} {As rest : List Value} {g : JFrame}
    (S : CallFix p m c cc nL s args Ts own) (hM : Met l y ws rm Pc Qc mc ms free) (cw : vx_CVW R s args own C index y bytes maxL ret hh ws rm mc ms n) (hp : PreV s H C b Pc As)
    (hg : g.method = m) (hn : As.length = n) (hsize : g.locals.size = nL) (hstack : g.stack = As.reverse ++ .ref b :: rest) (hW : 2 * g.monitorRoom + (rest.map fun v => v.category).sum ≤ 8) (hdg : decode cc g.pc = .ok (.invokevirtual index, 3)) (hf : cells + mc ≤ R.cells ∧ slots + ms ≤ R.slots) :
    va_Run p l e R s m args below meth c H locs cells slots mc ms g rest (Qc (Value.ref b :: As).toArray) free := by
  obtain ⟨⟨hrc, hrs, hfr, hlo, hws, hcw⟩, hcode, hini, hy, hlen, hl, hin, hse⟩ := cw
  have hK : Back l R p e below s args y 3 8 (PreOf R mc ms Pc) (PostOf Qc mc ms free) := va_backW (hh := hh) (bytes := bytes) (maxL := maxL) (ret := ret) hM hp.1 hrc hrs hfr hlo hws hcw (fun a' U hW => word_at hW (Or.inl (by first | rfl | simp [Cond.onTables, Cond.keeps, Cond.steady])) hini)
  obtain ⟨hx, hb, hml, ho, -⟩ := S
  obtain ⟨-, ⟨cellB, hcB, hoB, hclB⟩, hPc⟩ := hp
  intro T hT X
  obtain ⟨v, vm₁, ⟨U', l2, c2, s2⟩, hW₁, X', ⟨g', mk, t, L, e1, e2, hq, h1, hL, h2, h3⟩, st⟩ := vx_callVW X hx (C := C) (hh := hh) (bytes := bytes) (maxL := maxL) (ret := ret) ho hl hin hse hcode hy hK (by rw [hT]; exact hcB) hoB hclB hg (hsize.trans hml.symm) (argsL := As) (rest := rest) (fun sig h => hn.trans (hlen sig h)) hstack hW (by rw [hb]; exact hdg)
    (fun vm₁ hW₁ => ⟨hf.1, hf.2, hPc (T.setVm vm₁) hT hW₁⟩)
  dsimp only [Pt.U, Pt.locs, Pt.cells, Pt.slots] at X' e1 e2 h1 h2 h3 st
  subst h1; subst h2; subst h3
  exact ⟨v, (T.setVm vm₁).calling g' mk (Value.ref b :: As).toArray, t, U', L, hT, X', hL, e1, e2, hq, st⟩
section
variable {y : MethodName} {bytes cc : ByteArray} {maxL nL mc ms n index : Nat} {ret : Option FieldType} {ws : List Cond} {rm : Room} {Pc : Array Value → State → Prop} {Qc : Array Value → State → Outcome → State → Prop} {XC : String → State → State → Prop} {free : Addr → Prop} {Ts : List Cond} {own C : String} {b : Addr} {As rest : List Value} {g : JFrame}
theorem vx_runVX {hh : List (Nat × Nat × Nat × Nat)} (S : CallFix p m c cc nL s args Ts own) (hM : vx_Met l y ws rm Pc Qc XC mc ms free) (cw : vx_CVW R s args own C index y bytes maxL ret hh ws rm mc ms n) (hp : PreV s H C b Pc As)
    (hg : g.method = m) (hn : As.length = n) (hsize : g.locals.size = nL) (hstack : g.stack = As.reverse ++ .ref b :: rest) (hW : 2 * g.monitorRoom + (rest.map fun v => v.category).sum ≤ 8) (hdg : decode cc g.pc = .ok (.invokevirtual index, 3)) (hf : cells + mc ≤ R.cells ∧ slots + ms ≤ R.slots) :
    vx_Run p l e R s m args below meth c H locs cells slots mc ms g rest (Qc (Value.ref b :: As).toArray) XC free := by
  obtain ⟨⟨hrc, hrs, hfr, hlo, hws, hcw⟩, hcode, hini, hy, hlen, hl, hin, hse⟩ := cw
  have hK : vx_Back l R p e below s args y 3 8 (PreOf R mc ms Pc) (PostOf Qc mc ms free) (vx_Post XC mc ms free) := vx_backW (hh := hh) (bytes := bytes) (maxL := maxL) (ret := ret) hM hp.1 hrc hrs hfr hlo hws hcw (fun a' U hW => word_at hW (Or.inl (by first | rfl | simp [Cond.onTables, Cond.keeps, Cond.steady])) hini)
  obtain ⟨hx, hb, hml, ho, -⟩ := S
  obtain ⟨-, ⟨cellB, hcB, hoB, hclB⟩, hPc⟩ := hp
  intro T hT X
  rcases vx_callVX X hx (C := C) (hh := hh) (bytes := bytes) (maxL := maxL) (ret := ret) ho hl hin hse hcode hy hK (by rw [hT]; exact hcB) hoB hclB hg (hsize.trans hml.symm) (argsL := As) (rest := rest) (fun sig h => hn.trans (hlen sig h)) hstack hW (by rw [hb]; exact hdg)
    (fun vm₁ hW₁ => ⟨hf.1, hf.2, hPc (T.setVm vm₁) hT hW₁⟩) with ⟨v, vm₁, ⟨U', l2, c2, s2⟩, hW₁, X', ⟨g', mk, t, L, e1, e2, hq, h1, hL, h2, h3⟩, st⟩ | ⟨q, vm₁, ⟨U', l2, c2, s2⟩, hW₁, X', ⟨g', mk, t, L, E, ce, e1, e2, hq, hce, hcv, hcl, h1, hL, h2, h3⟩, st⟩
  · dsimp only [Pt.U, Pt.locs, Pt.cells, Pt.slots] at X' e1 e2 h1 h2 h3 st
    subst h1; subst h2; subst h3
    exact Or.inl ⟨v, (T.setVm vm₁).calling g' mk (Value.ref b :: As).toArray, t, U', L, hT, X', hL, e1, e2, hq, st⟩
  · dsimp only [Pt.U, Pt.locs, Pt.cells, Pt.slots] at X' e1 e2 h1 h2 h3 st hcl
    subst h1; subst h2; subst h3
    exact Or.inr ⟨q, (T.setVm vm₁).calling g' mk (Value.ref b :: As).toArray, t, U', L, E, ce, hT, X', hL, e1, e2, hq, hce, hcv, vx_cls hW₁ hcl, st⟩
theorem vx_runSX {hh : List (Nat × Nat × Nat × Nat)} (S : CallFix p m c cc nL s args Ts own) (hM : vx_Met l y ws rm Pc Qc XC mc ms free) (cw : vx_CSW R s args own index y bytes maxL ret hh ws rm mc ms n) (hp : PreS s H Pc As)
    (hg : g.method = m) (hn : As.length = n) (hsize : g.locals.size = nL) (hstack : g.stack = As.reverse ++ rest) (hW : 2 * g.monitorRoom + (rest.map fun v => v.category).sum ≤ 8) (hdg : decode cc g.pc = .ok (.invokestatic index, 3)) (hf : cells + mc ≤ R.cells ∧ slots + ms ≤ R.slots) :
    vx_Run p l e R s m args below meth c H locs cells slots mc ms g rest (Qc As.toArray) XC free := by
  obtain ⟨⟨hrc, hrs, hfr, hlo, hws, hcw⟩, hcode, hini, hy, hlen, hl, hstt⟩ := cw
  have hK : vx_Back l R p e below s args y 3 8 (PreOf R mc ms Pc) (PostOf Qc mc ms free) (vx_Post XC mc ms free) := vx_backW (hh := hh) (bytes := bytes) (maxL := maxL) (ret := ret) hM hp.1 hrc hrs hfr hlo hws hcw (fun a' U hW => word_at hW (Or.inl (by first | rfl | simp [Cond.onTables, Cond.keeps, Cond.steady])) hini)
  obtain ⟨hx, hb, hml, ho, -⟩ := S
  intro T hT X
  rcases vx_callSX X hx (hh := hh) (bytes := bytes) (maxL := maxL) (ret := ret) ho hl hstt hini hcode hy hK hg (hsize.trans hml.symm) (argsL := As) (rest := rest) (fun sig h => hn.trans (hlen sig h)) hstack hW (by rw [hb]; exact hdg)
    (fun vm₁ hW₁ => ⟨hf.1, hf.2, hp.2 (T.setVm vm₁) hT hW₁⟩) with ⟨v, vm₁, ⟨U', l2, c2, s2⟩, hW₁, X', ⟨g', mk, t, L, e1, e2, hq, h1, hL, h2, h3⟩, st⟩ | ⟨q, vm₁, ⟨U', l2, c2, s2⟩, hW₁, X', ⟨g', mk, t, L, E, ce, e1, e2, hq, hce, hcv, hcl, h1, hL, h2, h3⟩, st⟩
  · dsimp only [Pt.U, Pt.locs, Pt.cells, Pt.slots] at X' e1 e2 h1 h2 h3 st
    subst h1; subst h2; subst h3
    exact Or.inl ⟨v, (T.setVm vm₁).calling g' mk As.toArray, t, U', L, hT, X', hL, e1, e2, hq, st⟩
  · dsimp only [Pt.U, Pt.locs, Pt.cells, Pt.slots] at X' e1 e2 h1 h2 h3 st hcl
    subst h1; subst h2; subst h3
    exact Or.inr ⟨q, (T.setVm vm₁).calling g' mk As.toArray, t, U', L, E, ce, hT, X', hL, e1, e2, hq, hce, hcv, vx_cls hW₁ hcl, st⟩
end
end VXH
theorem vx_ofWH {l : Launch} {y : MethodName} {ws ws' : List Cond} {rm : Room} {Pc : Array Value → State → Prop} {Qc : Array Value → State → Outcome → State → Prop} {XC : String → State → State → Prop} {mc ms : Nat} {free : Addr → Prop} {cc : ByteArray} {maxL : Nat} {ret : Option FieldType} {hh : List (Nat × Nat × Nat × Nat)}
    (hy : plainName y.cls = true) (hw : ws = Cond.codeWith y cc maxL ret hh :: ws')
    (body : ∀ p e s m args below meth c s₁, BodyLoose p l y (headSpec ws rm) cc maxL ret e s m args below meth c s₁ → c.maxLocals = maxL → Pc args s →
      W p l e (headSpec ws rm).room s m args below meth c s.heap [] 0 0 (vx_MQ below Qc XC args s mc ms free) (entryFrame m args maxL)) : vx_Met l y ws rm Pc Qc XC mc ms free := by
  refine MetFree.of_bodyS (code := cc) (maxLocals := maxL) (ret := ret) hy ?_ ?_
  · intro args s m h hn
    obtain ⟨m9, meth, c, hn9, h1, h2, h3, h4, -, h5, h6, -⟩ := Cond.codeWith_spec (atoms_spec (ws := ws) h _ (by rw [hw]; exact List.mem_cons_self))
    cases hn.symm.trans hn9
    exact ⟨meth, c, h1, h2, h3, h4, h5, h6⟩
  · intro p e s m args below meth c s₁ B hml hP _
    have hh0 : s₁.heap = s.heap := by rw [B.state]; rfl
    obtain ⟨t, a1, o, b1, b2, b3⟩ := body p e s m args below meth c s₁ B hml hP s₁ hh0 (Stand.of_body B)
    exact ⟨t, o, a1, b1, b2, b3⟩
/-! ===== END ===== -/
/-! ===== BEGIN what the machine throws by itself, no traces kept ===== -/
section VXM
set_option maxHeartbeats 1000000 in
/-- the machine throws cls with the message text, no traces kept: from its note over the frame g to 'throwing' over the same frame (follows the proofs of Stand.vmThrowsMessage, Shelf/KitTracedVmS.lean, and Stand.throwsMessageColdBareV, StandMessageColdV.lean, without the step out of the frame) -/
theorem vx_vmAt {p : Program} {l : Launch} {e : Env} {R : Room} {s : State} {m₀ : MethodId} {args : Array Value} {below : List Frame} {meth : Method} {c : Code} {W : State} {locs : List Loc} {cells slots : Nat}
    (X : Stand p l e R s m₀ args below meth c W locs cells slots) (hexec : p.tables.exec = Jvm.exec) (htr : e.platform.stackTraces = false) {cls : String} {names : List String} {text : String}
    (hcls : Bundle.fit cls = true) (hnames : ∀ n ∈ names, Bundle.fit n = true) (hsoe : (cls == "java/lang/StackOverflowError") = false) (hoom : (cls == "java/lang/OutOfMemoryError") = false)
    (h : ∀ a ∈ Bundle.messageArmAtoms cls names, a.before args s = true)
    (hlocs : ∀ x ∈ locs, ∀ cell, s.heap[x.base]? = some cell → cell.vm.isStatics = false)
    (htext : (text == notModelled) = false) (hlimit : ¬ (stringBytes (stringToUtf16 text)).size > e.platform.arrayLengthLimit) (hheap : ¬ (stringBytes (stringToUtf16 text)).size * componentBytes .byte > e.platform.maxHeapBytes)
    {g : JFrame} (hg : g.method = m₀) (hsize : g.locals.size = c.maxLocals)
    (hRframes : names.length + 4 < R.frames) (hRlocals : 2 * g.monitorRoom + (g.stack.map fun v => v.category).sum + 10240 ≤ R.locals) (hshort : 13 * names.length + 55 ≤ 10240)
    (hRcells : cells + 3 ≤ R.cells) (hRslots : slots + ((stringBytes (stringToUtf16 text)).size + 4 + 6) ≤ R.slots) (hlocks : meth.locks = false) :
    ∃ (S : State) (q : Addr) (ce : Cell), (∀ target, Steps p.tables e below ((S.setTop g).pushFrame (.throwing q)) target → Steps p.tables e below ((W.setTop g).pushFrame (.throwNew cls (some text) none)) target) ∧
      Stand p l e R s m₀ args below meth c S locs (cells + 3) (slots + ((stringBytes (stringToUtf16 text)).size + 4 + 6)) ∧ S.heap[q]? = some ce ∧ s.vm.findClass cls = some ce.cls ∧ ce.vm = .none := by
  have howns : e.platform.frameOwnsMonitors = true := by rw [X.admits.platform]
  have hfin : e.platform.finalization = false := by rw [X.admits.platform]
  have hpl : e.platform.magicAccessors = ({} : Platform).magicAccessors := by rw [X.admits.platform]
  have a : ∀ x, x ∈ Bundle.messageArmAtoms cls names → x.holds args s none s [] = true := fun x hx => h x hx
  obtain ⟨T, Z0, L, -, Y⟩ := ThrowableC.of_atoms (args := args) howns hfin hpl (fun x hx => h x (by simp [Bundle.messageArmAtoms, hx]))
  obtain ⟨Z, M, LZ, LM, hnZ⟩ := Init0T.ofS_atoms (args := args) hpl L Y (fun x hx => h x (by simp [Bundle.messageArmAtoms, hx]))
  obtain ⟨P1, Ps, hlen, L1, hL, hP1m, hlink1, hlink⟩ := Bundle.chainS (args := args) hpl hnZ names cls hcls hnames (fun x hx => h x (by simp [Bundle.messageArmAtoms, hx]))
  obtain ⟨Zs, LZs, hn4, hfitv, hfitc⟩ := StringT.of_atoms (args := args) (fun x hx => h x (by simp [Bundle.messageArmAtoms, hx]))
  have hfound : s.vm.findClass cls = some P1.m.cls := findClass_of_methodNamed hP1m
  obtain ⟨c1, kX, hc1, hk, hord, -, -, hn6⟩ := Cond.instantiable_spec (a (.instantiable cls 6) (by simp [Bundle.messageArmAtoms]))
  cases Option.some.inj (hc1.symm.trans hfound)
  have hinit := Cond.initialized_spec hfound hk (a (.initialized cls) (by simp [Bundle.messageArmAtoms]))
  have hctor : kX.findMethod "<init>" "(Ljava/lang/String;)V" = some P1.m.idx := findMethod_of_methodNamed hP1m hk
  have hsel0 : selectMethod e.platform s.vm P1.m.cls T.fill0 = .method T.fill0 := by
    obtain ⟨c2, r2, m2, q1, q2, q3, q4, -⟩ := Cond.selects_spec (a (.selects cls Bundle.tFill0 Bundle.tFill0) (by simp [Bundle.messageArmAtoms]))
    cases Option.some.inj (q1.symm.trans hfound)
    cases Option.some.inj (q2.symm.trans (State.methodFound?_of_named Y.fill0 (by decide)))
    cases Option.some.inj (q3.symm.trans Y.fill0)
    rw [Launch.admits_selectMethod X.admits]; exact q4
  have hselF : selectMethod e.platform s.vm P1.m.cls T.fill = .method T.fill := by
    obtain ⟨c2, r2, m2, q1, q2, q3, q4, -⟩ := Cond.selects_spec (a (.selects cls Bundle.tFill Bundle.tFill) (by simp [Bundle.messageArmAtoms]))
    cases Option.some.inj (q1.symm.trans hfound)
    cases Option.some.inj (q2.symm.trans (State.methodFound?_of_named Y.fill (by decide)))
    cases Option.some.inj (q3.symm.trans Y.fill)
    rw [Launch.admits_selectMethod X.admits]; exact q4
  obtain ⟨cellS0, hcS0, hiss⟩ := Y.statics
  obtain ⟨u0, hu0⟩ := Cond.staticRefV Y.unassigned L.unassignedStatic L.statics hcS0 hiss (a (.isRef (.static Bundle.tN "UNASSIGNED_STACK" Bundle.steD)) (by simp [Bundle.messageArmAtoms]))
  obtain ⟨sen, hsen⟩ := Cond.staticRefV Y.sentinel L.sentinelStatic L.statics hcS0 hiss (a (.isRef (.static Bundle.tN "SUPPRESSED_SENTINEL" Bundle.listD)) (by simp [Bundle.messageArmAtoms]))
  obtain ⟨ci198, i198, fB, hk198, hg198, ha198, hsB, -, hnB, htB, hffB⟩ := Cond.ownField (t := .object "java/lang/Object") Y.found L.cls (by decide +kernel) (a (.fieldLink Bundle.tN 198 Bundle.tN "backtrace" "Ljava/lang/Object;") (by simp [Bundle.messageArmAtoms])) (a (.lays Bundle.tN Bundle.tN "backtrace" "Ljava/lang/Object;") (by simp [Bundle.messageArmAtoms])) e.platform hpl
  obtain ⟨cellS, hcS', heS, -, hkeep⟩ := X.same.2.2.2.2.2 T.aS cellS0 hcS0
  have hcellS : W.heap[T.aS]? = some cellS := hcS'
  have hout' : ∀ i, (⟨T.aS, i⟩ : Loc) ∉ locs := fun i hmem => by
    have := hlocs _ hmem cellS0 hcS0
    rw [hiss] at this; cases this
  have hknownS : cellS.vm ≠ .unknown := by
    rw [heS]; intro hu
    rw [show cellS0.vm = .unknown from hu] at hiss
    cases hiss
  have hvU : cellS.slots[T.fUnassigned.slot]? = some u0.v := by rw [hkeep _ (hout' _)]; exact hu0
  have hvSen : cellS.slots[T.fSentinel.slot]? = some sen.v := by rw [hkeep _ (hout' _)]; exact hsen
  obtain ⟨iM, hffM⟩ := Y.msg
  obtain ⟨tyC, dC, hdC, hdnC⟩ := Cond.laysAt hfound hk Y.cause (a (.lays cls Bundle.tN "cause" "Ljava/lang/Throwable;") (by simp [Bundle.messageArmAtoms]))
  obtain ⟨tyS, dS, hdS, hdnS⟩ := Cond.laysAt hfound hk Y.stack (a (.lays cls Bundle.tN "stackTrace" Bundle.steD) (by simp [Bundle.messageArmAtoms]))
  obtain ⟨tyP, dP, hdP, hdnP⟩ := Cond.laysAt hfound hk Y.supp (a (.lays cls Bundle.tN "suppressedExceptions" Bundle.listD) (by simp [Bundle.messageArmAtoms]))
  obtain ⟨tyM, dM, hdM, hdnM⟩ := Cond.laysAt hfound hk hffM (a (.lays cls Bundle.tN "detailMessage" "Ljava/lang/String;") (by simp [Bundle.messageArmAtoms]))
  obtain ⟨tyB, dB, hdB, hdnB⟩ := Cond.laysAt hfound hk hffB (a (.lays cls Bundle.tN "backtrace" "Ljava/lang/Object;") (by simp [Bundle.messageArmAtoms]))
  have bC := Cond.laysApart hdB hdC hdnB hdnC (by rw [hnB, Y.causeName]; decide)
  have bS := Cond.laysApart hdB hdS hdnB hdnS (by rw [hnB, Y.stackName]; decide)
  have bP := Cond.laysApart hdB hdP hdnB hdnP (by rw [hnB, Y.suppName]; decide)
  have hbk : ((preparedCellV T.toThrowableT (freshCell P1.m.cls kX) (W.heap.size + 2) u0 sen).withEntry W.cur).slots[fB.slot]? = some .null := by
    have := fresh_default (c := P1.m.cls) tyB
    rw [htB] at this
    simpa [preparedCellV, Cell.setSlot, Cell.withEntry, Array.getElem?_setIfInBounds, bC, bS, bP, bC.symm, bS.symm, bP.symm, defaultValue] using this
  have tkC := Takes.of_laid (v := .ref (W.heap.size + 2)) hk hord tyC (by rw [Y.causeType]; rfl)
  have tkS := Takes.of_laid (v := u0.v) hk hord tyS (by rw [Y.stackType]; exact fits_refV_array _ u0)
  have tkP := Takes.of_laid (v := sen.v) hk hord tyP (by rw [Y.suppType]; exact fits_refV_object _ sen)
  have tkM := Takes.of_laid (v := .ref (W.heap.size + 1)) hk hord tyM (by rw [Y.msgType]; rfl)
  have hskip : SkipFacts T e.platform s (fun u => u) u0 ((preparedCellV T.toThrowableT (freshCell P1.m.cls kX) (W.heap.size + 2) u0 sen).withEntry W.cur) := ⟨{ ci198 := ci198, i198 := i198, fBack := fB }, ⟨hk198, hg198, ha198, hsB⟩, hbk, fun _ _ => rfl⟩
  have h0 : At W g.method c below := by rw [hg]; exact X.here
  obtain ⟨hbeyond, hfreeW⟩ := X.vmMayThrow hsize (.throwNew cls (some text) none) (fun f hf => by cases hf) rfl hRlocals
  have hfr' : W.frames.length + Ps.length + 4 < (e.platform.stackLimits W.me).1 := by have := X.framesAbove hRframes; omega
  have hwd' : (stackUse (.java g :: W.frames.tail)).2 + 13 * Ps.length + 55 ≤ (e.platform.stackLimits W.me).2 := by have := X.stackAbove hsize (K := 13 * Ps.length + 55) (by omega); omega
  have hslots : W.slotsUsed + (stringBytes (stringToUtf16 text)).size + Zs.kS.instanceTypes.size + kX.instanceTypes.size ≤ e.platform.maxSlots := by
    have := X.slotsAbove hRslots
    rw [hn4, hn6]
    omega
  obtain ⟨vm', hW', st⟩ := Steps.vmThrowsMessageColdByV p (s₀ := s) (S := W) (g := g) h0 hexec T L Z LZ M LM X.warmed (t := W.cur) rfl Zs LZs P1 L1 Ps hL hlink1 hlink hsoe hoom hfound hk hinit hord hctor
    (Launch.admits_hotImplicitExceptions X.admits) hbeyond hfreeW htext hlimit hheap (X.cellsAbove hRcells) hslots (hfitv _) (hfitc _)
    (Nn := fun u => u) heapOnly_id (fun _ _ => rfl) (fun _ => rfl) (fun u x y => setCell_twice _ _ _ _) (fun _ => Nat.le_refl _) (cN := ((preparedCellV T.toThrowableT (freshCell P1.m.cls kX) (W.heap.size + 2) u0 sen).withEntry W.cur))
    hsel0 hcellS hknownS hvU tkS (fun _ hu => hu) (fun _ hu => hu) rfl rfl rfl (by simp [preparedCellV, Cell.setSlot, Cell.withEntry]) hskip (fun _ _ hA hW _ hroom _ hrest => L.nativeOff p htr hA hW hroom hrest) hselF hvSen tkC tkP tkM Y.objLocals rfl hfr' hwd'
  rw [plainBareV_eq T.toThrowableT (W.heap.size + 2) u0 sen (.ref (W.heap.size + 1)) W.cur rfl rfl] at st
  obtain ⟨-, -, w3, w4, -, -, -⟩ := withThrown_facts e.platform W Zs text P1.m.cls kX
  have X3 := ((X.pushed (bytesOf Zs.cB (stringToUtf16 text))).pushed (stringAt Zs.cS Zs.kS Zs.fv Zs.fc (stringToUtf16 text) W.heap.size)).pushed (freshCell P1.m.cls kX)
  rw [← withString_eq] at X3
  have X4 := X3.noted hW'
  have ha : (W.heap.size + 2) < ((withThrown W Zs text P1.m.cls kX).setVm vm').heap.size := by show _ < (withThrown W Zs text P1.m.cls kX).heap.size; rw [w3]; omega
  have hcell : ((withThrown W Zs text P1.m.cls kX).setVm vm').heap[(W.heap.size + 2)]? = some (freshCell P1.m.cls kX) := w4
  have X5 := ((((X4.stored hcell T.fCause.slot (.ref (W.heap.size + 2))).storedAgain ha T.fStack.slot u0.v).storedAgain ha T.fSupp.slot sen.v).storedAgain ha T.fStack.slot u0.v).storedAgain ha T.fMsg.slot (.ref (W.heap.size + 1))
  obtain ⟨g₁, hfrM⟩ := X5.frames_eq
  have hU : ((((withThrown W Zs text P1.m.cls kX).setVm vm').setCell (W.heap.size + 2) (plainBareV T.toThrowableT (freshCell P1.m.cls kX) (W.heap.size + 2) u0 sen (.ref (W.heap.size + 1)))).setTop g).pushFrame (.throwing (W.heap.size + 2)) = (((withThrown W Zs text P1.m.cls kX).setVm vm').setCell (W.heap.size + 2) (plainBareV T.toThrowableT (freshCell P1.m.cls kX) (W.heap.size + 2) u0 sen (.ref (W.heap.size + 1)))).setFrames (.throwing (W.heap.size + 2) :: .java g :: below) := by
    rw [State.pushFrame, State.frames_setTop _ hfrM, State.setTop_of_frames _ hfrM, State.setFrames_setFrames]
  have b1 : (bytesOf Zs.cB (stringToUtf16 text)).slots.size = (stringBytes (stringToUtf16 text)).size := by
    rw [(Cell.writeAll_facts _ _).2.2]; simp [bytes0]
  have b2 : (stringAt Zs.cS Zs.kS Zs.fv Zs.fc (stringToUtf16 text) W.heap.size).slots.size = 4 := by simp [string0, Cell.setSlot, hn4]
  have b3 : (freshCell P1.m.cls kX).slots.size = 6 := by simp [hn6]
  rw [b1, b2, b3] at X5
  have e9 : slots + (stringBytes (stringToUtf16 text)).size + 4 + 6 = slots + ((stringBytes (stringToUtf16 text)).size + 4 + 6) := by omega
  rw [e9] at X5
  simp only [List.append_assoc, List.cons_append, List.nil_append] at X5
  refine ⟨((withThrown W Zs text P1.m.cls kX).setVm vm').setCell (W.heap.size + 2) (plainBareV T.toThrowableT (freshCell P1.m.cls kX) (W.heap.size + 2) u0 sen (.ref (W.heap.size + 1))), W.heap.size + 2, _, fun target ht => st _ (by rw [X.tail, ← hU]; exact ht),
    X5.forget (fun y hy => ?_), heapAt_setCell_self _ ha, hfound, rfl⟩
  simp only [List.mem_cons, List.not_mem_nil, or_false] at hy
  have hge : s.heap.size ≤ W.heap.size := X.same.2.1
  rcases hy with rfl | rfl | rfl | rfl | rfl <;> exact Nat.le_trans hge (Nat.le_add_right _ 2)
set_option maxHeartbeats 1000000 in
/-- the machine throws NullPointerException, no traces kept: from its note over the frame g to 'throwing' over the same frame (follows the proof of Stand.vmThrowsNpe, Shelf42/KT2.lean; throwsNpeColdBareVAt, Shelf42/NT91.lean, called) -/
theorem vx_npeAt {p : Program} {l : Launch} {e : Env} {R : Room} {s : State} {m₀ : MethodId} {args : Array Value} {below : List Frame} {meth : Method} {c : Code} {W : State} {locs : List Loc} {cells slots : Nat}
    (X : Stand p l e R s m₀ args below meth c W locs cells slots) (hexec : p.tables.exec = Jvm.exec) (htr : e.platform.stackTraces = false) {n : Nat}
    (h : ∀ a ∈ Bundle.npeArmAtoms n, a.before args s = true)
    (hlocs : ∀ x ∈ locs, ∀ cell, s.heap[x.base]? = some cell → cell.vm.isStatics = false)
    {g : JFrame} (hg : g.method = m₀) (hsize : g.locals.size = c.maxLocals)
    (hRframes : 7 < R.frames) (hRlocals : 2 * g.monitorRoom + (g.stack.map fun v => v.category).sum + 10240 ≤ R.locals)
    (hRcells : cells + 1 ≤ R.cells) (hRslots : slots + n ≤ R.slots) (hlocks : meth.locks = false) :
    ∃ (S : State) (q : Addr) (ce : Cell), (∀ target, Steps p.tables e below ((S.setTop g).pushFrame (.throwing q)) target → Steps p.tables e below ((W.setTop g).pushFrame (.throwNew "java/lang/NullPointerException" none none)) target) ∧
      Stand p l e R s m₀ args below meth c S locs (cells + 1) (slots + n) ∧ S.heap[q]? = some ce ∧ s.vm.findClass "java/lang/NullPointerException" = some ce.cls ∧ ce.vm = .none := by
  have howns : e.platform.frameOwnsMonitors = true := by rw [X.admits.platform]
  have hfin : e.platform.finalization = false := by rw [X.admits.platform]
  have hpl : e.platform.magicAccessors = ({} : Platform).magicAccessors := by rw [X.admits.platform]
  have hpl2 : e.platform.arrayCloneIsPublic = true := by rw [X.admits.platform]
  have a' : ∀ x, x ∈ Bundle.npeArmAtoms n → x.holds args s none s [] = true := fun x hx => h x hx
  obtain ⟨T, Z, L, LZ, Y⟩ := ThrowableC.of_atoms (args := args) howns hfin hpl (fun x hx => h x (by simp [Bundle.npeArmAtoms, hx]))
  obtain ⟨N, LN, hcN, hnNF, hordN, hffS⟩ := NpeC.of_atoms (args := args) hpl hpl2 L Y (fun x hx => h x (by simp [Bundle.npeArmAtoms, hx]))
  obtain ⟨P1, L1, hP1m, hP1s⟩ := PassC.of_atoms (args := args) (s := s) hpl (X := Bundle.nN) (Y := Bundle.rN) (by decide) (by decide) LibCode.NullPointerException.Init0.at_0 LibCode.NullPointerException.Init0.at_1 LibCode.NullPointerException.Init0.at_4 (fun x hx => h x (by simp [Bundle.npeArmAtoms, hx]))
  obtain ⟨PR, LR, hPRm, hPRs⟩ := PassC.of_atoms (args := args) (s := s) hpl (X := Bundle.rN) (Y := Bundle.eN) (by decide) (by decide) LibCode.RuntimeException.Init0.at_0 LibCode.RuntimeException.Init0.at_1 LibCode.RuntimeException.Init0.at_4 (fun x hx => h x (by simp [Bundle.npeArmAtoms, hx]))
  obtain ⟨PE, LEx, hPEm, hPEs⟩ := PassC.of_atoms (args := args) (s := s) hpl (X := Bundle.eN) (Y := Bundle.tN) (by decide) (by decide) LibCode.Exception.Init0.at_0 LibCode.Exception.Init0.at_1 LibCode.Exception.Init0.at_4 (fun x hx => h x (by simp [Bundle.npeArmAtoms, hx]))
  have hfound : s.vm.findClass Bundle.nN = some P1.m.cls := findClass_of_methodNamed hP1m
  have ecls : N.cN = P1.m.cls := Option.some.inj (hcN.symm.trans hfound)
  have hk : s.vm.classes[P1.m.cls]? = some N.kN := by rw [← ecls]; exact LN.cls
  have hinit := Cond.initialized_spec hfound hk (a' (.initialized Bundle.nN) (by simp [Bundle.npeArmAtoms]))
  have hctor : N.kN.findMethod "<init>" "()V" = some P1.m.idx := findMethod_of_methodNamed hP1m hk
  obtain ⟨c1, k1, hc1, hk1, -, -, -, hn⟩ := Cond.instantiable_spec (a' (.instantiable Bundle.nN n) (by simp [Bundle.npeArmAtoms]))
  cases Option.some.inj (hc1.symm.trans hfound)
  cases Option.some.inj (hk1.symm.trans hk)
  have hfsz : (freshCell P1.m.cls N.kN).slots.size = n := by simp [hn]
  have hlink1 : P1.sup = PR.m := Option.some.inj (hP1s.symm.trans hPRm)
  have hlinkR : PR.sup = PE.m := Option.some.inj (hPRs.symm.trans hPEm)
  have hlinkE : PE.sup = Z.m T.toThrowableT := Option.some.inj (hPEs.symm.trans Y.init0)
  have hLs : ∀ P, P ∈ [PR, PE] → P.Links0 e.platform s := fun P hP => by
    simp only [List.mem_cons, List.not_mem_nil, or_false] at hP
    rcases hP with rfl | rfl
    · exact LR
    · exact LEx
  have hsel0 : selectMethod e.platform s.vm P1.m.cls T.fill0 = .method T.fill0 := by
    obtain ⟨c2, r2, m2, q1, q2, q3, q4, -⟩ := Cond.selects_spec (a' (.selects Bundle.nN Bundle.tFill0 Bundle.tFill0) (by simp [Bundle.npeArmAtoms]))
    cases Option.some.inj (q1.symm.trans hfound)
    cases Option.some.inj (q2.symm.trans (State.methodFound?_of_named Y.fill0 (by decide)))
    cases Option.some.inj (q3.symm.trans Y.fill0)
    rw [Launch.admits_selectMethod X.admits]; exact q4
  have hselF : selectMethod e.platform s.vm P1.m.cls T.fill = .method N.fill := by
    obtain ⟨c2, r2, m2, q1, q2, q3, q4, -⟩ := Cond.selects_spec (a' (.selects Bundle.nN Bundle.tFill Bundle.nFill) (by simp [Bundle.npeArmAtoms]))
    cases Option.some.inj (q1.symm.trans hfound)
    cases Option.some.inj (q2.symm.trans (State.methodFound?_of_named Y.fill (by decide)))
    cases Option.some.inj (q3.symm.trans hnNF)
    rw [Launch.admits_selectMethod X.admits]; exact q4
  obtain ⟨cellS0, hcS0, hiss⟩ := Y.statics
  obtain ⟨u0, hu0⟩ := Cond.staticRefV Y.unassigned L.unassignedStatic L.statics hcS0 hiss (a' (.isRef (.static Bundle.tN "UNASSIGNED_STACK" Bundle.steD)) (by simp [Bundle.npeArmAtoms]))
  obtain ⟨sen, hsen⟩ := Cond.staticRefV Y.sentinel L.sentinelStatic L.statics hcS0 hiss (a' (.isRef (.static Bundle.tN "SUPPRESSED_SENTINEL" Bundle.listD)) (by simp [Bundle.npeArmAtoms]))
  obtain ⟨ci198, i198, fB, hk198, hg198, ha198, hsB, -, hnB, htB, hffB⟩ := Cond.ownField (t := .object "java/lang/Object") Y.found L.cls (by decide +kernel) (a' (.fieldLink Bundle.tN 198 Bundle.tN "backtrace" Bundle.objD) (by simp [Bundle.npeArmAtoms])) (a' (.lays Bundle.tN Bundle.tN "backtrace" Bundle.objD) (by simp [Bundle.npeArmAtoms])) e.platform hpl
  obtain ⟨cellS, hcS', heS, -, hkeep⟩ := X.same.2.2.2.2.2 T.aS cellS0 hcS0
  have hcellS : W.heap[T.aS]? = some cellS := hcS'
  have hout' : ∀ i, (⟨T.aS, i⟩ : Loc) ∉ locs := fun i hmem => by
    have := hlocs _ hmem cellS0 hcS0
    rw [hiss] at this; cases this
  have hknownS : cellS.vm ≠ .unknown := by
    rw [heS]; intro hu
    rw [show cellS0.vm = .unknown from hu] at hiss
    cases hiss
  have hvU : cellS.slots[T.fUnassigned.slot]? = some u0.v := by rw [hkeep _ (hout' _)]; exact hu0
  have hvSen : cellS.slots[T.fSentinel.slot]? = some sen.v := by rw [hkeep _ (hout' _)]; exact hsen
  obtain ⟨tyC, dC, hdC, hdnC⟩ := Cond.laysAt hfound hk Y.cause (a' (.lays Bundle.nN Bundle.tN "cause" "Ljava/lang/Throwable;") (by simp [Bundle.npeArmAtoms]))
  obtain ⟨tyS, dS, hdS, hdnS⟩ := Cond.laysAt hfound hk Y.stack (a' (.lays Bundle.nN Bundle.tN "stackTrace" Bundle.steD) (by simp [Bundle.npeArmAtoms]))
  obtain ⟨tyP, dP, hdP, hdnP⟩ := Cond.laysAt hfound hk Y.supp (a' (.lays Bundle.nN Bundle.tN "suppressedExceptions" Bundle.listD) (by simp [Bundle.npeArmAtoms]))
  obtain ⟨tyX, dX, hdX, hdnX⟩ := Cond.laysAt hfound hk hffS (a' (.lays Bundle.nN Bundle.nN "extendedMessageState" "I") (by simp [Bundle.npeArmAtoms, Bundle.npeAtoms]))
  obtain ⟨hnX, htX⟩ := State.fieldFound?_type hffS (t := .int) (by decide +kernel)
  have xC := Cond.laysApart hdC hdX hdnC hdnX (by rw [hnX, Y.causeName]; decide)
  have xS := Cond.laysApart hdS hdX hdnS hdnX (by rw [hnX, Y.stackName]; decide)
  have xP := Cond.laysApart hdP hdX hdnP hdnX (by rw [hnX, Y.suppName]; decide)
  have hv0 : (freshCell P1.m.cls N.kN).slots[N.fState.slot]? = some (.int 0) := by
    have := fresh_default (c := P1.m.cls) tyX
    rw [htX] at this; exact this
  obtain ⟨tyB, dB, hdB, hdnB⟩ := Cond.laysAt hfound hk hffB (a' (.lays Bundle.nN Bundle.tN "backtrace" Bundle.objD) (by simp [Bundle.npeArmAtoms]))
  have bC := Cond.laysApart hdB hdC hdnB hdnC (by rw [hnB, Y.causeName]; decide)
  have bS := Cond.laysApart hdB hdS hdnB hdnS (by rw [hnB, Y.stackName]; decide)
  have bP := Cond.laysApart hdB hdP hdnB hdnP (by rw [hnB, Y.suppName]; decide)
  have bX := Cond.laysApart hdB hdX hdnB hdnX (by rw [hnB, hnX]; decide)
  have hbk : ((npeCell N.toNpeT (preparedCellV T.toThrowableT (freshCell P1.m.cls N.kN) W.heap.size u0 sen) W.cur).withEntry W.cur).slots[fB.slot]? = some .null := by
    have := fresh_default (c := P1.m.cls) tyB
    rw [htB] at this
    simpa [npeCell, preparedCellV, Cell.setSlot, Cell.withEntry, Array.getElem?_setIfInBounds, bC, bS, bP, bX, bC.symm, bS.symm, bP.symm, bX.symm, defaultValue] using this
  have tkC := Takes.of_laid (v := .ref W.heap.size) hk hordN tyC (by rw [Y.causeType]; rfl)
  have tkS := Takes.of_laid (v := u0.v) hk hordN tyS (by rw [Y.stackType]; exact fits_refV_array _ u0)
  have tkP := Takes.of_laid (v := sen.v) hk hordN tyP (by rw [Y.suppType]; exact fits_refV_object _ sen)
  have tkX := Takes.of_laid (v := .int 1) hk hordN tyX (by rw [htX]; rfl)
  have hskip : SkipFacts T e.platform s (fun u => u) u0 ((npeCell N.toNpeT (preparedCellV T.toThrowableT (freshCell P1.m.cls N.kN) W.heap.size u0 sen) W.cur).withEntry W.cur) := ⟨{ ci198 := ci198, i198 := i198, fBack := fB }, ⟨hk198, hg198, ha198, hsB⟩, hbk, fun _ _ => rfl⟩
  obtain ⟨vm', X3, st, -⟩ := X.throwsNpeColdBareVAt hexec hg hsize T L Z LZ N LN P1 L1 [PR, PE] hLs hlink1 ⟨hlinkR, hlinkE, trivial⟩ hfound hk hinit hordN hctor hsel0 hselF hcellS hknownS hvU hvSen
    hv0 xC xS xP tkC tkS tkP tkX Y.objLocals hskip (fun _ _ hA hW _ hroom _ hrest => L.nativeOff p htr hA hW hroom hrest) (by simpa using hRframes) hRlocals (by simp) hRcells (by rw [hn]; exact hRslots)
  have hlt : W.heap.size < ((W.pushCell (freshCell P1.m.cls N.kN)).setVm vm').heap.size := by
    show W.heap.size < (W.pushCell (freshCell P1.m.cls N.kN)).heap.size
    rw [State.heap_size_pushCell]; omega
  rw [hfsz] at X3
  obtain ⟨g₁, hfrM⟩ := X3.frames_eq
  have hU : ((((W.pushCell (freshCell P1.m.cls N.kN)).setVm vm').setCell W.heap.size (npeBareV T.toThrowableT N.toNpeT (freshCell P1.m.cls N.kN) W.heap.size u0 sen)).setTop g).pushFrame (.throwing W.heap.size) = (((W.pushCell (freshCell P1.m.cls N.kN)).setVm vm').setCell W.heap.size (npeBareV T.toThrowableT N.toNpeT (freshCell P1.m.cls N.kN) W.heap.size u0 sen)).setFrames (.throwing W.heap.size :: .java g :: below) := by
    rw [State.pushFrame, State.frames_setTop _ hfrM, State.setTop_of_frames _ hfrM, State.setFrames_setFrames]
  refine ⟨_, W.heap.size, _, fun target ht => st.trans (by rw [← hU]; exact ht), X3.forget (fun y hy => ?_), heapAt_setCell_self _ hlt, hfound, rfl⟩
  simp only [List.mem_cons, List.not_mem_nil, or_false] at hy
  have hge : s.heap.size ≤ W.heap.size := X.same.2.1
  rcases hy with rfl | rfl | rfl | rfl | rfl <;> exact hge
/-- the words of a machine's NullPointerException, but the four that speak of the heap -/
def vx_atN (n : Nat) : List Cond := (Bundle.npeArmAtoms n).filter vx_no
/-- the words of a machine's throw with a message, but the four that speak of the heap -/
def vx_atM (X : String) (names : List String) : List Cond := (Bundle.messageArmAtoms X names).filter vx_no
section
variable {p : Program} {l : Launch} {e : Env} {R : Room} {s : State} {m : MethodId} {args : Array Value} {below : List Frame} {meth : Method} {c : Code} {H : Heap} {locs : List Loc} {cells slots : Nat}
/-- a frame seen from a rebased start, seen from the first start again -/
theorem vx_back9 {T S : State} {R' : Room} {k n : Nat} (X : Stand p l e R s m args below meth c T locs cells slots) (Y : Stand p l e R' ((T.setVm s.vm).setFrames (.invoking m args :: below)) m args below meth c T [] 0 0) (Z : Stand p l e R' ((T.setVm s.vm).setFrames (.invoking m args :: below)) m args below meth c S [] k n) :
    Stand p l e R s m args below meth c S locs (cells + k) (slots + n) := by
  have hW0 : s.WarmedH ((T.setVm s.vm).setFrames (.invoking m args :: below)).vm := State.WarmedH.refl s
  refine { admits := X.admits, cas := X.cas, clock := X.clock, frames := X.frames, room := X.room, hears := X.hears, method := X.method, code := X.code, here := Z.here, tail := Z.tail, warmed := State.WarmedH.trans hW0 Z.warmed, limits := Z.limits.trans (Y.limits.symm.trans X.limits), bytes := Z.bytes.trans (Y.bytes.symm.trans X.bytes), same := ?_ }
  obtain ⟨e1, e2⟩ := Z.same
  rw [State.setFrames_setFrames] at e1
  have h2 : (T.setVm s.vm).sameButNew (S.setVm s.vm) [] k n := ⟨e1, e2⟩
  have h3 := X.same.trans h2
  rw [List.append_nil] at h3
  exact h3
/-- from the machine's note that E is thrown here with this text -/
def vx_Note (p : Program) (l : Launch) (e : Env) (R : Room) (s : State) (m : MethodId) (args : Array Value) (below : List Frame) (meth : Method) (c : Code) (H : Heap) (locs : List Loc) (cells slots : Nat) (Q : State → Prop) (g : JFrame) (E text : String) : Prop :=
  ∀ T : State, T.heap = H → Stand p l e R s m args below meth c T locs cells slots → ∃ t, Steps p.tables e below ((T.setTop g).pushFrame (.throwNew E (some text) none)) t ∧ Q t
theorem vx_vm {pc : Nat} {ls : Array Slot} {rest : List Value} {Q : State → Prop} (hexec : p.tables.exec = Jvm.exec) (hl : l.stackTraces = false) {cls text : String} {names : List String} {nb : Nat} {A : Nat → Prop}
    (hcls : Bundle.fit cls = true) (hnames : ∀ n ∈ names, Bundle.fit n = true) (hsoe : (cls == "java/lang/StackOverflowError") = false) (hoom : (cls == "java/lang/OutOfMemoryError") = false)
    (hat : ∀ w ∈ vx_atM cls names, w.before args s = true) (hgood : ∀ w ∈ vx_atM cls names, vx_ot w = true)
    (hU : vx_Zq Bundle.tN "UNASSIGNED_STACK" Bundle.steD A s s.heap) (hN : vx_Zq Bundle.tN "SUPPRESSED_SENTINEL" Bundle.listD A s s.heap) (hS : va_S A s.heap H locs) (hsize : ls.size = c.maxLocals)
    (htext : (text == notModelled) = false) (hnb : (stringBytes (stringToUtf16 text)).size ≤ nb) (hnb1 : nb ≤ 1000)
    (hRframes : names.length + 4 < R.frames) (hRlocals : (rest.map fun v => v.category).sum + 10240 ≤ R.locals) (hshort : 13 * names.length + 55 ≤ 10240) (hRcells : cells + 3 ≤ R.cells) (hRslots : slots + (nb + 10) ≤ R.slots) (hlocks : meth.locks = false)
    (k : ∀ (H1 : Heap) (q9 : Addr) (ce : Cell), H.size ≤ H1.size → (∀ q : Nat, q < H.size → H1[q]? = H[q]?) → va_S A s.heap H1 locs → H1[q9]? = some ce → ce.vm = .none → s.vm.findClass cls = some ce.cls → vx_W p l e R s m args below meth c H1 locs (cells + 3) (slots + (nb + 10)) Q (F0 m pc ls rest) q9) :
    vx_Note p l e R s m args below meth c H locs cells slots Q (F0 m pc ls rest) cls text := by
  intro T hT X
  have htr : e.platform.stackTraces = false := (show e.platform.stackTraces = l.stackTraces by rw [X.admits.platform]).trans hl
  have Y := vx_rebase X (R' := { frames := R.frames, locals := R.locals, cells := 3, slots := nb + 10 }) (Nat.le_refl _) (Nat.le_refl _) hRcells hRslots
  have hhp : ((T.setVm s.vm).setFrames (.invoking m args :: below)).heap = H := hT
  have hW0 : s.WarmedH ((T.setVm s.vm).setFrames (.invoking m args :: below)).vm := State.WarmedH.refl s
  have hat' : ∀ w ∈ vx_atM cls names, w.before args ((T.setVm s.vm).setFrames (.invoking m args :: below)) = true := fun w hw => vx_ot_at hW0 rfl (hgood w hw) (hat w hw)
  have hU' : vx_Zq Bundle.tN "UNASSIGNED_STACK" Bundle.steD A ((T.setVm s.vm).setFrames (.invoking m args :: below)) ((T.setVm s.vm).setFrames (.invoking m args :: below)).heap := by rw [hhp]; exact vx_Zq.moved hW0.alike (hU.kept hS.2.1)
  have hN' : vx_Zq Bundle.tN "SUPPRESSED_SENTINEL" Bundle.listD A ((T.setVm s.vm).setFrames (.invoking m args :: below)) ((T.setVm s.vm).setFrames (.invoking m args :: below)).heap := by rw [hhp]; exact vx_Zq.moved hW0.alike (hN.kept hS.2.1)
  obtain ⟨S, q, ce, st, Z, hce, hcl', hv⟩ := vx_vmAt Y hexec htr (cls := cls) (names := names) (text := text) hcls hnames hsoe hoom (vx_own hat' (vx_isRefq hU'.1) (vx_isRefq hN'.1) hU'.2.word hN'.2.word) (fun x hx => nomatch hx) htext
    (by rw [Launch.admits_arrayLengthLimit X.admits]; omega) (by rw [Launch.admits_maxHeapBytes X.admits]; simp only [componentBytes]; omega)
    (g := F0 m pc ls rest) rfl hsize hRframes (by show 2 * 0 + (rest.map fun v => v.category).sum + 10240 ≤ R.locals; omega) hshort (by show 0 + 3 ≤ 3; omega) (by show 0 + (_ + 4 + 6) ≤ nb + 10; omega) hlocks
  obtain ⟨f1, f2⟩ := vx_frame Z.same
  have f1' : H.size ≤ S.heap.size := by rw [← hT]; exact f1
  have f2' : ∀ q : Nat, q < H.size → S.heap[q]? = H[q]? := fun q hq => by
    rw [← hT]
    exact f2 q (by rw [← hT] at hq; exact hq) (fun z hz => nomatch hz)
  have X5 := vx_back9 X Y Z
  have X6 : Stand p l e R s m args below meth c S locs (cells + 3) (slots + (nb + 10)) := { X5 with same := X5.same.mono (by omega) (by omega) }
  obtain ⟨t, a1, b1⟩ := k S.heap q ce f1' f2' ⟨Nat.le_trans hS.1 f1', fun q h1 h2 => (f2' q (Nat.lt_of_lt_of_le h1 hS.1)).trans (hS.2.1 q h1 h2), hS.2.2⟩ hce hv hcl' S rfl X6
  exact ⟨t, st t a1, b1⟩
/-- from the machine's note that NullPointerException is thrown here -/
def vx_NoteN (p : Program) (l : Launch) (e : Env) (R : Room) (s : State) (m : MethodId) (args : Array Value) (below : List Frame) (meth : Method) (c : Code) (H : Heap) (locs : List Loc) (cells slots : Nat) (Q : State → Prop) (g : JFrame) : Prop :=
  ∀ T : State, T.heap = H → Stand p l e R s m args below meth c T locs cells slots → ∃ t, Steps p.tables e below ((T.setTop g).pushFrame (.throwNew "java/lang/NullPointerException" none none)) t ∧ Q t
theorem vx_npe {pc : Nat} {ls : Array Slot} {rest : List Value} {Q : State → Prop} (hexec : p.tables.exec = Jvm.exec) (hl : l.stackTraces = false) {nb : Nat} {A : Nat → Prop}
    (hat : ∀ w ∈ vx_atN nb, w.before args s = true) (hgood : ∀ w ∈ vx_atN nb, vx_ot w = true)
    (hU : vx_Zq Bundle.tN "UNASSIGNED_STACK" Bundle.steD A s s.heap) (hN : vx_Zq Bundle.tN "SUPPRESSED_SENTINEL" Bundle.listD A s s.heap) (hS : va_S A s.heap H locs) (hsize : ls.size = c.maxLocals)
    (hRframes : 7 < R.frames) (hRlocals : (rest.map fun v => v.category).sum + 10240 ≤ R.locals) (hRcells : cells + 1 ≤ R.cells) (hRslots : slots + nb ≤ R.slots) (hlocks : meth.locks = false)
    (k : ∀ (H1 : Heap) (q9 : Addr) (ce : Cell), H.size ≤ H1.size → (∀ q : Nat, q < H.size → H1[q]? = H[q]?) → va_S A s.heap H1 locs → H1[q9]? = some ce → ce.vm = .none → s.vm.findClass "java/lang/NullPointerException" = some ce.cls → vx_W p l e R s m args below meth c H1 locs (cells + 1) (slots + nb) Q (F0 m pc ls rest) q9) :
    vx_NoteN p l e R s m args below meth c H locs cells slots Q (F0 m pc ls rest) := by
  intro T hT X
  have htr : e.platform.stackTraces = false := (show e.platform.stackTraces = l.stackTraces by rw [X.admits.platform]).trans hl
  have Y := vx_rebase X (R' := { frames := R.frames, locals := R.locals, cells := 1, slots := nb }) (Nat.le_refl _) (Nat.le_refl _) hRcells hRslots
  have hhp : ((T.setVm s.vm).setFrames (.invoking m args :: below)).heap = H := hT
  have hW0 : s.WarmedH ((T.setVm s.vm).setFrames (.invoking m args :: below)).vm := State.WarmedH.refl s
  have hat' : ∀ w ∈ vx_atN nb, w.before args ((T.setVm s.vm).setFrames (.invoking m args :: below)) = true := fun w hw => vx_ot_at hW0 rfl (hgood w hw) (hat w hw)
  have hU' : vx_Zq Bundle.tN "UNASSIGNED_STACK" Bundle.steD A ((T.setVm s.vm).setFrames (.invoking m args :: below)) ((T.setVm s.vm).setFrames (.invoking m args :: below)).heap := by rw [hhp]; exact vx_Zq.moved hW0.alike (hU.kept hS.2.1)
  have hN' : vx_Zq Bundle.tN "SUPPRESSED_SENTINEL" Bundle.listD A ((T.setVm s.vm).setFrames (.invoking m args :: below)) ((T.setVm s.vm).setFrames (.invoking m args :: below)).heap := by rw [hhp]; exact vx_Zq.moved hW0.alike (hN.kept hS.2.1)
  obtain ⟨S, q, ce, st, Z, hce, hcl', hv⟩ := vx_npeAt Y hexec htr (n := nb) (vx_own hat' (vx_isRefq hU'.1) (vx_isRefq hN'.1) hU'.2.word hN'.2.word) (fun x hx => nomatch hx)
    (g := F0 m pc ls rest) rfl hsize hRframes (by show 2 * 0 + (rest.map fun v => v.category).sum + 10240 ≤ R.locals; omega) (by show 0 + 1 ≤ 1; omega) (by show 0 + nb ≤ nb; omega) hlocks
  obtain ⟨f1, f2⟩ := vx_frame Z.same
  have f1' : H.size ≤ S.heap.size := by rw [← hT]; exact f1
  have f2' : ∀ q : Nat, q < H.size → S.heap[q]? = H[q]? := fun q hq => by
    rw [← hT]
    exact f2 q (by rw [← hT] at hq; exact hq) (fun z hz => nomatch hz)
  have X5 := vx_back9 X Y Z
  have X6 : Stand p l e R s m args below meth c S locs (cells + 1) (slots + nb) := { X5 with same := X5.same.mono (by omega) (by omega) }
  obtain ⟨t, a1, b1⟩ := k S.heap q ce f1' f2' ⟨Nat.le_trans hS.1 f1', fun q h1 h2 => (f2' q (Nat.lt_of_lt_of_le h1 hS.1)).trans (hS.2.1 q h1 h2), hS.2.2⟩ hce hv hcl' S rfl X6
  exact ⟨t, st t a1, b1⟩
variable {Q : State → Prop} {cc : ByteArray} {pc : Nat} {ls : Array Slot} {rest : List Value}
theorem vx_idivZ (hexec : p.tables.exec = Jvm.exec) (hb : c.code = cc) {a b : Int32} (h0 : b = 0) (d : decode cc pc = .ok (.idiv, 1)) (k : vx_Note p l e R s m args below meth c H locs cells slots Q (F0 m pc ls rest) "java/lang/ArithmeticException" "/ by zero") :
    W p l e R s m args below meth c H locs cells slots Q (F0 m pc ls (.int b :: .int a :: rest)) := by
  intro T hT X
  obtain ⟨t, st, q⟩ := k T hT X
  exact ⟨t, X.idivZero hexec (g := F0 m pc ls (.int b :: .int a :: rest)) rfl (a := a) (rest := rest) (by rw [h0]) (by rw [hb]; exact d) t st, q⟩
theorem vx_iremZ (hexec : p.tables.exec = Jvm.exec) (hb : c.code = cc) {a b : Int32} (h0 : b = 0) (d : decode cc pc = .ok (.irem, 1)) (k : vx_Note p l e R s m args below meth c H locs cells slots Q (F0 m pc ls rest) "java/lang/ArithmeticException" "/ by zero") :
    W p l e R s m args below meth c H locs cells slots Q (F0 m pc ls (.int b :: .int a :: rest)) := by
  intro T hT X
  obtain ⟨t, st, q⟩ := k T hT X
  exact ⟨t, X.iremZero hexec (g := F0 m pc ls (.int b :: .int a :: rest)) rfl (a := a) (rest := rest) (by rw [h0]) (by rw [hb]; exact d) t st, q⟩
theorem vx_ldivZ (hexec : p.tables.exec = Jvm.exec) (hb : c.code = cc) {a b : Int64} (h0 : b = 0) (d : decode cc pc = .ok (.ldiv, 1)) (k : vx_Note p l e R s m args below meth c H locs cells slots Q (F0 m pc ls rest) "java/lang/ArithmeticException" "/ by zero") :
    W p l e R s m args below meth c H locs cells slots Q (F0 m pc ls (.long b :: .long a :: rest)) := by
  intro T hT X
  obtain ⟨t, st, q⟩ := k T hT X
  exact ⟨t, X.ldivZero hexec (g := F0 m pc ls (.long b :: .long a :: rest)) rfl (a := a) (rest := rest) (by rw [h0]) (by rw [hb]; exact d) t st, q⟩
theorem vx_lremZ (hexec : p.tables.exec = Jvm.exec) (hb : c.code = cc) {a b : Int64} (h0 : b = 0) (d : decode cc pc = .ok (.lrem, 1)) (k : vx_Note p l e R s m args below meth c H locs cells slots Q (F0 m pc ls rest) "java/lang/ArithmeticException" "/ by zero") :
    W p l e R s m args below meth c H locs cells slots Q (F0 m pc ls (.long b :: .long a :: rest)) := by
  intro T hT X
  obtain ⟨t, st, q⟩ := k T hT X
  exact ⟨t, X.lremZero hexec (g := F0 m pc ls (.long b :: .long a :: rest)) rfl (a := a) (rest := rest) (by rw [h0]) (by rw [hb]; exact d) t st, q⟩
theorem vx_ialdZ {D : va_G} {cl : List vw_C} {ws : va_W} {tys : List (ClassId × FieldType)} {a : Nat} (hexec : p.tables.exec = Jvm.exec) (hb : c.code = cc) (hK : va_K D cl tys s) (hP : va_P D cl ws H) (q0 t0 : Nat) {cA : ClassId} {n : Nat} {f : Nat → Int32} (ha : ws[q0]? = some (a, .inl (cA, n, .inl f))) (ht : tys[t0]? = some (cA, .int)) {i : Int32} (hout : ¬ vp_in i n) (hdg : decode cc pc = .ok (.iaload, 1))
    (k : ∀ tx : String, tx = (toString "Index " ++ toString i ++ toString " out of bounds for length " ++ toString n : String) → vx_Note p l e R s m args below meth c H locs cells slots Q (F0 m pc ls rest) "java/lang/ArrayIndexOutOfBoundsException" tx) : W p l e R s m args below meth c H locs cells slots Q (F0 m pc ls (.int i :: .ref a :: rest)) := by
  intro T hT X
  obtain ⟨t, st, q⟩ := k _ rfl T hT X
  refine ⟨t, ?_, q⟩
  have h1 := X.ialoadOut hexec (by rw [hT]; exact hP q0 _ ha) ((hK.2 t0 _ ht).1 n (fun j => .int (f j))) (j := i) (by show (i < 0 ∨ (arrV _ _ _).slots.size ≤ _); rw [arrV_size]; exact Classical.byContradiction hout) (g := F0 m pc ls (.int i :: .ref a :: rest)) rfl (rest := rest) rfl (by rw [hb]; exact hdg) t
  simp only [arrV_size] at h1
  exact h1 st
theorem vx_iastZ {D : va_G} {cl : List vw_C} {ws : va_W} {tys : List (ClassId × FieldType)} {a : Nat} (hexec : p.tables.exec = Jvm.exec) (hb : c.code = cc) (hK : va_K D cl tys s) (hP : va_P D cl ws H) (q0 t0 : Nat) {cA : ClassId} {n : Nat} {f : Nat → Int32} (ha : ws[q0]? = some (a, .inl (cA, n, .inl f))) (ht : tys[t0]? = some (cA, .int)) {i : Int32} {x : Int32} (hout : ¬ vp_in i n) (hdg : decode cc pc = .ok (.iastore, 1))
    (k : ∀ tx : String, tx = (toString "Index " ++ toString i ++ toString " out of bounds for length " ++ toString n : String) → vx_Note p l e R s m args below meth c H locs cells slots Q (F0 m pc ls rest) "java/lang/ArrayIndexOutOfBoundsException" tx) : W p l e R s m args below meth c H locs cells slots Q (F0 m pc ls (.int x :: .int i :: .ref a :: rest)) := by
  intro T hT X
  obtain ⟨t, st, q⟩ := k _ rfl T hT X
  refine ⟨t, ?_, q⟩
  have h1 := X.iastoreOut hexec (by rw [hT]; exact hP q0 _ ha) ((hK.2 t0 _ ht).1 n (fun j => .int (f j))) (j := i) (by show (i < 0 ∨ (arrV _ _ _).slots.size ≤ _); rw [arrV_size]; exact Classical.byContradiction hout) (g := F0 m pc ls (.int x :: .int i :: .ref a :: rest)) rfl (rest := rest) rfl (by rw [hb]; exact hdg) t
  simp only [arrV_size] at h1
  exact h1 st
theorem vx_baldZ {D : va_G} {cl : List vw_C} {ws : va_W} {tys : List (ClassId × FieldType)} {a : Nat} (hexec : p.tables.exec = Jvm.exec) (hb : c.code = cc) (hK : va_K D cl tys s) (hP : va_P D cl ws H) (q0 t0 : Nat) {cA : ClassId} {n : Nat} {f : Nat → Int32} (ha : ws[q0]? = some (a, .inl (cA, n, .inl f))) (ht : tys[t0]? = some (cA, .byte)) {i : Int32} (hout : ¬ vp_in i n) (hdg : decode cc pc = .ok (.baload, 1))
    (k : ∀ tx : String, tx = (toString "Index " ++ toString i ++ toString " out of bounds for length " ++ toString n : String) → vx_Note p l e R s m args below meth c H locs cells slots Q (F0 m pc ls rest) "java/lang/ArrayIndexOutOfBoundsException" tx) : W p l e R s m args below meth c H locs cells slots Q (F0 m pc ls (.int i :: .ref a :: rest)) := by
  intro T hT X
  obtain ⟨t, st, q⟩ := k _ rfl T hT X
  refine ⟨t, ?_, q⟩
  have h1 := X.baloadOut hexec (by rw [hT]; exact hP q0 _ ha) ((hK.2 t0 _ ht).1 n (fun j => .int (f j))) (j := i) (by show (i < 0 ∨ (arrV _ _ _).slots.size ≤ _); rw [arrV_size]; exact Classical.byContradiction hout) (g := F0 m pc ls (.int i :: .ref a :: rest)) rfl (rest := rest) rfl (by rw [hb]; exact hdg) t
  simp only [arrV_size] at h1
  exact h1 st
theorem vx_bastZ {D : va_G} {cl : List vw_C} {ws : va_W} {tys : List (ClassId × FieldType)} {a : Nat} (hexec : p.tables.exec = Jvm.exec) (hb : c.code = cc) (hK : va_K D cl tys s) (hP : va_P D cl ws H) (q0 t0 : Nat) {cA : ClassId} {n : Nat} {f : Nat → Int32} (ha : ws[q0]? = some (a, .inl (cA, n, .inl f))) (ht : tys[t0]? = some (cA, .byte)) {i : Int32} {x : Int32} (hout : ¬ vp_in i n) (hdg : decode cc pc = .ok (.bastore, 1))
    (k : ∀ tx : String, tx = (toString "Index " ++ toString i ++ toString " out of bounds for length " ++ toString n : String) → vx_Note p l e R s m args below meth c H locs cells slots Q (F0 m pc ls rest) "java/lang/ArrayIndexOutOfBoundsException" tx) : W p l e R s m args below meth c H locs cells slots Q (F0 m pc ls (.int x :: .int i :: .ref a :: rest)) := by
  intro T hT X
  obtain ⟨t, st, q⟩ := k _ rfl T hT X
  refine ⟨t, ?_, q⟩
  have h1 := X.bastoreOut hexec (by rw [hT]; exact hP q0 _ ha) ((hK.2 t0 _ ht).1 n (fun j => .int (f j))) (j := i) (by show (i < 0 ∨ (arrV _ _ _).slots.size ≤ _); rw [arrV_size]; exact Classical.byContradiction hout) (g := F0 m pc ls (.int x :: .int i :: .ref a :: rest)) rfl (rest := rest) rfl (by rw [hb]; exact hdg) t
  simp only [arrV_size] at h1
  exact h1 st
theorem vx_zaldZ {D : va_G} {cl : List vw_C} {ws : va_W} {tys : List (ClassId × FieldType)} {a : Nat} (hexec : p.tables.exec = Jvm.exec) (hb : c.code = cc) (hK : va_K D cl tys s) (hP : va_P D cl ws H) (q0 t0 : Nat) {cA : ClassId} {n : Nat} {f : Nat → Int32} (ha : ws[q0]? = some (a, .inl (cA, n, .inl f))) (ht : tys[t0]? = some (cA, .boolean)) {i : Int32} (hout : ¬ vp_in i n) (hdg : decode cc pc = .ok (.baload, 1))
    (k : ∀ tx : String, tx = (toString "Index " ++ toString i ++ toString " out of bounds for length " ++ toString n : String) → vx_Note p l e R s m args below meth c H locs cells slots Q (F0 m pc ls rest) "java/lang/ArrayIndexOutOfBoundsException" tx) : W p l e R s m args below meth c H locs cells slots Q (F0 m pc ls (.int i :: .ref a :: rest)) := by
  intro T hT X
  obtain ⟨t, st, q⟩ := k _ rfl T hT X
  refine ⟨t, ?_, q⟩
  have h1 := X.baloadOut hexec (by rw [hT]; exact hP q0 _ ha) ((hK.2 t0 _ ht).1 n (fun j => .int (f j))) (j := i) (by show (i < 0 ∨ (arrV _ _ _).slots.size ≤ _); rw [arrV_size]; exact Classical.byContradiction hout) (g := F0 m pc ls (.int i :: .ref a :: rest)) rfl (rest := rest) rfl (by rw [hb]; exact hdg) t
  simp only [arrV_size] at h1
  exact h1 st
theorem vx_zastZ {D : va_G} {cl : List vw_C} {ws : va_W} {tys : List (ClassId × FieldType)} {a : Nat} (hexec : p.tables.exec = Jvm.exec) (hb : c.code = cc) (hK : va_K D cl tys s) (hP : va_P D cl ws H) (q0 t0 : Nat) {cA : ClassId} {n : Nat} {f : Nat → Int32} (ha : ws[q0]? = some (a, .inl (cA, n, .inl f))) (ht : tys[t0]? = some (cA, .boolean)) {i : Int32} {x : Int32} (hout : ¬ vp_in i n) (hdg : decode cc pc = .ok (.bastore, 1))
    (k : ∀ tx : String, tx = (toString "Index " ++ toString i ++ toString " out of bounds for length " ++ toString n : String) → vx_Note p l e R s m args below meth c H locs cells slots Q (F0 m pc ls rest) "java/lang/ArrayIndexOutOfBoundsException" tx) : W p l e R s m args below meth c H locs cells slots Q (F0 m pc ls (.int x :: .int i :: .ref a :: rest)) := by
  intro T hT X
  obtain ⟨t, st, q⟩ := k _ rfl T hT X
  refine ⟨t, ?_, q⟩
  have h1 := X.bastoreOut hexec (by rw [hT]; exact hP q0 _ ha) ((hK.2 t0 _ ht).1 n (fun j => .int (f j))) (j := i) (by show (i < 0 ∨ (arrV _ _ _).slots.size ≤ _); rw [arrV_size]; exact Classical.byContradiction hout) (g := F0 m pc ls (.int x :: .int i :: .ref a :: rest)) rfl (rest := rest) rfl (by rw [hb]; exact hdg) t
  simp only [arrV_size] at h1
  exact h1 st
theorem vx_caldZ {D : va_G} {cl : List vw_C} {ws : va_W} {tys : List (ClassId × FieldType)} {a : Nat} (hexec : p.tables.exec = Jvm.exec) (hb : c.code = cc) (hK : va_K D cl tys s) (hP : va_P D cl ws H) (q0 t0 : Nat) {cA : ClassId} {n : Nat} {f : Nat → Int32} (ha : ws[q0]? = some (a, .inl (cA, n, .inl f))) (ht : tys[t0]? = some (cA, .char)) {i : Int32} (hout : ¬ vp_in i n) (hdg : decode cc pc = .ok (.caload, 1))
    (k : ∀ tx : String, tx = (toString "Index " ++ toString i ++ toString " out of bounds for length " ++ toString n : String) → vx_Note p l e R s m args below meth c H locs cells slots Q (F0 m pc ls rest) "java/lang/ArrayIndexOutOfBoundsException" tx) : W p l e R s m args below meth c H locs cells slots Q (F0 m pc ls (.int i :: .ref a :: rest)) := by
  intro T hT X
  obtain ⟨t, st, q⟩ := k _ rfl T hT X
  refine ⟨t, ?_, q⟩
  have h1 := X.caloadOut hexec (by rw [hT]; exact hP q0 _ ha) ((hK.2 t0 _ ht).1 n (fun j => .int (f j))) (j := i) (by show (i < 0 ∨ (arrV _ _ _).slots.size ≤ _); rw [arrV_size]; exact Classical.byContradiction hout) (g := F0 m pc ls (.int i :: .ref a :: rest)) rfl (rest := rest) rfl (by rw [hb]; exact hdg) t
  simp only [arrV_size] at h1
  exact h1 st
theorem vx_castZ {D : va_G} {cl : List vw_C} {ws : va_W} {tys : List (ClassId × FieldType)} {a : Nat} (hexec : p.tables.exec = Jvm.exec) (hb : c.code = cc) (hK : va_K D cl tys s) (hP : va_P D cl ws H) (q0 t0 : Nat) {cA : ClassId} {n : Nat} {f : Nat → Int32} (ha : ws[q0]? = some (a, .inl (cA, n, .inl f))) (ht : tys[t0]? = some (cA, .char)) {i : Int32} {x : Int32} (hout : ¬ vp_in i n) (hdg : decode cc pc = .ok (.castore, 1))
    (k : ∀ tx : String, tx = (toString "Index " ++ toString i ++ toString " out of bounds for length " ++ toString n : String) → vx_Note p l e R s m args below meth c H locs cells slots Q (F0 m pc ls rest) "java/lang/ArrayIndexOutOfBoundsException" tx) : W p l e R s m args below meth c H locs cells slots Q (F0 m pc ls (.int x :: .int i :: .ref a :: rest)) := by
  intro T hT X
  obtain ⟨t, st, q⟩ := k _ rfl T hT X
  refine ⟨t, ?_, q⟩
  have h1 := X.castoreOut hexec (by rw [hT]; exact hP q0 _ ha) ((hK.2 t0 _ ht).1 n (fun j => .int (f j))) (j := i) (by show (i < 0 ∨ (arrV _ _ _).slots.size ≤ _); rw [arrV_size]; exact Classical.byContradiction hout) (g := F0 m pc ls (.int x :: .int i :: .ref a :: rest)) rfl (rest := rest) rfl (by rw [hb]; exact hdg) t
  simp only [arrV_size] at h1
  exact h1 st
theorem vx_saldZ {D : va_G} {cl : List vw_C} {ws : va_W} {tys : List (ClassId × FieldType)} {a : Nat} (hexec : p.tables.exec = Jvm.exec) (hb : c.code = cc) (hK : va_K D cl tys s) (hP : va_P D cl ws H) (q0 t0 : Nat) {cA : ClassId} {n : Nat} {f : Nat → Int32} (ha : ws[q0]? = some (a, .inl (cA, n, .inl f))) (ht : tys[t0]? = some (cA, .short)) {i : Int32} (hout : ¬ vp_in i n) (hdg : decode cc pc = .ok (.saload, 1))
    (k : ∀ tx : String, tx = (toString "Index " ++ toString i ++ toString " out of bounds for length " ++ toString n : String) → vx_Note p l e R s m args below meth c H locs cells slots Q (F0 m pc ls rest) "java/lang/ArrayIndexOutOfBoundsException" tx) : W p l e R s m args below meth c H locs cells slots Q (F0 m pc ls (.int i :: .ref a :: rest)) := by
  intro T hT X
  obtain ⟨t, st, q⟩ := k _ rfl T hT X
  refine ⟨t, ?_, q⟩
  have h1 := X.saloadOut hexec (by rw [hT]; exact hP q0 _ ha) ((hK.2 t0 _ ht).1 n (fun j => .int (f j))) (j := i) (by show (i < 0 ∨ (arrV _ _ _).slots.size ≤ _); rw [arrV_size]; exact Classical.byContradiction hout) (g := F0 m pc ls (.int i :: .ref a :: rest)) rfl (rest := rest) rfl (by rw [hb]; exact hdg) t
  simp only [arrV_size] at h1
  exact h1 st
theorem vx_sastZ {D : va_G} {cl : List vw_C} {ws : va_W} {tys : List (ClassId × FieldType)} {a : Nat} (hexec : p.tables.exec = Jvm.exec) (hb : c.code = cc) (hK : va_K D cl tys s) (hP : va_P D cl ws H) (q0 t0 : Nat) {cA : ClassId} {n : Nat} {f : Nat → Int32} (ha : ws[q0]? = some (a, .inl (cA, n, .inl f))) (ht : tys[t0]? = some (cA, .short)) {i : Int32} {x : Int32} (hout : ¬ vp_in i n) (hdg : decode cc pc = .ok (.sastore, 1))
    (k : ∀ tx : String, tx = (toString "Index " ++ toString i ++ toString " out of bounds for length " ++ toString n : String) → vx_Note p l e R s m args below meth c H locs cells slots Q (F0 m pc ls rest) "java/lang/ArrayIndexOutOfBoundsException" tx) : W p l e R s m args below meth c H locs cells slots Q (F0 m pc ls (.int x :: .int i :: .ref a :: rest)) := by
  intro T hT X
  obtain ⟨t, st, q⟩ := k _ rfl T hT X
  refine ⟨t, ?_, q⟩
  have h1 := X.sastoreOut hexec (by rw [hT]; exact hP q0 _ ha) ((hK.2 t0 _ ht).1 n (fun j => .int (f j))) (j := i) (by show (i < 0 ∨ (arrV _ _ _).slots.size ≤ _); rw [arrV_size]; exact Classical.byContradiction hout) (g := F0 m pc ls (.int x :: .int i :: .ref a :: rest)) rfl (rest := rest) rfl (by rw [hb]; exact hdg) t
  simp only [arrV_size] at h1
  exact h1 st
theorem vx_laldZ {D : va_G} {cl : List vw_C} {ws : va_W} {tys : List (ClassId × FieldType)} {a : Nat} (hexec : p.tables.exec = Jvm.exec) (hb : c.code = cc) (hK : va_K D cl tys s) (hP : va_P D cl ws H) (q0 t0 : Nat) {cA : ClassId} {n : Nat} {f : Nat → Int64} (ha : ws[q0]? = some (a, .inl (cA, n, .inr (.inl f)))) (ht : tys[t0]? = some (cA, .long)) {i : Int32} (hout : ¬ vp_in i n) (hdg : decode cc pc = .ok (.laload, 1))
    (k : ∀ tx : String, tx = (toString "Index " ++ toString i ++ toString " out of bounds for length " ++ toString n : String) → vx_Note p l e R s m args below meth c H locs cells slots Q (F0 m pc ls rest) "java/lang/ArrayIndexOutOfBoundsException" tx) : W p l e R s m args below meth c H locs cells slots Q (F0 m pc ls (.int i :: .ref a :: rest)) := by
  intro T hT X
  obtain ⟨t, st, q⟩ := k _ rfl T hT X
  refine ⟨t, ?_, q⟩
  have h1 := X.laloadOut hexec (by rw [hT]; exact hP q0 _ ha) ((hK.2 t0 _ ht).1 n (fun j => .long (f j))) (j := i) (by show (i < 0 ∨ (arrV _ _ _).slots.size ≤ _); rw [arrV_size]; exact Classical.byContradiction hout) (g := F0 m pc ls (.int i :: .ref a :: rest)) rfl (rest := rest) rfl (by rw [hb]; exact hdg) t
  simp only [arrV_size] at h1
  exact h1 st
theorem vx_lastZ {D : va_G} {cl : List vw_C} {ws : va_W} {tys : List (ClassId × FieldType)} {a : Nat} (hexec : p.tables.exec = Jvm.exec) (hb : c.code = cc) (hK : va_K D cl tys s) (hP : va_P D cl ws H) (q0 t0 : Nat) {cA : ClassId} {n : Nat} {f : Nat → Int64} (ha : ws[q0]? = some (a, .inl (cA, n, .inr (.inl f)))) (ht : tys[t0]? = some (cA, .long)) {i : Int32} {x : Int64} (hout : ¬ vp_in i n) (hdg : decode cc pc = .ok (.lastore, 1))
    (k : ∀ tx : String, tx = (toString "Index " ++ toString i ++ toString " out of bounds for length " ++ toString n : String) → vx_Note p l e R s m args below meth c H locs cells slots Q (F0 m pc ls rest) "java/lang/ArrayIndexOutOfBoundsException" tx) : W p l e R s m args below meth c H locs cells slots Q (F0 m pc ls (.long x :: .int i :: .ref a :: rest)) := by
  intro T hT X
  obtain ⟨t, st, q⟩ := k _ rfl T hT X
  refine ⟨t, ?_, q⟩
  have h1 := X.lastoreOut hexec (by rw [hT]; exact hP q0 _ ha) ((hK.2 t0 _ ht).1 n (fun j => .long (f j))) (j := i) (by show (i < 0 ∨ (arrV _ _ _).slots.size ≤ _); rw [arrV_size]; exact Classical.byContradiction hout) (g := F0 m pc ls (.long x :: .int i :: .ref a :: rest)) rfl (rest := rest) rfl (by rw [hb]; exact hdg) t
  simp only [arrV_size] at h1
  exact h1 st
theorem vx_faldZ {D : va_G} {cl : List vw_C} {ws : va_W} {tys : List (ClassId × FieldType)} {a : Nat} (hexec : p.tables.exec = Jvm.exec) (hb : c.code = cc) (hK : va_K D cl tys s) (hP : va_P D cl ws H) (q0 t0 : Nat) {cA : ClassId} {n : Nat} {f : Nat → UInt32} (ha : ws[q0]? = some (a, .inl (cA, n, .inr (.inr (.inl f))))) (ht : tys[t0]? = some (cA, .float)) {i : Int32} (hout : ¬ vp_in i n) (hdg : decode cc pc = .ok (.faload, 1))
    (k : ∀ tx : String, tx = (toString "Index " ++ toString i ++ toString " out of bounds for length " ++ toString n : String) → vx_Note p l e R s m args below meth c H locs cells slots Q (F0 m pc ls rest) "java/lang/ArrayIndexOutOfBoundsException" tx) : W p l e R s m args below meth c H locs cells slots Q (F0 m pc ls (.int i :: .ref a :: rest)) := by
  intro T hT X
  obtain ⟨t, st, q⟩ := k _ rfl T hT X
  refine ⟨t, ?_, q⟩
  have h1 := X.faloadOut hexec (by rw [hT]; exact hP q0 _ ha) ((hK.2 t0 _ ht).1 n (fun j => .float (f j))) (j := i) (by show (i < 0 ∨ (arrV _ _ _).slots.size ≤ _); rw [arrV_size]; exact Classical.byContradiction hout) (g := F0 m pc ls (.int i :: .ref a :: rest)) rfl (rest := rest) rfl (by rw [hb]; exact hdg) t
  simp only [arrV_size] at h1
  exact h1 st
theorem vx_fastZ {D : va_G} {cl : List vw_C} {ws : va_W} {tys : List (ClassId × FieldType)} {a : Nat} (hexec : p.tables.exec = Jvm.exec) (hb : c.code = cc) (hK : va_K D cl tys s) (hP : va_P D cl ws H) (q0 t0 : Nat) {cA : ClassId} {n : Nat} {f : Nat → UInt32} (ha : ws[q0]? = some (a, .inl (cA, n, .inr (.inr (.inl f))))) (ht : tys[t0]? = some (cA, .float)) {i : Int32} {x : UInt32} (hout : ¬ vp_in i n) (hdg : decode cc pc = .ok (.fastore, 1))
    (k : ∀ tx : String, tx = (toString "Index " ++ toString i ++ toString " out of bounds for length " ++ toString n : String) → vx_Note p l e R s m args below meth c H locs cells slots Q (F0 m pc ls rest) "java/lang/ArrayIndexOutOfBoundsException" tx) : W p l e R s m args below meth c H locs cells slots Q (F0 m pc ls (.float x :: .int i :: .ref a :: rest)) := by
  intro T hT X
  obtain ⟨t, st, q⟩ := k _ rfl T hT X
  refine ⟨t, ?_, q⟩
  have h1 := X.fastoreOut hexec (by rw [hT]; exact hP q0 _ ha) ((hK.2 t0 _ ht).1 n (fun j => .float (f j))) (j := i) (by show (i < 0 ∨ (arrV _ _ _).slots.size ≤ _); rw [arrV_size]; exact Classical.byContradiction hout) (g := F0 m pc ls (.float x :: .int i :: .ref a :: rest)) rfl (rest := rest) rfl (by rw [hb]; exact hdg) t
  simp only [arrV_size] at h1
  exact h1 st
theorem vx_daldZ {D : va_G} {cl : List vw_C} {ws : va_W} {tys : List (ClassId × FieldType)} {a : Nat} (hexec : p.tables.exec = Jvm.exec) (hb : c.code = cc) (hK : va_K D cl tys s) (hP : va_P D cl ws H) (q0 t0 : Nat) {cA : ClassId} {n : Nat} {f : Nat → UInt64} (ha : ws[q0]? = some (a, .inl (cA, n, .inr (.inr (.inr (.inl f)))))) (ht : tys[t0]? = some (cA, .double)) {i : Int32} (hout : ¬ vp_in i n) (hdg : decode cc pc = .ok (.daload, 1))
    (k : ∀ tx : String, tx = (toString "Index " ++ toString i ++ toString " out of bounds for length " ++ toString n : String) → vx_Note p l e R s m args below meth c H locs cells slots Q (F0 m pc ls rest) "java/lang/ArrayIndexOutOfBoundsException" tx) : W p l e R s m args below meth c H locs cells slots Q (F0 m pc ls (.int i :: .ref a :: rest)) := by
  intro T hT X
  obtain ⟨t, st, q⟩ := k _ rfl T hT X
  refine ⟨t, ?_, q⟩
  have h1 := X.daloadOut hexec (by rw [hT]; exact hP q0 _ ha) ((hK.2 t0 _ ht).1 n (fun j => .double (f j))) (j := i) (by show (i < 0 ∨ (arrV _ _ _).slots.size ≤ _); rw [arrV_size]; exact Classical.byContradiction hout) (g := F0 m pc ls (.int i :: .ref a :: rest)) rfl (rest := rest) rfl (by rw [hb]; exact hdg) t
  simp only [arrV_size] at h1
  exact h1 st
theorem vx_dastZ {D : va_G} {cl : List vw_C} {ws : va_W} {tys : List (ClassId × FieldType)} {a : Nat} (hexec : p.tables.exec = Jvm.exec) (hb : c.code = cc) (hK : va_K D cl tys s) (hP : va_P D cl ws H) (q0 t0 : Nat) {cA : ClassId} {n : Nat} {f : Nat → UInt64} (ha : ws[q0]? = some (a, .inl (cA, n, .inr (.inr (.inr (.inl f)))))) (ht : tys[t0]? = some (cA, .double)) {i : Int32} {x : UInt64} (hout : ¬ vp_in i n) (hdg : decode cc pc = .ok (.dastore, 1))
    (k : ∀ tx : String, tx = (toString "Index " ++ toString i ++ toString " out of bounds for length " ++ toString n : String) → vx_Note p l e R s m args below meth c H locs cells slots Q (F0 m pc ls rest) "java/lang/ArrayIndexOutOfBoundsException" tx) : W p l e R s m args below meth c H locs cells slots Q (F0 m pc ls (.double x :: .int i :: .ref a :: rest)) := by
  intro T hT X
  obtain ⟨t, st, q⟩ := k _ rfl T hT X
  refine ⟨t, ?_, q⟩
  have h1 := X.dastoreOut hexec (by rw [hT]; exact hP q0 _ ha) ((hK.2 t0 _ ht).1 n (fun j => .double (f j))) (j := i) (by show (i < 0 ∨ (arrV _ _ _).slots.size ≤ _); rw [arrV_size]; exact Classical.byContradiction hout) (g := F0 m pc ls (.double x :: .int i :: .ref a :: rest)) rfl (rest := rest) rfl (by rw [hb]; exact hdg) t
  simp only [arrV_size] at h1
  exact h1 st
theorem vx_arraylengthN (hexec : p.tables.exec = Jvm.exec) (hb : c.code = cc) (hdg : decode cc pc = .ok (.arraylength, 1)) (k : vx_NoteN p l e R s m args below meth c H locs cells slots Q (F0 m pc ls rest)) : W p l e R s m args below meth c H locs cells slots Q (F0 m pc ls (.null :: rest)) := by
  intro T hT X
  obtain ⟨t, st, q⟩ := k T hT X
  exact ⟨t, X.arraylengthNull hexec (g := F0 m pc ls (.null :: rest)) rfl (rest := rest) rfl (by rw [hb]; exact hdg) t st, q⟩
theorem vx_ialoadN (hexec : p.tables.exec = Jvm.exec) (hb : c.code = cc) {i : Int32} (hdg : decode cc pc = .ok (.iaload, 1)) (k : vx_NoteN p l e R s m args below meth c H locs cells slots Q (F0 m pc ls rest)) : W p l e R s m args below meth c H locs cells slots Q (F0 m pc ls (.int i :: .null :: rest)) := by
  intro T hT X
  obtain ⟨t, st, q⟩ := k T hT X
  exact ⟨t, X.ialoadNull hexec (g := F0 m pc ls (.int i :: .null :: rest)) rfl (rest := rest) rfl (by rw [hb]; exact hdg) t st, q⟩
theorem vx_laloadN (hexec : p.tables.exec = Jvm.exec) (hb : c.code = cc) {i : Int32} (hdg : decode cc pc = .ok (.laload, 1)) (k : vx_NoteN p l e R s m args below meth c H locs cells slots Q (F0 m pc ls rest)) : W p l e R s m args below meth c H locs cells slots Q (F0 m pc ls (.int i :: .null :: rest)) := by
  intro T hT X
  obtain ⟨t, st, q⟩ := k T hT X
  exact ⟨t, X.laloadNull hexec (g := F0 m pc ls (.int i :: .null :: rest)) rfl (rest := rest) rfl (by rw [hb]; exact hdg) t st, q⟩
theorem vx_faloadN (hexec : p.tables.exec = Jvm.exec) (hb : c.code = cc) {i : Int32} (hdg : decode cc pc = .ok (.faload, 1)) (k : vx_NoteN p l e R s m args below meth c H locs cells slots Q (F0 m pc ls rest)) : W p l e R s m args below meth c H locs cells slots Q (F0 m pc ls (.int i :: .null :: rest)) := by
  intro T hT X
  obtain ⟨t, st, q⟩ := k T hT X
  exact ⟨t, X.faloadNull hexec (g := F0 m pc ls (.int i :: .null :: rest)) rfl (rest := rest) rfl (by rw [hb]; exact hdg) t st, q⟩
theorem vx_daloadN (hexec : p.tables.exec = Jvm.exec) (hb : c.code = cc) {i : Int32} (hdg : decode cc pc = .ok (.daload, 1)) (k : vx_NoteN p l e R s m args below meth c H locs cells slots Q (F0 m pc ls rest)) : W p l e R s m args below meth c H locs cells slots Q (F0 m pc ls (.int i :: .null :: rest)) := by
  intro T hT X
  obtain ⟨t, st, q⟩ := k T hT X
  exact ⟨t, X.daloadNull hexec (g := F0 m pc ls (.int i :: .null :: rest)) rfl (rest := rest) rfl (by rw [hb]; exact hdg) t st, q⟩
theorem vx_aaloadN (hexec : p.tables.exec = Jvm.exec) (hb : c.code = cc) {i : Int32} (hdg : decode cc pc = .ok (.aaload, 1)) (k : vx_NoteN p l e R s m args below meth c H locs cells slots Q (F0 m pc ls rest)) : W p l e R s m args below meth c H locs cells slots Q (F0 m pc ls (.int i :: .null :: rest)) := by
  intro T hT X
  obtain ⟨t, st, q⟩ := k T hT X
  exact ⟨t, X.aaloadNull hexec (g := F0 m pc ls (.int i :: .null :: rest)) rfl (rest := rest) rfl (by rw [hb]; exact hdg) t st, q⟩
theorem vx_baloadN (hexec : p.tables.exec = Jvm.exec) (hb : c.code = cc) {i : Int32} (hdg : decode cc pc = .ok (.baload, 1)) (k : vx_NoteN p l e R s m args below meth c H locs cells slots Q (F0 m pc ls rest)) : W p l e R s m args below meth c H locs cells slots Q (F0 m pc ls (.int i :: .null :: rest)) := by
  intro T hT X
  obtain ⟨t, st, q⟩ := k T hT X
  exact ⟨t, X.baloadNull hexec (g := F0 m pc ls (.int i :: .null :: rest)) rfl (rest := rest) rfl (by rw [hb]; exact hdg) t st, q⟩
theorem vx_caloadN (hexec : p.tables.exec = Jvm.exec) (hb : c.code = cc) {i : Int32} (hdg : decode cc pc = .ok (.caload, 1)) (k : vx_NoteN p l e R s m args below meth c H locs cells slots Q (F0 m pc ls rest)) : W p l e R s m args below meth c H locs cells slots Q (F0 m pc ls (.int i :: .null :: rest)) := by
  intro T hT X
  obtain ⟨t, st, q⟩ := k T hT X
  exact ⟨t, X.caloadNull hexec (g := F0 m pc ls (.int i :: .null :: rest)) rfl (rest := rest) rfl (by rw [hb]; exact hdg) t st, q⟩
theorem vx_saloadN (hexec : p.tables.exec = Jvm.exec) (hb : c.code = cc) {i : Int32} (hdg : decode cc pc = .ok (.saload, 1)) (k : vx_NoteN p l e R s m args below meth c H locs cells slots Q (F0 m pc ls rest)) : W p l e R s m args below meth c H locs cells slots Q (F0 m pc ls (.int i :: .null :: rest)) := by
  intro T hT X
  obtain ⟨t, st, q⟩ := k T hT X
  exact ⟨t, X.saloadNull hexec (g := F0 m pc ls (.int i :: .null :: rest)) rfl (rest := rest) rfl (by rw [hb]; exact hdg) t st, q⟩
theorem vx_iastoreN (hexec : p.tables.exec = Jvm.exec) (hb : c.code = cc) {x : Int32} {i : Int32} (hdg : decode cc pc = .ok (.iastore, 1)) (k : vx_NoteN p l e R s m args below meth c H locs cells slots Q (F0 m pc ls rest)) : W p l e R s m args below meth c H locs cells slots Q (F0 m pc ls (.int x :: .int i :: .null :: rest)) := by
  intro T hT X
  obtain ⟨t, st, q⟩ := k T hT X
  exact ⟨t, X.iastoreNull hexec (g := F0 m pc ls (.int x :: .int i :: .null :: rest)) rfl (rest := rest) rfl (by rw [hb]; exact hdg) t st, q⟩
theorem vx_lastoreN (hexec : p.tables.exec = Jvm.exec) (hb : c.code = cc) {x : Int64} {i : Int32} (hdg : decode cc pc = .ok (.lastore, 1)) (k : vx_NoteN p l e R s m args below meth c H locs cells slots Q (F0 m pc ls rest)) : W p l e R s m args below meth c H locs cells slots Q (F0 m pc ls (.long x :: .int i :: .null :: rest)) := by
  intro T hT X
  obtain ⟨t, st, q⟩ := k T hT X
  exact ⟨t, X.lastoreNull hexec (g := F0 m pc ls (.long x :: .int i :: .null :: rest)) rfl (rest := rest) rfl (by rw [hb]; exact hdg) t st, q⟩
theorem vx_fastoreN (hexec : p.tables.exec = Jvm.exec) (hb : c.code = cc) {x : UInt32} {i : Int32} (hdg : decode cc pc = .ok (.fastore, 1)) (k : vx_NoteN p l e R s m args below meth c H locs cells slots Q (F0 m pc ls rest)) : W p l e R s m args below meth c H locs cells slots Q (F0 m pc ls (.float x :: .int i :: .null :: rest)) := by
  intro T hT X
  obtain ⟨t, st, q⟩ := k T hT X
  exact ⟨t, X.fastoreNull hexec (g := F0 m pc ls (.float x :: .int i :: .null :: rest)) rfl (rest := rest) rfl (by rw [hb]; exact hdg) t st, q⟩
theorem vx_dastoreN (hexec : p.tables.exec = Jvm.exec) (hb : c.code = cc) {x : UInt64} {i : Int32} (hdg : decode cc pc = .ok (.dastore, 1)) (k : vx_NoteN p l e R s m args below meth c H locs cells slots Q (F0 m pc ls rest)) : W p l e R s m args below meth c H locs cells slots Q (F0 m pc ls (.double x :: .int i :: .null :: rest)) := by
  intro T hT X
  obtain ⟨t, st, q⟩ := k T hT X
  exact ⟨t, X.dastoreNull hexec (g := F0 m pc ls (.double x :: .int i :: .null :: rest)) rfl (rest := rest) rfl (by rw [hb]; exact hdg) t st, q⟩
theorem vx_bastoreN (hexec : p.tables.exec = Jvm.exec) (hb : c.code = cc) {x : Int32} {i : Int32} (hdg : decode cc pc = .ok (.bastore, 1)) (k : vx_NoteN p l e R s m args below meth c H locs cells slots Q (F0 m pc ls rest)) : W p l e R s m args below meth c H locs cells slots Q (F0 m pc ls (.int x :: .int i :: .null :: rest)) := by
  intro T hT X
  obtain ⟨t, st, q⟩ := k T hT X
  exact ⟨t, X.bastoreNull hexec (g := F0 m pc ls (.int x :: .int i :: .null :: rest)) rfl (rest := rest) rfl (by rw [hb]; exact hdg) t st, q⟩
theorem vx_castoreN (hexec : p.tables.exec = Jvm.exec) (hb : c.code = cc) {x : Int32} {i : Int32} (hdg : decode cc pc = .ok (.castore, 1)) (k : vx_NoteN p l e R s m args below meth c H locs cells slots Q (F0 m pc ls rest)) : W p l e R s m args below meth c H locs cells slots Q (F0 m pc ls (.int x :: .int i :: .null :: rest)) := by
  intro T hT X
  obtain ⟨t, st, q⟩ := k T hT X
  exact ⟨t, X.castoreNull hexec (g := F0 m pc ls (.int x :: .int i :: .null :: rest)) rfl (rest := rest) rfl (by rw [hb]; exact hdg) t st, q⟩
theorem vx_sastoreN (hexec : p.tables.exec = Jvm.exec) (hb : c.code = cc) {x : Int32} {i : Int32} (hdg : decode cc pc = .ok (.sastore, 1)) (k : vx_NoteN p l e R s m args below meth c H locs cells slots Q (F0 m pc ls rest)) : W p l e R s m args below meth c H locs cells slots Q (F0 m pc ls (.int x :: .int i :: .null :: rest)) := by
  intro T hT X
  obtain ⟨t, st, q⟩ := k T hT X
  exact ⟨t, X.sastoreNull hexec (g := F0 m pc ls (.int x :: .int i :: .null :: rest)) rfl (rest := rest) rfl (by rw [hb]; exact hdg) t st, q⟩
theorem vx_invokeN {own C : String} {index maxL : Nat} {y : MethodName} {bytes : ByteArray} {ret : Option FieldType} (hexec : p.tables.exec = Jvm.exec) (hb : c.code = cc) (hown : s.vm.findClass own = some m.cls) (hlink : (Cond.methodLink own index y).before args s = true) (hinst : (Cond.instanceMethod y).before args s = true) (hcode : (Cond.code y bytes maxL ret).before args s = true) (hsel : (Cond.selects C y y).before args s = true)
    (hx : y.cls ≠ "java/lang/invoke/MethodHandle" ∧ y.cls ≠ "java/lang/invoke/VarHandle") {As : List Value} (hlen : (parseMethodDescriptor y.desc).map (fun d => d.parameters.length) = some As.length) (hdg : decode cc pc = .ok (.invokevirtual index, 3))
    (k : vx_NoteN p l e R s m args below meth c H locs cells slots Q (F0 m pc ls rest)) {st0 : List Value} (hst : st0 = As.reverse ++ .null :: rest) : W p l e R s m args below meth c H locs cells slots Q (F0 m pc ls st0) := by
  intro T hT X
  obtain ⟨r0, r, hn, hrm, hstR, hsigR⟩ := va_Decl.of hinst hcode
  obtain ⟨c2, r2, m2, q1, q2, q3, q4, kP, hkP, hkPi⟩ := Cond.selects_spec hsel
  cases hn.symm.trans q3
  have hl9 : As.length = r.sig.parameters.length := by
    rw [hsigR] at hlen
    exact (Option.some.inj hlen).symm
  obtain ⟨vm', X1, st1⟩ := X.invokevirtualNull hexec hown hlink hn hrm hstR hkP hkPi hx (g := F0 m pc ls st0) rfl (argsL := As) (rest := rest) hl9 hst (by rw [hb]; exact hdg)
  obtain ⟨t, st, q⟩ := k (T.setVm vm') hT X1
  exact ⟨t, st1 t st, q⟩
theorem vx_newarrayZ {atype : ArrayType} (hexec : p.tables.exec = Jvm.exec) (hb : c.code = cc) {n : Int32} (h0 : n < 0) (hdg : decode cc pc = .ok (.newarray atype, 2)) (k : ∀ tx : String, tx = toString n → vx_Note p l e R s m args below meth c H locs cells slots Q (F0 m pc ls rest) "java/lang/NegativeArraySizeException" tx) : W p l e R s m args below meth c H locs cells slots Q (F0 m pc ls (.int n :: rest)) := by
  intro T hT X
  obtain ⟨t, st, q⟩ := k _ rfl T hT X
  exact ⟨t, X.newarrayNegative hexec (g := F0 m pc ls (.int n :: rest)) rfl h0 (rest := rest) rfl (by rw [hb]; exact hdg) t st, q⟩
end
end VXM
/-! ===== END ===== -/
/-! ===== BEGIN an exception as an object: made, kept, thrown later (no traces kept) ===== -/
section VXK
variable {p : Program} {l : Launch} {e : Env} {R : Room} {s : State} {m₀ : MethodId} {args : Array Value} {below : List Frame} {meth : Method} {c : Code} {W : State} {locs : List Loc} {cells slots : Nat}
set_option maxHeartbeats 1000000 in
theorem vx_ctorMadeS (X : Stand p l e R s m₀ args below meth c W locs cells slots) (hexec : p.tables.exec = Jvm.exec) (htr : e.platform.stackTraces = false) {own cls : String} {names : List String} {ic : Nat}
    (hown : s.vm.findClass own = some m₀.cls) (hcls : Bundle.fit cls = true) (hnames : ∀ n ∈ names, Bundle.fit n = true)
    (h : ∀ a ∈ Bundle.ownAtoms own ic cls names, a.before args s = true)
    (hlocs : ∀ x ∈ locs, ∀ cell, s.heap[x.base]? = some cell → cell.vm.isStatics = false)
    {a : Addr} {cX : ClassId} {kX : Class} (hfoundX : s.vm.findClass cls = some cX) (hkX : s.vm.classes[cX]? = some kX) (hcell : W.heap[a]? = some (freshCell cX kX)) (hnew : s.heap.size ≤ a)
    {msg : Value} (hmsg : msg.isRef = true)
    {g : JFrame} (hg : g.method = m₀) (hsize : g.locals.size = c.maxLocals) {rest : List Value} (hstack : g.stack = msg :: .ref a :: .ref a :: rest)
    (hd6 : decode c.code g.pc = .ok (.invokespecial ic, 3))
    (hRframes : names.length + 3 < R.frames) (hRlocals : 2 * g.monitorRoom + ((Value.ref a :: rest).map fun v => v.category).sum + (13 * (names.length + 1) + 42) ≤ R.locals) :
    ∃ (V : State) (ce : Cell) (L : List Loc), Stand p l e R s m₀ args below meth c (V.setCell a ce) (locs ++ L) cells slots ∧ (∀ y ∈ L, y.base = a) ∧ a < V.heap.size ∧ ce.cls = cX ∧ ce.vm = .none ∧
      ∀ target, Steps p.tables e below ((V.setCell a ce).setTop { g with stack := .ref a :: rest, pc := g.pc + 3 }) target → Steps p.tables e below (W.setTop g) target := by
  have howns : e.platform.frameOwnsMonitors = true := by rw [X.admits.platform]
  have hfin : e.platform.finalization = false := by rw [X.admits.platform]
  have hpl : e.platform.magicAccessors = ({} : Platform).magicAccessors := by rw [X.admits.platform]
  have a' : ∀ x, x ∈ Bundle.ownAtoms own ic cls names → x.holds args s none s [] = true := fun x hx => h x hx
  obtain ⟨T, Z0, L, -, Y⟩ := ThrowableC.of_atoms (args := args) howns hfin hpl (fun x hx => h x (by simp [Bundle.ownAtoms, hx]))
  obtain ⟨Z, M, LZ, LM, hnZ⟩ := Init0T.ofS_atoms (args := args) hpl L Y (fun x hx => h x (by simp [Bundle.ownAtoms, hx]))
  obtain ⟨P1, Ps, hlen, L1, hL, hP1m, hlink1, hlink⟩ := Bundle.chainS (args := args) hpl hnZ names cls hcls hnames (fun x hx => h x (by simp [Bundle.ownAtoms, hx]))
  have hfound : s.vm.findClass cls = some P1.m.cls := findClass_of_methodNamed hP1m
  cases Option.some.inj (hfoundX.symm.trans hfound)
  obtain ⟨c1, kX', hc1, hk, hord, -, -, hn6⟩ := Cond.instantiable_spec (a' (.instantiable cls 6) (by simp [Bundle.ownAtoms]))
  cases Option.some.inj (hc1.symm.trans hfound)
  cases Option.some.inj (hkX.symm.trans hk)
  have hsel0 : selectMethod e.platform s.vm P1.m.cls T.fill0 = .method T.fill0 := by
    obtain ⟨c2, r2, m2, q1, q2, q3, q4, -⟩ := Cond.selects_spec (a' (.selects cls Bundle.tFill0 Bundle.tFill0) (by simp [Bundle.ownAtoms]))
    cases Option.some.inj (q1.symm.trans hfound)
    cases Option.some.inj (q2.symm.trans (State.methodFound?_of_named Y.fill0 (by decide)))
    cases Option.some.inj (q3.symm.trans Y.fill0)
    rw [Launch.admits_selectMethod X.admits]; exact q4
  have hselF : selectMethod e.platform s.vm P1.m.cls T.fill = .method T.fill := by
    obtain ⟨c2, r2, m2, q1, q2, q3, q4, -⟩ := Cond.selects_spec (a' (.selects cls Bundle.tFill Bundle.tFill) (by simp [Bundle.ownAtoms]))
    cases Option.some.inj (q1.symm.trans hfound)
    cases Option.some.inj (q2.symm.trans (State.methodFound?_of_named Y.fill (by decide)))
    cases Option.some.inj (q3.symm.trans Y.fill)
    rw [Launch.admits_selectMethod X.admits]; exact q4
  obtain ⟨cellS0, hcS0, hiss⟩ := Y.statics
  obtain ⟨u0, hu0⟩ := Cond.staticRefV Y.unassigned L.unassignedStatic L.statics hcS0 hiss (a' (.isRef (.static Bundle.tN "UNASSIGNED_STACK" Bundle.steD)) (by simp [Bundle.ownAtoms]))
  obtain ⟨sen, hsen⟩ := Cond.staticRefV Y.sentinel L.sentinelStatic L.statics hcS0 hiss (a' (.isRef (.static Bundle.tN "SUPPRESSED_SENTINEL" Bundle.listD)) (by simp [Bundle.ownAtoms]))
  obtain ⟨ci198, i198, fB, hk198, hg198, ha198, hsB, -, hnB, htB, hffB⟩ := Cond.ownField (t := .object "java/lang/Object") Y.found L.cls (by decide +kernel) (a' (.fieldLink Bundle.tN 198 Bundle.tN "backtrace" "Ljava/lang/Object;") (by simp [Bundle.ownAtoms])) (a' (.lays Bundle.tN Bundle.tN "backtrace" "Ljava/lang/Object;") (by simp [Bundle.ownAtoms])) e.platform hpl
  obtain ⟨cellS, hcS', heS, -, hkeep⟩ := X.same.2.2.2.2.2 T.aS cellS0 hcS0
  have hcellS : W.heap[T.aS]? = some cellS := hcS'
  have hout' : ∀ i, (⟨T.aS, i⟩ : Loc) ∉ locs := fun i hmem => by
    have := hlocs _ hmem cellS0 hcS0
    rw [hiss] at this; cases this
  have hknownS : cellS.vm ≠ .unknown := by
    rw [heS]; intro hu
    rw [show cellS0.vm = .unknown from hu] at hiss
    cases hiss
  have hneS : T.aS ≠ a := Nat.ne_of_lt (Nat.lt_of_lt_of_le (Array.getElem?_eq_some_iff.mp hcS0).1 hnew)
  obtain ⟨iM, hffM⟩ := Y.msg
  obtain ⟨tyC, dC, hdC, hdnC⟩ := Cond.laysAt hfound hk Y.cause (a' (.lays cls Bundle.tN "cause" "Ljava/lang/Throwable;") (by simp [Bundle.ownAtoms]))
  obtain ⟨tyS, dS, hdS, hdnS⟩ := Cond.laysAt hfound hk Y.stack (a' (.lays cls Bundle.tN "stackTrace" Bundle.steD) (by simp [Bundle.ownAtoms]))
  obtain ⟨tyP, dP, hdP, hdnP⟩ := Cond.laysAt hfound hk Y.supp (a' (.lays cls Bundle.tN "suppressedExceptions" Bundle.listD) (by simp [Bundle.ownAtoms]))
  obtain ⟨tyM, dM, hdM, hdnM⟩ := Cond.laysAt hfound hk hffM (a' (.lays cls Bundle.tN "detailMessage" "Ljava/lang/String;") (by simp [Bundle.ownAtoms]))
  obtain ⟨tyB, dB, hdB, hdnB⟩ := Cond.laysAt hfound hk hffB (a' (.lays cls Bundle.tN "backtrace" "Ljava/lang/Object;") (by simp [Bundle.ownAtoms]))
  have bC := Cond.laysApart hdB hdC hdnB hdnC (by rw [hnB, Y.causeName]; decide)
  have bS := Cond.laysApart hdB hdS hdnB hdnS (by rw [hnB, Y.stackName]; decide)
  have bP := Cond.laysApart hdB hdP hdnB hdnP (by rw [hnB, Y.suppName]; decide)
  have hskip : SkipFacts T e.platform s (fun u => u) u0 ((preparedCellV T.toThrowableT (freshCell P1.m.cls kX) a u0 sen).withEntry W.cur) :=
    ⟨{ ci198 := ci198, i198 := i198, fBack := fB }, ⟨hk198, hg198, ha198, hsB⟩, by
      have := fresh_default (c := P1.m.cls) tyB
      rw [htB] at this
      simpa [preparedCellV, Cell.setSlot, Cell.withEntry, Array.getElem?_setIfInBounds, bC, bS, bP, bC.symm, bS.symm, bP.symm, defaultValue] using this, fun _ _ => rfl⟩
  obtain ⟨tm, methC, cdC, kC, vm₁, hnC, -, -, -, -, -, -, -, hW₁, st1⟩ := Steps.initColdS (tb := p.tables) (e := e) (below := below) (s := s) (U := W) X.here hexec X.warmed hpl hown (t := Bundle.initS cls) rfl rfl (Bundle.fit_spec hcls).2
    (a' (.methodLink own ic (Bundle.initS cls)) (by simp [Bundle.ownAtoms])) (h (.instanceMethod (Bundle.initS cls)) (by cases names <;> simp [Bundle.ownAtoms, Bundle.chainSAtoms, Bundle.passSAtoms])) (bytes := Bundle.six) (maxL := 2) (h (.code (Bundle.initS cls) Bundle.six 2 none) (by cases names <;> simp [Bundle.ownAtoms, Bundle.chainSAtoms, Bundle.passSAtoms]))
    (f := g) hg (a := a) (msg := msg) (rest := .ref a :: rest) hstack hd6
  cases Option.some.inj (hnC.symm.trans hP1m)
  have X₁ := X.noted hW₁
  obtain ⟨vm₂, X₂, st2⟩ := X₁.ctorMessageOffV hexec (g := { g with stack := .ref a :: rest }) hg hsize T L Z LZ M LM (P1 :: Ps)
    (fun P hP => by rcases List.mem_cons.mp hP with rfl | hP; exact L1; exact hL P hP) ⟨hlink1, hlink⟩ (u0 := u0) (sen := sen) (self := a) hmsg (cell := freshCell P1.m.cls kX) (cellS := cellS)
    hcell (fun _ => by simp) (by simp) rfl rfl hsel0 hselF hcellS hneS hknownS (by rw [hkeep _ (hout' _)]; exact hu0) (by rw [hkeep _ (hout' _)]; exact hsen)
    (Takes.of_laid hk hord tyC (by rw [Y.causeType]; rfl)) (Takes.of_laid hk hord tyS (by rw [Y.stackType]; exact fits_refV_array _ u0)) (Takes.of_laid hk hord tyP (by rw [Y.suppType]; exact fits_refV_object _ sen))
    (Takes.of_laid hk hord tyM (by rw [Y.msgType]; exact fits_refV_object _ ⟨msg, hmsg⟩)) Y.objLocals hskip htr [] hd6
    (by simp only [List.length_cons, hlen]; omega) (by simp only [List.length_cons, hlen]; exact hRlocals)
  have hlt : a < ((W.setVm vm₁).setVm vm₂).heap.size := (Array.getElem?_eq_some_iff.mp hcell).1
  refine ⟨(W.setVm vm₁).setVm vm₂, _, _, X₂, fun y hy => ?_, hlt, rfl, rfl, fun target hwalk => st1 _ (fun acts => ?_)⟩
  · simp only [List.mem_cons, List.not_mem_nil, or_false] at hy
    rcases hy with rfl | rfl | rfl | rfl | rfl <;> rfl
  · rw [doInvoke_state]
    exact st2 _ hwalk
set_option maxHeartbeats 1000000 in
theorem vx_ctorMade0 (X : Stand p l e R s m₀ args below meth c W locs cells slots) (hexec : p.tables.exec = Jvm.exec) (htr : e.platform.stackTraces = false) {own cls : String} {names : List String} {ic : Nat}
    (hown : s.vm.findClass own = some m₀.cls) (hcls : Bundle.fit cls = true) (hnames : ∀ n ∈ names, Bundle.fit n = true)
    (h : ∀ a ∈ Bundle.ownAtoms0 own ic cls names, a.before args s = true)
    (hlocs : ∀ x ∈ locs, ∀ cell, s.heap[x.base]? = some cell → cell.vm.isStatics = false)
    {a : Addr} {cX : ClassId} {kX : Class} (hfoundX : s.vm.findClass cls = some cX) (hkX : s.vm.classes[cX]? = some kX) (hcell : W.heap[a]? = some (freshCell cX kX)) (hnew : s.heap.size ≤ a)
    {g : JFrame} (hg : g.method = m₀) (hsize : g.locals.size = c.maxLocals) {rest : List Value} (hstack : g.stack = .ref a :: .ref a :: rest)
    (hd6 : decode c.code g.pc = .ok (.invokespecial ic, 3))
    (hRframes : names.length + 3 < R.frames) (hRlocals : 2 * g.monitorRoom + ((Value.ref a :: rest).map fun v => v.category).sum + (13 * (names.length + 1) + 41) ≤ R.locals) :
    ∃ (V : State) (ce : Cell) (L : List Loc), Stand p l e R s m₀ args below meth c (V.setCell a ce) (locs ++ L) cells slots ∧ (∀ y ∈ L, y.base = a) ∧ a < V.heap.size ∧ ce.cls = cX ∧ ce.vm = .none ∧
      ∀ target, Steps p.tables e below ((V.setCell a ce).setTop { g with stack := .ref a :: rest, pc := g.pc + 3 }) target → Steps p.tables e below (W.setTop g) target := by
  have howns : e.platform.frameOwnsMonitors = true := by rw [X.admits.platform]
  have hfin : e.platform.finalization = false := by rw [X.admits.platform]
  have hpl : e.platform.magicAccessors = ({} : Platform).magicAccessors := by rw [X.admits.platform]
  have a' : ∀ x, x ∈ Bundle.ownAtoms0 own ic cls names → x.holds args s none s [] = true := fun x hx => h x hx
  obtain ⟨T, Z, L, LZ, Y⟩ := ThrowableC.of_atoms (args := args) howns hfin hpl (fun x hx => h x (by simp [Bundle.ownAtoms0, hx]))
  obtain ⟨P1, Ps, hlen, L1, hL, hP1m, hlink1, hlink⟩ := Bundle.chain0 (args := args) hpl Y.init0 names cls hcls hnames (fun x hx => h x (by simp [Bundle.ownAtoms0, hx]))
  have hfound : s.vm.findClass cls = some P1.m.cls := findClass_of_methodNamed hP1m
  cases Option.some.inj (hfoundX.symm.trans hfound)
  obtain ⟨c1, kX', hc1, hk, hord, -, -, hn6⟩ := Cond.instantiable_spec (a' (.instantiable cls 6) (by simp [Bundle.ownAtoms0]))
  cases Option.some.inj (hc1.symm.trans hfound)
  cases Option.some.inj (hkX.symm.trans hk)
  have hsel0 : selectMethod e.platform s.vm P1.m.cls T.fill0 = .method T.fill0 := by
    obtain ⟨c2, r2, m2, q1, q2, q3, q4, -⟩ := Cond.selects_spec (a' (.selects cls Bundle.tFill0 Bundle.tFill0) (by simp [Bundle.ownAtoms0]))
    cases Option.some.inj (q1.symm.trans hfound)
    cases Option.some.inj (q2.symm.trans (State.methodFound?_of_named Y.fill0 (by decide)))
    cases Option.some.inj (q3.symm.trans Y.fill0)
    rw [Launch.admits_selectMethod X.admits]; exact q4
  have hselF : selectMethod e.platform s.vm P1.m.cls T.fill = .method T.fill := by
    obtain ⟨c2, r2, m2, q1, q2, q3, q4, -⟩ := Cond.selects_spec (a' (.selects cls Bundle.tFill Bundle.tFill) (by simp [Bundle.ownAtoms0]))
    cases Option.some.inj (q1.symm.trans hfound)
    cases Option.some.inj (q2.symm.trans (State.methodFound?_of_named Y.fill (by decide)))
    cases Option.some.inj (q3.symm.trans Y.fill)
    rw [Launch.admits_selectMethod X.admits]; exact q4
  obtain ⟨cellS0, hcS0, hiss⟩ := Y.statics
  obtain ⟨u0, hu0⟩ := Cond.staticRefV Y.unassigned L.unassignedStatic L.statics hcS0 hiss (a' (.isRef (.static Bundle.tN "UNASSIGNED_STACK" Bundle.steD)) (by simp [Bundle.ownAtoms0]))
  obtain ⟨sen, hsen⟩ := Cond.staticRefV Y.sentinel L.sentinelStatic L.statics hcS0 hiss (a' (.isRef (.static Bundle.tN "SUPPRESSED_SENTINEL" Bundle.listD)) (by simp [Bundle.ownAtoms0]))
  obtain ⟨ci198, i198, fB, hk198, hg198, ha198, hsB, -, hnB, htB, hffB⟩ := Cond.ownField (t := .object "java/lang/Object") Y.found L.cls (by decide +kernel) (a' (.fieldLink Bundle.tN 198 Bundle.tN "backtrace" "Ljava/lang/Object;") (by simp [Bundle.ownAtoms0])) (a' (.lays Bundle.tN Bundle.tN "backtrace" "Ljava/lang/Object;") (by simp [Bundle.ownAtoms0])) e.platform hpl
  obtain ⟨cellS, hcS', heS, -, hkeep⟩ := X.same.2.2.2.2.2 T.aS cellS0 hcS0
  have hcellS : W.heap[T.aS]? = some cellS := hcS'
  have hout' : ∀ i, (⟨T.aS, i⟩ : Loc) ∉ locs := fun i hmem => by
    have := hlocs _ hmem cellS0 hcS0
    rw [hiss] at this; cases this
  have hknownS : cellS.vm ≠ .unknown := by
    rw [heS]; intro hu
    rw [show cellS0.vm = .unknown from hu] at hiss
    cases hiss
  have hneS : T.aS ≠ a := Nat.ne_of_lt (Nat.lt_of_lt_of_le (Array.getElem?_eq_some_iff.mp hcS0).1 hnew)
  obtain ⟨iM, hffM⟩ := Y.msg
  obtain ⟨tyC, dC, hdC, hdnC⟩ := Cond.laysAt hfound hk Y.cause (a' (.lays cls Bundle.tN "cause" "Ljava/lang/Throwable;") (by simp [Bundle.ownAtoms0]))
  obtain ⟨tyS, dS, hdS, hdnS⟩ := Cond.laysAt hfound hk Y.stack (a' (.lays cls Bundle.tN "stackTrace" Bundle.steD) (by simp [Bundle.ownAtoms0]))
  obtain ⟨tyP, dP, hdP, hdnP⟩ := Cond.laysAt hfound hk Y.supp (a' (.lays cls Bundle.tN "suppressedExceptions" Bundle.listD) (by simp [Bundle.ownAtoms0]))
  obtain ⟨tyM, dM, hdM, hdnM⟩ := Cond.laysAt hfound hk hffM (a' (.lays cls Bundle.tN "detailMessage" "Ljava/lang/String;") (by simp [Bundle.ownAtoms0]))
  obtain ⟨tyB, dB, hdB, hdnB⟩ := Cond.laysAt hfound hk hffB (a' (.lays cls Bundle.tN "backtrace" "Ljava/lang/Object;") (by simp [Bundle.ownAtoms0]))
  have bC := Cond.laysApart hdB hdC hdnB hdnC (by rw [hnB, Y.causeName]; decide)
  have bS := Cond.laysApart hdB hdS hdnB hdnS (by rw [hnB, Y.stackName]; decide)
  have bP := Cond.laysApart hdB hdP hdnB hdnP (by rw [hnB, Y.suppName]; decide)
  have hskip : SkipFacts T e.platform s (fun u => u) u0 ((preparedCellV T.toThrowableT (freshCell P1.m.cls kX) a u0 sen).withEntry W.cur) :=
    ⟨{ ci198 := ci198, i198 := i198, fBack := fB }, ⟨hk198, hg198, ha198, hsB⟩, by
      have := fresh_default (c := P1.m.cls) tyB
      rw [htB] at this
      simpa [preparedCellV, Cell.setSlot, Cell.withEntry, Array.getElem?_setIfInBounds, bC, bS, bP, bC.symm, bS.symm, bP.symm, defaultValue] using this, fun _ _ => rfl⟩
  obtain ⟨tm, methC, cdC, kC, vm₁, hnC, -, -, -, -, -, -, -, hW₁, st1⟩ := Steps.initCold (tb := p.tables) (e := e) (below := below) (s := s) (U := W) X.here hexec X.warmed hpl hown (t := Bundle.init0 cls) rfl rfl (Bundle.fit_spec hcls).2
    (a' (.methodLink own ic (Bundle.init0 cls)) (by simp [Bundle.ownAtoms0])) (h (.instanceMethod (Bundle.init0 cls)) (by cases names <;> simp [Bundle.ownAtoms0, Bundle.chain0Atoms, Bundle.passAtoms])) (bytes := Bundle.five) (maxL := 1) (h (.code (Bundle.init0 cls) Bundle.five 1 none) (by cases names <;> simp [Bundle.ownAtoms0, Bundle.chain0Atoms, Bundle.passAtoms]))
    (f := g) hg (a := a) (rest := .ref a :: rest) hstack hd6
  cases Option.some.inj (hnC.symm.trans hP1m)
  have X₁ := X.noted hW₁
  obtain ⟨vm₂, X₂, st2⟩ := X₁.ctorPlainOffV hexec (g := { g with stack := .ref a :: rest }) hg hsize T L Z LZ (P1 :: Ps)
    (fun P hP => by rcases List.mem_cons.mp hP with rfl | hP; exact L1; exact hL P hP) ⟨hlink1, hlink⟩ (u0 := u0) (sen := sen) (self := a) (cell := freshCell P1.m.cls kX) (cellS := cellS)
    hcell (fun _ => by simp) (by simp) rfl rfl hsel0 hselF hcellS hneS hknownS (by rw [hkeep _ (hout' _)]; exact hu0) (by rw [hkeep _ (hout' _)]; exact hsen)
    (Takes.of_laid hk hord tyC (by rw [Y.causeType]; rfl)) (Takes.of_laid hk hord tyS (by rw [Y.stackType]; exact fits_refV_array _ u0)) (Takes.of_laid hk hord tyP (by rw [Y.suppType]; exact fits_refV_object _ sen)) Y.objLocals hskip htr [] hd6
    (by simp only [List.length_cons, hlen]; omega) (by simp only [List.length_cons, hlen]; exact hRlocals)
  have hlt : a < ((W.setVm vm₁).setVm vm₂).heap.size := (Array.getElem?_eq_some_iff.mp hcell).1
  refine ⟨(W.setVm vm₁).setVm vm₂, _, _, X₂, fun y hy => ?_, hlt, rfl, rfl, fun target hwalk => st1 _ (fun acts => ?_)⟩
  · simp only [List.mem_cons, List.not_mem_nil, or_false] at hy
    rcases hy with rfl | rfl | rfl | rfl <;> rfl
  · rw [doInvoke_state]
    exact st2 _ hwalk
end VXK
section VXK2
variable {p : Program} {l : Launch} {e : Env} {R : Room} {s : State} {m : MethodId} {args : Array Value} {below : List Frame} {meth : Method} {c : Code} {H : Heap} {locs : List Loc} {cells slots : Nat} {Q : State → Prop}
variable {ls : Array Slot} {rest : List Value} {D : va_G} {cl : List vw_C} {tys : List (ClassId × FieldType)} {ws : va_W}
/-- 'new E("text")' that isn't thrown at once: the object goes on the stack -/
theorem vx_makeS {cc : ByteArray} {pc : Nat} (hexec : p.tables.exec = Jvm.exec) (hb : c.code = cc) (hl : l.stackTraces = false) {own cls text : String} {names : List String} {ik is ic sa ci : Nat} {A : Nat → Prop} {T0 : u_T}
    (hown : s.vm.findClass own = some m.cls) (hcls : Bundle.fit cls = true) (hnames : ∀ n ∈ names, Bundle.fit n = true)
    (hk : (Cond.classLink own ik cls).before args s = true) (hini : (Cond.initialized cls).before args s = true) (hstr : vk_R own is text sa s) (hat : ∀ w ∈ vx_atS own ic cls names, w.before args s = true)
    (hgood : ∀ w ∈ Cond.classLink own ik cls :: Cond.initialized cls :: vx_atS own ic cls names, vx_ot w = true)
    (hU : vx_Zq Bundle.tN "UNASSIGNED_STACK" Bundle.steD A s s.heap) (hN : vx_Zq Bundle.tN "SUPPRESSED_SENTINEL" Bundle.listD A s s.heap) (hS : va_S A s.heap H locs) (hsize : ls.size = c.maxLocals)
    (d0 : decode cc pc = .ok (.new ik, 3)) (d3 : decode cc (pc + 3) = .ok (.dup, 1)) (d4 : decode cc (pc + 4) = .ok (.ldc is, 2)) (d6 : decode cc (pc + 6) = .ok (.invokespecial ic, 3))
    (hK : va_K D cl tys s) (hP : va_P D cl ws H) (hD : va_D A ws) (hA : ∀ q, s.heap.size ≤ q → A q) (hc : cl[ci]? = some (cls, T0, 0))
    (hRframes : names.length + 3 < R.frames) (hRlocals : (rest.map fun v => v.category).sum + (13 * (names.length + 1) + 43) ≤ R.locals) (hRcells : cells + 1 ≤ R.cells) (hRslots : slots + 6 ≤ R.slots)
    (kk : ∀ (q : Nat) (H1 : Heap), va_P D cl (ws ++ [(q, .inr (ci, []))]) H1 → va_D A (ws ++ [(q, .inr (ci, []))]) → va_S A s.heap H1 locs → W p l e R s m args below meth c H1 locs (cells + 1) (slots + 6) Q (F0 m (pc + 9) ls (.ref q :: rest))) :
    W p l e R s m args below meth c H locs cells slots Q (F0 m pc ls rest) := by
  intro T hT X
  subst hT
  have htr : e.platform.stackTraces = false := (show e.platform.stackTraces = l.stackTraces by rw [X.admits.platform]).trans hl
  have Y := vx_rebase X (R' := { frames := R.frames, locals := R.locals, cells := 1, slots := 6 }) (Nat.le_refl _) (Nat.le_refl _) hRcells hRslots
  obtain ⟨s', hA'⟩ : ∃ z, z = (T.setVm s.vm).setFrames (.invoking m args :: below) := ⟨_, rfl⟩
  rw [← hA'] at Y
  have hvm : s'.vm = s.vm := by rw [hA']; rfl
  have hhp : s'.heap = T.heap := by rw [hA']; rfl
  have hW0 : s.WarmedH s'.vm := by rw [hvm]; exact State.WarmedH.refl s
  have hat' : ∀ w ∈ vx_atS own ic cls names, w.before args s' = true := fun w hw => vx_ot_at hW0 hvm.symm (hgood w (List.mem_cons_of_mem _ (List.mem_cons_of_mem _ hw))) (hat w hw)
  have hk' : (Cond.classLink own ik cls).before args s' = true := vx_ot_at hW0 hvm.symm (hgood _ List.mem_cons_self) hk
  have hini' : (Cond.initialized cls).before args s' = true := vx_ot_at hW0 hvm.symm (hgood _ (List.mem_cons_of_mem _ List.mem_cons_self)) hini
  have hU' : vx_Zq Bundle.tN "UNASSIGNED_STACK" Bundle.steD A s' s'.heap := by rw [hhp]; exact vx_Zq.moved hW0.alike (hU.kept hS.2.1)
  have hN' : vx_Zq Bundle.tN "SUPPRESSED_SENTINEL" Bundle.listD A s' s'.heap := by rw [hhp]; exact vx_Zq.moved hW0.alike (hN.kept hS.2.1)
  have h : ∀ w ∈ Bundle.ownAtoms own ic cls names, w.before args s' = true := vx_own hat' (vx_isRefq hU'.1) (vx_isRefq hN'.1) hU'.2.word hN'.2.word
  have hown' : s'.vm.findClass own = some m.cls := by rw [hvm]; exact hown
  have hins : (Cond.instantiable cls 6).before args s' = true := h _ (by simp [Bundle.ownAtoms])
  obtain ⟨vm₁, cX, kX, hfX, hkX, -, -, X₁, st1⟩ := Y.newCold hexec (own := own) (C := cls) (index := ik) (n := 6) hown' hk' hins hini'
    (g := F0 m pc ls rest) rfl (by rw [hb]; exact d0) (Nat.le_refl _) (Nat.le_refl _)
  generalize hT1 : (T.setVm vm₁).pushCell { cls := cX, slots := kX.instanceTypes.map defaultValue, vm := .none } = T1 at X₁ st1
  have hcat : (Value.ref T.heap.size).category = 1 := rfl
  have hcellA : T1.heap[T.heap.size]? = some (freshCell cX kX) := by rw [← hT1]; exact State.heap_pushCell_size _ _
  have d3' : decode c.code (pc + 3) = .ok (.dup, 1) := by rw [hb]; exact d3
  have d4' : decode c.code (pc + 4) = .ok (.ldc is, 2) := by rw [hb]; exact d4
  have hstr' : vk_R own is text sa s' := vk_R.warm hW0 hstr
  obtain ⟨V, ce, L, Z, hL, hlt, hcl9, hvm9, st⟩ := vx_ctorMadeS X₁ hexec htr (own := own) (cls := cls) (names := names) (ic := ic) hown' hcls hnames h (fun x hx => nomatch hx) hfX hkX hcellA (by rw [hhp]; exact Nat.le_refl _) (msg := .ref sa) rfl
    (g := { method := m, pc := pc + 6, locals := ls, stack := .ref sa :: .ref T.heap.size :: .ref T.heap.size :: rest, locked := none }) rfl hsize (rest := rest) rfl
    (by rw [hb]; exact d6) hRframes (by simp only [List.map_cons, List.sum_cons, hcat]; omega)
  have Z0 := Stand.forget (locs := []) Z (fun y hy => by rw [hL y hy, hhp]; exact Nat.le_refl _)
  obtain ⟨f1, f2⟩ := vx_frame Z0.same
  rw [hhp] at f1 f2
  have hcid : ce.cls = D.1 ci := by
    rw [hcl9]
    have h1 := (hK.1 ci _ hc).2.1
    rw [hvm] at hfX
    exact Option.some.inj (hfX.symm.trans h1)
  have hh : (V.setCell T.heap.size ce).heap[T.heap.size]? = some ce := heapAt_setCell_self (s := V) ce hlt
  subst hA'
  have X5 := vx_back9 X Y Z0
  have X6 : Stand p l e R s m args below meth c (V.setCell T.heap.size ce) locs (cells + 1) (slots + 6) := { X5 with same := X5.same.mono (by omega) (by omega) }
  have hk9 : ∀ (k : Nat) (x : Nat × va_E), ws[k]? = some x → (V.setCell T.heap.size ce).heap[x.1]? = T.heap[x.1]? := fun k x hx => f2 x.1 ((hP k x hx).lt) (fun z hz => nomatch hz)
  obtain ⟨t, a1, b1⟩ := kk T.heap.size (V.setCell T.heap.size ce).heap ((hP.kept hk9).app (fun k x hx => by
      have hz : k < 1 := (List.getElem?_eq_some_iff.mp hx).1
      rw [show k = 0 by omega] at hx
      cases hx
      exact ⟨_, hc, ce, hh, hcid, hvm9, fun k hk => absurd hk (Nat.not_lt_zero k)⟩)) (hD.push hP rfl (hA _ hS.1)) ⟨Nat.le_trans hS.1 f1, fun q h1 h2 => (f2 q (Nat.lt_of_lt_of_le h1 hS.1) (fun z hz => nomatch hz)).trans (hS.2.1 q h1 h2), hS.2.2⟩ _ rfl X6
  refine ⟨t, st1 _ ?_, b1⟩
  show Steps p.tables e below (T1.setTop { method := m, pc := pc + 3, locals := ls, stack := .ref T.heap.size :: rest, locked := none }) _
  jvm_step X₁.here [X₁.here.top, hexec, d3', Value.category]
  exact X₁.ldcString hexec (own := own) (text := text) (index := is) (a := sa) hown' hstr'.1 hstr'.2
    (g := { method := m, pc := pc + 4, locals := ls, stack := .ref T.heap.size :: .ref T.heap.size :: rest, locked := none }) rfl d4' _ (st _ a1)
/-- 'new E()' that isn't thrown at once: the object goes on the stack -/
theorem vx_make0 {cc : ByteArray} {pc : Nat} (hexec : p.tables.exec = Jvm.exec) (hb : c.code = cc) (hl : l.stackTraces = false) {own cls : String} {names : List String} {ik ic ci : Nat} {A : Nat → Prop} {T0 : u_T}
    (hown : s.vm.findClass own = some m.cls) (hcls : Bundle.fit cls = true) (hnames : ∀ n ∈ names, Bundle.fit n = true)
    (hk : (Cond.classLink own ik cls).before args s = true) (hini : (Cond.initialized cls).before args s = true) (hat : ∀ w ∈ vx_at0 own ic cls names, w.before args s = true)
    (hgood : ∀ w ∈ Cond.classLink own ik cls :: Cond.initialized cls :: vx_at0 own ic cls names, vx_ot w = true)
    (hU : vx_Zq Bundle.tN "UNASSIGNED_STACK" Bundle.steD A s s.heap) (hN : vx_Zq Bundle.tN "SUPPRESSED_SENTINEL" Bundle.listD A s s.heap) (hS : va_S A s.heap H locs) (hsize : ls.size = c.maxLocals)
    (d0 : decode cc pc = .ok (.new ik, 3)) (d3 : decode cc (pc + 3) = .ok (.dup, 1)) (d4 : decode cc (pc + 4) = .ok (.invokespecial ic, 3))
    (hK : va_K D cl tys s) (hP : va_P D cl ws H) (hD : va_D A ws) (hA : ∀ q, s.heap.size ≤ q → A q) (hc : cl[ci]? = some (cls, T0, 0))
    (hRframes : names.length + 3 < R.frames) (hRlocals : (rest.map fun v => v.category).sum + (13 * (names.length + 1) + 42) ≤ R.locals) (hRcells : cells + 1 ≤ R.cells) (hRslots : slots + 6 ≤ R.slots)
    (kk : ∀ (q : Nat) (H1 : Heap), va_P D cl (ws ++ [(q, .inr (ci, []))]) H1 → va_D A (ws ++ [(q, .inr (ci, []))]) → va_S A s.heap H1 locs → W p l e R s m args below meth c H1 locs (cells + 1) (slots + 6) Q (F0 m (pc + 7) ls (.ref q :: rest))) :
    W p l e R s m args below meth c H locs cells slots Q (F0 m pc ls rest) := by
  intro T hT X
  subst hT
  have htr : e.platform.stackTraces = false := (show e.platform.stackTraces = l.stackTraces by rw [X.admits.platform]).trans hl
  have Y := vx_rebase X (R' := { frames := R.frames, locals := R.locals, cells := 1, slots := 6 }) (Nat.le_refl _) (Nat.le_refl _) hRcells hRslots
  obtain ⟨s', hA'⟩ : ∃ z, z = (T.setVm s.vm).setFrames (.invoking m args :: below) := ⟨_, rfl⟩
  rw [← hA'] at Y
  have hvm : s'.vm = s.vm := by rw [hA']; rfl
  have hhp : s'.heap = T.heap := by rw [hA']; rfl
  have hW0 : s.WarmedH s'.vm := by rw [hvm]; exact State.WarmedH.refl s
  have hat' : ∀ w ∈ vx_at0 own ic cls names, w.before args s' = true := fun w hw => vx_ot_at hW0 hvm.symm (hgood w (List.mem_cons_of_mem _ (List.mem_cons_of_mem _ hw))) (hat w hw)
  have hk' : (Cond.classLink own ik cls).before args s' = true := vx_ot_at hW0 hvm.symm (hgood _ List.mem_cons_self) hk
  have hini' : (Cond.initialized cls).before args s' = true := vx_ot_at hW0 hvm.symm (hgood _ (List.mem_cons_of_mem _ List.mem_cons_self)) hini
  have hU' : vx_Zq Bundle.tN "UNASSIGNED_STACK" Bundle.steD A s' s'.heap := by rw [hhp]; exact vx_Zq.moved hW0.alike (hU.kept hS.2.1)
  have hN' : vx_Zq Bundle.tN "SUPPRESSED_SENTINEL" Bundle.listD A s' s'.heap := by rw [hhp]; exact vx_Zq.moved hW0.alike (hN.kept hS.2.1)
  have h : ∀ w ∈ Bundle.ownAtoms0 own ic cls names, w.before args s' = true := vx_own hat' (vx_isRefq hU'.1) (vx_isRefq hN'.1) hU'.2.word hN'.2.word
  have hown' : s'.vm.findClass own = some m.cls := by rw [hvm]; exact hown
  have hins : (Cond.instantiable cls 6).before args s' = true := h _ (by simp [Bundle.ownAtoms0])
  obtain ⟨vm₁, cX, kX, hfX, hkX, -, -, X₁, st1⟩ := Y.newCold hexec (own := own) (C := cls) (index := ik) (n := 6) hown' hk' hins hini'
    (g := F0 m pc ls rest) rfl (by rw [hb]; exact d0) (Nat.le_refl _) (Nat.le_refl _)
  generalize hT1 : (T.setVm vm₁).pushCell { cls := cX, slots := kX.instanceTypes.map defaultValue, vm := .none } = T1 at X₁ st1
  have hcat : (Value.ref T.heap.size).category = 1 := rfl
  have hcellA : T1.heap[T.heap.size]? = some (freshCell cX kX) := by rw [← hT1]; exact State.heap_pushCell_size _ _
  have d3' : decode c.code (pc + 3) = .ok (.dup, 1) := by rw [hb]; exact d3
  obtain ⟨V, ce, L, Z, hL, hlt, hcl9, hvm9, st⟩ := vx_ctorMade0 X₁ hexec htr (own := own) (cls := cls) (names := names) (ic := ic) hown' hcls hnames h (fun x hx => nomatch hx) hfX hkX hcellA (by rw [hhp]; exact Nat.le_refl _)
    (g := { method := m, pc := pc + 4, locals := ls, stack := .ref T.heap.size :: .ref T.heap.size :: rest, locked := none }) rfl hsize (rest := rest) rfl
    (by rw [hb]; exact d4) hRframes (by simp only [List.map_cons, List.sum_cons, hcat]; omega)
  have Z0 := Stand.forget (locs := []) Z (fun y hy => by rw [hL y hy, hhp]; exact Nat.le_refl _)
  obtain ⟨f1, f2⟩ := vx_frame Z0.same
  rw [hhp] at f1 f2
  have hcid : ce.cls = D.1 ci := by
    rw [hcl9]
    have h1 := (hK.1 ci _ hc).2.1
    rw [hvm] at hfX
    exact Option.some.inj (hfX.symm.trans h1)
  have hh : (V.setCell T.heap.size ce).heap[T.heap.size]? = some ce := heapAt_setCell_self (s := V) ce hlt
  subst hA'
  have X5 := vx_back9 X Y Z0
  have X6 : Stand p l e R s m args below meth c (V.setCell T.heap.size ce) locs (cells + 1) (slots + 6) := { X5 with same := X5.same.mono (by omega) (by omega) }
  have hk9 : ∀ (k : Nat) (x : Nat × va_E), ws[k]? = some x → (V.setCell T.heap.size ce).heap[x.1]? = T.heap[x.1]? := fun k x hx => f2 x.1 ((hP k x hx).lt) (fun z hz => nomatch hz)
  obtain ⟨t, a1, b1⟩ := kk T.heap.size (V.setCell T.heap.size ce).heap ((hP.kept hk9).app (fun k x hx => by
      have hz : k < 1 := (List.getElem?_eq_some_iff.mp hx).1
      rw [show k = 0 by omega] at hx
      cases hx
      exact ⟨_, hc, ce, hh, hcid, hvm9, fun k hk => absurd hk (Nat.not_lt_zero k)⟩)) (hD.push hP rfl (hA _ hS.1)) ⟨Nat.le_trans hS.1 f1, fun q h1 h2 => (f2 q (Nat.lt_of_lt_of_le h1 hS.1) (fun z hz => nomatch hz)).trans (hS.2.1 q h1 h2), hS.2.2⟩ _ rfl X6
  refine ⟨t, st1 _ ?_, b1⟩
  show Steps p.tables e below (T1.setTop { method := m, pc := pc + 3, locals := ls, stack := .ref T.heap.size :: rest, locked := none }) _
  jvm_step X₁.here [X₁.here.top, hexec, d3', Value.category]
  exact st _ a1
/-- 'throw x' of an object that was made before -/
theorem vx_athrow {cc : ByteArray} {pc : Nat} (hexec : p.tables.exec = Jvm.exec) (hb : c.code = cc) {q : Addr} (hdg : decode cc pc = .ok (.athrow, 1)) (k : vx_W p l e R s m args below meth c H locs cells slots Q (F0 m pc ls rest) q) : W p l e R s m args below meth c H locs cells slots Q (F0 m pc ls (.ref q :: rest)) := by
  intro T hT X
  obtain ⟨t, st, hq⟩ := k T hT X
  refine ⟨t, ?_, hq⟩
  have hdg' : decode c.code pc = .ok (.athrow, 1) := by rw [hb]; exact hdg
  jvm_step X.here [X.here.top, hexec, hdg', athrow.wp_sem]
  exact st
end VXK2
/-! ===== END ===== -/
/-! ===== BEGIN a constructor that throws (launches without stack traces) ===== -/
section VXIA
variable {p : Program} {l : Launch} {e : Env} {R : Room} {s : State} {m : MethodId} {args : Array Value} {below : List Frame} {meth : Method} {c : Code} {T : State} {locs : List Loc} {cells slots : Nat}
theorem vx_callI (X : Stand p l e R s m args below meth c T locs cells slots) (hexec : p.tables.exec = Jvm.exec) {own : String} {index : Nat} {y : MethodName} {bytes : ByteArray} {maxL : Nat}
    (hown : s.vm.findClass own = some m.cls) (hy1 : y.name = "<init>") (hlink : (Cond.methodLink own index y).before args s = true) (hinst : (Cond.instanceMethod y).before args s = true)
    (hcode : (Cond.code y bytes maxL none).before args s = true) (hy : y.cls ≠ "java/lang/invoke/MethodHandle" ∧ y.cls ≠ "java/lang/invoke/VarHandle")
    {W9 : Nat} {Pre : Pt → Array Value → Prop} {Post : Pt → Array Value → Option Value → Pt → Prop} {PostX : Pt → Array Value → Addr → Pt → Prop} (hK : vx_Back l R p e below s args y 3 W9 Pre Post PostX)
    {g : JFrame} (hg : g.method = m) (hsize : g.locals.size = c.maxLocals) {a : Addr} {argsL rest : List Value} (hlen : ∀ sig, parseMethodDescriptor y.desc = some sig → argsL.length = sig.parameters.length)
    (hstack : g.stack = argsL.reverse ++ .ref a :: rest) (hW : 2 * g.monitorRoom + (rest.map fun v => v.category).sum ≤ W9) (hdg : decode c.code g.pc = .ok (.invokespecial index, 3))
    (hpre : ∀ vm₁, s.WarmedH vm₁ → Pre ⟨T.setVm vm₁, locs, cells, slots⟩ (Value.ref a :: argsL).toArray) :
    (∃ (v : Option Value) (vm₁ : Vm) (B : Pt), s.WarmedH vm₁ ∧ Stand p l e R s m args below meth c B.U B.locs B.cells B.slots ∧ Post ⟨T.setVm vm₁, locs, cells, slots⟩ (Value.ref a :: argsL).toArray v B ∧
      ∀ target, Steps p.tables e below (B.U.setTop { g with pc := g.pc + 3, stack := v.toList ++ rest }) target → Steps p.tables e below (T.setTop g) target) ∨
    (∃ (q : Addr) (vm₁ : Vm) (B : Pt), s.WarmedH vm₁ ∧ Stand p l e R s m args below meth c B.U B.locs B.cells B.slots ∧ PostX ⟨T.setVm vm₁, locs, cells, slots⟩ (Value.ref a :: argsL).toArray q B ∧
      Steps p.tables e below (T.setTop g) ((B.U.setTop { g with stack := rest }).pushFrame (.throwing q))) := by
  subst hg
  have hpl : e.platform.magicAccessors = ({} : Platform).magicAccessors := by rw [X.admits.platform]
  obtain ⟨mk, methM, cM, kP, vm₁, hnamed, hmethM, hcodeM, -, hlocalsM, -, hkP, -, hW₁, hstep₁⟩ := Steps.initColdArgs (e := e) X.here hexec X.warmed hpl hown hy1 hy hlink hinst hcode (f := g) rfl hlen hstack hdg
  have X₁ := X.noted hW₁
  rcases hK g.method meth c ⟨T.setVm vm₁, locs, cells, slots⟩ { g with stack := rest } (.invokespecial index) mk (Value.ref a :: argsL).toArray X₁ rfl hsize hdg hW (X₁.named hnamed) (hpre vm₁ X₁.warmed) with ⟨v, B, X', hpost, hsteps⟩ | ⟨q, B, X', hpost, hsteps⟩
  · exact Or.inl ⟨v, vm₁, B, X₁.warmed, X', hpost, fun target h => hstep₁ _ fun acts => by rw [doInvoke_state]; exact hsteps.trans h⟩
  · exact Or.inr ⟨q, vm₁, B, X₁.warmed, X', hpost, hstep₁ _ fun acts => by rw [doInvoke_state]; exact hsteps⟩
end VXIA
section VXIB
variable {p : Program} {l : Launch} {e : Env} {R : Room} {s : State} {m : MethodId} {args : Array Value} {below : List Frame} {meth : Method} {c : Code} {H : Heap} {locs : List Loc} {cells slots : Nat}
variable {y : MethodName} {bytes cc : ByteArray} {maxL nL mc ms n index : Nat} {ret : Option FieldType} {ws : List Cond} {rm : Room} {Pc : Array Value → State → Prop} {Qc : Array Value → State → Outcome → State → Prop} {XC : String → State → State → Prop} {free : Addr → Prop} {Ts : List Cond} {own C : String} {b : Addr} {As rest : List Value} {g : JFrame}
theorem vx_runI (S : CallFix p m c cc nL s args Ts own) (hM : vx_Met l y ws rm Pc Qc XC mc ms free) (cw : CallB R s args own index y bytes maxL none ws rm mc ms n ∧ y.name = "<init>" ∧ (Cond.instanceMethod y).before args s = true) (hp : PreS s H Pc (.ref b :: As))
    (hg : g.method = m) (hn : As.length = n) (hsize : g.locals.size = nL) (hstack : g.stack = As.reverse ++ .ref b :: rest) (hW : 2 * g.monitorRoom + (rest.map fun v => v.category).sum ≤ 8) (hdg : decode cc g.pc = .ok (.invokespecial index, 3)) (hf : cells + mc ≤ R.cells ∧ slots + ms ≤ R.slots) :
    vx_Run p l e R s m args below meth c H locs cells slots mc ms g rest (Qc (Value.ref b :: As).toArray) XC free := by
  have hK : vx_Back l R p e below s args y 3 8 (PreOf R mc ms Pc) (PostOf Qc mc ms free) (vx_Post XC mc ms free) := vx_callBack cw.1 hM hp.1
  obtain ⟨⟨-, -, -, -, -, -, hcode, -, hy, hlen, hl⟩, hy1, hin⟩ := cw
  obtain ⟨hx, hb, hml, ho, -⟩ := S
  have hPc := hp.2
  intro T hT X
  rcases vx_callI X hx (bytes := bytes) (maxL := maxL) ho hy1 hl hin hcode hy hK hg (hsize.trans hml.symm) (a := b) (argsL := As) (rest := rest) (fun sig h => hn.trans (hlen sig h)) hstack hW (by rw [hb]; exact hdg)
    (fun vm₁ hW₁ => ⟨hf.1, hf.2, hPc (T.setVm vm₁) hT hW₁⟩) with ⟨v, vm₁, ⟨U', l2, c2, s2⟩, hW₁, X', ⟨g', mk, t, L, e1, e2, hq, h1, hL, h2, h3⟩, st⟩ | ⟨q, vm₁, ⟨U', l2, c2, s2⟩, hW₁, X', ⟨g', mk, t, L, E, ce, e1, e2, hq, hce, hcv, hcl, h1, hL, h2, h3⟩, st⟩
  · dsimp only [Pt.U, Pt.locs, Pt.cells, Pt.slots] at X' e1 e2 h1 h2 h3 st
    subst h1; subst h2; subst h3
    exact Or.inl ⟨v, (T.setVm vm₁).calling g' mk (Value.ref b :: As).toArray, t, U', L, hT, X', hL, e1, e2, hq, st⟩
  · dsimp only [Pt.U, Pt.locs, Pt.cells, Pt.slots] at X' e1 e2 h1 h2 h3 st hcl
    subst h1; subst h2; subst h3
    exact Or.inr ⟨q, (T.setVm vm₁).calling g' mk (Value.ref b :: As).toArray, t, U', L, E, ce, hT, X', hL, e1, e2, hq, hce, hcv, vx_cls hW₁ hcl, st⟩
end VXIB
/-! ===== END ===== -/
/-! ===== BEGIN a private constructor of a nest mate that throws ===== -/
section VXIC
variable {p : Program} {l : Launch} {e : Env} {R : Room} {s : State} {m : MethodId} {args : Array Value} {below : List Frame} {meth : Method} {c : Code} {T : State} {locs : List Loc} {cells slots : Nat}
theorem vx_callIN (X : Stand p l e R s m args below meth c T locs cells slots) (hexec : p.tables.exec = Jvm.exec) {own : String} {index : Nat} {host : String} {y : MethodName} {bytes : ByteArray} {maxL : Nat}
    (hown : s.vm.findClass own = some m.cls) (hy1 : y.name = "<init>") (hlink : (Cond.methodLinkNest own index y host).before args s = true) (hinst : (Cond.instanceMethod y).before args s = true)
    (hcode : (Cond.code y bytes maxL none).before args s = true) (hy : y.cls ≠ "java/lang/invoke/MethodHandle" ∧ y.cls ≠ "java/lang/invoke/VarHandle")
    {W9 : Nat} {Pre : Pt → Array Value → Prop} {Post : Pt → Array Value → Option Value → Pt → Prop} {PostX : Pt → Array Value → Addr → Pt → Prop} (hK : vx_Back l R p e below s args y 3 W9 Pre Post PostX)
    {g : JFrame} (hg : g.method = m) (hsize : g.locals.size = c.maxLocals) {a : Addr} {argsL rest : List Value} (hlen : ∀ sig, parseMethodDescriptor y.desc = some sig → argsL.length = sig.parameters.length)
    (hstack : g.stack = argsL.reverse ++ .ref a :: rest) (hW : 2 * g.monitorRoom + (rest.map fun v => v.category).sum ≤ W9) (hdg : decode c.code g.pc = .ok (.invokespecial index, 3))
    (hpre : ∀ vm₁, s.WarmedH vm₁ → Pre ⟨T.setVm vm₁, locs, cells, slots⟩ (Value.ref a :: argsL).toArray) :
    (∃ (v : Option Value) (vm₁ : Vm) (B : Pt), s.WarmedH vm₁ ∧ Stand p l e R s m args below meth c B.U B.locs B.cells B.slots ∧ Post ⟨T.setVm vm₁, locs, cells, slots⟩ (Value.ref a :: argsL).toArray v B ∧
      ∀ target, Steps p.tables e below (B.U.setTop { g with pc := g.pc + 3, stack := v.toList ++ rest }) target → Steps p.tables e below (T.setTop g) target) ∨
    (∃ (q : Addr) (vm₁ : Vm) (B : Pt), s.WarmedH vm₁ ∧ Stand p l e R s m args below meth c B.U B.locs B.cells B.slots ∧ PostX ⟨T.setVm vm₁, locs, cells, slots⟩ (Value.ref a :: argsL).toArray q B ∧
      Steps p.tables e below (T.setTop g) ((B.U.setTop { g with stack := rest }).pushFrame (.throwing q))) := by
  subst hg
  have hpl : e.platform.magicAccessors = ({} : Platform).magicAccessors := by rw [X.admits.platform]
  obtain ⟨mk, methM, cM, kP, vm₁, hnamed, hmethM, hcodeM, -, hlocalsM, -, hkP, -, hW₁, hstep₁⟩ := Steps.initColdArgsNest (e := e) X.here hexec X.warmed hpl hown hy1 hy hlink hinst hcode (f := g) rfl hlen hstack hdg
  have X₁ := X.noted hW₁
  rcases hK g.method meth c ⟨T.setVm vm₁, locs, cells, slots⟩ { g with stack := rest } (.invokespecial index) mk (Value.ref a :: argsL).toArray X₁ rfl hsize hdg hW (X₁.named hnamed) (hpre vm₁ X₁.warmed) with ⟨v, B, X', hpost, hsteps⟩ | ⟨q, B, X', hpost, hsteps⟩
  · exact Or.inl ⟨v, vm₁, B, X₁.warmed, X', hpost, fun target h => hstep₁ _ fun acts => by rw [doInvoke_state]; exact hsteps.trans h⟩
  · exact Or.inr ⟨q, vm₁, B, X₁.warmed, X', hpost, hstep₁ _ fun acts => by rw [doInvoke_state]; exact hsteps⟩
end VXIC
section VXID
variable {p : Program} {l : Launch} {e : Env} {R : Room} {s : State} {m : MethodId} {args : Array Value} {below : List Frame} {meth : Method} {c : Code} {H : Heap} {locs : List Loc} {cells slots : Nat}
theorem vx_runIN {y : MethodName} {bytes cc : ByteArray} {maxL nL mc ms n index : Nat} {ws : List Cond} {rm : Room} {Pc : Array Value → State → Prop} {Qc : Array Value → State → Outcome → State → Prop} {XC : String → State → State → Prop} {free : Addr → Prop} {Ts : List Cond} {own host : String} {b : Addr} {As rest : List Value} {g : JFrame}
    (S : CallFix p m c cc nL s args Ts own) (hM : vx_Met l y ws rm Pc Qc XC mc ms free) (cw : va_CN R s args own index y host bytes maxL none ws rm mc ms n ∧ y.name = "<init>" ∧ (Cond.instanceMethod y).before args s = true) (hp : PreS s H Pc (.ref b :: As))
    (hg : g.method = m) (hn : As.length = n) (hsize : g.locals.size = nL) (hstack : g.stack = As.reverse ++ .ref b :: rest) (hW : 2 * g.monitorRoom + (rest.map fun v => v.category).sum ≤ 8) (hdg : decode cc g.pc = .ok (.invokespecial index, 3)) (hf : cells + mc ≤ R.cells ∧ slots + ms ≤ R.slots) :
    vx_Run p l e R s m args below meth c H locs cells slots mc ms g rest (Qc (Value.ref b :: As).toArray) XC free := by
  obtain ⟨⟨⟨hrc, hrs, hfr, hlo, hws, hcw⟩, hcode, hini, hy, hlen, hl⟩, hx1, hx2⟩ := cw
  have hK : vx_Back l R p e below s args y 3 8 (PreOf R mc ms Pc) (PostOf Qc mc ms free) (vx_Post XC mc ms free) := vx_back (bytes := bytes) (maxL := maxL) (ret := none) hM hp.1 hrc hrs hfr hlo hws hcw (fun a' U hW => word_at hW (Or.inl (by first | rfl | simp [Cond.onTables, Cond.keeps, Cond.steady])) hini)
  obtain ⟨hx, hb, hml, ho, -⟩ := S
  have hPc := hp.2
  intro T hT X
  rcases vx_callIN X hx (bytes := bytes) (maxL := maxL) ho hx1 hl hx2 hcode hy hK hg (hsize.trans hml.symm) (a := b) (argsL := As) (rest := rest) (fun sig h => hn.trans (hlen sig h)) hstack hW (by rw [hb]; exact hdg)
    (fun vm₁ hW₁ => ⟨hf.1, hf.2, hPc (T.setVm vm₁) hT hW₁⟩) with ⟨v, vm₁, ⟨U', l2, c2, s2⟩, hW₁, X', ⟨g', mk, t, L, e1, e2, hq, h1, hL, h2, h3⟩, st⟩ | ⟨q, vm₁, ⟨U', l2, c2, s2⟩, hW₁, X', ⟨g', mk, t, L, E, ce, e1, e2, hq, hce, hcv, hcl, h1, hL, h2, h3⟩, st⟩
  · dsimp only [Pt.U, Pt.locs, Pt.cells, Pt.slots] at X' e1 e2 h1 h2 h3 st
    subst h1; subst h2; subst h3
    exact Or.inl ⟨v, (T.setVm vm₁).calling g' mk (Value.ref b :: As).toArray, t, U', L, hT, X', hL, e1, e2, hq, st⟩
  · dsimp only [Pt.U, Pt.locs, Pt.cells, Pt.slots] at X' e1 e2 h1 h2 h3 st hcl
    subst h1; subst h2; subst h3
    exact Or.inr ⟨q, (T.setVm vm₁).calling g' mk (Value.ref b :: As).toArray, t, U', L, E, ce, hT, X', hL, e1, e2, hq, hce, hcv, vx_cls hW₁ hcl, st⟩
end VXID
/-! ===== END ===== -/
/-! ===== BEGIN a method of a class above, found by the receiver, that may throw (follows va_callVU, va_runU of this kit) ===== -/
section
variable {p : Program} {l : Launch} {e : Env} {R : Room} {s : State} {m : MethodId} {args : Array Value} {below : List Frame} {meth : Method} {c : Code} {H : Heap} {locs : List Loc} {cells slots : Nat}
theorem vx_callVU {T : State} {locs : List Loc} {cells slots : Nat} (X : Stand p l e R s m args below meth c T locs cells slots) (hexec : p.tables.exec = Jvm.exec) {own C owner : String} {index : Nat} {x y : MethodName} {bytes : ByteArray} {maxL : Nat} {ret : Option FieldType}
    (hown : s.vm.findClass own = some m.cls) (hlink : (Cond.methodLink own index x).before args s = true) (hsame : (Cond.sameMethod x.cls owner x.name x.desc).before args s = true)
    (hd0 : va_Decl s ⟨owner, x.name, x.desc⟩) (howner : owner ≠ "java/lang/invoke/MethodHandle" ∧ owner ≠ "java/lang/invoke/VarHandle")
    (hsel : (Cond.selects C x y).before args s = true) (hinst : (Cond.instanceMethod y).before args s = true) (hcode : (Cond.code y bytes maxL ret).before args s = true)
    {W : Nat} {Pre : Pt → Array Value → Prop} {Post : Pt → Array Value → Option Value → Pt → Prop} {PostX : Pt → Array Value → Addr → Pt → Prop} (hK : vx_Back l R p e below s args y 3 W Pre Post PostX)
    {b : Addr} {cellB : Cell} (hcell : T.heap[b]? = some cellB) (hobj : cellB.vm.isStatics = false) (hcls : s.vm.findClass C = some cellB.cls)
    {g : JFrame} (hg : g.method = m) (hsize : g.locals.size = c.maxLocals) {argsL rest : List Value} (hlen : ∀ sig, parseMethodDescriptor x.desc = some sig → argsL.length = sig.parameters.length)
    (hstack : g.stack = argsL.reverse ++ .ref b :: rest) (hW : 2 * g.monitorRoom + (rest.map fun v => v.category).sum ≤ W) (hdg : decode c.code g.pc = .ok (.invokevirtual index, 3))
    (hpre : ∀ vm₁, s.WarmedH vm₁ → Pre ⟨T.setVm vm₁, locs, cells, slots⟩ (Value.ref b :: argsL).toArray) :
    (∃ (v : Option Value) (vm₁ : Vm) (B : Pt), s.WarmedH vm₁ ∧ Stand p l e R s m args below meth c B.U B.locs B.cells B.slots ∧ Post ⟨T.setVm vm₁, locs, cells, slots⟩ (Value.ref b :: argsL).toArray v B ∧
      ∀ target, Steps p.tables e below (B.U.setTop { g with pc := g.pc + 3, stack := v.toList ++ rest }) target → Steps p.tables e below (T.setTop g) target) ∨
    (∃ (q : Addr) (vm₁ : Vm) (B : Pt), s.WarmedH vm₁ ∧ Stand p l e R s m args below meth c B.U B.locs B.cells B.slots ∧ PostX ⟨T.setVm vm₁, locs, cells, slots⟩ (Value.ref b :: argsL).toArray q B ∧
      Steps p.tables e below (T.setTop g) ((B.U.setTop { g with stack := rest }).pushFrame (.throwing q))) := by
  obtain ⟨r0, r, hn, hrm, hstR, hsigR⟩ := hd0
  obtain ⟨cn, ck, r1, hcn, hck, hni, hf, hn1⟩ := Cond.sameMethod_found hsame
  cases hn.symm.trans hn1
  obtain ⟨mk, methM, hnamed, hmethM, -, habM⟩ := Cond.instanceMethod_spec hinst
  obtain ⟨c2, r2, m2, q1, q2, q3, q4, kP, hkP, hkPi⟩ := Cond.selects_spec hsel
  cases hcls.symm.trans q1
  cases hf.symm.trans q2
  cases hnamed.symm.trans q3
  have hselP : selectMethod e.platform s.vm cellB.cls r0 = .method mk := by rw [Launch.admits_selectMethod X.admits]; exact q4
  obtain ⟨vm₁, X₁, hstep₁⟩ := X.invokevirtualUp hexec hown hlink hsame howner hn hrm hstR (a := b) (cell := cellB) hcell
    (fun z h => by rw [h] at hobj; cases hobj) hselP hmethM habM hkP hkPi (g := g) hg (argsL := argsL) (rest := rest) (hlen _ hsigR) hstack hdg
  rcases hK m meth c ⟨T.setVm vm₁, locs, cells, slots⟩ { g with stack := rest } (.invokevirtual index) mk (Value.ref b :: argsL).toArray X₁ hg hsize hdg hW (X₁.named hnamed) (hpre vm₁ X₁.warmed) with ⟨v, B, X', hpost, hsteps⟩ | ⟨q, B, X', hpost, hsteps⟩
  · exact Or.inl ⟨v, vm₁, B, X₁.warmed, X', hpost, fun target h => hstep₁ _ fun acts => by rw [doInvoke_state]; exact hsteps.trans h⟩
  · exact Or.inr ⟨q, vm₁, B, X₁.warmed, X', hpost, hstep₁ _ fun acts => by rw [doInvoke_state]; exact hsteps⟩
theorem vx_runU {x y : MethodName} {bytes cc : ByteArray} {maxL nL mc ms n index : Nat} {ret : Option FieldType} {ws : List Cond} {rm : Room} {Pc : Array Value → State → Prop} {Qc : Array Value → State → Outcome → State → Prop} {XC : String → State → State → Prop} {free : Addr → Prop} {Ts : List Cond} {own C owner : String} {b : Addr} {As rest : List Value} {g : JFrame}
    (S : CallFix p m c cc nL s args Ts own) (hM : vx_Met l y ws rm Pc Qc XC mc ms free) (cw : va_CU R s args own C owner index x y bytes maxL ret ws rm mc ms n) (hp : PreV s H C b Pc As)
    (hg : g.method = m) (hn : As.length = n) (hsize : g.locals.size = nL) (hstack : g.stack = As.reverse ++ .ref b :: rest) (hW : 2 * g.monitorRoom + (rest.map fun v => v.category).sum ≤ 8) (hdg : decode cc g.pc = .ok (.invokevirtual index, 3)) (hf : cells + mc ≤ R.cells ∧ slots + ms ≤ R.slots) :
    vx_Run p l e R s m args below meth c H locs cells slots mc ms g rest (Qc (Value.ref b :: As).toArray) XC free := by
  obtain ⟨hrc, hrs, hfr, hlo, hws, hcw⟩ := cw.back
  have hini := cw.init
  have hK : vx_Back l R p e below s args y 3 8 (PreOf R mc ms Pc) (PostOf Qc mc ms free) (vx_Post XC mc ms free) := vx_back (bytes := bytes) (maxL := maxL) (ret := ret) hM hp.1 hrc hrs hfr hlo hws hcw (fun a' U hW => word_at hW (Or.inl (by first | rfl | simp [Cond.onTables, Cond.keeps, Cond.steady])) hini)
  obtain ⟨hx, hb, hml, ho, -⟩ := S
  obtain ⟨-, ⟨cellB, hcB, hoB, hclB⟩, hPc⟩ := hp
  intro T hT X
  rcases vx_callVU X hx (C := C) (owner := owner) (bytes := bytes) (maxL := maxL) (ret := ret) ho cw.link cw.same cw.decl cw.notMH cw.sel cw.inst cw.code hK (by rw [hT]; exact hcB) hoB hclB hg (hsize.trans hml.symm) (argsL := As) (rest := rest) (fun sig h => hn.trans (cw.len sig h)) hstack hW (by rw [hb]; exact hdg)
    (fun vm₁ hW₁ => ⟨hf.1, hf.2, hPc (T.setVm vm₁) hT hW₁⟩) with ⟨v, vm₁, ⟨U', l2, c2, s2⟩, hW₁, X', ⟨g', mk, t, L, e1, e2, hq, h1, hL, h2, h3⟩, st⟩ | ⟨q, vm₁, ⟨U', l2, c2, s2⟩, hW₁, X', ⟨g', mk, t, L, E, ce, e1, e2, hq, hce, hcv, hcl, h1, hL, h2, h3⟩, st⟩
  · dsimp only [Pt.U, Pt.locs, Pt.cells, Pt.slots] at X' e1 e2 h1 h2 h3 st
    subst h1; subst h2; subst h3
    exact Or.inl ⟨v, (T.setVm vm₁).calling g' mk (Value.ref b :: As).toArray, t, U', L, hT, X', hL, e1, e2, hq, st⟩
  · dsimp only [Pt.U, Pt.locs, Pt.cells, Pt.slots] at X' e1 e2 h1 h2 h3 st hcl
    subst h1; subst h2; subst h3
    exact Or.inr ⟨q, (T.setVm vm₁).calling g' mk (Value.ref b :: As).toArray, t, U', L, E, ce, hT, X', hL, e1, e2, hq, hce, hcv, vx_cls hW₁ hcl, st⟩
end
/-! ===== END ===== -/
/-! ===== BEGIN super.m(..) that may throw (follows va_callSU, va_runSU) ===== -/
section
variable {p : Program} {l : Launch} {e : Env} {R : Room} {s : State} {m : MethodId} {args : Array Value} {below : List Frame} {meth : Method} {c : Code} {H : Heap} {locs : List Loc} {cells slots : Nat}
theorem vx_callSU {T : State} {locs : List Loc} {cells slots : Nat} (X : Stand p l e R s m args below meth c T locs cells slots) (hexec : p.tables.exec = Jvm.exec) {own : String} {index : Nat} {y : MethodName} {bytes : ByteArray} {maxL : Nat} {ret : Option FieldType}
    (hown : s.vm.findClass own = some m.cls) (hlink : (Cond.methodLink own index y).before args s = true) (hsame : (Cond.sameMethod y.cls y.cls y.name y.desc).before args s = true) (hsup : (Cond.superclass own y.cls).before args s = true)
    (hinst : (Cond.instanceMethod y).before args s = true) (hcode : (Cond.code y bytes maxL ret).before args s = true) (hno : y.name ≠ "<init>")
    {W : Nat} {Pre : Pt → Array Value → Prop} {Post : Pt → Array Value → Option Value → Pt → Prop} {PostX : Pt → Array Value → Addr → Pt → Prop} (hK : vx_Back l R p e below s args y 3 W Pre Post PostX)
    {b : Addr} {cellB : Cell} {kB : Class} (hcell : T.heap[b]? = some cellB) (hobj : cellB.vm.isStatics = false) (hkB : s.vm.classes[cellB.cls]? = some kB)
    {g : JFrame} (hg : g.method = m) (hsize : g.locals.size = c.maxLocals) {argsL rest : List Value} (hlen : ∀ sig, parseMethodDescriptor y.desc = some sig → argsL.length = sig.parameters.length)
    (hstack : g.stack = argsL.reverse ++ .ref b :: rest) (hW : 2 * g.monitorRoom + (rest.map fun v => v.category).sum ≤ W) (hdg : decode c.code g.pc = .ok (.invokespecial index, 3))
    (hpre : ∀ vm₁, s.WarmedH vm₁ → Pre ⟨T.setVm vm₁, locs, cells, slots⟩ (Value.ref b :: argsL).toArray) :
    (∃ (v : Option Value) (vm₁ : Vm) (B : Pt), s.WarmedH vm₁ ∧ Stand p l e R s m args below meth c B.U B.locs B.cells B.slots ∧ Post ⟨T.setVm vm₁, locs, cells, slots⟩ (Value.ref b :: argsL).toArray v B ∧
      ∀ target, Steps p.tables e below (B.U.setTop { g with pc := g.pc + 3, stack := v.toList ++ rest }) target → Steps p.tables e below (T.setTop g) target) ∨
    (∃ (q : Addr) (vm₁ : Vm) (B : Pt), s.WarmedH vm₁ ∧ Stand p l e R s m args below meth c B.U B.locs B.cells B.slots ∧ PostX ⟨T.setVm vm₁, locs, cells, slots⟩ (Value.ref b :: argsL).toArray q B ∧
      Steps p.tables e below (T.setTop g) ((B.U.setTop { g with stack := rest }).pushFrame (.throwing q))) := by
  obtain ⟨mk, methM, hnamed, hmethM, hstM, habM⟩ := Cond.instanceMethod_spec hinst
  obtain ⟨methM', cM, hmethM', -, -, -, -, -, -, hsigM⟩ := Cond.code_spec hnamed hcode
  cases hmethM.symm.trans hmethM'
  obtain ⟨ps, dk, kp, hps, hdk, hkp, hsuper, -, -, hnid⟩ := Cond.superclass_spec hown hsup
  have hn : s.methodNamed? ⟨y.cls, y.name, y.desc⟩ = some mk := hnamed
  have hpm : ps = mk.cls := Option.some.inj (hps.symm.trans (findClass_of_methodNamed hnamed))
  have hsub : s.vm.isSubclass ps mk.cls = true := by rw [hpm]; simp [Vm.isSubclass, Vm.isSubclassAux]
  obtain ⟨vm₁, X₁, hstep₁⟩ := X.invokespecialUp hexec hown hlink hsame hn hmethM hstM habM hno hdk hnid hps hsuper hsub (a := b) (cell := cellB) hcell
    (fun z h => by rw [h] at hobj; cases hobj) hkB (g := g) hg (argsL := argsL) (rest := rest) (hlen _ hsigM) hstack hdg
  rcases hK m meth c ⟨T.setVm vm₁, locs, cells, slots⟩ { g with stack := rest } (.invokespecial index) mk (Value.ref b :: argsL).toArray X₁ hg hsize hdg hW (X₁.named hnamed) (hpre vm₁ X₁.warmed) with ⟨v, B, X', hpost, hsteps⟩ | ⟨q, B, X', hpost, hsteps⟩
  · exact Or.inl ⟨v, vm₁, B, X₁.warmed, X', hpost, fun target h => hstep₁ _ (by rw [doInvoke_state]; exact hsteps.trans h)⟩
  · exact Or.inr ⟨q, vm₁, B, X₁.warmed, X', hpost, hstep₁ _ (by rw [doInvoke_state]; exact hsteps)⟩
theorem vx_runSU {y : MethodName} {bytes cc : ByteArray} {maxL nL mc ms n index : Nat} {ret : Option FieldType} {ws : List Cond} {rm : Room} {Pc : Array Value → State → Prop} {Qc : Array Value → State → Outcome → State → Prop} {XC : String → State → State → Prop} {free : Addr → Prop} {Ts : List Cond} {own C : String} {cC : ClassId} {b : Addr} {As rest : List Value} {g : JFrame}
    (hat : ClassAt s C cC) (S : CallFix p m c cc nL s args Ts own) (hM : vx_Met l y ws rm Pc Qc XC mc ms free) (cw : va_CS R s args own index y bytes maxL ret ws rm mc ms n) (hp : PreV s H C b Pc As)
    (hg : g.method = m) (hn : As.length = n) (hsize : g.locals.size = nL) (hstack : g.stack = As.reverse ++ .ref b :: rest) (hW : 2 * g.monitorRoom + (rest.map fun v => v.category).sum ≤ 8) (hdg : decode cc g.pc = .ok (.invokespecial index, 3)) (hf : cells + mc ≤ R.cells ∧ slots + ms ≤ R.slots) :
    vx_Run p l e R s m args below meth c H locs cells slots mc ms g rest (Qc (Value.ref b :: As).toArray) XC free := by
  obtain ⟨⟨hrc, hrs, hfr, hlo, hws, hcw⟩, hl1, hl2, hl3, hl4, hini, hcode, hno, hlen⟩ := cw
  have hK : vx_Back l R p e below s args y 3 8 (PreOf R mc ms Pc) (PostOf Qc mc ms free) (vx_Post XC mc ms free) := vx_back (bytes := bytes) (maxL := maxL) (ret := ret) hM hp.1 hrc hrs hfr hlo hws hcw (fun a' U hW => word_at hW (Or.inl (by first | rfl | simp [Cond.onTables, Cond.keeps, Cond.steady])) hini)
  obtain ⟨hx, hb, hml, ho, -⟩ := S
  obtain ⟨-, ⟨cellB, hcB, hoB, hclB⟩, hPc⟩ := hp
  obtain ⟨hfc, kB, hkB, -⟩ := hat
  cases hfc.symm.trans hclB
  intro T hT X
  rcases vx_callSU X hx (bytes := bytes) (maxL := maxL) (ret := ret) ho hl1 hl2 hl3 hl4 hcode hno hK (by rw [hT]; exact hcB) hoB hkB hg (hsize.trans hml.symm) (argsL := As) (rest := rest) (fun sig h => hn.trans (hlen sig h)) hstack hW (by rw [hb]; exact hdg)
    (fun vm₁ hW₁ => ⟨hf.1, hf.2, hPc (T.setVm vm₁) hT hW₁⟩) with ⟨v, vm₁, ⟨U', l2, c2, s2⟩, hW₁, X', ⟨g', mk, t, L, e1, e2, hq, h1, hL, h2, h3⟩, st⟩ | ⟨q, vm₁, ⟨U', l2, c2, s2⟩, hW₁, X', ⟨g', mk, t, L, E, ce, e1, e2, hq, hce, hcv, hcl, h1, hL, h2, h3⟩, st⟩
  · dsimp only [Pt.U, Pt.locs, Pt.cells, Pt.slots] at X' e1 e2 h1 h2 h3 st
    subst h1; subst h2; subst h3
    exact Or.inl ⟨v, (T.setVm vm₁).calling g' mk (Value.ref b :: As).toArray, t, U', L, hT, X', hL, e1, e2, hq, st⟩
  · dsimp only [Pt.U, Pt.locs, Pt.cells, Pt.slots] at X' e1 e2 h1 h2 h3 st hcl
    subst h1; subst h2; subst h3
    exact Or.inr ⟨q, (T.setVm vm₁).calling g' mk (Value.ref b :: As).toArray, t, U', L, E, ce, hT, X', hL, e1, e2, hq, hce, hcv, vx_cls hW₁ hcl, st⟩
end
/-! ===== END ===== -/
/-! ===== BEGIN a private method of a nest mate that may throw (follows va_callVN, va_callSN, va_runVN, va_runSN) ===== -/
section
variable {p : Program} {l : Launch} {e : Env} {R : Room} {s : State} {m : MethodId} {args : Array Value} {below : List Frame} {meth : Method} {c : Code} {H : Heap} {locs : List Loc} {cells slots : Nat}
variable {T : State}
theorem vx_callVN (X : Stand p l e R s m args below meth c T locs cells slots) (hexec : p.tables.exec = Jvm.exec) {own C : String} {index : Nat} {host : String} {y : MethodName} {bytes : ByteArray} {maxL : Nat} {ret : Option FieldType}
    (hown : s.vm.findClass own = some m.cls) (hlink : (Cond.methodLinkNest own index y host).before args s = true) (hinst : (Cond.instanceMethod y).before args s = true) (hsel : (Cond.selects C y y).before args s = true)
    (hcode : (Cond.code y bytes maxL ret).before args s = true) (hy : y.cls ≠ "java/lang/invoke/MethodHandle" ∧ y.cls ≠ "java/lang/invoke/VarHandle")
    {W : Nat} {Pre : Pt → Array Value → Prop} {Post : Pt → Array Value → Option Value → Pt → Prop} {PostX : Pt → Array Value → Addr → Pt → Prop} (hK : vx_Back l R p e below s args y 3 W Pre Post PostX)
    {b : Addr} {cellB : Cell} (hcell : T.heap[b]? = some cellB) (hobj : cellB.vm.isStatics = false) (hcls : s.vm.findClass C = some cellB.cls)
    {g : JFrame} (hg : g.method = m) (hsize : g.locals.size = c.maxLocals) {argsL rest : List Value} (hlen : ∀ sig, parseMethodDescriptor y.desc = some sig → argsL.length = sig.parameters.length)
    (hstack : g.stack = argsL.reverse ++ .ref b :: rest) (hW : 2 * g.monitorRoom + (rest.map fun v => v.category).sum ≤ W) (hdg : decode c.code g.pc = .ok (.invokevirtual index, 3))
    (hpre : ∀ vm₁, s.WarmedH vm₁ → Pre ⟨T.setVm vm₁, locs, cells, slots⟩ (Value.ref b :: argsL).toArray) :
    (∃ (v : Option Value) (vm₁ : Vm) (B : Pt), s.WarmedH vm₁ ∧ Stand p l e R s m args below meth c B.U B.locs B.cells B.slots ∧ Post ⟨T.setVm vm₁, locs, cells, slots⟩ (Value.ref b :: argsL).toArray v B ∧
      ∀ target, Steps p.tables e below (B.U.setTop { g with pc := g.pc + 3, stack := v.toList ++ rest }) target → Steps p.tables e below (T.setTop g) target) ∨
    (∃ (q : Addr) (vm₁ : Vm) (B : Pt), s.WarmedH vm₁ ∧ Stand p l e R s m args below meth c B.U B.locs B.cells B.slots ∧ PostX ⟨T.setVm vm₁, locs, cells, slots⟩ (Value.ref b :: argsL).toArray q B ∧
      Steps p.tables e below (T.setTop g) ((B.U.setTop { g with stack := rest }).pushFrame (.throwing q))) := by
  obtain ⟨mk, methM, hnamed, hmethM, hstM, habM⟩ := Cond.instanceMethod_spec hinst
  obtain ⟨methM', cM, hmethM', -, -, -, -, -, -, hsigM⟩ := Cond.code_spec hnamed hcode
  cases hmethM.symm.trans hmethM'
  obtain ⟨c2, r2, m2, q1, q2, q3, q4, kP, hkP, hkPi⟩ := Cond.selects_spec hsel
  cases hcls.symm.trans q1
  cases (State.methodFound?_of_named hnamed hy).symm.trans q2
  cases hnamed.symm.trans q3
  have hselP : selectMethod e.platform s.vm cellB.cls mk = .method mk := by rw [Launch.admits_selectMethod X.admits]; exact q4
  obtain ⟨vm₁, X₁, hstep₁⟩ := X.invokevirtualNest hexec hown hlink hnamed hmethM hstM hkP hkPi hy (a := b) (cell := cellB) hcell
    (fun z h => by rw [h] at hobj; cases hobj) hselP hmethM habM hkP hkPi (g := g) hg (argsL := argsL) (rest := rest) (hlen _ hsigM) hstack hdg
  rcases hK m meth c ⟨T.setVm vm₁, locs, cells, slots⟩ { g with stack := rest } (.invokevirtual index) mk (Value.ref b :: argsL).toArray X₁ hg hsize hdg hW (X₁.named hnamed) (hpre vm₁ X₁.warmed) with ⟨v, B, X', hpost, hsteps⟩ | ⟨q, B, X', hpost, hsteps⟩
  · exact Or.inl ⟨v, vm₁, B, X₁.warmed, X', hpost, fun target h => hstep₁ _ fun acts => by rw [doInvoke_state]; exact hsteps.trans h⟩
  · exact Or.inr ⟨q, vm₁, B, X₁.warmed, X', hpost, hstep₁ _ fun acts => by rw [doInvoke_state]; exact hsteps⟩
theorem vx_callSN (X : Stand p l e R s m args below meth c T locs cells slots) (hexec : p.tables.exec = Jvm.exec) {own : String} {index : Nat} {host : String} {y : MethodName} {bytes : ByteArray} {maxL : Nat} {ret : Option FieldType}
    (hown : s.vm.findClass own = some m.cls) (hlink : (Cond.methodLinkNest own index y host).before args s = true) (hstat : (Cond.static y).before args s = true) (hinit : (Cond.initialized y.cls).before args s = true)
    (hcode : (Cond.code y bytes maxL ret).before args s = true) (hy : y.cls ≠ "java/lang/invoke/MethodHandle" ∧ y.cls ≠ "java/lang/invoke/VarHandle")
    {W : Nat} {Pre : Pt → Array Value → Prop} {Post : Pt → Array Value → Option Value → Pt → Prop} {PostX : Pt → Array Value → Addr → Pt → Prop} (hK : vx_Back l R p e below s args y 3 W Pre Post PostX)
    {g : JFrame} (hg : g.method = m) (hsize : g.locals.size = c.maxLocals) {argsL rest : List Value} (hlen : ∀ sig, parseMethodDescriptor y.desc = some sig → argsL.length = sig.parameters.length)
    (hstack : g.stack = argsL.reverse ++ rest) (hW : 2 * g.monitorRoom + (rest.map fun v => v.category).sum ≤ W) (hdg : decode c.code g.pc = .ok (.invokestatic index, 3))
    (hpre : ∀ vm₁, s.WarmedH vm₁ → Pre ⟨T.setVm vm₁, locs, cells, slots⟩ argsL.toArray) :
    (∃ (v : Option Value) (vm₁ : Vm) (B : Pt), s.WarmedH vm₁ ∧ Stand p l e R s m args below meth c B.U B.locs B.cells B.slots ∧ Post ⟨T.setVm vm₁, locs, cells, slots⟩ argsL.toArray v B ∧
      ∀ target, Steps p.tables e below (B.U.setTop { g with pc := g.pc + 3, stack := v.toList ++ rest }) target → Steps p.tables e below (T.setTop g) target) ∨
    (∃ (q : Addr) (vm₁ : Vm) (B : Pt), s.WarmedH vm₁ ∧ Stand p l e R s m args below meth c B.U B.locs B.cells B.slots ∧ PostX ⟨T.setVm vm₁, locs, cells, slots⟩ argsL.toArray q B ∧
      Steps p.tables e below (T.setTop g) ((B.U.setTop { g with stack := rest }).pushFrame (.throwing q))) := by
  obtain ⟨mk, hnamed⟩ := Cond.code_named hcode
  obtain ⟨methM, cM, hmethM, -, -, -, -, -, -, hsigM⟩ := Cond.code_spec hnamed hcode
  have hstatic : methM.isStatic = true := Cond.static_spec hnamed hmethM hstat
  obtain ⟨kP, hkP, -⟩ := className_of_methodNamed hnamed
  have hinitP : kP.init = .initialized := Cond.initialized_spec (findClass_of_methodNamed hnamed) hkP hinit
  obtain ⟨vm₁, X₁, hstep₁⟩ := X.invokestaticNest hexec hown hlink hnamed hmethM hstatic hkP hinitP hy (g := g) hg (argsL := argsL) (rest := rest) (hlen _ hsigM) hstack hdg
  rcases hK m meth c ⟨T.setVm vm₁, locs, cells, slots⟩ { g with stack := rest } (.invokestatic index) mk argsL.toArray X₁ hg hsize hdg hW (X₁.named hnamed) (hpre vm₁ X₁.warmed) with ⟨v, B, X', hpost, hsteps⟩ | ⟨q, B, X', hpost, hsteps⟩
  · exact Or.inl ⟨v, vm₁, B, X₁.warmed, X', hpost, fun target h => hstep₁ _ fun acts => by rw [doInvoke_state]; exact hsteps.trans h⟩
  · exact Or.inr ⟨q, vm₁, B, X₁.warmed, X', hpost, hstep₁ _ fun acts => by rw [doInvoke_state]; exact hsteps⟩
theorem vx_runVN {y : MethodName} {bytes cc : ByteArray} {maxL nL mc ms n index : Nat} {ret : Option FieldType} {ws : List Cond} {rm : Room} {Pc : Array Value → State → Prop} {Qc : Array Value → State → Outcome → State → Prop} {XC : String → State → State → Prop} {free : Addr → Prop} {Ts : List Cond} {own C host : String} {b : Addr} {As rest : List Value} {g : JFrame}
    (S : CallFix p m c cc nL s args Ts own) (hM : vx_Met l y ws rm Pc Qc XC mc ms free) (cw : va_CN R s args own index y host bytes maxL ret ws rm mc ms n ∧ (Cond.instanceMethod y).before args s = true ∧ (Cond.selects C y y).before args s = true) (hp : PreV s H C b Pc As)
    (hg : g.method = m) (hn : As.length = n) (hsize : g.locals.size = nL) (hstack : g.stack = As.reverse ++ .ref b :: rest) (hW : 2 * g.monitorRoom + (rest.map fun v => v.category).sum ≤ 8) (hdg : decode cc g.pc = .ok (.invokevirtual index, 3)) (hf : cells + mc ≤ R.cells ∧ slots + ms ≤ R.slots) :
    vx_Run p l e R s m args below meth c H locs cells slots mc ms g rest (Qc (Value.ref b :: As).toArray) XC free := by
  obtain ⟨⟨⟨hrc, hrs, hfr, hlo, hws, hcw⟩, hcode, hini, hy, hlen, hl⟩, hx1, hx2⟩ := cw
  have hK : vx_Back l R p e below s args y 3 8 (PreOf R mc ms Pc) (PostOf Qc mc ms free) (vx_Post XC mc ms free) := vx_back (bytes := bytes) (maxL := maxL) (ret := ret) hM hp.1 hrc hrs hfr hlo hws hcw (fun a' U hW => word_at hW (Or.inl (by first | rfl | simp [Cond.onTables, Cond.keeps, Cond.steady])) hini)
  obtain ⟨hx, hb, hml, ho, -⟩ := S
  obtain ⟨-, ⟨cellB, hcB, hoB, hclB⟩, hPc⟩ := hp
  intro T hT X
  rcases vx_callVN X hx (C := C) (bytes := bytes) (maxL := maxL) (ret := ret) ho hl hx1 hx2 hcode hy hK (by rw [hT]; exact hcB) hoB hclB hg (hsize.trans hml.symm) (argsL := As) (rest := rest) (fun sig h => hn.trans (hlen sig h)) hstack hW (by rw [hb]; exact hdg)
    (fun vm₁ hW₁ => ⟨hf.1, hf.2, hPc (T.setVm vm₁) hT hW₁⟩) with ⟨v, vm₁, ⟨U', l2, c2, s2⟩, hW₁, X', ⟨g', mk, t, L, e1, e2, hq, h1, hL, h2, h3⟩, st⟩ | ⟨q, vm₁, ⟨U', l2, c2, s2⟩, hW₁, X', ⟨g', mk, t, L, E, ce, e1, e2, hq, hce, hcv, hcl, h1, hL, h2, h3⟩, st⟩
  · dsimp only [Pt.U, Pt.locs, Pt.cells, Pt.slots] at X' e1 e2 h1 h2 h3 st
    subst h1; subst h2; subst h3
    exact Or.inl ⟨v, (T.setVm vm₁).calling g' mk (Value.ref b :: As).toArray, t, U', L, hT, X', hL, e1, e2, hq, st⟩
  · dsimp only [Pt.U, Pt.locs, Pt.cells, Pt.slots] at X' e1 e2 h1 h2 h3 st hcl
    subst h1; subst h2; subst h3
    exact Or.inr ⟨q, (T.setVm vm₁).calling g' mk (Value.ref b :: As).toArray, t, U', L, E, ce, hT, X', hL, e1, e2, hq, hce, hcv, vx_cls hW₁ hcl, st⟩
theorem vx_runSN {y : MethodName} {bytes cc : ByteArray} {maxL nL mc ms n index : Nat} {ret : Option FieldType} {ws : List Cond} {rm : Room} {Pc : Array Value → State → Prop} {Qc : Array Value → State → Outcome → State → Prop} {XC : String → State → State → Prop} {free : Addr → Prop} {Ts : List Cond} {own host : String} {As rest : List Value} {g : JFrame}
    (S : CallFix p m c cc nL s args Ts own) (hM : vx_Met l y ws rm Pc Qc XC mc ms free) (cw : va_CN R s args own index y host bytes maxL ret ws rm mc ms n ∧ (Cond.static y).before args s = true ∧ True) (hp : PreS s H Pc As)
    (hg : g.method = m) (hn : As.length = n) (hsize : g.locals.size = nL) (hstack : g.stack = As.reverse ++ rest) (hW : 2 * g.monitorRoom + (rest.map fun v => v.category).sum ≤ 8) (hdg : decode cc g.pc = .ok (.invokestatic index, 3)) (hf : cells + mc ≤ R.cells ∧ slots + ms ≤ R.slots) :
    vx_Run p l e R s m args below meth c H locs cells slots mc ms g rest (Qc As.toArray) XC free := by
  obtain ⟨⟨⟨hrc, hrs, hfr, hlo, hws, hcw⟩, hcode, hini, hy, hlen, hl⟩, hx1, hx2⟩ := cw
  have hK : vx_Back l R p e below s args y 3 8 (PreOf R mc ms Pc) (PostOf Qc mc ms free) (vx_Post XC mc ms free) := vx_back (bytes := bytes) (maxL := maxL) (ret := ret) hM hp.1 hrc hrs hfr hlo hws hcw (fun a' U hW => word_at hW (Or.inl (by first | rfl | simp [Cond.onTables, Cond.keeps, Cond.steady])) hini)
  obtain ⟨hx, hb, hml, ho, -⟩ := S
  have hPc := hp.2
  intro T hT X
  rcases vx_callSN X hx (bytes := bytes) (maxL := maxL) (ret := ret) ho hl hx1 hini hcode hy hK hg (hsize.trans hml.symm) (argsL := As) (rest := rest) (fun sig h => hn.trans (hlen sig h)) hstack hW (by rw [hb]; exact hdg)
    (fun vm₁ hW₁ => ⟨hf.1, hf.2, hPc (T.setVm vm₁) hT hW₁⟩) with ⟨v, vm₁, ⟨U', l2, c2, s2⟩, hW₁, X', ⟨g', mk, t, L, e1, e2, hq, h1, hL, h2, h3⟩, st⟩ | ⟨q, vm₁, ⟨U', l2, c2, s2⟩, hW₁, X', ⟨g', mk, t, L, E, ce, e1, e2, hq, hce, hcv, hcl, h1, hL, h2, h3⟩, st⟩
  · dsimp only [Pt.U, Pt.locs, Pt.cells, Pt.slots] at X' e1 e2 h1 h2 h3 st
    subst h1; subst h2; subst h3
    exact Or.inl ⟨v, (T.setVm vm₁).calling g' mk As.toArray, t, U', L, hT, X', hL, e1, e2, hq, st⟩
  · dsimp only [Pt.U, Pt.locs, Pt.cells, Pt.slots] at X' e1 e2 h1 h2 h3 st hcl
    subst h1; subst h2; subst h3
    exact Or.inr ⟨q, (T.setVm vm₁).calling g' mk As.toArray, t, U', L, E, ce, hT, X', hL, e1, e2, hq, hce, hcv, vx_cls hW₁ hcl, st⟩
end
/-! ===== END ===== -/
/-! ===== BEGIN calls by an interface of methods that may throw (vx_callIF, vx_runF follow va_callIF, va_runF of this kit) ===== -/
section
variable {p : Program} {l : Launch} {e : Env} {R : Room} {s : State} {m : MethodId} {args : Array Value} {below : List Frame} {meth : Method} {c : Code} {H : Heap} {locs : List Loc} {cells slots : Nat} {Q : State → Prop}
variable {mc ms : Nat} {free : Addr → Prop} {A0 A1 : Nat → Prop} {H0 : Heap} {a : Array Value} {pc : Nat} {ls : Array Slot} {st0 rest : List Value}
def vx_Run5 (p : Program) (l : Launch) (e : Env) (R : Room) (s : State) (m : MethodId) (args : Array Value) (below : List Frame) (meth : Method) (c : Code) (H : Heap) (locs : List Loc) (cells slots mc ms : Nat) (g : JFrame) (rest : List Value) (Qa : State → Outcome → State → Prop) (XC : String → State → State → Prop) (free : Addr → Prop) : Prop :=
  ∀ T : State, T.heap = H → Stand p l e R s m args below meth c T locs cells slots →
    (∃ (v : Option Value) (st₀ t T' : State) (L : List Loc), st₀.heap = H ∧ Stand p l e R s m args below meth c T' (locs ++ L) (cells + mc) (slots + ms) ∧ (∀ q ∈ L, free q.base) ∧ T'.heap = t.heap ∧ T'.vm = t.vm ∧ Qa st₀ (.returned v) t ∧
      Goes p e below T g T' { g with pc := g.pc + 5, stack := v.toList ++ rest }) ∨
    (∃ (q : Addr) (st₀ t T' : State) (L : List Loc) (E : String) (ce : Cell), st₀.heap = H ∧ Stand p l e R s m args below meth c T' (locs ++ L) (cells + mc) (slots + ms) ∧ (∀ z ∈ L, free z.base) ∧ T'.heap = t.heap ∧ T'.vm = t.vm ∧ XC E st₀ t ∧ t.heap[q]? = some ce ∧ ce.vm = .none ∧ s.vm.findClass E = some ce.cls ∧
      Steps p.tables e below (T.setTop g) ((T'.setTop { g with stack := rest }).pushFrame (.throwing q)))
theorem vx_callIF {T : State} (X : Stand p l e R s m args below meth c T locs cells slots) (hexec : p.tables.exec = Jvm.exec) {own C : String} {index count : Nat} {x y : MethodName} {bytes : ByteArray} {maxL : Nat} {ret : Option FieldType}
    (hown : s.vm.findClass own = some m.cls) (hlink : (Cond.methodLink own index x).before args s = true) (hdecl : (Cond.declares x).before args s = true) (hface : (Cond.interfaceMethod x.cls x.cls x.name x.desc).before args s = true)
    (hsel : (Cond.selects C x y).before args s = true) (hinst : (Cond.instanceMethod y).before args s = true) (hpub : (Cond.publicMethod y).before args s = true) (hunh : (Cond.unhidden C x.name x.desc).before args s = true)
    (hcast : (Cond.castable C x.cls).before args s = true) (hcode : (Cond.code y bytes maxL ret).before args s = true) (hx : x.cls ≠ "java/lang/invoke/MethodHandle" ∧ x.cls ≠ "java/lang/invoke/VarHandle")
    {W9 : Nat} {Pre : Pt → Array Value → Prop} {Post : Pt → Array Value → Option Value → Pt → Prop} {PostX : Pt → Array Value → Addr → Pt → Prop} (hK : vx_Back l R p e below s args y 5 W9 Pre Post PostX)
    {b : Addr} {cellB : Cell} {kB : Class} (hcell : T.heap[b]? = some cellB) (hobj : cellB.vm.isStatics = false) (hcls : s.vm.findClass C = some cellB.cls) (hkB : s.vm.classes[cellB.cls]? = some kB)
    {g : JFrame} (hg : g.method = m) (hsize : g.locals.size = c.maxLocals) {argsL rest : List Value} (hlen : ∀ sig, parseMethodDescriptor x.desc = some sig → argsL.length = sig.parameters.length)
    (hstack : g.stack = argsL.reverse ++ .ref b :: rest) (hW : 2 * g.monitorRoom + (rest.map fun v => v.category).sum ≤ W9) (hdg : decode c.code g.pc = .ok (.invokeinterface index count, 5))
    (hpre : ∀ vm₁, s.WarmedH vm₁ → Pre ⟨T.setVm vm₁, locs, cells, slots⟩ (Value.ref b :: argsL).toArray) :
    (∃ (v : Option Value) (vm₁ : Vm) (B : Pt), s.WarmedH vm₁ ∧ Stand p l e R s m args below meth c B.U B.locs B.cells B.slots ∧ Post ⟨T.setVm vm₁, locs, cells, slots⟩ (Value.ref b :: argsL).toArray v B ∧
      ∀ target, Steps p.tables e below (B.U.setTop { g with pc := g.pc + 5, stack := v.toList ++ rest }) target → Steps p.tables e below (T.setTop g) target) ∨
    (∃ (q : Addr) (vm₁ : Vm) (B : Pt), s.WarmedH vm₁ ∧ Stand p l e R s m args below meth c B.U B.locs B.cells B.slots ∧ PostX ⟨T.setVm vm₁, locs, cells, slots⟩ (Value.ref b :: argsL).toArray q B ∧
      Steps p.tables e below (T.setTop g) ((B.U.setTop { g with stack := rest }).pushFrame (.throwing q))) := by
  obtain ⟨r0, r, hn, hrm, hstR, hsigR⟩ := Cond.declares_spec hdecl
  obtain ⟨cL, kL, r1, hcL, hkL, hiL, hfoundL, hn1⟩ := Cond.interfaceMethod_spec hface
  cases hn.symm.trans hn1
  have hr0cls : r0.cls = cL := Option.some.inj ((findClass_of_methodNamed hn).symm.trans hcL)
  obtain ⟨hnameR, hdescR⟩ := name_of_methodNamed hn hrm
  obtain ⟨mk, methM, hnamed, hmethM, -, habM⟩ := Cond.instanceMethod_spec hinst
  obtain ⟨c2, r2, m2, q1, q2, q3, q4, -⟩ := Cond.selects_spec hsel
  cases hcls.symm.trans q1
  cases hfoundL.symm.trans q2
  cases hnamed.symm.trans q3
  have hselP : selectMethod e.platform s.vm cellB.cls r0 = .method mk := by rw [Launch.admits_selectMethod X.admits]; exact q4
  have hpubM : hasFlag methM.accessFlags Acc.public_ = true := Cond.publicMethod_spec hnamed hmethM hpub
  have hway : ((cellB.cls :: s.vm.superclasses cellB.cls).any fun k => (declaredIn s.vm r.name r.desc k).any fun (_, z) => z.isPrivate || z.isStatic) = false := by
    rw [hnameR, hdescR]; exact Cond.unhidden_spec hcls hunh
  obtain ⟨c3, t3, w1, w2, w3⟩ := Cond.castable_spec hcast
  cases hcls.symm.trans w1
  cases hcL.symm.trans w2
  obtain ⟨vm₁, X₁, hstep₁⟩ := X.invokeinterface hexec hown hlink hn hrm hstR (by rw [hr0cls]; exact hkL) hiL hx (a := b) (cell := cellB) (kcell := kB) hcell
    (fun z h => by rw [h] at hobj; cases hobj) hkB (by rw [hr0cls]; exact w3) hselP hmethM hway hpubM habM (g := g) hg (argsL := argsL) (rest := rest) (hlen _ hsigR) hstack hdg
  rcases hK m meth c ⟨T.setVm vm₁, locs, cells, slots⟩ { g with stack := rest } (.invokeinterface index count) mk (Value.ref b :: argsL).toArray X₁ hg hsize hdg hW (X₁.named hnamed) (hpre vm₁ X₁.warmed) with ⟨v, B, X', hpost, hsteps⟩ | ⟨q, B, X', hpost, hsteps⟩
  · exact Or.inl ⟨v, vm₁, B, X₁.warmed, X', hpost, fun target h => hstep₁ _ fun acts => by rw [doInvoke_state]; exact hsteps.trans h⟩
  · exact Or.inr ⟨q, vm₁, B, X₁.warmed, X', hpost, hstep₁ _ fun acts => by rw [doInvoke_state]; exact hsteps⟩
theorem vx_runF {x y : MethodName} {bytes cc : ByteArray} {maxL nL mc ms n index count : Nat} {ret : Option FieldType} {ws : List Cond} {rm : Room} {Pc : Array Value → State → Prop} {Qc : Array Value → State → Outcome → State → Prop} {XC : String → State → State → Prop} {free : Addr → Prop} {Ts : List Cond} {own C : String} {cC : ClassId} {b : Addr} {As rest : List Value} {g : JFrame}
    (hat : ClassAt s C cC) (S : CallFix p m c cc nL s args Ts own) (hM : vx_Met l y ws rm Pc Qc XC mc ms free) (cw : va_CI R s args own C index x y bytes maxL ret ws rm mc ms n) (hp : PreV s H C b Pc As)
    (hg : g.method = m) (hn : As.length = n) (hsize : g.locals.size = nL) (hstack : g.stack = As.reverse ++ .ref b :: rest) (hW : 2 * g.monitorRoom + (rest.map fun v => v.category).sum ≤ 8) (hdg : decode cc g.pc = .ok (.invokeinterface index count, 5)) (hf : cells + mc ≤ R.cells ∧ slots + ms ≤ R.slots) :
    vx_Run5 p l e R s m args below meth c H locs cells slots mc ms g rest (Qc (Value.ref b :: As).toArray) XC free := by
  obtain ⟨hrc, hrs, hfr, hlo, hws, hcw⟩ := cw.back
  have hini := cw.init
  have hK : vx_Back l R p e below s args y 5 8 (PreOf R mc ms Pc) (PostOf Qc mc ms free) (vx_Post XC mc ms free) := vx_back (bytes := bytes) (maxL := maxL) (ret := ret) hM hp.1 hrc hrs hfr hlo hws hcw (fun a' U hW => word_at hW (Or.inl (by first | rfl | simp [Cond.onTables, Cond.keeps, Cond.steady])) hini)
  obtain ⟨hx, hb, hml, ho, -⟩ := S
  obtain ⟨-, ⟨cellB, hcB, hoB, hclB⟩, hPc⟩ := hp
  obtain ⟨hfc, kB, hkB, -⟩ := hat
  cases hfc.symm.trans hclB
  intro T hT X
  rcases vx_callIF X hx (C := C) (bytes := bytes) (maxL := maxL) (ret := ret) ho cw.link cw.decl cw.face cw.sel cw.inst cw.pub cw.unh cw.cast cw.code cw.notMH hK (by rw [hT]; exact hcB) hoB hclB hkB hg (hsize.trans hml.symm) (argsL := As) (rest := rest) (fun sig h => hn.trans (cw.len sig h)) hstack hW (by rw [hb]; exact hdg)
    (fun vm₁ hW₁ => ⟨hf.1, hf.2, hPc (T.setVm vm₁) hT hW₁⟩) with ⟨v, vm₁, ⟨U', l2, c2, s2⟩, hW₁, X', ⟨g', mk, t, L, e1, e2, hq, h1, hL, h2, h3⟩, st⟩ | ⟨q, vm₁, ⟨U', l2, c2, s2⟩, hW₁, X', ⟨g', mk, t, L, E, ce, e1, e2, hq, hce, hcv, hcl, h1, hL, h2, h3⟩, st⟩
  · dsimp only [Pt.U, Pt.locs, Pt.cells, Pt.slots] at X' e1 e2 h1 h2 h3 st
    subst h1; subst h2; subst h3
    exact Or.inl ⟨v, (T.setVm vm₁).calling g' mk (Value.ref b :: As).toArray, t, U', L, hT, X', hL, e1, e2, hq, st⟩
  · dsimp only [Pt.U, Pt.locs, Pt.cells, Pt.slots] at X' e1 e2 h1 h2 h3 st hcl
    subst h1; subst h2; subst h3
    exact Or.inr ⟨q, (T.setVm vm₁).calling g' mk (Value.ref b :: As).toArray, t, U', L, E, ce, hT, X', hL, e1, e2, hq, hce, hcv, vx_cls hW₁ hcl, st⟩
theorem vx_callFv {S SX : Type} {post : S → Prop} {px : SX → Prop} {B : S → State → Prop} {BX : String → SX → State → Prop} {AX : Nat → Prop} (hr : vx_Run5 p l e R s m args below meth c H locs cells slots mc ms (F0 m pc ls st0) rest (va_Qv post B A1 a) (vx_X px BX AX) free) (hS : va_S A0 H0 H locs) (hA : ∀ q, q < H.size → A1 q → A0 q) (hf : ∀ q, free q → A0 q) (hAX : ∀ q, q < H.size → AX q → A0 q)
    (kx : ∀ (E : String) (ce : Cell) (q9 : Addr) (u : SX) (t : State) (H1 : Heap) (locs1 : List Loc), t.heap = H1 → s.vm.Alike t.vm → px u → BX E u t → H.size ≤ H1.size → (∀ q : Nat, q < H.size → ¬ AX q → H1[q]? = H[q]?) → va_S A0 H0 H1 locs1 → H1[q9]? = some ce → ce.vm = .none → s.vm.findClass E = some ce.cls → vx_W p l e R s m args below meth c H1 locs1 (cells + mc) (slots + ms) Q (F0 m pc ls rest) q9)
    (kk : ∀ (u : S) (t : State) (H1 : Heap) (locs1 : List Loc), t.heap = H1 → s.vm.Alike t.vm → post u → B u t → H.size ≤ H1.size → (∀ q : Nat, q < H.size → ¬ A1 q → H1[q]? = H[q]?) → va_S A0 H0 H1 locs1 → W p l e R s m args below meth c H1 locs1 (cells + mc) (slots + ms) Q (F0 m (pc + 5) ls (rest))) : W p l e R s m args below meth c H locs cells slots Q (F0 m pc ls st0) := by
  intro T hT X
  rcases hr T hT X with ⟨v, st₀, t, T', L, h0, X', hL, e1, e2, ⟨⟨u, hv, hp, hb⟩, hF⟩, st⟩ | ⟨q, st₀, t, T', L, E, ce, h0, X', hL, e1, e2, ⟨u, hp, hb, hF⟩, hce, hcv, hcl, st⟩
  · cases hv
    obtain ⟨k1, k2, k3⟩ := vx_keep h0 e1 hS hA hf hL hF
    obtain ⟨t2, a1, b1⟩ := kk u t T'.heap (locs ++ L) e1.symm (by rw [← e2]; exact X'.warmed.alike) hp hb k1 k2 k3 T' rfl X'
    exact ⟨t2, st t2 a1, b1⟩
  · obtain ⟨k1, k2, k3⟩ := vx_keep h0 e1 hS hAX hf hL hF
    obtain ⟨t2, a1, b1⟩ := kx E ce q u t T'.heap (locs ++ L) e1.symm (by rw [← e2]; exact X'.warmed.alike) hp hb k1 k2 k3 (by rw [e1]; exact hce) hcv hcl T' rfl X'
    exact ⟨t2, st.trans a1, b1⟩
theorem vx_callFi {S SX : Type} {post : Int32 → S → Prop} {px : SX → Prop} {B : S → State → Prop} {BX : String → SX → State → Prop} {AX : Nat → Prop} (hr : vx_Run5 p l e R s m args below meth c H locs cells slots mc ms (F0 m pc ls st0) rest (va_Qi post B A1 a) (vx_X px BX AX) free) (hS : va_S A0 H0 H locs) (hA : ∀ q, q < H.size → A1 q → A0 q) (hf : ∀ q, free q → A0 q) (hAX : ∀ q, q < H.size → AX q → A0 q)
    (kx : ∀ (E : String) (ce : Cell) (q9 : Addr) (u : SX) (t : State) (H1 : Heap) (locs1 : List Loc), t.heap = H1 → s.vm.Alike t.vm → px u → BX E u t → H.size ≤ H1.size → (∀ q : Nat, q < H.size → ¬ AX q → H1[q]? = H[q]?) → va_S A0 H0 H1 locs1 → H1[q9]? = some ce → ce.vm = .none → s.vm.findClass E = some ce.cls → vx_W p l e R s m args below meth c H1 locs1 (cells + mc) (slots + ms) Q (F0 m pc ls rest) q9)
    (kk : ∀ (r : Int32) (u : S) (t : State) (H1 : Heap) (locs1 : List Loc), t.heap = H1 → s.vm.Alike t.vm → post r u → B u t → H.size ≤ H1.size → (∀ q : Nat, q < H.size → ¬ A1 q → H1[q]? = H[q]?) → va_S A0 H0 H1 locs1 → W p l e R s m args below meth c H1 locs1 (cells + mc) (slots + ms) Q (F0 m (pc + 5) ls (.int r :: rest))) : W p l e R s m args below meth c H locs cells slots Q (F0 m pc ls st0) := by
  intro T hT X
  rcases hr T hT X with ⟨v, st₀, t, T', L, h0, X', hL, e1, e2, ⟨⟨r, u, hv, hp, hb⟩, hF⟩, st⟩ | ⟨q, st₀, t, T', L, E, ce, h0, X', hL, e1, e2, ⟨u, hp, hb, hF⟩, hce, hcv, hcl, st⟩
  · cases hv
    obtain ⟨k1, k2, k3⟩ := vx_keep h0 e1 hS hA hf hL hF
    obtain ⟨t2, a1, b1⟩ := kk r u t T'.heap (locs ++ L) e1.symm (by rw [← e2]; exact X'.warmed.alike) hp hb k1 k2 k3 T' rfl X'
    exact ⟨t2, st t2 a1, b1⟩
  · obtain ⟨k1, k2, k3⟩ := vx_keep h0 e1 hS hAX hf hL hF
    obtain ⟨t2, a1, b1⟩ := kx E ce q u t T'.heap (locs ++ L) e1.symm (by rw [← e2]; exact X'.warmed.alike) hp hb k1 k2 k3 (by rw [e1]; exact hce) hcv hcl T' rfl X'
    exact ⟨t2, st.trans a1, b1⟩
theorem vx_callFl {S SX : Type} {post : Int64 → S → Prop} {px : SX → Prop} {B : S → State → Prop} {BX : String → SX → State → Prop} {AX : Nat → Prop} (hr : vx_Run5 p l e R s m args below meth c H locs cells slots mc ms (F0 m pc ls st0) rest (va_Ql post B A1 a) (vx_X px BX AX) free) (hS : va_S A0 H0 H locs) (hA : ∀ q, q < H.size → A1 q → A0 q) (hf : ∀ q, free q → A0 q) (hAX : ∀ q, q < H.size → AX q → A0 q)
    (kx : ∀ (E : String) (ce : Cell) (q9 : Addr) (u : SX) (t : State) (H1 : Heap) (locs1 : List Loc), t.heap = H1 → s.vm.Alike t.vm → px u → BX E u t → H.size ≤ H1.size → (∀ q : Nat, q < H.size → ¬ AX q → H1[q]? = H[q]?) → va_S A0 H0 H1 locs1 → H1[q9]? = some ce → ce.vm = .none → s.vm.findClass E = some ce.cls → vx_W p l e R s m args below meth c H1 locs1 (cells + mc) (slots + ms) Q (F0 m pc ls rest) q9)
    (kk : ∀ (r : Int64) (u : S) (t : State) (H1 : Heap) (locs1 : List Loc), t.heap = H1 → s.vm.Alike t.vm → post r u → B u t → H.size ≤ H1.size → (∀ q : Nat, q < H.size → ¬ A1 q → H1[q]? = H[q]?) → va_S A0 H0 H1 locs1 → W p l e R s m args below meth c H1 locs1 (cells + mc) (slots + ms) Q (F0 m (pc + 5) ls (.long r :: rest))) : W p l e R s m args below meth c H locs cells slots Q (F0 m pc ls st0) := by
  intro T hT X
  rcases hr T hT X with ⟨v, st₀, t, T', L, h0, X', hL, e1, e2, ⟨⟨r, u, hv, hp, hb⟩, hF⟩, st⟩ | ⟨q, st₀, t, T', L, E, ce, h0, X', hL, e1, e2, ⟨u, hp, hb, hF⟩, hce, hcv, hcl, st⟩
  · cases hv
    obtain ⟨k1, k2, k3⟩ := vx_keep h0 e1 hS hA hf hL hF
    obtain ⟨t2, a1, b1⟩ := kk r u t T'.heap (locs ++ L) e1.symm (by rw [← e2]; exact X'.warmed.alike) hp hb k1 k2 k3 T' rfl X'
    exact ⟨t2, st t2 a1, b1⟩
  · obtain ⟨k1, k2, k3⟩ := vx_keep h0 e1 hS hAX hf hL hF
    obtain ⟨t2, a1, b1⟩ := kx E ce q u t T'.heap (locs ++ L) e1.symm (by rw [← e2]; exact X'.warmed.alike) hp hb k1 k2 k3 (by rw [e1]; exact hce) hcv hcl T' rfl X'
    exact ⟨t2, st.trans a1, b1⟩
theorem vx_callFf {S SX : Type} {post : UInt32 → S → Prop} {px : SX → Prop} {B : S → State → Prop} {BX : String → SX → State → Prop} {AX : Nat → Prop} (hr : vx_Run5 p l e R s m args below meth c H locs cells slots mc ms (F0 m pc ls st0) rest (va_Qf post B A1 a) (vx_X px BX AX) free) (hS : va_S A0 H0 H locs) (hA : ∀ q, q < H.size → A1 q → A0 q) (hf : ∀ q, free q → A0 q) (hAX : ∀ q, q < H.size → AX q → A0 q)
    (kx : ∀ (E : String) (ce : Cell) (q9 : Addr) (u : SX) (t : State) (H1 : Heap) (locs1 : List Loc), t.heap = H1 → s.vm.Alike t.vm → px u → BX E u t → H.size ≤ H1.size → (∀ q : Nat, q < H.size → ¬ AX q → H1[q]? = H[q]?) → va_S A0 H0 H1 locs1 → H1[q9]? = some ce → ce.vm = .none → s.vm.findClass E = some ce.cls → vx_W p l e R s m args below meth c H1 locs1 (cells + mc) (slots + ms) Q (F0 m pc ls rest) q9)
    (kk : ∀ (r : UInt32) (u : S) (t : State) (H1 : Heap) (locs1 : List Loc), t.heap = H1 → s.vm.Alike t.vm → post r u → B u t → H.size ≤ H1.size → (∀ q : Nat, q < H.size → ¬ A1 q → H1[q]? = H[q]?) → va_S A0 H0 H1 locs1 → W p l e R s m args below meth c H1 locs1 (cells + mc) (slots + ms) Q (F0 m (pc + 5) ls (.float r :: rest))) : W p l e R s m args below meth c H locs cells slots Q (F0 m pc ls st0) := by
  intro T hT X
  rcases hr T hT X with ⟨v, st₀, t, T', L, h0, X', hL, e1, e2, ⟨⟨r, u, hv, hp, hb⟩, hF⟩, st⟩ | ⟨q, st₀, t, T', L, E, ce, h0, X', hL, e1, e2, ⟨u, hp, hb, hF⟩, hce, hcv, hcl, st⟩
  · cases hv
    obtain ⟨k1, k2, k3⟩ := vx_keep h0 e1 hS hA hf hL hF
    obtain ⟨t2, a1, b1⟩ := kk r u t T'.heap (locs ++ L) e1.symm (by rw [← e2]; exact X'.warmed.alike) hp hb k1 k2 k3 T' rfl X'
    exact ⟨t2, st t2 a1, b1⟩
  · obtain ⟨k1, k2, k3⟩ := vx_keep h0 e1 hS hAX hf hL hF
    obtain ⟨t2, a1, b1⟩ := kx E ce q u t T'.heap (locs ++ L) e1.symm (by rw [← e2]; exact X'.warmed.alike) hp hb k1 k2 k3 (by rw [e1]; exact hce) hcv hcl T' rfl X'
    exact ⟨t2, st.trans a1, b1⟩
theorem vx_callFd {S SX : Type} {post : UInt64 → S → Prop} {px : SX → Prop} {B : S → State → Prop} {BX : String → SX → State → Prop} {AX : Nat → Prop} (hr : vx_Run5 p l e R s m args below meth c H locs cells slots mc ms (F0 m pc ls st0) rest (va_Qd post B A1 a) (vx_X px BX AX) free) (hS : va_S A0 H0 H locs) (hA : ∀ q, q < H.size → A1 q → A0 q) (hf : ∀ q, free q → A0 q) (hAX : ∀ q, q < H.size → AX q → A0 q)
    (kx : ∀ (E : String) (ce : Cell) (q9 : Addr) (u : SX) (t : State) (H1 : Heap) (locs1 : List Loc), t.heap = H1 → s.vm.Alike t.vm → px u → BX E u t → H.size ≤ H1.size → (∀ q : Nat, q < H.size → ¬ AX q → H1[q]? = H[q]?) → va_S A0 H0 H1 locs1 → H1[q9]? = some ce → ce.vm = .none → s.vm.findClass E = some ce.cls → vx_W p l e R s m args below meth c H1 locs1 (cells + mc) (slots + ms) Q (F0 m pc ls rest) q9)
    (kk : ∀ (r : UInt64) (u : S) (t : State) (H1 : Heap) (locs1 : List Loc), t.heap = H1 → s.vm.Alike t.vm → post r u → B u t → H.size ≤ H1.size → (∀ q : Nat, q < H.size → ¬ A1 q → H1[q]? = H[q]?) → va_S A0 H0 H1 locs1 → W p l e R s m args below meth c H1 locs1 (cells + mc) (slots + ms) Q (F0 m (pc + 5) ls (.double r :: rest))) : W p l e R s m args below meth c H locs cells slots Q (F0 m pc ls st0) := by
  intro T hT X
  rcases hr T hT X with ⟨v, st₀, t, T', L, h0, X', hL, e1, e2, ⟨⟨r, u, hv, hp, hb⟩, hF⟩, st⟩ | ⟨q, st₀, t, T', L, E, ce, h0, X', hL, e1, e2, ⟨u, hp, hb, hF⟩, hce, hcv, hcl, st⟩
  · cases hv
    obtain ⟨k1, k2, k3⟩ := vx_keep h0 e1 hS hA hf hL hF
    obtain ⟨t2, a1, b1⟩ := kk r u t T'.heap (locs ++ L) e1.symm (by rw [← e2]; exact X'.warmed.alike) hp hb k1 k2 k3 T' rfl X'
    exact ⟨t2, st t2 a1, b1⟩
  · obtain ⟨k1, k2, k3⟩ := vx_keep h0 e1 hS hAX hf hL hF
    obtain ⟨t2, a1, b1⟩ := kx E ce q u t T'.heap (locs ++ L) e1.symm (by rw [← e2]; exact X'.warmed.alike) hp hb k1 k2 k3 (by rw [e1]; exact hce) hcv hcl T' rfl X'
    exact ⟨t2, st.trans a1, b1⟩
end
/-! ===== END ===== -/
/-! ===== BEGIN by an interface, a method with a table of its own that may throw (follows va_callIFW, va_runFW) ===== -/
section
variable {p : Program} {l : Launch} {e : Env} {R : Room} {s : State} {m : MethodId} {args : Array Value} {below : List Frame} {meth : Method} {c : Code} {H : Heap} {locs : List Loc} {cells slots : Nat}
theorem vx_callIFW {T : State} (X : Stand p l e R s m args below meth c T locs cells slots) (hexec : p.tables.exec = Jvm.exec) {own C : String} {index count : Nat} {x y : MethodName} {bytes : ByteArray} {maxL : Nat} {ret : Option FieldType} {hh : List (Nat × Nat × Nat × Nat)}
    (hown : s.vm.findClass own = some m.cls) (hlink : (Cond.methodLink own index x).before args s = true) (hdecl : (Cond.declares x).before args s = true) (hface : (Cond.interfaceMethod x.cls x.cls x.name x.desc).before args s = true)
    (hsel : (Cond.selects C x y).before args s = true) (hinst : (Cond.instanceMethod y).before args s = true) (hpub : (Cond.publicMethod y).before args s = true) (hunh : (Cond.unhidden C x.name x.desc).before args s = true)
    (hcast : (Cond.castable C x.cls).before args s = true) (hcode : (Cond.codeWith y bytes maxL ret hh).before args s = true) (hx : x.cls ≠ "java/lang/invoke/MethodHandle" ∧ x.cls ≠ "java/lang/invoke/VarHandle")
    {W : Nat} {Pre : Pt → Array Value → Prop} {Post : Pt → Array Value → Option Value → Pt → Prop} {PostX : Pt → Array Value → Addr → Pt → Prop} (hK : vx_Back l R p e below s args y 5 W Pre Post PostX)
    {b : Addr} {cellB : Cell} {kB : Class} (hcell : T.heap[b]? = some cellB) (hobj : cellB.vm.isStatics = false) (hcls : s.vm.findClass C = some cellB.cls) (hkB : s.vm.classes[cellB.cls]? = some kB)
    {g : JFrame} (hg : g.method = m) (hsize : g.locals.size = c.maxLocals) {argsL rest : List Value} (hlen : ∀ sig, parseMethodDescriptor x.desc = some sig → argsL.length = sig.parameters.length)
    (hstack : g.stack = argsL.reverse ++ .ref b :: rest) (hW : 2 * g.monitorRoom + (rest.map fun v => v.category).sum ≤ W) (hdg : decode c.code g.pc = .ok (.invokeinterface index count, 5))
    (hpre : ∀ vm₁, s.WarmedH vm₁ → Pre ⟨T.setVm vm₁, locs, cells, slots⟩ (Value.ref b :: argsL).toArray) :
    (∃ (v : Option Value) (vm₁ : Vm) (B : Pt), s.WarmedH vm₁ ∧ Stand p l e R s m args below meth c B.U B.locs B.cells B.slots ∧ Post ⟨T.setVm vm₁, locs, cells, slots⟩ (Value.ref b :: argsL).toArray v B ∧
      ∀ target, Steps p.tables e below (B.U.setTop { g with pc := g.pc + 5, stack := v.toList ++ rest }) target → Steps p.tables e below (T.setTop g) target) ∨
    (∃ (q : Addr) (vm₁ : Vm) (B : Pt), s.WarmedH vm₁ ∧ Stand p l e R s m args below meth c B.U B.locs B.cells B.slots ∧ PostX ⟨T.setVm vm₁, locs, cells, slots⟩ (Value.ref b :: argsL).toArray q B ∧
      Steps p.tables e below (T.setTop g) ((B.U.setTop { g with stack := rest }).pushFrame (.throwing q))) := by
  obtain ⟨r0, r, hn, hrm, hstR, hsigR⟩ := Cond.declares_spec hdecl
  obtain ⟨cL, kL, r1, hcL, hkL, hiL, hfoundL, hn1⟩ := Cond.interfaceMethod_spec hface
  cases hn.symm.trans hn1
  have hr0cls : r0.cls = cL := Option.some.inj ((findClass_of_methodNamed hn).symm.trans hcL)
  obtain ⟨hnameR, hdescR⟩ := name_of_methodNamed hn hrm
  obtain ⟨mk, methM, hnamed, hmethM, -, habM⟩ := Cond.instanceMethod_spec hinst
  obtain ⟨c2, r2, m2, q1, q2, q3, q4, -⟩ := Cond.selects_spec hsel
  cases hcls.symm.trans q1
  cases hfoundL.symm.trans q2
  cases hnamed.symm.trans q3
  have hselP : selectMethod e.platform s.vm cellB.cls r0 = .method mk := by rw [Launch.admits_selectMethod X.admits]; exact q4
  have hpubM : hasFlag methM.accessFlags Acc.public_ = true := Cond.publicMethod_spec hnamed hmethM hpub
  have hway : ((cellB.cls :: s.vm.superclasses cellB.cls).any fun k => (declaredIn s.vm r.name r.desc k).any fun (_, z) => z.isPrivate || z.isStatic) = false := by
    rw [hnameR, hdescR]; exact Cond.unhidden_spec hcls hunh
  obtain ⟨c3, t3, w1, w2, w3⟩ := Cond.castable_spec hcast
  cases hcls.symm.trans w1
  cases hcL.symm.trans w2
  obtain ⟨vm₁, X₁, hstep₁⟩ := X.invokeinterface hexec hown hlink hn hrm hstR (by rw [hr0cls]; exact hkL) hiL hx (a := b) (cell := cellB) (kcell := kB) hcell
    (fun z h => by rw [h] at hobj; cases hobj) hkB (by rw [hr0cls]; exact w3) hselP hmethM hway hpubM habM (g := g) hg (argsL := argsL) (rest := rest) (hlen _ hsigR) hstack hdg
  rcases hK m meth c ⟨T.setVm vm₁, locs, cells, slots⟩ { g with stack := rest } (.invokeinterface index count) mk (Value.ref b :: argsL).toArray X₁ hg hsize hdg hW (X₁.named hnamed) (hpre vm₁ X₁.warmed) with ⟨v, B, X', hpost, hsteps⟩ | ⟨q, B, X', hpost, hsteps⟩
  · exact Or.inl ⟨v, vm₁, B, X₁.warmed, X', hpost, fun target h => hstep₁ _ fun acts => by rw [doInvoke_state]; exact hsteps.trans h⟩
  · exact Or.inr ⟨q, vm₁, B, X₁.warmed, X', hpost, hstep₁ _ fun acts => by rw [doInvoke_state]; exact hsteps⟩
theorem vx_runFW {x y : MethodName} {bytes cc : ByteArray} {maxL nL mc ms n index count : Nat} {ret : Option FieldType} {hh : List (Nat × Nat × Nat × Nat)} {ws : List Cond} {rm : Room} {Pc : Array Value → State → Prop} {Qc : Array Value → State → Outcome → State → Prop} {XC : String → State → State → Prop} {free : Addr → Prop} {Ts : List Cond} {own C : String} {cC : ClassId} {b : Addr} {As rest : List Value} {g : JFrame}
    (hat : ClassAt s C cC) (S : CallFix p m c cc nL s args Ts own) (hM : vx_Met l y ws rm Pc Qc XC mc ms free) (cw : va_CIW R s args own C index x y bytes maxL ret hh ws rm mc ms n) (hp : PreV s H C b Pc As)
    (hg : g.method = m) (hn : As.length = n) (hsize : g.locals.size = nL) (hstack : g.stack = As.reverse ++ .ref b :: rest) (hW : 2 * g.monitorRoom + (rest.map fun v => v.category).sum ≤ 8) (hdg : decode cc g.pc = .ok (.invokeinterface index count, 5)) (hf : cells + mc ≤ R.cells ∧ slots + ms ≤ R.slots) :
    vx_Run5 p l e R s m args below meth c H locs cells slots mc ms g rest (Qc (Value.ref b :: As).toArray) XC free := by
  obtain ⟨hrc, hrs, hfr, hlo, hws, hcw⟩ := cw.back
  have hini := cw.init
  have hK : vx_Back l R p e below s args y 5 8 (PreOf R mc ms Pc) (PostOf Qc mc ms free) (vx_Post XC mc ms free) := vx_backW (hh := hh) (bytes := bytes) (maxL := maxL) (ret := ret) hM hp.1 hrc hrs hfr hlo hws hcw (fun a' U hW => word_at hW (Or.inl (by first | rfl | simp [Cond.onTables, Cond.keeps, Cond.steady])) hini)
  obtain ⟨hx, hb, hml, ho, -⟩ := S
  obtain ⟨-, ⟨cellB, hcB, hoB, hclB⟩, hPc⟩ := hp
  obtain ⟨hfc, kB, hkB, -⟩ := hat
  cases hfc.symm.trans hclB
  intro T hT X
  rcases vx_callIFW X hx (C := C) (hh := hh) (bytes := bytes) (maxL := maxL) (ret := ret) ho cw.link cw.decl cw.face cw.sel cw.inst cw.pub cw.unh cw.cast cw.code cw.notMH hK (by rw [hT]; exact hcB) hoB hclB hkB hg (hsize.trans hml.symm) (argsL := As) (rest := rest) (fun sig h => hn.trans (cw.len sig h)) hstack hW (by rw [hb]; exact hdg)
    (fun vm₁ hW₁ => ⟨hf.1, hf.2, hPc (T.setVm vm₁) hT hW₁⟩) with ⟨v, vm₁, ⟨U', l2, c2, s2⟩, hW₁, X', ⟨g', mk, t, L, e1, e2, hq, h1, hL, h2, h3⟩, st⟩ | ⟨q, vm₁, ⟨U', l2, c2, s2⟩, hW₁, X', ⟨g', mk, t, L, E, ce, e1, e2, hq, hce, hcv, hcl, h1, hL, h2, h3⟩, st⟩
  · dsimp only [Pt.U, Pt.locs, Pt.cells, Pt.slots] at X' e1 e2 h1 h2 h3 st
    subst h1; subst h2; subst h3
    exact Or.inl ⟨v, (T.setVm vm₁).calling g' mk (Value.ref b :: As).toArray, t, U', L, hT, X', hL, e1, e2, hq, st⟩
  · dsimp only [Pt.U, Pt.locs, Pt.cells, Pt.slots] at X' e1 e2 h1 h2 h3 st hcl
    subst h1; subst h2; subst h3
    exact Or.inr ⟨q, (T.setVm vm₁).calling g' mk (Value.ref b :: As).toArray, t, U', L, E, ce, hT, X', hL, e1, e2, hq, hce, hcv, vx_cls hW₁ hcl, st⟩
end
/-! ===== END ===== -/
/-! ===== BEGIN .. of methods that hand back an object of the pool ===== -/
section
variable {p : Program} {l : Launch} {e : Env} {R : Room} {s : State} {m : MethodId} {args : Array Value} {below : List Frame} {meth : Method} {c : Code} {H : Heap} {locs : List Loc} {cells slots : Nat} {Q : State → Prop}
variable {mc ms : Nat} {free : Addr → Prop} {A0 A1 : Nat → Prop} {H0 : Heap} {a : Array Value} {pc : Nat} {ls : Array Slot} {st0 rest : List Value}
theorem vx_callq {S SX : Type} {post : Option Nat → S → Prop} {px : SX → Prop} {B : S → State → Prop} {BX : String → SX → State → Prop} {AX : Nat → Prop} (hr : vx_Run p l e R s m args below meth c H locs cells slots mc ms (F0 m pc ls st0) rest (va_Qq post B A1 a) (vx_X px BX AX) free) (hS : va_S A0 H0 H locs) (hA : ∀ q, q < H.size → A1 q → A0 q) (hf : ∀ q, free q → A0 q) (hAX : ∀ q, q < H.size → AX q → A0 q)
    (kx : ∀ (E : String) (ce : Cell) (q9 : Addr) (u : SX) (t : State) (H1 : Heap) (locs1 : List Loc), t.heap = H1 → s.vm.Alike t.vm → px u → BX E u t → H.size ≤ H1.size → (∀ q : Nat, q < H.size → ¬ AX q → H1[q]? = H[q]?) → va_S A0 H0 H1 locs1 → H1[q9]? = some ce → ce.vm = .none → s.vm.findClass E = some ce.cls → vx_W p l e R s m args below meth c H1 locs1 (cells + mc) (slots + ms) Q (F0 m pc ls rest) q9)
    (kk : ∀ (r : Option Nat) (u : S) (t : State) (H1 : Heap) (locs1 : List Loc), t.heap = H1 → s.vm.Alike t.vm → post r u → B u t → H.size ≤ H1.size → (∀ q : Nat, q < H.size → ¬ A1 q → H1[q]? = H[q]?) → va_S A0 H0 H1 locs1 → W p l e R s m args below meth c H1 locs1 (cells + mc) (slots + ms) Q (F0 m (pc + 3) ls (va_rf r :: rest))) : W p l e R s m args below meth c H locs cells slots Q (F0 m pc ls st0) := by
  intro T hT X
  rcases hr T hT X with ⟨v, st₀, t, T', L, h0, X', hL, e1, e2, ⟨⟨r, u, hv, hp, hb⟩, hF⟩, st⟩ | ⟨q, st₀, t, T', L, E, ce, h0, X', hL, e1, e2, ⟨u, hp, hb, hF⟩, hce, hcv, hcl, st⟩
  · cases hv
    obtain ⟨k1, k2, k3⟩ := vx_keep h0 e1 hS hA hf hL hF
    obtain ⟨t2, a1, b1⟩ := kk r u t T'.heap (locs ++ L) e1.symm (by rw [← e2]; exact X'.warmed.alike) hp hb k1 k2 k3 T' rfl X'
    exact ⟨t2, st t2 a1, b1⟩
  · obtain ⟨k1, k2, k3⟩ := vx_keep h0 e1 hS hAX hf hL hF
    obtain ⟨t2, a1, b1⟩ := kx E ce q u t T'.heap (locs ++ L) e1.symm (by rw [← e2]; exact X'.warmed.alike) hp hb k1 k2 k3 (by rw [e1]; exact hce) hcv hcl T' rfl X'
    exact ⟨t2, st.trans a1, b1⟩
end
/-! ===== END ===== -/
/-! ===== BEGIN .. a constant ===== -/
section
variable {p : Program} {l : Launch} {e : Env} {R : Room} {s : State} {m : MethodId} {args : Array Value} {below : List Frame} {meth : Method} {c : Code} {H : Heap} {locs : List Loc} {cells slots : Nat} {Q : State → Prop}
variable {mc ms : Nat} {free : Addr → Prop} {A0 A1 : Nat → Prop} {H0 : Heap} {a : Array Value} {pc : Nat} {ls : Array Slot} {st0 rest : List Value}
theorem vx_calle {ad : Nat → Nat} {S SX : Type} {post : Option Nat → S → Prop} {px : SX → Prop} {B : S → State → Prop} {BX : String → SX → State → Prop} {AX : Nat → Prop} (hr : vx_Run p l e R s m args below meth c H locs cells slots mc ms (F0 m pc ls st0) rest (va_Qe ad post B A1 a) (vx_X px BX AX) free) (hS : va_S A0 H0 H locs) (hA : ∀ q, q < H.size → A1 q → A0 q) (hf : ∀ q, free q → A0 q) (hAX : ∀ q, q < H.size → AX q → A0 q)
    (kx : ∀ (E : String) (ce : Cell) (q9 : Addr) (u : SX) (t : State) (H1 : Heap) (locs1 : List Loc), t.heap = H1 → s.vm.Alike t.vm → px u → BX E u t → H.size ≤ H1.size → (∀ q : Nat, q < H.size → ¬ AX q → H1[q]? = H[q]?) → va_S A0 H0 H1 locs1 → H1[q9]? = some ce → ce.vm = .none → s.vm.findClass E = some ce.cls → vx_W p l e R s m args below meth c H1 locs1 (cells + mc) (slots + ms) Q (F0 m pc ls rest) q9)
    (kk : ∀ (r : Option Nat) (u : S) (t : State) (H1 : Heap) (locs1 : List Loc), t.heap = H1 → s.vm.Alike t.vm → post r u → B u t → H.size ≤ H1.size → (∀ q : Nat, q < H.size → ¬ A1 q → H1[q]? = H[q]?) → va_S A0 H0 H1 locs1 → W p l e R s m args below meth c H1 locs1 (cells + mc) (slots + ms) Q (F0 m (pc + 3) ls (va_re ad r :: rest))) : W p l e R s m args below meth c H locs cells slots Q (F0 m pc ls st0) := by
  intro T hT X
  rcases hr T hT X with ⟨v, st₀, t, T', L, h0, X', hL, e1, e2, ⟨⟨r, u, hv, hp, hb⟩, hF⟩, st⟩ | ⟨q, st₀, t, T', L, E, ce, h0, X', hL, e1, e2, ⟨u, hp, hb, hF⟩, hce, hcv, hcl, st⟩
  · cases hv
    obtain ⟨k1, k2, k3⟩ := vx_keep h0 e1 hS hA hf hL hF
    obtain ⟨t2, a1, b1⟩ := kk r u t T'.heap (locs ++ L) e1.symm (by rw [← e2]; exact X'.warmed.alike) hp hb k1 k2 k3 T' rfl X'
    exact ⟨t2, st t2 a1, b1⟩
  · obtain ⟨k1, k2, k3⟩ := vx_keep h0 e1 hS hAX hf hL hF
    obtain ⟨t2, a1, b1⟩ := kx E ce q u t T'.heap (locs ++ L) e1.symm (by rw [← e2]; exact X'.warmed.alike) hp hb k1 k2 k3 (by rw [e1]; exact hce) hcv hcl T' rfl X'
    exact ⟨t2, st.trans a1, b1⟩
end
/-! ===== END ===== -/
/-! ===== BEGIN .. by an interface, an object ===== -/
section
variable {p : Program} {l : Launch} {e : Env} {R : Room} {s : State} {m : MethodId} {args : Array Value} {below : List Frame} {meth : Method} {c : Code} {H : Heap} {locs : List Loc} {cells slots : Nat} {Q : State → Prop}
variable {mc ms : Nat} {free : Addr → Prop} {A0 A1 : Nat → Prop} {H0 : Heap} {a : Array Value} {pc : Nat} {ls : Array Slot} {st0 rest : List Value}
theorem vx_callFq {S SX : Type} {post : Option Nat → S → Prop} {px : SX → Prop} {B : S → State → Prop} {BX : String → SX → State → Prop} {AX : Nat → Prop} (hr : vx_Run5 p l e R s m args below meth c H locs cells slots mc ms (F0 m pc ls st0) rest (va_Qq post B A1 a) (vx_X px BX AX) free) (hS : va_S A0 H0 H locs) (hA : ∀ q, q < H.size → A1 q → A0 q) (hf : ∀ q, free q → A0 q) (hAX : ∀ q, q < H.size → AX q → A0 q)
    (kx : ∀ (E : String) (ce : Cell) (q9 : Addr) (u : SX) (t : State) (H1 : Heap) (locs1 : List Loc), t.heap = H1 → s.vm.Alike t.vm → px u → BX E u t → H.size ≤ H1.size → (∀ q : Nat, q < H.size → ¬ AX q → H1[q]? = H[q]?) → va_S A0 H0 H1 locs1 → H1[q9]? = some ce → ce.vm = .none → s.vm.findClass E = some ce.cls → vx_W p l e R s m args below meth c H1 locs1 (cells + mc) (slots + ms) Q (F0 m pc ls rest) q9)
    (kk : ∀ (r : Option Nat) (u : S) (t : State) (H1 : Heap) (locs1 : List Loc), t.heap = H1 → s.vm.Alike t.vm → post r u → B u t → H.size ≤ H1.size → (∀ q : Nat, q < H.size → ¬ A1 q → H1[q]? = H[q]?) → va_S A0 H0 H1 locs1 → W p l e R s m args below meth c H1 locs1 (cells + mc) (slots + ms) Q (F0 m (pc + 5) ls (va_rf r :: rest))) : W p l e R s m args below meth c H locs cells slots Q (F0 m pc ls st0) := by
  intro T hT X
  rcases hr T hT X with ⟨v, st₀, t, T', L, h0, X', hL, e1, e2, ⟨⟨r, u, hv, hp, hb⟩, hF⟩, st⟩ | ⟨q, st₀, t, T', L, E, ce, h0, X', hL, e1, e2, ⟨u, hp, hb, hF⟩, hce, hcv, hcl, st⟩
  · cases hv
    obtain ⟨k1, k2, k3⟩ := vx_keep h0 e1 hS hA hf hL hF
    obtain ⟨t2, a1, b1⟩ := kk r u t T'.heap (locs ++ L) e1.symm (by rw [← e2]; exact X'.warmed.alike) hp hb k1 k2 k3 T' rfl X'
    exact ⟨t2, st t2 a1, b1⟩
  · obtain ⟨k1, k2, k3⟩ := vx_keep h0 e1 hS hAX hf hL hF
    obtain ⟨t2, a1, b1⟩ := kx E ce q u t T'.heap (locs ++ L) e1.symm (by rw [← e2]; exact X'.warmed.alike) hp hb k1 k2 k3 (by rw [e1]; exact hce) hcv hcl T' rfl X'
    exact ⟨t2, st.trans a1, b1⟩
end
/-! ===== END ===== -/
/-! ===== BEGIN .. by an interface, a constant ===== -/
section
variable {p : Program} {l : Launch} {e : Env} {R : Room} {s : State} {m : MethodId} {args : Array Value} {below : List Frame} {meth : Method} {c : Code} {H : Heap} {locs : List Loc} {cells slots : Nat} {Q : State → Prop}
variable {mc ms : Nat} {free : Addr → Prop} {A0 A1 : Nat → Prop} {H0 : Heap} {a : Array Value} {pc : Nat} {ls : Array Slot} {st0 rest : List Value}
theorem vx_callFe {ad : Nat → Nat} {S SX : Type} {post : Option Nat → S → Prop} {px : SX → Prop} {B : S → State → Prop} {BX : String → SX → State → Prop} {AX : Nat → Prop} (hr : vx_Run5 p l e R s m args below meth c H locs cells slots mc ms (F0 m pc ls st0) rest (va_Qe ad post B A1 a) (vx_X px BX AX) free) (hS : va_S A0 H0 H locs) (hA : ∀ q, q < H.size → A1 q → A0 q) (hf : ∀ q, free q → A0 q) (hAX : ∀ q, q < H.size → AX q → A0 q)
    (kx : ∀ (E : String) (ce : Cell) (q9 : Addr) (u : SX) (t : State) (H1 : Heap) (locs1 : List Loc), t.heap = H1 → s.vm.Alike t.vm → px u → BX E u t → H.size ≤ H1.size → (∀ q : Nat, q < H.size → ¬ AX q → H1[q]? = H[q]?) → va_S A0 H0 H1 locs1 → H1[q9]? = some ce → ce.vm = .none → s.vm.findClass E = some ce.cls → vx_W p l e R s m args below meth c H1 locs1 (cells + mc) (slots + ms) Q (F0 m pc ls rest) q9)
    (kk : ∀ (r : Option Nat) (u : S) (t : State) (H1 : Heap) (locs1 : List Loc), t.heap = H1 → s.vm.Alike t.vm → post r u → B u t → H.size ≤ H1.size → (∀ q : Nat, q < H.size → ¬ A1 q → H1[q]? = H[q]?) → va_S A0 H0 H1 locs1 → W p l e R s m args below meth c H1 locs1 (cells + mc) (slots + ms) Q (F0 m (pc + 5) ls (va_re ad r :: rest))) : W p l e R s m args below meth c H locs cells slots Q (F0 m pc ls st0) := by
  intro T hT X
  rcases hr T hT X with ⟨v, st₀, t, T', L, h0, X', hL, e1, e2, ⟨⟨r, u, hv, hp, hb⟩, hF⟩, st⟩ | ⟨q, st₀, t, T', L, E, ce, h0, X', hL, e1, e2, ⟨u, hp, hb, hF⟩, hce, hcv, hcl, st⟩
  · cases hv
    obtain ⟨k1, k2, k3⟩ := vx_keep h0 e1 hS hA hf hL hF
    obtain ⟨t2, a1, b1⟩ := kk r u t T'.heap (locs ++ L) e1.symm (by rw [← e2]; exact X'.warmed.alike) hp hb k1 k2 k3 T' rfl X'
    exact ⟨t2, st t2 a1, b1⟩
  · obtain ⟨k1, k2, k3⟩ := vx_keep h0 e1 hS hAX hf hL hF
    obtain ⟨t2, a1, b1⟩ := kx E ce q u t T'.heap (locs ++ L) e1.symm (by rw [← e2]; exact X'.warmed.alike) hp hb k1 k2 k3 (by rw [e1]; exact hce) hcv hcl T' rfl X'
    exact ⟨t2, st.trans a1, b1⟩
end
/-! ===== END ===== -/
/-! ===== BEGIN what the machine throws by itself: null at a field, at athrow ===== -/
section VXM2
variable {p : Program} {l : Launch} {e : Env} {R : Room} {s : State} {m : MethodId} {args : Array Value} {below : List Frame} {meth : Method} {c : Code} {H : Heap} {locs : List Loc} {cells slots : Nat}
variable {Q : State → Prop} {cc : ByteArray} {pc : Nat} {ls : Array Slot} {rest : List Value}
theorem vx_getfN {D cl tys} {own ref C : String} {T : u_T} {N ci index : Nat} {Ts : List Cond} (hexec : p.tables.exec = Jvm.exec) (hb : c.code = cc) (hts : ∀ w ∈ Ts, w.before args s = true) (hin : ∀ w ∈ u_ws C T N, w ∈ Ts) (hown : s.vm.findClass own = some m.cls) (hK : va_K D cl tys s) (hc : cl[ci]? = some (C, T, N)) (k : Nat) (hk : k < N) (hlink : (Cond.fieldLink own index ref (T k).2.1 (T k).2.2.1).before args s = true) (hsame : ∀ x, s.fieldFound? (T k).1 (T k).2.1 (T k).2.2.1 = some x → s.fieldFound? ref (T k).2.1 (T k).2.2.1 = some x) (hdg : decode cc pc = .ok (.getfield index, 3)) (kk : vx_NoteN p l e R s m args below meth c H locs cells slots Q (F0 m pc ls rest)) : W p l e R s m args below meth c H locs cells slots Q (F0 m pc ls (.null :: rest)) := by
  obtain ⟨hS, hfc, kC, hkC, -⟩ := hK.1 ci _ hc
  obtain ⟨cf, kf, fi, f, hi, -⟩ := hS k hk
  intro U hU X
  obtain ⟨vm', X1, st1⟩ := X.getfieldNull hexec hown hlink (hsame _ hi) (u_facts hfc hkC (u_lays hts hin hk) hi).1 (g := F0 m pc ls (.null :: rest)) rfl (rest := rest) rfl (by rw [hb]; exact hdg)
  obtain ⟨t, st, q⟩ := kk (U.setVm vm') hU X1
  exact ⟨t, st1 t st, q⟩
theorem vx_getfNN {D cl tys} {own ref C host : String} {T : u_T} {N ci index : Nat} {Ts : List Cond} (hexec : p.tables.exec = Jvm.exec) (hb : c.code = cc) (hts : ∀ w ∈ Ts, w.before args s = true) (hin : ∀ w ∈ u_ws C T N, w ∈ Ts) (hown : s.vm.findClass own = some m.cls) (hK : va_K D cl tys s) (hc : cl[ci]? = some (C, T, N)) (k : Nat) (hk : k < N) (hlink : (Cond.fieldLinkNest own index ref (T k).2.1 (T k).2.2.1 host).before args s = true) (hsame : ∀ x, s.fieldFound? (T k).1 (T k).2.1 (T k).2.2.1 = some x → s.fieldFound? ref (T k).2.1 (T k).2.2.1 = some x) (hdg : decode cc pc = .ok (.getfield index, 3)) (kk : vx_NoteN p l e R s m args below meth c H locs cells slots Q (F0 m pc ls rest)) : W p l e R s m args below meth c H locs cells slots Q (F0 m pc ls (.null :: rest)) := by
  obtain ⟨hS, hfc, kC, hkC, -⟩ := hK.1 ci _ hc
  obtain ⟨cf, kf, fi, f, hi, -⟩ := hS k hk
  intro U hU X
  obtain ⟨vm', X1, st1⟩ := X.getfieldNullNest hexec hown hlink (hsame _ hi) (u_facts hfc hkC (u_lays hts hin hk) hi).1 (g := F0 m pc ls (.null :: rest)) rfl (rest := rest) rfl (by rw [hb]; exact hdg)
  obtain ⟨t, st, q⟩ := kk (U.setVm vm') hU X1
  exact ⟨t, st1 t st, q⟩
theorem vx_putfN {D cl tys} {own ref C : String} {T : u_T} {N ci index : Nat} {Ts : List Cond} (hexec : p.tables.exec = Jvm.exec) (hb : c.code = cc) (hts : ∀ w ∈ Ts, w.before args s = true) (hin : ∀ w ∈ u_ws C T N, w ∈ Ts) (hown : s.vm.findClass own = some m.cls) (hK : va_K D cl tys s) (hc : cl[ci]? = some (C, T, N)) (k : Nat) (hk : k < N) (hlink : (Cond.fieldLink own index ref (T k).2.1 (T k).2.2.1).before args s = true) (hsame : ∀ x, s.fieldFound? (T k).1 (T k).2.1 (T k).2.2.1 = some x → s.fieldFound? ref (T k).2.1 (T k).2.2.1 = some x) (hfin : (T k).2.2.2 = false) {v : Value} (hdg : decode cc pc = .ok (.putfield index, 3)) (kk : vx_NoteN p l e R s m args below meth c H locs cells slots Q (F0 m pc ls rest)) : W p l e R s m args below meth c H locs cells slots Q (F0 m pc ls (v :: .null :: rest)) := by
  obtain ⟨hS, hfc, kC, hkC, -⟩ := hK.1 ci _ hc
  obtain ⟨cf, kf, fi, f, hi, -⟩ := hS k hk
  have hlay := hts _ (hin _ (u_in_lay hk))
  unfold u_lay at hlay
  rw [if_neg (by rw [hfin]; decide)] at hlay
  obtain ⟨c9, k9, cf9, kf9, fi9, f9, -, -, hi9, hst9, hnf9, -⟩ := Cond.lays_spec hlay
  cases hi.symm.trans hi9
  intro U hU X
  obtain ⟨vm', X1, st1⟩ := X.putfieldNull hexec hown hlink (hsame _ hi) hst9 hnf9 (g := F0 m pc ls (v :: .null :: rest)) rfl (v := v) (rest := rest) rfl (by rw [hb]; exact hdg)
  obtain ⟨t, st, q⟩ := kk (U.setVm vm') hU X1
  exact ⟨t, st1 t st, q⟩
theorem vx_putfNN {D cl tys} {own ref C host : String} {T : u_T} {N ci index : Nat} {Ts : List Cond} (hexec : p.tables.exec = Jvm.exec) (hb : c.code = cc) (hts : ∀ w ∈ Ts, w.before args s = true) (hin : ∀ w ∈ u_ws C T N, w ∈ Ts) (hown : s.vm.findClass own = some m.cls) (hK : va_K D cl tys s) (hc : cl[ci]? = some (C, T, N)) (k : Nat) (hk : k < N) (hlink : (Cond.fieldLinkNest own index ref (T k).2.1 (T k).2.2.1 host).before args s = true) (hsame : ∀ x, s.fieldFound? (T k).1 (T k).2.1 (T k).2.2.1 = some x → s.fieldFound? ref (T k).2.1 (T k).2.2.1 = some x) (hfin : (T k).2.2.2 = false) {v : Value} (hdg : decode cc pc = .ok (.putfield index, 3)) (kk : vx_NoteN p l e R s m args below meth c H locs cells slots Q (F0 m pc ls rest)) : W p l e R s m args below meth c H locs cells slots Q (F0 m pc ls (v :: .null :: rest)) := by
  obtain ⟨hS, hfc, kC, hkC, -⟩ := hK.1 ci _ hc
  obtain ⟨cf, kf, fi, f, hi, -⟩ := hS k hk
  have hlay := hts _ (hin _ (u_in_lay hk))
  unfold u_lay at hlay
  rw [if_neg (by rw [hfin]; decide)] at hlay
  obtain ⟨c9, k9, cf9, kf9, fi9, f9, -, -, hi9, hst9, hnf9, -⟩ := Cond.lays_spec hlay
  cases hi.symm.trans hi9
  intro U hU X
  obtain ⟨vm', X1, st1⟩ := X.putfieldNullNest hexec hown hlink (hsame _ hi) hst9 hnf9 (g := F0 m pc ls (v :: .null :: rest)) rfl (v := v) (rest := rest) rfl (by rw [hb]; exact hdg)
  obtain ⟨t, st, q⟩ := kk (U.setVm vm') hU X1
  exact ⟨t, st1 t st, q⟩
theorem vx_athrowN (hexec : p.tables.exec = Jvm.exec) (hb : c.code = cc) (hdg : decode cc pc = .ok (.athrow, 1)) (k : vx_NoteN p l e R s m args below meth c H locs cells slots Q (F0 m pc ls rest)) : W p l e R s m args below meth c H locs cells slots Q (F0 m pc ls (.null :: rest)) := by
  intro T hT X
  obtain ⟨t, st, q⟩ := k T hT X
  exact ⟨t, X.athrowNull hexec (g := F0 m pc ls (.null :: rest)) rfl (rest := rest) rfl (by rw [hb]; exact hdg) t st, q⟩
end VXM2
/-! ===== END ===== -/
end
section
theorem dX0_init_0 : decode cX0_init 0 = .ok (.aload_n 0, 1) := by decide +kernel
theorem dX0_init_1 : decode cX0_init 1 = .ok (.invokespecial 3, 3) := by decide +kernel
theorem dX0_init_4 : decode cX0_init 4 = .ok (.aload_n 0, 1) := by decide +kernel
theorem dX0_init_5 : decode cX0_init 5 = .ok (.bipush 31, 2) := by decide +kernel
theorem dX0_init_7 : decode cX0_init 7 = .ok (.putfield 9, 3) := by decide +kernel
theorem dX0_init_10 : decode cX0_init 10 = .ok (.aload_n 0, 1) := by decide +kernel
theorem dX0_init_11 : decode cX0_init 11 = .ok (.sipush 1000, 3) := by decide +kernel
theorem dX0_init_14 : decode cX0_init 14 = .ok (.newarray .boolean, 2) := by decide +kernel
theorem dX0_init_16 : decode cX0_init 16 = .ok (.putfield 15, 3) := by decide +kernel
theorem dX0_init_19 : decode cX0_init 19 = .ok (.return_, 1) := by decide +kernel
theorem dX0_copyFrom_0 : decode cX0_copyFrom 0 = .ok (.aload_n 0, 1) := by decide +kernel
theorem dX0_copyFrom_1 : decode cX0_copyFrom 1 = .ok (.aload_n 1, 1) := by decide +kernel
theorem dX0_copyFrom_2 : decode cX0_copyFrom 2 = .ok (.getfield 9, 3) := by decide +kernel
theorem dX0_copyFrom_5 : decode cX0_copyFrom 5 = .ok (.putfield 9, 3) := by decide +kernel
theorem dX0_copyFrom_8 : decode cX0_copyFrom 8 = .ok (.aload_n 0, 1) := by decide +kernel
theorem dX0_copyFrom_9 : decode cX0_copyFrom 9 = .ok (.aload_n 1, 1) := by decide +kernel
theorem dX0_copyFrom_10 : decode cX0_copyFrom 10 = .ok (.getfield 19, 3) := by decide +kernel
theorem dX0_copyFrom_13 : decode cX0_copyFrom 13 = .ok (.putfield 19, 3) := by decide +kernel
theorem dX0_copyFrom_16 : decode cX0_copyFrom 16 = .ok (.aload_n 1, 1) := by decide +kernel
theorem dX0_copyFrom_17 : decode cX0_copyFrom 17 = .ok (.getfield 15, 3) := by decide +kernel
theorem dX0_copyFrom_20 : decode cX0_copyFrom 20 = .ok (.iconst 0, 1) := by decide +kernel
theorem dX0_copyFrom_21 : decode cX0_copyFrom 21 = .ok (.aload_n 0, 1) := by decide +kernel
theorem dX0_copyFrom_22 : decode cX0_copyFrom 22 = .ok (.getfield 15, 3) := by decide +kernel
theorem dX0_copyFrom_25 : decode cX0_copyFrom 25 = .ok (.iconst 0, 1) := by decide +kernel
theorem dX0_copyFrom_26 : decode cX0_copyFrom 26 = .ok (.sipush 1000, 3) := by decide +kernel
theorem dX0_copyFrom_29 : decode cX0_copyFrom 29 = .ok (.invokestatic 22, 3) := by decide +kernel
theorem dX0_copyFrom_32 : decode cX0_copyFrom 32 = .ok (.return_, 1) := by decide +kernel
theorem dX0_worksOn_0 : decode cX0_worksOn 0 = .ok (.iload_n 1, 1) := by decide +kernel
theorem dX0_worksOn_1 : decode cX0_worksOn 1 = .ok (.ifCond .lt 17, 3) := by decide +kernel
theorem dX0_worksOn_4 : decode cX0_worksOn 4 = .ok (.aload_n 0, 1) := by decide +kernel
theorem dX0_worksOn_5 : decode cX0_worksOn 5 = .ok (.getfield 9, 3) := by decide +kernel
theorem dX0_worksOn_8 : decode cX0_worksOn 8 = .ok (.iload_n 1, 1) := by decide +kernel
theorem dX0_worksOn_9 : decode cX0_worksOn 9 = .ok (.bipush 7, 2) := by decide +kernel
theorem dX0_worksOn_11 : decode cX0_worksOn 11 = .ok (.irem, 1) := by decide +kernel
theorem dX0_worksOn_12 : decode cX0_worksOn 12 = .ok (.ishr, 1) := by decide +kernel
theorem dX0_worksOn_13 : decode cX0_worksOn 13 = .ok (.iconst 1, 1) := by decide +kernel
theorem dX0_worksOn_14 : decode cX0_worksOn 14 = .ok (.iand, 1) := by decide +kernel
theorem dX0_worksOn_15 : decode cX0_worksOn 15 = .ok (.ifCond .ne 5, 3) := by decide +kernel
theorem dX0_worksOn_18 : decode cX0_worksOn 18 = .ok (.iconst 0, 1) := by decide +kernel
theorem dX0_worksOn_19 : decode cX0_worksOn 19 = .ok (.ireturn, 1) := by decide +kernel
theorem dX0_worksOn_20 : decode cX0_worksOn 20 = .ok (.iload_n 1, 1) := by decide +kernel
theorem dX0_worksOn_21 : decode cX0_worksOn 21 = .ok (.sipush 1000, 3) := by decide +kernel
theorem dX0_worksOn_24 : decode cX0_worksOn 24 = .ok (.if_icmp .ge 12, 3) := by decide +kernel
theorem dX0_worksOn_27 : decode cX0_worksOn 27 = .ok (.aload_n 0, 1) := by decide +kernel
theorem dX0_worksOn_28 : decode cX0_worksOn 28 = .ok (.getfield 15, 3) := by decide +kernel
theorem dX0_worksOn_31 : decode cX0_worksOn 31 = .ok (.iload_n 1, 1) := by decide +kernel
theorem dX0_worksOn_32 : decode cX0_worksOn 32 = .ok (.baload, 1) := by decide +kernel
theorem dX0_worksOn_33 : decode cX0_worksOn 33 = .ok (.ifCond .ne 7, 3) := by decide +kernel
theorem dX0_worksOn_36 : decode cX0_worksOn 36 = .ok (.iconst 1, 1) := by decide +kernel
theorem dX0_worksOn_37 : decode cX0_worksOn 37 = .ok (.goto 4, 3) := by decide +kernel
theorem dX0_worksOn_40 : decode cX0_worksOn 40 = .ok (.iconst 0, 1) := by decide +kernel
theorem dX0_worksOn_41 : decode cX0_worksOn 41 = .ok (.ireturn, 1) := by decide +kernel
theorem dX0_firstFrom_0 : decode cX0_firstFrom 0 = .ok (.iload_n 1, 1) := by decide +kernel
theorem dX0_firstFrom_1 : decode cX0_firstFrom 1 = .ok (.iconst 0, 1) := by decide +kernel
theorem dX0_firstFrom_2 : decode cX0_firstFrom 2 = .ok (.invokestatic 28, 3) := by decide +kernel
theorem dX0_firstFrom_5 : decode cX0_firstFrom 5 = .ok (.istore_n 2, 1) := by decide +kernel
theorem dX0_firstFrom_6 : decode cX0_firstFrom 6 = .ok (.iload_n 2, 1) := by decide +kernel
theorem dX0_firstFrom_7 : decode cX0_firstFrom 7 = .ok (.sipush 5000, 3) := by decide +kernel
theorem dX0_firstFrom_10 : decode cX0_firstFrom 10 = .ok (.if_icmp .ge 17, 3) := by decide +kernel
theorem dX0_firstFrom_13 : decode cX0_firstFrom 13 = .ok (.aload_n 0, 1) := by decide +kernel
theorem dX0_firstFrom_14 : decode cX0_firstFrom 14 = .ok (.iload_n 2, 1) := by decide +kernel
theorem dX0_firstFrom_15 : decode cX0_firstFrom 15 = .ok (.invokevirtual 34, 3) := by decide +kernel
theorem dX0_firstFrom_18 : decode cX0_firstFrom 18 = .ok (.ifCond .ne 9, 3) := by decide +kernel
theorem dX0_firstFrom_21 : decode cX0_firstFrom 21 = .ok (.iinc 2 1, 3) := by decide +kernel
theorem dX0_firstFrom_24 : decode cX0_firstFrom 24 = .ok (.goto (-18), 3) := by decide +kernel
theorem dX0_firstFrom_27 : decode cX0_firstFrom 27 = .ok (.iload_n 2, 1) := by decide +kernel
theorem dX0_firstFrom_28 : decode cX0_firstFrom 28 = .ok (.ireturn, 1) := by decide +kernel
theorem dX0_countBack_0 : decode cX0_countBack 0 = .ok (.iload_n 2, 1) := by decide +kernel
theorem dX0_countBack_1 : decode cX0_countBack 1 = .ok (.istore_n 3, 1) := by decide +kernel
theorem dX0_countBack_2 : decode cX0_countBack 2 = .ok (.iload_n 1, 1) := by decide +kernel
theorem dX0_countBack_3 : decode cX0_countBack 3 = .ok (.istore 4, 2) := by decide +kernel
theorem dX0_countBack_5 : decode cX0_countBack 5 = .ok (.iload 4, 2) := by decide +kernel
theorem dX0_countBack_7 : decode cX0_countBack 7 = .ok (.ifCond .lt 28, 3) := by decide +kernel
theorem dX0_countBack_10 : decode cX0_countBack 10 = .ok (.aload_n 0, 1) := by decide +kernel
theorem dX0_countBack_11 : decode cX0_countBack 11 = .ok (.iload 4, 2) := by decide +kernel
theorem dX0_countBack_13 : decode cX0_countBack 13 = .ok (.invokevirtual 34, 3) := by decide +kernel
theorem dX0_countBack_16 : decode cX0_countBack 16 = .ok (.ifCond .eq 13, 3) := by decide +kernel
theorem dX0_countBack_19 : decode cX0_countBack 19 = .ok (.iinc 3 (-1), 3) := by decide +kernel
theorem dX0_countBack_22 : decode cX0_countBack 22 = .ok (.iload_n 3, 1) := by decide +kernel
theorem dX0_countBack_23 : decode cX0_countBack 23 = .ok (.ifCond .gt 6, 3) := by decide +kernel
theorem dX0_countBack_26 : decode cX0_countBack 26 = .ok (.iload 4, 2) := by decide +kernel
theorem dX0_countBack_28 : decode cX0_countBack 28 = .ok (.ireturn, 1) := by decide +kernel
theorem dX0_countBack_29 : decode cX0_countBack 29 = .ok (.iinc 4 (-1), 3) := by decide +kernel
theorem dX0_countBack_32 : decode cX0_countBack 32 = .ok (.goto (-27), 3) := by decide +kernel
theorem dX0_countBack_35 : decode cX0_countBack 35 = .ok (.iconst (-1), 1) := by decide +kernel
theorem dX0_countBack_36 : decode cX0_countBack 36 = .ok (.ireturn, 1) := by decide +kernel
theorem dX0_countWithin_0 : decode cX0_countWithin 0 = .ok (.iconst 0, 1) := by decide +kernel
theorem dX0_countWithin_1 : decode cX0_countWithin 1 = .ok (.istore_n 3, 1) := by decide +kernel
theorem dX0_countWithin_2 : decode cX0_countWithin 2 = .ok (.iload_n 1, 1) := by decide +kernel
theorem dX0_countWithin_3 : decode cX0_countWithin 3 = .ok (.istore 4, 2) := by decide +kernel
theorem dX0_countWithin_5 : decode cX0_countWithin 5 = .ok (.iload 4, 2) := by decide +kernel
theorem dX0_countWithin_7 : decode cX0_countWithin 7 = .ok (.iload_n 2, 1) := by decide +kernel
theorem dX0_countWithin_8 : decode cX0_countWithin 8 = .ok (.if_icmp .ge 21, 3) := by decide +kernel
theorem dX0_countWithin_11 : decode cX0_countWithin 11 = .ok (.aload_n 0, 1) := by decide +kernel
theorem dX0_countWithin_12 : decode cX0_countWithin 12 = .ok (.iload 4, 2) := by decide +kernel
theorem dX0_countWithin_14 : decode cX0_countWithin 14 = .ok (.invokevirtual 34, 3) := by decide +kernel
theorem dX0_countWithin_17 : decode cX0_countWithin 17 = .ok (.ifCond .eq 6, 3) := by decide +kernel
theorem dX0_countWithin_20 : decode cX0_countWithin 20 = .ok (.iinc 3 1, 3) := by decide +kernel
theorem dX0_countWithin_23 : decode cX0_countWithin 23 = .ok (.iinc 4 1, 3) := by decide +kernel
theorem dX0_countWithin_26 : decode cX0_countWithin 26 = .ok (.goto (-21), 3) := by decide +kernel
theorem dX0_countWithin_29 : decode cX0_countWithin 29 = .ok (.iload_n 3, 1) := by decide +kernel
theorem dX0_countWithin_30 : decode cX0_countWithin 30 = .ok (.ireturn, 1) := by decide +kernel
theorem dX0_endOf_0 : decode cX0_endOf 0 = .ok (.iload_n 1, 1) := by decide +kernel
theorem dX0_endOf_1 : decode cX0_endOf 1 = .ok (.istore_n 3, 1) := by decide +kernel
theorem dX0_endOf_2 : decode cX0_endOf 2 = .ok (.iload_n 2, 1) := by decide +kernel
theorem dX0_endOf_3 : decode cX0_endOf 3 = .ok (.istore 4, 2) := by decide +kernel
theorem dX0_endOf_5 : decode cX0_endOf 5 = .ok (.iload 4, 2) := by decide +kernel
theorem dX0_endOf_7 : decode cX0_endOf 7 = .ok (.ifCond .le 27, 3) := by decide +kernel
theorem dX0_endOf_10 : decode cX0_endOf 10 = .ok (.iload_n 3, 1) := by decide +kernel
theorem dX0_endOf_11 : decode cX0_endOf 11 = .ok (.sipush 5000, 3) := by decide +kernel
theorem dX0_endOf_14 : decode cX0_endOf 14 = .ok (.if_icmp .ge 20, 3) := by decide +kernel
theorem dX0_endOf_17 : decode cX0_endOf 17 = .ok (.aload_n 0, 1) := by decide +kernel
theorem dX0_endOf_18 : decode cX0_endOf 18 = .ok (.iload_n 3, 1) := by decide +kernel
theorem dX0_endOf_19 : decode cX0_endOf 19 = .ok (.invokevirtual 34, 3) := by decide +kernel
theorem dX0_endOf_22 : decode cX0_endOf 22 = .ok (.ifCond .eq 6, 3) := by decide +kernel
theorem dX0_endOf_25 : decode cX0_endOf 25 = .ok (.iinc 4 (-1), 3) := by decide +kernel
theorem dX0_endOf_28 : decode cX0_endOf 28 = .ok (.iinc 3 1, 3) := by decide +kernel
theorem dX0_endOf_31 : decode cX0_endOf 31 = .ok (.goto (-26), 3) := by decide +kernel
theorem dX0_endOf_34 : decode cX0_endOf 34 = .ok (.iload_n 3, 1) := by decide +kernel
theorem dX0_endOf_35 : decode cX0_endOf 35 = .ok (.ireturn, 1) := by decide +kernel
theorem dX0_firstBegin_0 : decode cX0_firstBegin 0 = .ok (.iload_n 1, 1) := by decide +kernel
theorem dX0_firstBegin_1 : decode cX0_firstBegin 1 = .ok (.ifCond .ne 9, 3) := by decide +kernel
theorem dX0_firstBegin_4 : decode cX0_firstBegin 4 = .ok (.iload_n 2, 1) := by decide +kernel
theorem dX0_firstBegin_5 : decode cX0_firstBegin 5 = .ok (.iload_n 3, 1) := by decide +kernel
theorem dX0_firstBegin_6 : decode cX0_firstBegin 6 = .ok (.invokestatic 28, 3) := by decide +kernel
theorem dX0_firstBegin_9 : decode cX0_firstBegin 9 = .ok (.ireturn, 1) := by decide +kernel
theorem dX0_firstBegin_10 : decode cX0_firstBegin 10 = .ok (.aload_n 0, 1) := by decide +kernel
theorem dX0_firstBegin_11 : decode cX0_firstBegin 11 = .ok (.iload_n 2, 1) := by decide +kernel
theorem dX0_firstBegin_12 : decode cX0_firstBegin 12 = .ok (.invokevirtual 38, 3) := by decide +kernel
theorem dX0_firstBegin_15 : decode cX0_firstBegin 15 = .ok (.aload_n 0, 1) := by decide +kernel
theorem dX0_firstBegin_16 : decode cX0_firstBegin 16 = .ok (.aload_n 0, 1) := by decide +kernel
theorem dX0_firstBegin_17 : decode cX0_firstBegin 17 = .ok (.iload_n 3, 1) := by decide +kernel
theorem dX0_firstBegin_18 : decode cX0_firstBegin 18 = .ok (.iconst 1, 1) := by decide +kernel
theorem dX0_firstBegin_19 : decode cX0_firstBegin 19 = .ok (.isub, 1) := by decide +kernel
theorem dX0_firstBegin_20 : decode cX0_firstBegin 20 = .ok (.invokevirtual 38, 3) := by decide +kernel
theorem dX0_firstBegin_23 : decode cX0_firstBegin 23 = .ok (.iload_n 1, 1) := by decide +kernel
theorem dX0_firstBegin_24 : decode cX0_firstBegin 24 = .ok (.invokevirtual 42, 3) := by decide +kernel
theorem dX0_firstBegin_27 : decode cX0_firstBegin 27 = .ok (.invokestatic 28, 3) := by decide +kernel
theorem dX0_firstBegin_30 : decode cX0_firstBegin 30 = .ok (.ireturn, 1) := by decide +kernel
theorem dX0_latestBegin_0 : decode cX0_latestBegin 0 = .ok (.iload_n 1, 1) := by decide +kernel
theorem dX0_latestBegin_1 : decode cX0_latestBegin 1 = .ok (.ifCond .ne 9, 3) := by decide +kernel
theorem dX0_latestBegin_4 : decode cX0_latestBegin 4 = .ok (.iload_n 2, 1) := by decide +kernel
theorem dX0_latestBegin_5 : decode cX0_latestBegin 5 = .ok (.iload_n 3, 1) := by decide +kernel
theorem dX0_latestBegin_6 : decode cX0_latestBegin 6 = .ok (.invokestatic 45, 3) := by decide +kernel
theorem dX0_latestBegin_9 : decode cX0_latestBegin 9 = .ok (.ireturn, 1) := by decide +kernel
theorem dX0_latestBegin_10 : decode cX0_latestBegin 10 = .ok (.aload_n 0, 1) := by decide +kernel
theorem dX0_latestBegin_11 : decode cX0_latestBegin 11 = .ok (.iload_n 2, 1) := by decide +kernel
theorem dX0_latestBegin_12 : decode cX0_latestBegin 12 = .ok (.iconst 1, 1) := by decide +kernel
theorem dX0_latestBegin_13 : decode cX0_latestBegin 13 = .ok (.invokevirtual 42, 3) := by decide +kernel
theorem dX0_latestBegin_16 : decode cX0_latestBegin 16 = .ok (.aload_n 0, 1) := by decide +kernel
theorem dX0_latestBegin_17 : decode cX0_latestBegin 17 = .ok (.iload_n 3, 1) := by decide +kernel
theorem dX0_latestBegin_18 : decode cX0_latestBegin 18 = .ok (.iconst 1, 1) := by decide +kernel
theorem dX0_latestBegin_19 : decode cX0_latestBegin 19 = .ok (.isub, 1) := by decide +kernel
theorem dX0_latestBegin_20 : decode cX0_latestBegin 20 = .ok (.iload_n 1, 1) := by decide +kernel
theorem dX0_latestBegin_21 : decode cX0_latestBegin 21 = .ok (.invokevirtual 42, 3) := by decide +kernel
theorem dX0_latestBegin_24 : decode cX0_latestBegin 24 = .ok (.invokestatic 45, 3) := by decide +kernel
theorem dX0_latestBegin_27 : decode cX0_latestBegin 27 = .ok (.ireturn, 1) := by decide +kernel
theorem dX1_init_0 : decode cX1_init 0 = .ok (.aload_n 0, 1) := by decide +kernel
theorem dX1_init_1 : decode cX1_init 1 = .ok (.invokespecial 3, 3) := by decide +kernel
theorem dX1_init_4 : decode cX1_init 4 = .ok (.aload_n 0, 1) := by decide +kernel
theorem dX1_init_5 : decode cX1_init 5 = .ok (.bipush 9, 2) := by decide +kernel
theorem dX1_init_7 : decode cX1_init 7 = .ok (.putfield 9, 3) := by decide +kernel
theorem dX1_init_10 : decode cX1_init 10 = .ok (.return_, 1) := by decide +kernel
theorem dX2_init_0 : decode cX2_init 0 = .ok (.aload_n 0, 1) := by decide +kernel
theorem dX2_init_1 : decode cX2_init 1 = .ok (.invokespecial 3, 3) := by decide +kernel
theorem dX2_init_4 : decode cX2_init 4 = .ok (.aload_n 0, 1) := by decide +kernel
theorem dX2_init_5 : decode cX2_init 5 = .ok (.new 9, 3) := by decide +kernel
theorem dX2_init_8 : decode cX2_init 8 = .ok (.dup, 1) := by decide +kernel
theorem dX2_init_9 : decode cX2_init 9 = .ok (.invokespecial 11, 3) := by decide +kernel
theorem dX2_init_12 : decode cX2_init 12 = .ok (.putfield 12, 3) := by decide +kernel
theorem dX2_init_15 : decode cX2_init 15 = .ok (.aload_n 0, 1) := by decide +kernel
theorem dX2_init_16 : decode cX2_init 16 = .ok (.bipush 24, 2) := by decide +kernel
theorem dX2_init_18 : decode cX2_init 18 = .ok (.newarray .boolean, 2) := by decide +kernel
theorem dX2_init_20 : decode cX2_init 20 = .ok (.putfield 18, 3) := by decide +kernel
theorem dX2_init_23 : decode cX2_init 23 = .ok (.aload_n 0, 1) := by decide +kernel
theorem dX2_init_24 : decode cX2_init 24 = .ok (.bipush 24, 2) := by decide +kernel
theorem dX2_init_26 : decode cX2_init 26 = .ok (.newarray .int, 2) := by decide +kernel
theorem dX2_init_28 : decode cX2_init 28 = .ok (.putfield 22, 3) := by decide +kernel
theorem dX2_init_31 : decode cX2_init 31 = .ok (.aload_n 0, 1) := by decide +kernel
theorem dX2_init_32 : decode cX2_init 32 = .ok (.iconst 4, 1) := by decide +kernel
theorem dX2_init_33 : decode cX2_init 33 = .ok (.anewarray 26, 3) := by decide +kernel
theorem dX2_init_36 : decode cX2_init 36 = .ok (.putfield 28, 3) := by decide +kernel
theorem dX2_init_39 : decode cX2_init 39 = .ok (.aload_n 0, 1) := by decide +kernel
theorem dX2_init_40 : decode cX2_init 40 = .ok (.aload_n 1, 1) := by decide +kernel
theorem dX2_init_41 : decode cX2_init 41 = .ok (.putfield 32, 3) := by decide +kernel
theorem dX2_init_44 : decode cX2_init 44 = .ok (.iconst 0, 1) := by decide +kernel
theorem dX2_init_45 : decode cX2_init 45 = .ok (.istore_n 2, 1) := by decide +kernel
theorem dX2_init_46 : decode cX2_init 46 = .ok (.iload_n 2, 1) := by decide +kernel
theorem dX2_init_47 : decode cX2_init 47 = .ok (.iconst 4, 1) := by decide +kernel
theorem dX2_init_48 : decode cX2_init 48 = .ok (.if_icmp .ge 22, 3) := by decide +kernel
theorem dX2_init_51 : decode cX2_init 51 = .ok (.aload_n 0, 1) := by decide +kernel
theorem dX2_init_52 : decode cX2_init 52 = .ok (.getfield 28, 3) := by decide +kernel
theorem dX2_init_55 : decode cX2_init 55 = .ok (.iload_n 2, 1) := by decide +kernel
theorem dX2_init_56 : decode cX2_init 56 = .ok (.new 26, 3) := by decide +kernel
theorem dX2_init_59 : decode cX2_init 59 = .ok (.dup, 1) := by decide +kernel
theorem dX2_init_60 : decode cX2_init 60 = .ok (.invokespecial 36, 3) := by decide +kernel
theorem dX2_init_63 : decode cX2_init 63 = .ok (.aastore, 1) := by decide +kernel
theorem dX2_init_64 : decode cX2_init 64 = .ok (.iinc 2 1, 3) := by decide +kernel
theorem dX2_init_67 : decode cX2_init 67 = .ok (.goto (-21), 3) := by decide +kernel
theorem dX2_init_70 : decode cX2_init 70 = .ok (.return_, 1) := by decide +kernel
theorem dX2_take_0 : decode cX2_take 0 = .ok (.iconst 0, 1) := by decide +kernel
theorem dX2_take_1 : decode cX2_take 1 = .ok (.istore_n 2, 1) := by decide +kernel
theorem dX2_take_2 : decode cX2_take 2 = .ok (.iload_n 2, 1) := by decide +kernel
theorem dX2_take_3 : decode cX2_take 3 = .ok (.aload_n 0, 1) := by decide +kernel
theorem dX2_take_4 : decode cX2_take 4 = .ok (.getfield 32, 3) := by decide +kernel
theorem dX2_take_7 : decode cX2_take 7 = .ok (.getfield 37, 3) := by decide +kernel
theorem dX2_take_10 : decode cX2_take 10 = .ok (.if_icmp .ge 61, 3) := by decide +kernel
theorem dX2_take_13 : decode cX2_take 13 = .ok (.aload_n 0, 1) := by decide +kernel
theorem dX2_take_14 : decode cX2_take 14 = .ok (.getfield 18, 3) := by decide +kernel
theorem dX2_take_17 : decode cX2_take 17 = .ok (.iload_n 2, 1) := by decide +kernel
theorem dX2_take_18 : decode cX2_take 18 = .ok (.aload_n 1, 1) := by decide +kernel
theorem dX2_take_19 : decode cX2_take 19 = .ok (.getfield 43, 3) := by decide +kernel
theorem dX2_take_22 : decode cX2_take 22 = .ok (.iload_n 2, 1) := by decide +kernel
theorem dX2_take_23 : decode cX2_take 23 = .ok (.baload, 1) := by decide +kernel
theorem dX2_take_24 : decode cX2_take 24 = .ok (.bastore, 1) := by decide +kernel
theorem dX2_take_25 : decode cX2_take 25 = .ok (.aload_n 0, 1) := by decide +kernel
theorem dX2_take_26 : decode cX2_take 26 = .ok (.getfield 12, 3) := by decide +kernel
theorem dX2_take_29 : decode cX2_take 29 = .ok (.iload_n 2, 1) := by decide +kernel
theorem dX2_take_30 : decode cX2_take 30 = .ok (.aload_n 1, 1) := by decide +kernel
theorem dX2_take_31 : decode cX2_take 31 = .ok (.getfield 46, 3) := by decide +kernel
theorem dX2_take_34 : decode cX2_take 34 = .ok (.getfield 47, 3) := by decide +kernel
theorem dX2_take_37 : decode cX2_take 37 = .ok (.iload_n 2, 1) := by decide +kernel
theorem dX2_take_38 : decode cX2_take 38 = .ok (.iaload, 1) := by decide +kernel
theorem dX2_take_39 : decode cX2_take 39 = .ok (.aload_n 1, 1) := by decide +kernel
theorem dX2_take_40 : decode cX2_take 40 = .ok (.getfield 46, 3) := by decide +kernel
theorem dX2_take_43 : decode cX2_take 43 = .ok (.getfield 50, 3) := by decide +kernel
theorem dX2_take_46 : decode cX2_take 46 = .ok (.iload_n 2, 1) := by decide +kernel
theorem dX2_take_47 : decode cX2_take 47 = .ok (.iaload, 1) := by decide +kernel
theorem dX2_take_48 : decode cX2_take 48 = .ok (.invokevirtual 53, 3) := by decide +kernel
theorem dX2_take_51 : decode cX2_take 51 = .ok (.aload_n 0, 1) := by decide +kernel
theorem dX2_take_52 : decode cX2_take 52 = .ok (.getfield 22, 3) := by decide +kernel
theorem dX2_take_55 : decode cX2_take 55 = .ok (.iload_n 2, 1) := by decide +kernel
theorem dX2_take_56 : decode cX2_take 56 = .ok (.aload_n 0, 1) := by decide +kernel
theorem dX2_take_57 : decode cX2_take 57 = .ok (.getfield 32, 3) := by decide +kernel
theorem dX2_take_60 : decode cX2_take 60 = .ok (.iload_n 2, 1) := by decide +kernel
theorem dX2_take_61 : decode cX2_take 61 = .ok (.invokevirtual 57, 3) := by decide +kernel
theorem dX2_take_64 : decode cX2_take 64 = .ok (.iastore, 1) := by decide +kernel
theorem dX2_take_65 : decode cX2_take 65 = .ok (.iinc 2 1, 3) := by decide +kernel
theorem dX2_take_68 : decode cX2_take 68 = .ok (.goto (-66), 3) := by decide +kernel
theorem dX2_take_71 : decode cX2_take 71 = .ok (.iconst 0, 1) := by decide +kernel
theorem dX2_take_72 : decode cX2_take 72 = .ok (.istore_n 2, 1) := by decide +kernel
theorem dX2_take_73 : decode cX2_take 73 = .ok (.iload_n 2, 1) := by decide +kernel
theorem dX2_take_74 : decode cX2_take 74 = .ok (.iconst 4, 1) := by decide +kernel
theorem dX2_take_75 : decode cX2_take 75 = .ok (.if_icmp .ge 27, 3) := by decide +kernel
theorem dX2_take_78 : decode cX2_take 78 = .ok (.aload_n 0, 1) := by decide +kernel
theorem dX2_take_79 : decode cX2_take 79 = .ok (.getfield 28, 3) := by decide +kernel
theorem dX2_take_82 : decode cX2_take 82 = .ok (.iload_n 2, 1) := by decide +kernel
theorem dX2_take_83 : decode cX2_take 83 = .ok (.aaload, 1) := by decide +kernel
theorem dX2_take_84 : decode cX2_take 84 = .ok (.aload_n 0, 1) := by decide +kernel
theorem dX2_take_85 : decode cX2_take 85 = .ok (.getfield 32, 3) := by decide +kernel
theorem dX2_take_88 : decode cX2_take 88 = .ok (.getfield 61, 3) := by decide +kernel
theorem dX2_take_91 : decode cX2_take 91 = .ok (.iload_n 2, 1) := by decide +kernel
theorem dX2_take_92 : decode cX2_take 92 = .ok (.aaload, 1) := by decide +kernel
theorem dX2_take_93 : decode cX2_take 93 = .ok (.invokevirtual 62, 3) := by decide +kernel
theorem dX2_take_96 : decode cX2_take 96 = .ok (.iinc 2 1, 3) := by decide +kernel
theorem dX2_take_99 : decode cX2_take 99 = .ok (.goto (-26), 3) := by decide +kernel
theorem dX2_take_102 : decode cX2_take 102 = .ok (.return_, 1) := by decide +kernel
theorem dX2_delayOf_0 : decode cX2_delayOf 0 = .ok (.aload_n 0, 1) := by decide +kernel
theorem dX2_delayOf_1 : decode cX2_delayOf 1 = .ok (.getfield 18, 3) := by decide +kernel
theorem dX2_delayOf_4 : decode cX2_delayOf 4 = .ok (.iload_n 1, 1) := by decide +kernel
theorem dX2_delayOf_5 : decode cX2_delayOf 5 = .ok (.baload, 1) := by decide +kernel
theorem dX2_delayOf_6 : decode cX2_delayOf 6 = .ok (.ifCond .eq 34, 3) := by decide +kernel
theorem dX2_delayOf_9 : decode cX2_delayOf 9 = .ok (.aload_n 2, 1) := by decide +kernel
theorem dX2_delayOf_10 : decode cX2_delayOf 10 = .ok (.getfield 43, 3) := by decide +kernel
theorem dX2_delayOf_13 : decode cX2_delayOf 13 = .ok (.iload_n 1, 1) := by decide +kernel
theorem dX2_delayOf_14 : decode cX2_delayOf 14 = .ok (.baload, 1) := by decide +kernel
theorem dX2_delayOf_15 : decode cX2_delayOf 15 = .ok (.ifCond .eq 25, 3) := by decide +kernel
theorem dX2_delayOf_18 : decode cX2_delayOf 18 = .ok (.aload_n 2, 1) := by decide +kernel
theorem dX2_delayOf_19 : decode cX2_delayOf 19 = .ok (.getfield 46, 3) := by decide +kernel
theorem dX2_delayOf_22 : decode cX2_delayOf 22 = .ok (.getfield 50, 3) := by decide +kernel
theorem dX2_delayOf_25 : decode cX2_delayOf 25 = .ok (.iload_n 1, 1) := by decide +kernel
theorem dX2_delayOf_26 : decode cX2_delayOf 26 = .ok (.iaload, 1) := by decide +kernel
theorem dX2_delayOf_27 : decode cX2_delayOf 27 = .ok (.aload_n 0, 1) := by decide +kernel
theorem dX2_delayOf_28 : decode cX2_delayOf 28 = .ok (.getfield 12, 3) := by decide +kernel
theorem dX2_delayOf_31 : decode cX2_delayOf 31 = .ok (.getfield 50, 3) := by decide +kernel
theorem dX2_delayOf_34 : decode cX2_delayOf 34 = .ok (.iload_n 1, 1) := by decide +kernel
theorem dX2_delayOf_35 : decode cX2_delayOf 35 = .ok (.iaload, 1) := by decide +kernel
theorem dX2_delayOf_36 : decode cX2_delayOf 36 = .ok (.isub, 1) := by decide +kernel
theorem dX2_delayOf_37 : decode cX2_delayOf 37 = .ok (.goto 4, 3) := by decide +kernel
theorem dX2_delayOf_40 : decode cX2_delayOf 40 = .ok (.iconst 0, 1) := by decide +kernel
theorem dX2_delayOf_41 : decode cX2_delayOf 41 = .ok (.ireturn, 1) := by decide +kernel
theorem dX2_plannedUpTo_0 : decode cX2_plannedUpTo 0 = .ok (.iconst 0, 1) := by decide +kernel
theorem dX2_plannedUpTo_1 : decode cX2_plannedUpTo 1 = .ok (.istore_n 2, 1) := by decide +kernel
theorem dX2_plannedUpTo_2 : decode cX2_plannedUpTo 2 = .ok (.iconst 0, 1) := by decide +kernel
theorem dX2_plannedUpTo_3 : decode cX2_plannedUpTo 3 = .ok (.istore_n 3, 1) := by decide +kernel
theorem dX2_plannedUpTo_4 : decode cX2_plannedUpTo 4 = .ok (.iload_n 3, 1) := by decide +kernel
theorem dX2_plannedUpTo_5 : decode cX2_plannedUpTo 5 = .ok (.aload_n 0, 1) := by decide +kernel
theorem dX2_plannedUpTo_6 : decode cX2_plannedUpTo 6 = .ok (.getfield 32, 3) := by decide +kernel
theorem dX2_plannedUpTo_9 : decode cX2_plannedUpTo 9 = .ok (.getfield 37, 3) := by decide +kernel
theorem dX2_plannedUpTo_12 : decode cX2_plannedUpTo 12 = .ok (.if_icmp .ge 27, 3) := by decide +kernel
theorem dX2_plannedUpTo_15 : decode cX2_plannedUpTo 15 = .ok (.aload_n 0, 1) := by decide +kernel
theorem dX2_plannedUpTo_16 : decode cX2_plannedUpTo 16 = .ok (.getfield 18, 3) := by decide +kernel
theorem dX2_plannedUpTo_19 : decode cX2_plannedUpTo 19 = .ok (.iload_n 3, 1) := by decide +kernel
theorem dX2_plannedUpTo_20 : decode cX2_plannedUpTo 20 = .ok (.baload, 1) := by decide +kernel
theorem dX2_plannedUpTo_21 : decode cX2_plannedUpTo 21 = .ok (.ifCond .eq 12, 3) := by decide +kernel
theorem dX2_plannedUpTo_24 : decode cX2_plannedUpTo 24 = .ok (.iload_n 2, 1) := by decide +kernel
theorem dX2_plannedUpTo_25 : decode cX2_plannedUpTo 25 = .ok (.aload_n 0, 1) := by decide +kernel
theorem dX2_plannedUpTo_26 : decode cX2_plannedUpTo 26 = .ok (.iload_n 3, 1) := by decide +kernel
theorem dX2_plannedUpTo_27 : decode cX2_plannedUpTo 27 = .ok (.iload_n 1, 1) := by decide +kernel
theorem dX2_plannedUpTo_28 : decode cX2_plannedUpTo 28 = .ok (.invokevirtual 66, 3) := by decide +kernel
theorem dX2_plannedUpTo_31 : decode cX2_plannedUpTo 31 = .ok (.iadd, 1) := by decide +kernel
theorem dX2_plannedUpTo_32 : decode cX2_plannedUpTo 32 = .ok (.istore_n 2, 1) := by decide +kernel
theorem dX2_plannedUpTo_33 : decode cX2_plannedUpTo 33 = .ok (.iinc 3 1, 3) := by decide +kernel
theorem dX2_plannedUpTo_36 : decode cX2_plannedUpTo 36 = .ok (.goto (-32), 3) := by decide +kernel
theorem dX2_plannedUpTo_39 : decode cX2_plannedUpTo 39 = .ok (.iload_n 2, 1) := by decide +kernel
theorem dX2_plannedUpTo_40 : decode cX2_plannedUpTo 40 = .ok (.ireturn, 1) := by decide +kernel
theorem dX2_partUpTo_0 : decode cX2_partUpTo 0 = .ok (.aload_n 0, 1) := by decide +kernel
theorem dX2_partUpTo_1 : decode cX2_partUpTo 1 = .ok (.getfield 28, 3) := by decide +kernel
theorem dX2_partUpTo_4 : decode cX2_partUpTo 4 = .ok (.aload_n 0, 1) := by decide +kernel
theorem dX2_partUpTo_5 : decode cX2_partUpTo 5 = .ok (.getfield 32, 3) := by decide +kernel
theorem dX2_partUpTo_8 : decode cX2_partUpTo 8 = .ok (.getfield 70, 3) := by decide +kernel
theorem dX2_partUpTo_11 : decode cX2_partUpTo 11 = .ok (.iload_n 1, 1) := by decide +kernel
theorem dX2_partUpTo_12 : decode cX2_partUpTo 12 = .ok (.aaload, 1) := by decide +kernel
theorem dX2_partUpTo_13 : decode cX2_partUpTo 13 = .ok (.getfield 74, 3) := by decide +kernel
theorem dX2_partUpTo_16 : decode cX2_partUpTo 16 = .ok (.aaload, 1) := by decide +kernel
theorem dX2_partUpTo_17 : decode cX2_partUpTo 17 = .ok (.astore_n 3, 1) := by decide +kernel
theorem dX2_partUpTo_18 : decode cX2_partUpTo 18 = .ok (.aload_n 3, 1) := by decide +kernel
theorem dX2_partUpTo_19 : decode cX2_partUpTo 19 = .ok (.aload_n 0, 1) := by decide +kernel
theorem dX2_partUpTo_20 : decode cX2_partUpTo 20 = .ok (.getfield 12, 3) := by decide +kernel
theorem dX2_partUpTo_23 : decode cX2_partUpTo 23 = .ok (.getfield 47, 3) := by decide +kernel
theorem dX2_partUpTo_26 : decode cX2_partUpTo 26 = .ok (.iload_n 1, 1) := by decide +kernel
theorem dX2_partUpTo_27 : decode cX2_partUpTo 27 = .ok (.iaload, 1) := by decide +kernel
theorem dX2_partUpTo_28 : decode cX2_partUpTo 28 = .ok (.aload_n 0, 1) := by decide +kernel
theorem dX2_partUpTo_29 : decode cX2_partUpTo 29 = .ok (.getfield 12, 3) := by decide +kernel
theorem dX2_partUpTo_32 : decode cX2_partUpTo 32 = .ok (.getfield 50, 3) := by decide +kernel
theorem dX2_partUpTo_35 : decode cX2_partUpTo 35 = .ok (.iload_n 1, 1) := by decide +kernel
theorem dX2_partUpTo_36 : decode cX2_partUpTo 36 = .ok (.iaload, 1) := by decide +kernel
theorem dX2_partUpTo_37 : decode cX2_partUpTo 37 = .ok (.invokevirtual 79, 3) := by decide +kernel
theorem dX2_partUpTo_40 : decode cX2_partUpTo 40 = .ok (.istore 4, 2) := by decide +kernel
theorem dX2_partUpTo_42 : decode cX2_partUpTo 42 = .ok (.iload 4, 2) := by decide +kernel
theorem dX2_partUpTo_44 : decode cX2_partUpTo 44 = .ok (.ifCond .ne 5, 3) := by decide +kernel
theorem dX2_partUpTo_47 : decode cX2_partUpTo 47 = .ok (.iconst 0, 1) := by decide +kernel
theorem dX2_partUpTo_48 : decode cX2_partUpTo 48 = .ok (.ireturn, 1) := by decide +kernel
theorem dX2_partUpTo_49 : decode cX2_partUpTo 49 = .ok (.aload_n 3, 1) := by decide +kernel
theorem dX2_partUpTo_50 : decode cX2_partUpTo 50 = .ok (.aload_n 0, 1) := by decide +kernel
theorem dX2_partUpTo_51 : decode cX2_partUpTo 51 = .ok (.getfield 12, 3) := by decide +kernel
theorem dX2_partUpTo_54 : decode cX2_partUpTo 54 = .ok (.getfield 47, 3) := by decide +kernel
theorem dX2_partUpTo_57 : decode cX2_partUpTo 57 = .ok (.iload_n 1, 1) := by decide +kernel
theorem dX2_partUpTo_58 : decode cX2_partUpTo 58 = .ok (.iaload, 1) := by decide +kernel
theorem dX2_partUpTo_59 : decode cX2_partUpTo 59 = .ok (.aload_n 0, 1) := by decide +kernel
theorem dX2_partUpTo_60 : decode cX2_partUpTo 60 = .ok (.getfield 12, 3) := by decide +kernel
theorem dX2_partUpTo_63 : decode cX2_partUpTo 63 = .ok (.getfield 50, 3) := by decide +kernel
theorem dX2_partUpTo_66 : decode cX2_partUpTo 66 = .ok (.iload_n 1, 1) := by decide +kernel
theorem dX2_partUpTo_67 : decode cX2_partUpTo 67 = .ok (.iaload, 1) := by decide +kernel
theorem dX2_partUpTo_68 : decode cX2_partUpTo 68 = .ok (.iload_n 2, 1) := by decide +kernel
theorem dX2_partUpTo_69 : decode cX2_partUpTo 69 = .ok (.invokestatic 82, 3) := by decide +kernel
theorem dX2_partUpTo_72 : decode cX2_partUpTo 72 = .ok (.invokevirtual 79, 3) := by decide +kernel
theorem dX2_partUpTo_75 : decode cX2_partUpTo 75 = .ok (.istore 5, 2) := by decide +kernel
theorem dX2_partUpTo_77 : decode cX2_partUpTo 77 = .ok (.aload_n 0, 1) := by decide +kernel
theorem dX2_partUpTo_78 : decode cX2_partUpTo 78 = .ok (.getfield 22, 3) := by decide +kernel
theorem dX2_partUpTo_81 : decode cX2_partUpTo 81 = .ok (.iload_n 1, 1) := by decide +kernel
theorem dX2_partUpTo_82 : decode cX2_partUpTo 82 = .ok (.iaload, 1) := by decide +kernel
theorem dX2_partUpTo_83 : decode cX2_partUpTo 83 = .ok (.iload 5, 2) := by decide +kernel
theorem dX2_partUpTo_85 : decode cX2_partUpTo 85 = .ok (.imul, 1) := by decide +kernel
theorem dX2_partUpTo_86 : decode cX2_partUpTo 86 = .ok (.iload 4, 2) := by decide +kernel
theorem dX2_partUpTo_88 : decode cX2_partUpTo 88 = .ok (.idiv, 1) := by decide +kernel
theorem dX2_partUpTo_89 : decode cX2_partUpTo 89 = .ok (.ireturn, 1) := by decide +kernel
theorem dX2_earnedNow_0 : decode cX2_earnedNow 0 = .ok (.iconst 0, 1) := by decide +kernel
theorem dX2_earnedNow_1 : decode cX2_earnedNow 1 = .ok (.istore_n 1, 1) := by decide +kernel
theorem dX2_earnedNow_2 : decode cX2_earnedNow 2 = .ok (.iconst 0, 1) := by decide +kernel
theorem dX2_earnedNow_3 : decode cX2_earnedNow 3 = .ok (.istore_n 2, 1) := by decide +kernel
theorem dX2_earnedNow_4 : decode cX2_earnedNow 4 = .ok (.iload_n 2, 1) := by decide +kernel
theorem dX2_earnedNow_5 : decode cX2_earnedNow 5 = .ok (.aload_n 0, 1) := by decide +kernel
theorem dX2_earnedNow_6 : decode cX2_earnedNow 6 = .ok (.getfield 32, 3) := by decide +kernel
theorem dX2_earnedNow_9 : decode cX2_earnedNow 9 = .ok (.getfield 37, 3) := by decide +kernel
theorem dX2_earnedNow_12 : decode cX2_earnedNow 12 = .ok (.if_icmp .ge 42, 3) := by decide +kernel
theorem dX2_earnedNow_15 : decode cX2_earnedNow 15 = .ok (.aload_n 0, 1) := by decide +kernel
theorem dX2_earnedNow_16 : decode cX2_earnedNow 16 = .ok (.getfield 18, 3) := by decide +kernel
theorem dX2_earnedNow_19 : decode cX2_earnedNow 19 = .ok (.iload_n 2, 1) := by decide +kernel
theorem dX2_earnedNow_20 : decode cX2_earnedNow 20 = .ok (.baload, 1) := by decide +kernel
theorem dX2_earnedNow_21 : decode cX2_earnedNow 21 = .ok (.ifCond .eq 27, 3) := by decide +kernel
theorem dX2_earnedNow_24 : decode cX2_earnedNow 24 = .ok (.aload_n 0, 1) := by decide +kernel
theorem dX2_earnedNow_25 : decode cX2_earnedNow 25 = .ok (.getfield 32, 3) := by decide +kernel
theorem dX2_earnedNow_28 : decode cX2_earnedNow 28 = .ok (.getfield 70, 3) := by decide +kernel
theorem dX2_earnedNow_31 : decode cX2_earnedNow 31 = .ok (.iload_n 2, 1) := by decide +kernel
theorem dX2_earnedNow_32 : decode cX2_earnedNow 32 = .ok (.aaload, 1) := by decide +kernel
theorem dX2_earnedNow_33 : decode cX2_earnedNow 33 = .ok (.getfield 87, 3) := by decide +kernel
theorem dX2_earnedNow_36 : decode cX2_earnedNow 36 = .ok (.ifCond .eq 12, 3) := by decide +kernel
theorem dX2_earnedNow_39 : decode cX2_earnedNow 39 = .ok (.iload_n 1, 1) := by decide +kernel
theorem dX2_earnedNow_40 : decode cX2_earnedNow 40 = .ok (.aload_n 0, 1) := by decide +kernel
theorem dX2_earnedNow_41 : decode cX2_earnedNow 41 = .ok (.getfield 22, 3) := by decide +kernel
theorem dX2_earnedNow_44 : decode cX2_earnedNow 44 = .ok (.iload_n 2, 1) := by decide +kernel
theorem dX2_earnedNow_45 : decode cX2_earnedNow 45 = .ok (.iaload, 1) := by decide +kernel
theorem dX2_earnedNow_46 : decode cX2_earnedNow 46 = .ok (.iadd, 1) := by decide +kernel
theorem dX2_earnedNow_47 : decode cX2_earnedNow 47 = .ok (.istore_n 1, 1) := by decide +kernel
theorem dX2_earnedNow_48 : decode cX2_earnedNow 48 = .ok (.iinc 2 1, 3) := by decide +kernel
theorem dX2_earnedNow_51 : decode cX2_earnedNow 51 = .ok (.goto (-47), 3) := by decide +kernel
theorem dX2_earnedNow_54 : decode cX2_earnedNow 54 = .ok (.iload_n 1, 1) := by decide +kernel
theorem dX2_earnedNow_55 : decode cX2_earnedNow 55 = .ok (.ireturn, 1) := by decide +kernel
theorem dX3_init_0 : decode cX3_init 0 = .ok (.aload_n 0, 1) := by decide +kernel
theorem dX3_init_1 : decode cX3_init 1 = .ok (.invokespecial 3, 3) := by decide +kernel
theorem dX3_init_4 : decode cX3_init 4 = .ok (.aload_n 0, 1) := by decide +kernel
theorem dX3_init_5 : decode cX3_init 5 = .ok (.new 9, 3) := by decide +kernel
theorem dX3_init_8 : decode cX3_init 8 = .ok (.dup, 1) := by decide +kernel
theorem dX3_init_9 : decode cX3_init 9 = .ok (.invokespecial 11, 3) := by decide +kernel
theorem dX3_init_12 : decode cX3_init 12 = .ok (.putfield 12, 3) := by decide +kernel
theorem dX3_init_15 : decode cX3_init 15 = .ok (.aload_n 0, 1) := by decide +kernel
theorem dX3_init_16 : decode cX3_init 16 = .ok (.new 18, 3) := by decide +kernel
theorem dX3_init_19 : decode cX3_init 19 = .ok (.dup, 1) := by decide +kernel
theorem dX3_init_20 : decode cX3_init 20 = .ok (.invokespecial 20, 3) := by decide +kernel
theorem dX3_init_23 : decode cX3_init 23 = .ok (.putfield 21, 3) := by decide +kernel
theorem dX3_init_26 : decode cX3_init 26 = .ok (.aload_n 0, 1) := by decide +kernel
theorem dX3_init_27 : decode cX3_init 27 = .ok (.bipush 24, 2) := by decide +kernel
theorem dX3_init_29 : decode cX3_init 29 = .ok (.newarray .boolean, 2) := by decide +kernel
theorem dX3_init_31 : decode cX3_init 31 = .ok (.putfield 25, 3) := by decide +kernel
theorem dX3_init_34 : decode cX3_init 34 = .ok (.aload_n 0, 1) := by decide +kernel
theorem dX3_init_35 : decode cX3_init 35 = .ok (.bipush 24, 2) := by decide +kernel
theorem dX3_init_37 : decode cX3_init 37 = .ok (.newarray .int, 2) := by decide +kernel
theorem dX3_init_39 : decode cX3_init 39 = .ok (.putfield 29, 3) := by decide +kernel
theorem dX3_init_42 : decode cX3_init 42 = .ok (.aload_n 0, 1) := by decide +kernel
theorem dX3_init_43 : decode cX3_init 43 = .ok (.aload_n 1, 1) := by decide +kernel
theorem dX3_init_44 : decode cX3_init 44 = .ok (.putfield 33, 3) := by decide +kernel
theorem dX3_init_47 : decode cX3_init 47 = .ok (.return_, 1) := by decide +kernel
theorem dX3_reckon_0 : decode cX3_reckon 0 = .ok (.aload_n 0, 1) := by decide +kernel
theorem dX3_reckon_1 : decode cX3_reckon 1 = .ok (.invokevirtual 37, 3) := by decide +kernel
theorem dX3_reckon_4 : decode cX3_reckon 4 = .ok (.iconst 0, 1) := by decide +kernel
theorem dX3_reckon_5 : decode cX3_reckon 5 = .ok (.istore_n 3, 1) := by decide +kernel
theorem dX3_reckon_6 : decode cX3_reckon 6 = .ok (.iload_n 3, 1) := by decide +kernel
theorem dX3_reckon_7 : decode cX3_reckon 7 = .ok (.aload_n 0, 1) := by decide +kernel
theorem dX3_reckon_8 : decode cX3_reckon 8 = .ok (.getfield 33, 3) := by decide +kernel
theorem dX3_reckon_11 : decode cX3_reckon 11 = .ok (.getfield 40, 3) := by decide +kernel
theorem dX3_reckon_14 : decode cX3_reckon 14 = .ok (.if_icmp .ge 43, 3) := by decide +kernel
theorem dX3_reckon_17 : decode cX3_reckon 17 = .ok (.aload_n 0, 1) := by decide +kernel
theorem dX3_reckon_18 : decode cX3_reckon 18 = .ok (.getfield 33, 3) := by decide +kernel
theorem dX3_reckon_21 : decode cX3_reckon 21 = .ok (.getfield 46, 3) := by decide +kernel
theorem dX3_reckon_24 : decode cX3_reckon 24 = .ok (.iload_n 3, 1) := by decide +kernel
theorem dX3_reckon_25 : decode cX3_reckon 25 = .ok (.aaload, 1) := by decide +kernel
theorem dX3_reckon_26 : decode cX3_reckon 26 = .ok (.astore 4, 2) := by decide +kernel
theorem dX3_reckon_28 : decode cX3_reckon 28 = .ok (.aload 4, 2) := by decide +kernel
theorem dX3_reckon_30 : decode cX3_reckon 30 = .ok (.getfield 50, 3) := by decide +kernel
theorem dX3_reckon_33 : decode cX3_reckon 33 = .ok (.ifCond .eq 18, 3) := by decide +kernel
theorem dX3_reckon_36 : decode cX3_reckon 36 = .ok (.aload_n 0, 1) := by decide +kernel
theorem dX3_reckon_37 : decode cX3_reckon 37 = .ok (.iload_n 3, 1) := by decide +kernel
theorem dX3_reckon_38 : decode cX3_reckon 38 = .ok (.aload 4, 2) := by decide +kernel
theorem dX3_reckon_40 : decode cX3_reckon 40 = .ok (.getfield 56, 3) := by decide +kernel
theorem dX3_reckon_43 : decode cX3_reckon 43 = .ok (.aload 4, 2) := by decide +kernel
theorem dX3_reckon_45 : decode cX3_reckon 45 = .ok (.getfield 59, 3) := by decide +kernel
theorem dX3_reckon_48 : decode cX3_reckon 48 = .ok (.invokevirtual 62, 3) := by decide +kernel
theorem dX3_reckon_51 : decode cX3_reckon 51 = .ok (.iinc 3 1, 3) := by decide +kernel
theorem dX3_reckon_54 : decode cX3_reckon 54 = .ok (.goto (-48), 3) := by decide +kernel
theorem dX3_reckon_57 : decode cX3_reckon 57 = .ok (.iconst 0, 1) := by decide +kernel
theorem dX3_reckon_58 : decode cX3_reckon 58 = .ok (.istore_n 3, 1) := by decide +kernel
theorem dX3_reckon_59 : decode cX3_reckon 59 = .ok (.iload_n 3, 1) := by decide +kernel
theorem dX3_reckon_60 : decode cX3_reckon 60 = .ok (.aload_n 0, 1) := by decide +kernel
theorem dX3_reckon_61 : decode cX3_reckon 61 = .ok (.getfield 33, 3) := by decide +kernel
theorem dX3_reckon_64 : decode cX3_reckon 64 = .ok (.getfield 40, 3) := by decide +kernel
theorem dX3_reckon_67 : decode cX3_reckon 67 = .ok (.if_icmp .ge 79, 3) := by decide +kernel
theorem dX3_reckon_70 : decode cX3_reckon 70 = .ok (.aload_n 0, 1) := by decide +kernel
theorem dX3_reckon_71 : decode cX3_reckon 71 = .ok (.aload_n 1, 1) := by decide +kernel
theorem dX3_reckon_72 : decode cX3_reckon 72 = .ok (.iload_n 2, 1) := by decide +kernel
theorem dX3_reckon_73 : decode cX3_reckon 73 = .ok (.invokevirtual 66, 3) := by decide +kernel
theorem dX3_reckon_76 : decode cX3_reckon 76 = .ok (.istore 4, 2) := by decide +kernel
theorem dX3_reckon_78 : decode cX3_reckon 78 = .ok (.iload 4, 2) := by decide +kernel
theorem dX3_reckon_80 : decode cX3_reckon 80 = .ok (.ifCond .ge 4, 3) := by decide +kernel
theorem dX3_reckon_83 : decode cX3_reckon 83 = .ok (.return_, 1) := by decide +kernel
theorem dX3_reckon_84 : decode cX3_reckon 84 = .ok (.aload_n 0, 1) := by decide +kernel
theorem dX3_reckon_85 : decode cX3_reckon 85 = .ok (.iload 4, 2) := by decide +kernel
theorem dX3_reckon_87 : decode cX3_reckon 87 = .ok (.aload_n 0, 1) := by decide +kernel
theorem dX3_reckon_88 : decode cX3_reckon 88 = .ok (.getfield 33, 3) := by decide +kernel
theorem dX3_reckon_91 : decode cX3_reckon 91 = .ok (.iload 4, 2) := by decide +kernel
theorem dX3_reckon_93 : decode cX3_reckon 93 = .ok (.aload_n 0, 1) := by decide +kernel
theorem dX3_reckon_94 : decode cX3_reckon 94 = .ok (.getfield 12, 3) := by decide +kernel
theorem dX3_reckon_97 : decode cX3_reckon 97 = .ok (.invokevirtual 70, 3) := by decide +kernel
theorem dX3_reckon_100 : decode cX3_reckon 100 = .ok (.invokevirtual 74, 3) := by decide +kernel
theorem dX3_reckon_103 : decode cX3_reckon 103 = .ok (.istore 5, 2) := by decide +kernel
theorem dX3_reckon_105 : decode cX3_reckon 105 = .ok (.aload_n 0, 1) := by decide +kernel
theorem dX3_reckon_106 : decode cX3_reckon 106 = .ok (.iload 4, 2) := by decide +kernel
theorem dX3_reckon_108 : decode cX3_reckon 108 = .ok (.iload 5, 2) := by decide +kernel
theorem dX3_reckon_110 : decode cX3_reckon 110 = .ok (.aload_n 0, 1) := by decide +kernel
theorem dX3_reckon_111 : decode cX3_reckon 111 = .ok (.getfield 33, 3) := by decide +kernel
theorem dX3_reckon_114 : decode cX3_reckon 114 = .ok (.iload 4, 2) := by decide +kernel
theorem dX3_reckon_116 : decode cX3_reckon 116 = .ok (.invokevirtual 78, 3) := by decide +kernel
theorem dX3_reckon_119 : decode cX3_reckon 119 = .ok (.iload 5, 2) := by decide +kernel
theorem dX3_reckon_121 : decode cX3_reckon 121 = .ok (.aload_n 0, 1) := by decide +kernel
theorem dX3_reckon_122 : decode cX3_reckon 122 = .ok (.getfield 33, 3) := by decide +kernel
theorem dX3_reckon_125 : decode cX3_reckon 125 = .ok (.getfield 46, 3) := by decide +kernel
theorem dX3_reckon_128 : decode cX3_reckon 128 = .ok (.iload 4, 2) := by decide +kernel
theorem dX3_reckon_130 : decode cX3_reckon 130 = .ok (.aaload, 1) := by decide +kernel
theorem dX3_reckon_131 : decode cX3_reckon 131 = .ok (.getfield 82, 3) := by decide +kernel
theorem dX3_reckon_134 : decode cX3_reckon 134 = .ok (.invokevirtual 85, 3) := by decide +kernel
theorem dX3_reckon_137 : decode cX3_reckon 137 = .ok (.invokevirtual 62, 3) := by decide +kernel
theorem dX3_reckon_140 : decode cX3_reckon 140 = .ok (.iinc 3 1, 3) := by decide +kernel
theorem dX3_reckon_143 : decode cX3_reckon 143 = .ok (.goto (-84), 3) := by decide +kernel
theorem dX3_reckon_146 : decode cX3_reckon 146 = .ok (.return_, 1) := by decide +kernel
theorem dX3_clear_0 : decode cX3_clear 0 = .ok (.aload_n 0, 1) := by decide +kernel
theorem dX3_clear_1 : decode cX3_clear 1 = .ok (.getfield 21, 3) := by decide +kernel
theorem dX3_clear_4 : decode cX3_clear 4 = .ok (.invokevirtual 90, 3) := by decide +kernel
theorem dX3_clear_7 : decode cX3_clear 7 = .ok (.aload_n 0, 1) := by decide +kernel
theorem dX3_clear_8 : decode cX3_clear 8 = .ok (.iconst 0, 1) := by decide +kernel
theorem dX3_clear_9 : decode cX3_clear 9 = .ok (.putfield 91, 3) := by decide +kernel
theorem dX3_clear_12 : decode cX3_clear 12 = .ok (.aload_n 0, 1) := by decide +kernel
theorem dX3_clear_13 : decode cX3_clear 13 = .ok (.iconst 0, 1) := by decide +kernel
theorem dX3_clear_14 : decode cX3_clear 14 = .ok (.putfield 94, 3) := by decide +kernel
theorem dX3_clear_17 : decode cX3_clear 17 = .ok (.iconst 0, 1) := by decide +kernel
theorem dX3_clear_18 : decode cX3_clear 18 = .ok (.istore_n 1, 1) := by decide +kernel
theorem dX3_clear_19 : decode cX3_clear 19 = .ok (.iload_n 1, 1) := by decide +kernel
theorem dX3_clear_20 : decode cX3_clear 20 = .ok (.bipush 24, 2) := by decide +kernel
theorem dX3_clear_22 : decode cX3_clear 22 = .ok (.if_icmp .ge 26, 3) := by decide +kernel
theorem dX3_clear_25 : decode cX3_clear 25 = .ok (.aload_n 0, 1) := by decide +kernel
theorem dX3_clear_26 : decode cX3_clear 26 = .ok (.getfield 25, 3) := by decide +kernel
theorem dX3_clear_29 : decode cX3_clear 29 = .ok (.iload_n 1, 1) := by decide +kernel
theorem dX3_clear_30 : decode cX3_clear 30 = .ok (.iconst 0, 1) := by decide +kernel
theorem dX3_clear_31 : decode cX3_clear 31 = .ok (.bastore, 1) := by decide +kernel
theorem dX3_clear_32 : decode cX3_clear 32 = .ok (.aload_n 0, 1) := by decide +kernel
theorem dX3_clear_33 : decode cX3_clear 33 = .ok (.getfield 12, 3) := by decide +kernel
theorem dX3_clear_36 : decode cX3_clear 36 = .ok (.iload_n 1, 1) := by decide +kernel
theorem dX3_clear_37 : decode cX3_clear 37 = .ok (.iconst (-1), 1) := by decide +kernel
theorem dX3_clear_38 : decode cX3_clear 38 = .ok (.iconst (-1), 1) := by decide +kernel
theorem dX3_clear_39 : decode cX3_clear 39 = .ok (.invokevirtual 97, 3) := by decide +kernel
theorem dX3_clear_42 : decode cX3_clear 42 = .ok (.iinc 1 1, 3) := by decide +kernel
theorem dX3_clear_45 : decode cX3_clear 45 = .ok (.goto (-26), 3) := by decide +kernel
theorem dX3_clear_48 : decode cX3_clear 48 = .ok (.return_, 1) := by decide +kernel
theorem dX3_putIn_0 : decode cX3_putIn 0 = .ok (.aload_n 0, 1) := by decide +kernel
theorem dX3_putIn_1 : decode cX3_putIn 1 = .ok (.getfield 12, 3) := by decide +kernel
theorem dX3_putIn_4 : decode cX3_putIn 4 = .ok (.iload_n 1, 1) := by decide +kernel
theorem dX3_putIn_5 : decode cX3_putIn 5 = .ok (.iload_n 2, 1) := by decide +kernel
theorem dX3_putIn_6 : decode cX3_putIn 6 = .ok (.iload_n 3, 1) := by decide +kernel
theorem dX3_putIn_7 : decode cX3_putIn 7 = .ok (.invokevirtual 97, 3) := by decide +kernel
theorem dX3_putIn_10 : decode cX3_putIn 10 = .ok (.aload_n 0, 1) := by decide +kernel
theorem dX3_putIn_11 : decode cX3_putIn 11 = .ok (.getfield 21, 3) := by decide +kernel
theorem dX3_putIn_14 : decode cX3_putIn 14 = .ok (.aload_n 0, 1) := by decide +kernel
theorem dX3_putIn_15 : decode cX3_putIn 15 = .ok (.getfield 33, 3) := by decide +kernel
theorem dX3_putIn_18 : decode cX3_putIn 18 = .ok (.getfield 46, 3) := by decide +kernel
theorem dX3_putIn_21 : decode cX3_putIn 21 = .ok (.iload_n 1, 1) := by decide +kernel
theorem dX3_putIn_22 : decode cX3_putIn 22 = .ok (.aaload, 1) := by decide +kernel
theorem dX3_putIn_23 : decode cX3_putIn 23 = .ok (.aload_n 0, 1) := by decide +kernel
theorem dX3_putIn_24 : decode cX3_putIn 24 = .ok (.getfield 33, 3) := by decide +kernel
theorem dX3_putIn_27 : decode cX3_putIn 27 = .ok (.iload_n 1, 1) := by decide +kernel
theorem dX3_putIn_28 : decode cX3_putIn 28 = .ok (.invokevirtual 78, 3) := by decide +kernel
theorem dX3_putIn_31 : decode cX3_putIn 31 = .ok (.iload_n 2, 1) := by decide +kernel
theorem dX3_putIn_32 : decode cX3_putIn 32 = .ok (.iload_n 3, 1) := by decide +kernel
theorem dX3_putIn_33 : decode cX3_putIn 33 = .ok (.invokevirtual 100, 3) := by decide +kernel
theorem dX3_putIn_36 : decode cX3_putIn 36 = .ok (.aload_n 0, 1) := by decide +kernel
theorem dX3_putIn_37 : decode cX3_putIn 37 = .ok (.getfield 25, 3) := by decide +kernel
theorem dX3_putIn_40 : decode cX3_putIn 40 = .ok (.iload_n 1, 1) := by decide +kernel
theorem dX3_putIn_41 : decode cX3_putIn 41 = .ok (.iconst 1, 1) := by decide +kernel
theorem dX3_putIn_42 : decode cX3_putIn 42 = .ok (.bastore, 1) := by decide +kernel
theorem dX3_putIn_43 : decode cX3_putIn 43 = .ok (.aload_n 0, 1) := by decide +kernel
theorem dX3_putIn_44 : decode cX3_putIn 44 = .ok (.getfield 29, 3) := by decide +kernel
theorem dX3_putIn_47 : decode cX3_putIn 47 = .ok (.aload_n 0, 1) := by decide +kernel
theorem dX3_putIn_48 : decode cX3_putIn 48 = .ok (.getfield 91, 3) := by decide +kernel
theorem dX3_putIn_51 : decode cX3_putIn 51 = .ok (.iload_n 1, 1) := by decide +kernel
theorem dX3_putIn_52 : decode cX3_putIn 52 = .ok (.iastore, 1) := by decide +kernel
theorem dX3_putIn_53 : decode cX3_putIn 53 = .ok (.aload_n 0, 1) := by decide +kernel
theorem dX3_putIn_54 : decode cX3_putIn 54 = .ok (.dup, 1) := by decide +kernel
theorem dX3_putIn_55 : decode cX3_putIn 55 = .ok (.getfield 91, 3) := by decide +kernel
theorem dX3_putIn_58 : decode cX3_putIn 58 = .ok (.iconst 1, 1) := by decide +kernel
theorem dX3_putIn_59 : decode cX3_putIn 59 = .ok (.iadd, 1) := by decide +kernel
theorem dX3_putIn_60 : decode cX3_putIn 60 = .ok (.putfield 91, 3) := by decide +kernel
theorem dX3_putIn_63 : decode cX3_putIn 63 = .ok (.aload_n 0, 1) := by decide +kernel
theorem dX3_putIn_64 : decode cX3_putIn 64 = .ok (.aload_n 0, 1) := by decide +kernel
theorem dX3_putIn_65 : decode cX3_putIn 65 = .ok (.getfield 94, 3) := by decide +kernel
theorem dX3_putIn_68 : decode cX3_putIn 68 = .ok (.iload_n 3, 1) := by decide +kernel
theorem dX3_putIn_69 : decode cX3_putIn 69 = .ok (.invokestatic 104, 3) := by decide +kernel
theorem dX3_putIn_72 : decode cX3_putIn 72 = .ok (.putfield 94, 3) := by decide +kernel
theorem dX3_putIn_75 : decode cX3_putIn 75 = .ok (.return_, 1) := by decide +kernel
theorem dX3_choose_0 : decode cX3_choose 0 = .ok (.iconst (-1), 1) := by decide +kernel
theorem dX3_choose_1 : decode cX3_choose 1 = .ok (.istore_n 3, 1) := by decide +kernel
theorem dX3_choose_2 : decode cX3_choose 2 = .ok (.iconst 0, 1) := by decide +kernel
theorem dX3_choose_3 : decode cX3_choose 3 = .ok (.istore 4, 2) := by decide +kernel
theorem dX3_choose_5 : decode cX3_choose 5 = .ok (.iconst 0, 1) := by decide +kernel
theorem dX3_choose_6 : decode cX3_choose 6 = .ok (.istore 5, 2) := by decide +kernel
theorem dX3_choose_8 : decode cX3_choose 8 = .ok (.iload 5, 2) := by decide +kernel
theorem dX3_choose_10 : decode cX3_choose 10 = .ok (.aload_n 0, 1) := by decide +kernel
theorem dX3_choose_11 : decode cX3_choose 11 = .ok (.getfield 33, 3) := by decide +kernel
theorem dX3_choose_14 : decode cX3_choose 14 = .ok (.getfield 40, 3) := by decide +kernel
theorem dX3_choose_17 : decode cX3_choose 17 = .ok (.if_icmp .ge 75, 3) := by decide +kernel
theorem dX3_choose_20 : decode cX3_choose 20 = .ok (.aload_n 0, 1) := by decide +kernel
theorem dX3_choose_21 : decode cX3_choose 21 = .ok (.getfield 25, 3) := by decide +kernel
theorem dX3_choose_24 : decode cX3_choose 24 = .ok (.iload 5, 2) := by decide +kernel
theorem dX3_choose_26 : decode cX3_choose 26 = .ok (.baload, 1) := by decide +kernel
theorem dX3_choose_27 : decode cX3_choose 27 = .ok (.ifCond .ne 59, 3) := by decide +kernel
theorem dX3_choose_30 : decode cX3_choose 30 = .ok (.aload_n 0, 1) := by decide +kernel
theorem dX3_choose_31 : decode cX3_choose 31 = .ok (.iload 5, 2) := by decide +kernel
theorem dX3_choose_33 : decode cX3_choose 33 = .ok (.invokevirtual 109, 3) := by decide +kernel
theorem dX3_choose_36 : decode cX3_choose 36 = .ok (.ifCond .ne 50, 3) := by decide +kernel
theorem dX3_choose_39 : decode cX3_choose 39 = .ok (.aload_n 0, 1) := by decide +kernel
theorem dX3_choose_40 : decode cX3_choose 40 = .ok (.getfield 33, 3) := by decide +kernel
theorem dX3_choose_43 : decode cX3_choose 43 = .ok (.iload 5, 2) := by decide +kernel
theorem dX3_choose_45 : decode cX3_choose 45 = .ok (.aload_n 0, 1) := by decide +kernel
theorem dX3_choose_46 : decode cX3_choose 46 = .ok (.getfield 25, 3) := by decide +kernel
theorem dX3_choose_49 : decode cX3_choose 49 = .ok (.invokevirtual 113, 3) := by decide +kernel
theorem dX3_choose_52 : decode cX3_choose 52 = .ok (.ifCond .ne 6, 3) := by decide +kernel
theorem dX3_choose_55 : decode cX3_choose 55 = .ok (.goto 31, 3) := by decide +kernel
theorem dX3_choose_58 : decode cX3_choose 58 = .ok (.aload_n 0, 1) := by decide +kernel
theorem dX3_choose_59 : decode cX3_choose 59 = .ok (.iload 5, 2) := by decide +kernel
theorem dX3_choose_61 : decode cX3_choose 61 = .ok (.aload_n 1, 1) := by decide +kernel
theorem dX3_choose_62 : decode cX3_choose 62 = .ok (.iload_n 2, 1) := by decide +kernel
theorem dX3_choose_63 : decode cX3_choose 63 = .ok (.invokevirtual 117, 3) := by decide +kernel
theorem dX3_choose_66 : decode cX3_choose 66 = .ok (.istore 6, 2) := by decide +kernel
theorem dX3_choose_68 : decode cX3_choose 68 = .ok (.iload_n 3, 1) := by decide +kernel
theorem dX3_choose_69 : decode cX3_choose 69 = .ok (.ifCond .lt 10, 3) := by decide +kernel
theorem dX3_choose_72 : decode cX3_choose 72 = .ok (.iload 6, 2) := by decide +kernel
theorem dX3_choose_74 : decode cX3_choose 74 = .ok (.iload 4, 2) := by decide +kernel
theorem dX3_choose_76 : decode cX3_choose 76 = .ok (.if_icmp .ge 10, 3) := by decide +kernel
theorem dX3_choose_79 : decode cX3_choose 79 = .ok (.iload 5, 2) := by decide +kernel
theorem dX3_choose_81 : decode cX3_choose 81 = .ok (.istore_n 3, 1) := by decide +kernel
theorem dX3_choose_82 : decode cX3_choose 82 = .ok (.iload 6, 2) := by decide +kernel
theorem dX3_choose_84 : decode cX3_choose 84 = .ok (.istore 4, 2) := by decide +kernel
theorem dX3_choose_86 : decode cX3_choose 86 = .ok (.iinc 5 1, 3) := by decide +kernel
theorem dX3_choose_89 : decode cX3_choose 89 = .ok (.goto (-81), 3) := by decide +kernel
theorem dX3_choose_92 : decode cX3_choose 92 = .ok (.iload_n 3, 1) := by decide +kernel
theorem dX3_choose_93 : decode cX3_choose 93 = .ok (.ireturn, 1) := by decide +kernel
theorem dX3_keyOf_0 : decode cX3_keyOf 0 = .ok (.iload_n 3, 1) := by decide +kernel
theorem dX3_keyOf_1 : decode cX3_keyOf 1 = .ok (.ifCond .ne 13, 3) := by decide +kernel
theorem dX3_keyOf_4 : decode cX3_keyOf 4 = .ok (.aload_n 2, 1) := by decide +kernel
theorem dX3_keyOf_5 : decode cX3_keyOf 5 = .ok (.getfield 121, 3) := by decide +kernel
theorem dX3_keyOf_8 : decode cX3_keyOf 8 = .ok (.getfield 126, 3) := by decide +kernel
theorem dX3_keyOf_11 : decode cX3_keyOf 11 = .ok (.iload_n 1, 1) := by decide +kernel
theorem dX3_keyOf_12 : decode cX3_keyOf 12 = .ok (.iaload, 1) := by decide +kernel
theorem dX3_keyOf_13 : decode cX3_keyOf 13 = .ok (.ireturn, 1) := by decide +kernel
theorem dX3_keyOf_14 : decode cX3_keyOf 14 = .ok (.iload_n 3, 1) := by decide +kernel
theorem dX3_keyOf_15 : decode cX3_keyOf 15 = .ok (.iconst 1, 1) := by decide +kernel
theorem dX3_keyOf_16 : decode cX3_keyOf 16 = .ok (.if_icmp .ne 10, 3) := by decide +kernel
theorem dX3_keyOf_19 : decode cX3_keyOf 19 = .ok (.aload_n 2, 1) := by decide +kernel
theorem dX3_keyOf_20 : decode cX3_keyOf 20 = .ok (.getfield 129, 3) := by decide +kernel
theorem dX3_keyOf_23 : decode cX3_keyOf 23 = .ok (.iload_n 1, 1) := by decide +kernel
theorem dX3_keyOf_24 : decode cX3_keyOf 24 = .ok (.iaload, 1) := by decide +kernel
theorem dX3_keyOf_25 : decode cX3_keyOf 25 = .ok (.ireturn, 1) := by decide +kernel
theorem dX3_keyOf_26 : decode cX3_keyOf 26 = .ok (.iload_n 3, 1) := by decide +kernel
theorem dX3_keyOf_27 : decode cX3_keyOf 27 = .ok (.iconst 2, 1) := by decide +kernel
theorem dX3_keyOf_28 : decode cX3_keyOf 28 = .ok (.if_icmp .ne 19, 3) := by decide +kernel
theorem dX3_keyOf_31 : decode cX3_keyOf 31 = .ok (.aload_n 0, 1) := by decide +kernel
theorem dX3_keyOf_32 : decode cX3_keyOf 32 = .ok (.getfield 33, 3) := by decide +kernel
theorem dX3_keyOf_35 : decode cX3_keyOf 35 = .ok (.getfield 46, 3) := by decide +kernel
theorem dX3_keyOf_38 : decode cX3_keyOf 38 = .ok (.iload_n 1, 1) := by decide +kernel
theorem dX3_keyOf_39 : decode cX3_keyOf 39 = .ok (.aaload, 1) := by decide +kernel
theorem dX3_keyOf_40 : decode cX3_keyOf 40 = .ok (.getfield 132, 3) := by decide +kernel
theorem dX3_keyOf_43 : decode cX3_keyOf 43 = .ok (.ineg, 1) := by decide +kernel
theorem dX3_keyOf_44 : decode cX3_keyOf 44 = .ok (.goto 16, 3) := by decide +kernel
theorem dX3_keyOf_47 : decode cX3_keyOf 47 = .ok (.aload_n 0, 1) := by decide +kernel
theorem dX3_keyOf_48 : decode cX3_keyOf 48 = .ok (.getfield 33, 3) := by decide +kernel
theorem dX3_keyOf_51 : decode cX3_keyOf 51 = .ok (.getfield 46, 3) := by decide +kernel
theorem dX3_keyOf_54 : decode cX3_keyOf 54 = .ok (.iload_n 1, 1) := by decide +kernel
theorem dX3_keyOf_55 : decode cX3_keyOf 55 = .ok (.aaload, 1) := by decide +kernel
theorem dX3_keyOf_56 : decode cX3_keyOf 56 = .ok (.getfield 82, 3) := by decide +kernel
theorem dX3_keyOf_59 : decode cX3_keyOf 59 = .ok (.ineg, 1) := by decide +kernel
theorem dX3_keyOf_60 : decode cX3_keyOf 60 = .ok (.ireturn, 1) := by decide +kernel
theorem dX3_isTooLarge_0 : decode cX3_isTooLarge 0 = .ok (.aload_n 0, 1) := by decide +kernel
theorem dX3_isTooLarge_1 : decode cX3_isTooLarge 1 = .ok (.getfield 33, 3) := by decide +kernel
theorem dX3_isTooLarge_4 : decode cX3_isTooLarge 4 = .ok (.getfield 46, 3) := by decide +kernel
theorem dX3_isTooLarge_7 : decode cX3_isTooLarge 7 = .ok (.iload_n 1, 1) := by decide +kernel
theorem dX3_isTooLarge_8 : decode cX3_isTooLarge 8 = .ok (.aaload, 1) := by decide +kernel
theorem dX3_isTooLarge_9 : decode cX3_isTooLarge 9 = .ok (.astore_n 2, 1) := by decide +kernel
theorem dX3_isTooLarge_10 : decode cX3_isTooLarge 10 = .ok (.aload_n 2, 1) := by decide +kernel
theorem dX3_isTooLarge_11 : decode cX3_isTooLarge 11 = .ok (.getfield 82, 3) := by decide +kernel
theorem dX3_isTooLarge_14 : decode cX3_isTooLarge 14 = .ok (.ifCond .ne 5, 3) := by decide +kernel
theorem dX3_isTooLarge_17 : decode cX3_isTooLarge 17 = .ok (.iconst 0, 1) := by decide +kernel
theorem dX3_isTooLarge_18 : decode cX3_isTooLarge 18 = .ok (.ireturn, 1) := by decide +kernel
theorem dX3_isTooLarge_19 : decode cX3_isTooLarge 19 = .ok (.iconst 0, 1) := by decide +kernel
theorem dX3_isTooLarge_20 : decode cX3_isTooLarge 20 = .ok (.istore_n 3, 1) := by decide +kernel
theorem dX3_isTooLarge_21 : decode cX3_isTooLarge 21 = .ok (.iload_n 3, 1) := by decide +kernel
theorem dX3_isTooLarge_22 : decode cX3_isTooLarge 22 = .ok (.iconst 4, 1) := by decide +kernel
theorem dX3_isTooLarge_23 : decode cX3_isTooLarge 23 = .ok (.if_icmp .ge 32, 3) := by decide +kernel
theorem dX3_isTooLarge_26 : decode cX3_isTooLarge 26 = .ok (.aload_n 2, 1) := by decide +kernel
theorem dX3_isTooLarge_27 : decode cX3_isTooLarge 27 = .ok (.getfield 135, 3) := by decide +kernel
theorem dX3_isTooLarge_30 : decode cX3_isTooLarge 30 = .ok (.iload_n 3, 1) := by decide +kernel
theorem dX3_isTooLarge_31 : decode cX3_isTooLarge 31 = .ok (.iaload, 1) := by decide +kernel
theorem dX3_isTooLarge_32 : decode cX3_isTooLarge 32 = .ok (.aload_n 0, 1) := by decide +kernel
theorem dX3_isTooLarge_33 : decode cX3_isTooLarge 33 = .ok (.getfield 33, 3) := by decide +kernel
theorem dX3_isTooLarge_36 : decode cX3_isTooLarge 36 = .ok (.getfield 138, 3) := by decide +kernel
theorem dX3_isTooLarge_39 : decode cX3_isTooLarge 39 = .ok (.iload_n 3, 1) := by decide +kernel
theorem dX3_isTooLarge_40 : decode cX3_isTooLarge 40 = .ok (.aaload, 1) := by decide +kernel
theorem dX3_isTooLarge_41 : decode cX3_isTooLarge 41 = .ok (.getfield 142, 3) := by decide +kernel
theorem dX3_isTooLarge_44 : decode cX3_isTooLarge 44 = .ok (.if_icmp .le 5, 3) := by decide +kernel
theorem dX3_isTooLarge_47 : decode cX3_isTooLarge 47 = .ok (.iconst 1, 1) := by decide +kernel
theorem dX3_isTooLarge_48 : decode cX3_isTooLarge 48 = .ok (.ireturn, 1) := by decide +kernel
theorem dX3_isTooLarge_49 : decode cX3_isTooLarge 49 = .ok (.iinc 3 1, 3) := by decide +kernel
theorem dX3_isTooLarge_52 : decode cX3_isTooLarge 52 = .ok (.goto (-31), 3) := by decide +kernel
theorem dX3_isTooLarge_55 : decode cX3_isTooLarge 55 = .ok (.iconst 0, 1) := by decide +kernel
theorem dX3_isTooLarge_56 : decode cX3_isTooLarge 56 = .ok (.ireturn, 1) := by decide +kernel
theorem dX3_firstWithCrews_0 : decode cX3_firstWithCrews 0 = .ok (.aload_n 0, 1) := by decide +kernel
theorem dX3_firstWithCrews_1 : decode cX3_firstWithCrews 1 = .ok (.getfield 33, 3) := by decide +kernel
theorem dX3_firstWithCrews_4 : decode cX3_firstWithCrews 4 = .ok (.getfield 46, 3) := by decide +kernel
theorem dX3_firstWithCrews_7 : decode cX3_firstWithCrews 7 = .ok (.iload_n 1, 1) := by decide +kernel
theorem dX3_firstWithCrews_8 : decode cX3_firstWithCrews 8 = .ok (.aaload, 1) := by decide +kernel
theorem dX3_firstWithCrews_9 : decode cX3_firstWithCrews 9 = .ok (.astore_n 3, 1) := by decide +kernel
theorem dX3_firstWithCrews_10 : decode cX3_firstWithCrews 10 = .ok (.aload_n 0, 1) := by decide +kernel
theorem dX3_firstWithCrews_11 : decode cX3_firstWithCrews 11 = .ok (.getfield 33, 3) := by decide +kernel
theorem dX3_firstWithCrews_14 : decode cX3_firstWithCrews 14 = .ok (.iload_n 1, 1) := by decide +kernel
theorem dX3_firstWithCrews_15 : decode cX3_firstWithCrews 15 = .ok (.invokevirtual 78, 3) := by decide +kernel
theorem dX3_firstWithCrews_18 : decode cX3_firstWithCrews 18 = .ok (.astore 4, 2) := by decide +kernel
theorem dX3_firstWithCrews_20 : decode cX3_firstWithCrews 20 = .ok (.iload_n 2, 1) := by decide +kernel
theorem dX3_firstWithCrews_21 : decode cX3_firstWithCrews 21 = .ok (.istore 5, 2) := by decide +kernel
theorem dX3_firstWithCrews_23 : decode cX3_firstWithCrews 23 = .ok (.iconst 0, 1) := by decide +kernel
theorem dX3_firstWithCrews_24 : decode cX3_firstWithCrews 24 = .ok (.istore 6, 2) := by decide +kernel
theorem dX3_firstWithCrews_26 : decode cX3_firstWithCrews 26 = .ok (.iload_n 2, 1) := by decide +kernel
theorem dX3_firstWithCrews_27 : decode cX3_firstWithCrews 27 = .ok (.istore 7, 2) := by decide +kernel
theorem dX3_firstWithCrews_29 : decode cX3_firstWithCrews 29 = .ok (.iload 7, 2) := by decide +kernel
theorem dX3_firstWithCrews_31 : decode cX3_firstWithCrews 31 = .ok (.sipush 5000, 3) := by decide +kernel
theorem dX3_firstWithCrews_34 : decode cX3_firstWithCrews 34 = .ok (.if_icmp .ge 59, 3) := by decide +kernel
theorem dX3_firstWithCrews_37 : decode cX3_firstWithCrews 37 = .ok (.iload 6, 2) := by decide +kernel
theorem dX3_firstWithCrews_39 : decode cX3_firstWithCrews 39 = .ok (.aload_n 3, 1) := by decide +kernel
theorem dX3_firstWithCrews_40 : decode cX3_firstWithCrews 40 = .ok (.getfield 82, 3) := by decide +kernel
theorem dX3_firstWithCrews_43 : decode cX3_firstWithCrews 43 = .ok (.if_icmp .ge 50, 3) := by decide +kernel
theorem dX3_firstWithCrews_46 : decode cX3_firstWithCrews 46 = .ok (.aload 4, 2) := by decide +kernel
theorem dX3_firstWithCrews_48 : decode cX3_firstWithCrews 48 = .ok (.iload 7, 2) := by decide +kernel
theorem dX3_firstWithCrews_50 : decode cX3_firstWithCrews 50 = .ok (.invokevirtual 147, 3) := by decide +kernel
theorem dX3_firstWithCrews_53 : decode cX3_firstWithCrews 53 = .ok (.ifCond .ne 6, 3) := by decide +kernel
theorem dX3_firstWithCrews_56 : decode cX3_firstWithCrews 56 = .ok (.goto 31, 3) := by decide +kernel
theorem dX3_firstWithCrews_59 : decode cX3_firstWithCrews 59 = .ok (.aload_n 0, 1) := by decide +kernel
theorem dX3_firstWithCrews_60 : decode cX3_firstWithCrews 60 = .ok (.aload_n 3, 1) := by decide +kernel
theorem dX3_firstWithCrews_61 : decode cX3_firstWithCrews 61 = .ok (.iload 7, 2) := by decide +kernel
theorem dX3_firstWithCrews_63 : decode cX3_firstWithCrews 63 = .ok (.invokevirtual 150, 3) := by decide +kernel
theorem dX3_firstWithCrews_66 : decode cX3_firstWithCrews 66 = .ok (.ifCond .ne 9, 3) := by decide +kernel
theorem dX3_firstWithCrews_69 : decode cX3_firstWithCrews 69 = .ok (.iconst 0, 1) := by decide +kernel
theorem dX3_firstWithCrews_70 : decode cX3_firstWithCrews 70 = .ok (.istore 6, 2) := by decide +kernel
theorem dX3_firstWithCrews_72 : decode cX3_firstWithCrews 72 = .ok (.goto 15, 3) := by decide +kernel
theorem dX3_firstWithCrews_75 : decode cX3_firstWithCrews 75 = .ok (.iload 6, 2) := by decide +kernel
theorem dX3_firstWithCrews_77 : decode cX3_firstWithCrews 77 = .ok (.ifCond .ne 7, 3) := by decide +kernel
theorem dX3_firstWithCrews_80 : decode cX3_firstWithCrews 80 = .ok (.iload 7, 2) := by decide +kernel
theorem dX3_firstWithCrews_82 : decode cX3_firstWithCrews 82 = .ok (.istore 5, 2) := by decide +kernel
theorem dX3_firstWithCrews_84 : decode cX3_firstWithCrews 84 = .ok (.iinc 6 1, 3) := by decide +kernel
theorem dX3_firstWithCrews_87 : decode cX3_firstWithCrews 87 = .ok (.iinc 7 1, 3) := by decide +kernel
theorem dX3_firstWithCrews_90 : decode cX3_firstWithCrews 90 = .ok (.goto (-61), 3) := by decide +kernel
theorem dX3_firstWithCrews_93 : decode cX3_firstWithCrews 93 = .ok (.iload 5, 2) := by decide +kernel
theorem dX3_firstWithCrews_95 : decode cX3_firstWithCrews 95 = .ok (.ireturn, 1) := by decide +kernel
theorem dX3_crewsSuffice_0 : decode cX3_crewsSuffice 0 = .ok (.iconst 0, 1) := by decide +kernel
theorem dX3_crewsSuffice_1 : decode cX3_crewsSuffice 1 = .ok (.istore_n 3, 1) := by decide +kernel
theorem dX3_crewsSuffice_2 : decode cX3_crewsSuffice 2 = .ok (.iload_n 3, 1) := by decide +kernel
theorem dX3_crewsSuffice_3 : decode cX3_crewsSuffice 3 = .ok (.iconst 4, 1) := by decide +kernel
theorem dX3_crewsSuffice_4 : decode cX3_crewsSuffice 4 = .ok (.if_icmp .ge 51, 3) := by decide +kernel
theorem dX3_crewsSuffice_7 : decode cX3_crewsSuffice 7 = .ok (.aload_n 1, 1) := by decide +kernel
theorem dX3_crewsSuffice_8 : decode cX3_crewsSuffice 8 = .ok (.getfield 135, 3) := by decide +kernel
theorem dX3_crewsSuffice_11 : decode cX3_crewsSuffice 11 = .ok (.iload_n 3, 1) := by decide +kernel
theorem dX3_crewsSuffice_12 : decode cX3_crewsSuffice 12 = .ok (.iaload, 1) := by decide +kernel
theorem dX3_crewsSuffice_13 : decode cX3_crewsSuffice 13 = .ok (.istore 4, 2) := by decide +kernel
theorem dX3_crewsSuffice_15 : decode cX3_crewsSuffice 15 = .ok (.iload 4, 2) := by decide +kernel
theorem dX3_crewsSuffice_17 : decode cX3_crewsSuffice 17 = .ok (.ifCond .le 32, 3) := by decide +kernel
theorem dX3_crewsSuffice_20 : decode cX3_crewsSuffice 20 = .ok (.iload 4, 2) := by decide +kernel
theorem dX3_crewsSuffice_22 : decode cX3_crewsSuffice 22 = .ok (.aload_n 0, 1) := by decide +kernel
theorem dX3_crewsSuffice_23 : decode cX3_crewsSuffice 23 = .ok (.getfield 33, 3) := by decide +kernel
theorem dX3_crewsSuffice_26 : decode cX3_crewsSuffice 26 = .ok (.getfield 138, 3) := by decide +kernel
theorem dX3_crewsSuffice_29 : decode cX3_crewsSuffice 29 = .ok (.iload_n 3, 1) := by decide +kernel
theorem dX3_crewsSuffice_30 : decode cX3_crewsSuffice 30 = .ok (.aaload, 1) := by decide +kernel
theorem dX3_crewsSuffice_31 : decode cX3_crewsSuffice 31 = .ok (.getfield 142, 3) := by decide +kernel
theorem dX3_crewsSuffice_34 : decode cX3_crewsSuffice 34 = .ok (.aload_n 0, 1) := by decide +kernel
theorem dX3_crewsSuffice_35 : decode cX3_crewsSuffice 35 = .ok (.getfield 21, 3) := by decide +kernel
theorem dX3_crewsSuffice_38 : decode cX3_crewsSuffice 38 = .ok (.iload_n 3, 1) := by decide +kernel
theorem dX3_crewsSuffice_39 : decode cX3_crewsSuffice 39 = .ok (.iload_n 2, 1) := by decide +kernel
theorem dX3_crewsSuffice_40 : decode cX3_crewsSuffice 40 = .ok (.invokevirtual 154, 3) := by decide +kernel
theorem dX3_crewsSuffice_43 : decode cX3_crewsSuffice 43 = .ok (.isub, 1) := by decide +kernel
theorem dX3_crewsSuffice_44 : decode cX3_crewsSuffice 44 = .ok (.if_icmp .le 5, 3) := by decide +kernel
theorem dX3_crewsSuffice_47 : decode cX3_crewsSuffice 47 = .ok (.iconst 0, 1) := by decide +kernel
theorem dX3_crewsSuffice_48 : decode cX3_crewsSuffice 48 = .ok (.ireturn, 1) := by decide +kernel
theorem dX3_crewsSuffice_49 : decode cX3_crewsSuffice 49 = .ok (.iinc 3 1, 3) := by decide +kernel
theorem dX3_crewsSuffice_52 : decode cX3_crewsSuffice 52 = .ok (.goto (-50), 3) := by decide +kernel
theorem dX3_crewsSuffice_55 : decode cX3_crewsSuffice 55 = .ok (.iconst 1, 1) := by decide +kernel
theorem dX3_crewsSuffice_56 : decode cX3_crewsSuffice 56 = .ok (.ireturn, 1) := by decide +kernel
theorem dX3_holdOf_0 : decode cX3_holdOf 0 = .ok (.aload_n 0, 1) := by decide +kernel
theorem dX3_holdOf_1 : decode cX3_holdOf 1 = .ok (.getfield 33, 3) := by decide +kernel
theorem dX3_holdOf_4 : decode cX3_holdOf 4 = .ok (.getfield 46, 3) := by decide +kernel
theorem dX3_holdOf_7 : decode cX3_holdOf 7 = .ok (.iload_n 1, 1) := by decide +kernel
theorem dX3_holdOf_8 : decode cX3_holdOf 8 = .ok (.aaload, 1) := by decide +kernel
theorem dX3_holdOf_9 : decode cX3_holdOf 9 = .ok (.astore_n 2, 1) := by decide +kernel
theorem dX3_holdOf_10 : decode cX3_holdOf 10 = .ok (.aload_n 2, 1) := by decide +kernel
theorem dX3_holdOf_11 : decode cX3_holdOf 11 = .ok (.getfield 50, 3) := by decide +kernel
theorem dX3_holdOf_14 : decode cX3_holdOf 14 = .ok (.ifCond .ne 12, 3) := by decide +kernel
theorem dX3_holdOf_17 : decode cX3_holdOf 17 = .ok (.aload_n 0, 1) := by decide +kernel
theorem dX3_holdOf_18 : decode cX3_holdOf 18 = .ok (.getfield 25, 3) := by decide +kernel
theorem dX3_holdOf_21 : decode cX3_holdOf 21 = .ok (.iload_n 1, 1) := by decide +kernel
theorem dX3_holdOf_22 : decode cX3_holdOf 22 = .ok (.baload, 1) := by decide +kernel
theorem dX3_holdOf_23 : decode cX3_holdOf 23 = .ok (.ifCond .ne 5, 3) := by decide +kernel
theorem dX3_holdOf_26 : decode cX3_holdOf 26 = .ok (.iconst (-1), 1) := by decide +kernel
theorem dX3_holdOf_27 : decode cX3_holdOf 27 = .ok (.ireturn, 1) := by decide +kernel
theorem dX3_holdOf_28 : decode cX3_holdOf 28 = .ok (.aload_n 0, 1) := by decide +kernel
theorem dX3_holdOf_29 : decode cX3_holdOf 29 = .ok (.getfield 12, 3) := by decide +kernel
theorem dX3_holdOf_32 : decode cX3_holdOf 32 = .ok (.getfield 126, 3) := by decide +kernel
theorem dX3_holdOf_35 : decode cX3_holdOf 35 = .ok (.iload_n 1, 1) := by decide +kernel
theorem dX3_holdOf_36 : decode cX3_holdOf 36 = .ok (.iaload, 1) := by decide +kernel
theorem dX3_holdOf_37 : decode cX3_holdOf 37 = .ok (.istore_n 3, 1) := by decide +kernel
theorem dX3_holdOf_38 : decode cX3_holdOf 38 = .ok (.iload_n 3, 1) := by decide +kernel
theorem dX3_holdOf_39 : decode cX3_holdOf 39 = .ok (.aload_n 0, 1) := by decide +kernel
theorem dX3_holdOf_40 : decode cX3_holdOf 40 = .ok (.getfield 33, 3) := by decide +kernel
theorem dX3_holdOf_43 : decode cX3_holdOf 43 = .ok (.iload_n 1, 1) := by decide +kernel
theorem dX3_holdOf_44 : decode cX3_holdOf 44 = .ok (.aload_n 0, 1) := by decide +kernel
theorem dX3_holdOf_45 : decode cX3_holdOf 45 = .ok (.getfield 12, 3) := by decide +kernel
theorem dX3_holdOf_48 : decode cX3_holdOf 48 = .ok (.invokevirtual 70, 3) := by decide +kernel
theorem dX3_holdOf_51 : decode cX3_holdOf 51 = .ok (.if_icmp .le 5, 3) := by decide +kernel
theorem dX3_holdOf_54 : decode cX3_holdOf 54 = .ok (.iconst 2, 1) := by decide +kernel
theorem dX3_holdOf_55 : decode cX3_holdOf 55 = .ok (.ireturn, 1) := by decide +kernel
theorem dX3_holdOf_56 : decode cX3_holdOf 56 = .ok (.iload_n 3, 1) := by decide +kernel
theorem dX3_holdOf_57 : decode cX3_holdOf 57 = .ok (.aload_n 0, 1) := by decide +kernel
theorem dX3_holdOf_58 : decode cX3_holdOf 58 = .ok (.getfield 33, 3) := by decide +kernel
theorem dX3_holdOf_61 : decode cX3_holdOf 61 = .ok (.iload_n 1, 1) := by decide +kernel
theorem dX3_holdOf_62 : decode cX3_holdOf 62 = .ok (.invokevirtual 78, 3) := by decide +kernel
theorem dX3_holdOf_65 : decode cX3_holdOf 65 = .ok (.aload_n 2, 1) := by decide +kernel
theorem dX3_holdOf_66 : decode cX3_holdOf 66 = .ok (.getfield 82, 3) := by decide +kernel
theorem dX3_holdOf_69 : decode cX3_holdOf 69 = .ok (.aload_n 2, 1) := by decide +kernel
theorem dX3_holdOf_70 : decode cX3_holdOf 70 = .ok (.getfield 157, 3) := by decide +kernel
theorem dX3_holdOf_73 : decode cX3_holdOf 73 = .ok (.iconst 0, 1) := by decide +kernel
theorem dX3_holdOf_74 : decode cX3_holdOf 74 = .ok (.invokevirtual 160, 3) := by decide +kernel
theorem dX3_holdOf_77 : decode cX3_holdOf 77 = .ok (.if_icmp .le 7, 3) := by decide +kernel
theorem dX3_holdOf_80 : decode cX3_holdOf 80 = .ok (.iconst 1, 1) := by decide +kernel
theorem dX3_holdOf_81 : decode cX3_holdOf 81 = .ok (.goto 4, 3) := by decide +kernel
theorem dX3_holdOf_84 : decode cX3_holdOf 84 = .ok (.iconst 0, 1) := by decide +kernel
theorem dX3_holdOf_85 : decode cX3_holdOf 85 = .ok (.istore 4, 2) := by decide +kernel
theorem dX3_holdOf_87 : decode cX3_holdOf 87 = .ok (.iload 4, 2) := by decide +kernel
theorem dX3_holdOf_89 : decode cX3_holdOf 89 = .ok (.ifCond .eq 7, 3) := by decide +kernel
theorem dX3_holdOf_92 : decode cX3_holdOf 92 = .ok (.iconst 1, 1) := by decide +kernel
theorem dX3_holdOf_93 : decode cX3_holdOf 93 = .ok (.goto 4, 3) := by decide +kernel
theorem dX3_holdOf_96 : decode cX3_holdOf 96 = .ok (.iconst 0, 1) := by decide +kernel
theorem dX3_holdOf_97 : decode cX3_holdOf 97 = .ok (.ireturn, 1) := by decide +kernel
theorem dX3_linkThatHolds_0 : decode cX3_linkThatHolds 0 = .ok (.aload_n 0, 1) := by decide +kernel
theorem dX3_linkThatHolds_1 : decode cX3_linkThatHolds 1 = .ok (.iload_n 1, 1) := by decide +kernel
theorem dX3_linkThatHolds_2 : decode cX3_linkThatHolds 2 = .ok (.invokevirtual 164, 3) := by decide +kernel
theorem dX3_linkThatHolds_5 : decode cX3_linkThatHolds 5 = .ok (.iconst 1, 1) := by decide +kernel
theorem dX3_linkThatHolds_6 : decode cX3_linkThatHolds 6 = .ok (.if_icmp .eq 5, 3) := by decide +kernel
theorem dX3_linkThatHolds_9 : decode cX3_linkThatHolds 9 = .ok (.iconst (-1), 1) := by decide +kernel
theorem dX3_linkThatHolds_10 : decode cX3_linkThatHolds 10 = .ok (.ireturn, 1) := by decide +kernel
theorem dX3_linkThatHolds_11 : decode cX3_linkThatHolds 11 = .ok (.iconst 0, 1) := by decide +kernel
theorem dX3_linkThatHolds_12 : decode cX3_linkThatHolds 12 = .ok (.istore_n 2, 1) := by decide +kernel
theorem dX3_linkThatHolds_13 : decode cX3_linkThatHolds 13 = .ok (.iload_n 2, 1) := by decide +kernel
theorem dX3_linkThatHolds_14 : decode cX3_linkThatHolds 14 = .ok (.aload_n 0, 1) := by decide +kernel
theorem dX3_linkThatHolds_15 : decode cX3_linkThatHolds 15 = .ok (.getfield 33, 3) := by decide +kernel
theorem dX3_linkThatHolds_18 : decode cX3_linkThatHolds 18 = .ok (.getfield 168, 3) := by decide +kernel
theorem dX3_linkThatHolds_21 : decode cX3_linkThatHolds 21 = .ok (.if_icmp .ge 53, 3) := by decide +kernel
theorem dX3_linkThatHolds_24 : decode cX3_linkThatHolds 24 = .ok (.aload_n 0, 1) := by decide +kernel
theorem dX3_linkThatHolds_25 : decode cX3_linkThatHolds 25 = .ok (.getfield 33, 3) := by decide +kernel
theorem dX3_linkThatHolds_28 : decode cX3_linkThatHolds 28 = .ok (.getfield 171, 3) := by decide +kernel
theorem dX3_linkThatHolds_31 : decode cX3_linkThatHolds 31 = .ok (.iload_n 2, 1) := by decide +kernel
theorem dX3_linkThatHolds_32 : decode cX3_linkThatHolds 32 = .ok (.aaload, 1) := by decide +kernel
theorem dX3_linkThatHolds_33 : decode cX3_linkThatHolds 33 = .ok (.astore_n 3, 1) := by decide +kernel
theorem dX3_linkThatHolds_34 : decode cX3_linkThatHolds 34 = .ok (.aload_n 3, 1) := by decide +kernel
theorem dX3_linkThatHolds_35 : decode cX3_linkThatHolds 35 = .ok (.getfield 175, 3) := by decide +kernel
theorem dX3_linkThatHolds_38 : decode cX3_linkThatHolds 38 = .ok (.iload_n 1, 1) := by decide +kernel
theorem dX3_linkThatHolds_39 : decode cX3_linkThatHolds 39 = .ok (.if_icmp .ne 29, 3) := by decide +kernel
theorem dX3_linkThatHolds_42 : decode cX3_linkThatHolds 42 = .ok (.aload_n 0, 1) := by decide +kernel
theorem dX3_linkThatHolds_43 : decode cX3_linkThatHolds 43 = .ok (.getfield 33, 3) := by decide +kernel
theorem dX3_linkThatHolds_46 : decode cX3_linkThatHolds 46 = .ok (.aload_n 3, 1) := by decide +kernel
theorem dX3_linkThatHolds_47 : decode cX3_linkThatHolds 47 = .ok (.aload_n 0, 1) := by decide +kernel
theorem dX3_linkThatHolds_48 : decode cX3_linkThatHolds 48 = .ok (.getfield 12, 3) := by decide +kernel
theorem dX3_linkThatHolds_51 : decode cX3_linkThatHolds 51 = .ok (.invokevirtual 180, 3) := by decide +kernel
theorem dX3_linkThatHolds_54 : decode cX3_linkThatHolds 54 = .ok (.aload_n 0, 1) := by decide +kernel
theorem dX3_linkThatHolds_55 : decode cX3_linkThatHolds 55 = .ok (.getfield 12, 3) := by decide +kernel
theorem dX3_linkThatHolds_58 : decode cX3_linkThatHolds 58 = .ok (.getfield 126, 3) := by decide +kernel
theorem dX3_linkThatHolds_61 : decode cX3_linkThatHolds 61 = .ok (.iload_n 1, 1) := by decide +kernel
theorem dX3_linkThatHolds_62 : decode cX3_linkThatHolds 62 = .ok (.iaload, 1) := by decide +kernel
theorem dX3_linkThatHolds_63 : decode cX3_linkThatHolds 63 = .ok (.if_icmp .lt 5, 3) := by decide +kernel
theorem dX3_linkThatHolds_66 : decode cX3_linkThatHolds 66 = .ok (.iload_n 2, 1) := by decide +kernel
theorem dX3_linkThatHolds_67 : decode cX3_linkThatHolds 67 = .ok (.ireturn, 1) := by decide +kernel
theorem dX3_linkThatHolds_68 : decode cX3_linkThatHolds 68 = .ok (.iinc 2 1, 3) := by decide +kernel
theorem dX3_linkThatHolds_71 : decode cX3_linkThatHolds 71 = .ok (.goto (-58), 3) := by decide +kernel
theorem dX3_linkThatHolds_74 : decode cX3_linkThatHolds 74 = .ok (.iconst (-1), 1) := by decide +kernel
theorem dX3_linkThatHolds_75 : decode cX3_linkThatHolds 75 = .ok (.ireturn, 1) := by decide +kernel
theorem dX4_init_0 : decode cX4_init 0 = .ok (.aload_n 0, 1) := by decide +kernel
theorem dX4_init_1 : decode cX4_init 1 = .ok (.invokespecial 1, 3) := by decide +kernel
theorem dX4_init_4 : decode cX4_init 4 = .ok (.return_, 1) := by decide +kernel
theorem dX5_init_0 : decode cX5_init 0 = .ok (.aload_n 0, 1) := by decide +kernel
theorem dX5_init_1 : decode cX5_init 1 = .ok (.invokespecial 3, 3) := by decide +kernel
theorem dX5_init_4 : decode cX5_init 4 = .ok (.aload_n 0, 1) := by decide +kernel
theorem dX5_init_5 : decode cX5_init 5 = .ok (.iconst 4, 1) := by decide +kernel
theorem dX5_init_6 : decode cX5_init 6 = .ok (.sipush 5000, 3) := by decide +kernel
theorem dX5_init_9 : decode cX5_init 9 = .ok (.multianewarray 9 2, 4) := by decide +kernel
theorem dX5_init_13 : decode cX5_init 13 = .ok (.putfield 11, 3) := by decide +kernel
theorem dX5_init_16 : decode cX5_init 16 = .ok (.return_, 1) := by decide +kernel
theorem dX5_clear_0 : decode cX5_clear 0 = .ok (.iconst 0, 1) := by decide +kernel
theorem dX5_clear_1 : decode cX5_clear 1 = .ok (.istore_n 1, 1) := by decide +kernel
theorem dX5_clear_2 : decode cX5_clear 2 = .ok (.iload_n 1, 1) := by decide +kernel
theorem dX5_clear_3 : decode cX5_clear 3 = .ok (.iconst 4, 1) := by decide +kernel
theorem dX5_clear_4 : decode cX5_clear 4 = .ok (.if_icmp .ge 24, 3) := by decide +kernel
theorem dX5_clear_7 : decode cX5_clear 7 = .ok (.aload_n 0, 1) := by decide +kernel
theorem dX5_clear_8 : decode cX5_clear 8 = .ok (.getfield 11, 3) := by decide +kernel
theorem dX5_clear_11 : decode cX5_clear 11 = .ok (.iload_n 1, 1) := by decide +kernel
theorem dX5_clear_12 : decode cX5_clear 12 = .ok (.aaload, 1) := by decide +kernel
theorem dX5_clear_13 : decode cX5_clear 13 = .ok (.iconst 0, 1) := by decide +kernel
theorem dX5_clear_14 : decode cX5_clear 14 = .ok (.aload_n 0, 1) := by decide +kernel
theorem dX5_clear_15 : decode cX5_clear 15 = .ok (.getfield 16, 3) := by decide +kernel
theorem dX5_clear_18 : decode cX5_clear 18 = .ok (.iconst 0, 1) := by decide +kernel
theorem dX5_clear_19 : decode cX5_clear 19 = .ok (.invokestatic 20, 3) := by decide +kernel
theorem dX5_clear_22 : decode cX5_clear 22 = .ok (.iinc 1 1, 3) := by decide +kernel
theorem dX5_clear_25 : decode cX5_clear 25 = .ok (.goto (-23), 3) := by decide +kernel
theorem dX5_clear_28 : decode cX5_clear 28 = .ok (.aload_n 0, 1) := by decide +kernel
theorem dX5_clear_29 : decode cX5_clear 29 = .ok (.iconst 0, 1) := by decide +kernel
theorem dX5_clear_30 : decode cX5_clear 30 = .ok (.putfield 16, 3) := by decide +kernel
theorem dX5_clear_33 : decode cX5_clear 33 = .ok (.return_, 1) := by decide +kernel
theorem dX5_add_0 : decode cX5_add 0 = .ok (.iload 4, 2) := by decide +kernel
theorem dX5_add_2 : decode cX5_add 2 = .ok (.sipush 5000, 3) := by decide +kernel
theorem dX5_add_5 : decode cX5_add 5 = .ok (.invokestatic 26, 3) := by decide +kernel
theorem dX5_add_8 : decode cX5_add 8 = .ok (.istore 5, 2) := by decide +kernel
theorem dX5_add_10 : decode cX5_add 10 = .ok (.iload_n 3, 1) := by decide +kernel
theorem dX5_add_11 : decode cX5_add 11 = .ok (.iconst 0, 1) := by decide +kernel
theorem dX5_add_12 : decode cX5_add 12 = .ok (.invokestatic 32, 3) := by decide +kernel
theorem dX5_add_15 : decode cX5_add 15 = .ok (.istore 6, 2) := by decide +kernel
theorem dX5_add_17 : decode cX5_add 17 = .ok (.iload 6, 2) := by decide +kernel
theorem dX5_add_19 : decode cX5_add 19 = .ok (.iload 5, 2) := by decide +kernel
theorem dX5_add_21 : decode cX5_add 21 = .ok (.if_icmp .ge 53, 3) := by decide +kernel
theorem dX5_add_24 : decode cX5_add 24 = .ok (.aload_n 2, 1) := by decide +kernel
theorem dX5_add_25 : decode cX5_add 25 = .ok (.iload 6, 2) := by decide +kernel
theorem dX5_add_27 : decode cX5_add 27 = .ok (.invokevirtual 35, 3) := by decide +kernel
theorem dX5_add_30 : decode cX5_add 30 = .ok (.ifCond .eq 38, 3) := by decide +kernel
theorem dX5_add_33 : decode cX5_add 33 = .ok (.iconst 0, 1) := by decide +kernel
theorem dX5_add_34 : decode cX5_add 34 = .ok (.istore 7, 2) := by decide +kernel
theorem dX5_add_36 : decode cX5_add 36 = .ok (.iload 7, 2) := by decide +kernel
theorem dX5_add_38 : decode cX5_add 38 = .ok (.iconst 4, 1) := by decide +kernel
theorem dX5_add_39 : decode cX5_add 39 = .ok (.if_icmp .ge 29, 3) := by decide +kernel
theorem dX5_add_42 : decode cX5_add 42 = .ok (.aload_n 0, 1) := by decide +kernel
theorem dX5_add_43 : decode cX5_add 43 = .ok (.getfield 11, 3) := by decide +kernel
theorem dX5_add_46 : decode cX5_add 46 = .ok (.iload 7, 2) := by decide +kernel
theorem dX5_add_48 : decode cX5_add 48 = .ok (.aaload, 1) := by decide +kernel
theorem dX5_add_49 : decode cX5_add 49 = .ok (.iload 6, 2) := by decide +kernel
theorem dX5_add_51 : decode cX5_add 51 = .ok (.dup2, 1) := by decide +kernel
theorem dX5_add_52 : decode cX5_add 52 = .ok (.iaload, 1) := by decide +kernel
theorem dX5_add_53 : decode cX5_add 53 = .ok (.aload_n 1, 1) := by decide +kernel
theorem dX5_add_54 : decode cX5_add 54 = .ok (.getfield 41, 3) := by decide +kernel
theorem dX5_add_57 : decode cX5_add 57 = .ok (.iload 7, 2) := by decide +kernel
theorem dX5_add_59 : decode cX5_add 59 = .ok (.iaload, 1) := by decide +kernel
theorem dX5_add_60 : decode cX5_add 60 = .ok (.iadd, 1) := by decide +kernel
theorem dX5_add_61 : decode cX5_add 61 = .ok (.iastore, 1) := by decide +kernel
theorem dX5_add_62 : decode cX5_add 62 = .ok (.iinc 7 1, 3) := by decide +kernel
theorem dX5_add_65 : decode cX5_add 65 = .ok (.goto (-29), 3) := by decide +kernel
theorem dX5_add_68 : decode cX5_add 68 = .ok (.iinc 6 1, 3) := by decide +kernel
theorem dX5_add_71 : decode cX5_add 71 = .ok (.goto (-54), 3) := by decide +kernel
theorem dX5_add_74 : decode cX5_add 74 = .ok (.aload_n 0, 1) := by decide +kernel
theorem dX5_add_75 : decode cX5_add 75 = .ok (.aload_n 0, 1) := by decide +kernel
theorem dX5_add_76 : decode cX5_add 76 = .ok (.getfield 16, 3) := by decide +kernel
theorem dX5_add_79 : decode cX5_add 79 = .ok (.iload 5, 2) := by decide +kernel
theorem dX5_add_81 : decode cX5_add 81 = .ok (.invokestatic 32, 3) := by decide +kernel
theorem dX5_add_84 : decode cX5_add 84 = .ok (.putfield 16, 3) := by decide +kernel
theorem dX5_add_87 : decode cX5_add 87 = .ok (.return_, 1) := by decide +kernel
theorem dX5_on_0 : decode cX5_on 0 = .ok (.iload_n 2, 1) := by decide +kernel
theorem dX5_on_1 : decode cX5_on 1 = .ok (.sipush 4999, 3) := by decide +kernel
theorem dX5_on_4 : decode cX5_on 4 = .ok (.invokestatic 47, 3) := by decide +kernel
theorem dX5_on_7 : decode cX5_on 7 = .ok (.ifCond .eq 14, 3) := by decide +kernel
theorem dX5_on_10 : decode cX5_on 10 = .ok (.aload_n 0, 1) := by decide +kernel
theorem dX5_on_11 : decode cX5_on 11 = .ok (.getfield 11, 3) := by decide +kernel
theorem dX5_on_14 : decode cX5_on 14 = .ok (.iload_n 1, 1) := by decide +kernel
theorem dX5_on_15 : decode cX5_on 15 = .ok (.aaload, 1) := by decide +kernel
theorem dX5_on_16 : decode cX5_on 16 = .ok (.iload_n 2, 1) := by decide +kernel
theorem dX5_on_17 : decode cX5_on 17 = .ok (.iaload, 1) := by decide +kernel
theorem dX5_on_18 : decode cX5_on 18 = .ok (.goto 4, 3) := by decide +kernel
theorem dX5_on_21 : decode cX5_on 21 = .ok (.iconst 0, 1) := by decide +kernel
theorem dX5_on_22 : decode cX5_on 22 = .ok (.ireturn, 1) := by decide +kernel
theorem dX5_daysAbove_0 : decode cX5_daysAbove 0 = .ok (.iconst 0, 1) := by decide +kernel
theorem dX5_daysAbove_1 : decode cX5_daysAbove 1 = .ok (.istore_n 3, 1) := by decide +kernel
theorem dX5_daysAbove_2 : decode cX5_daysAbove 2 = .ok (.iconst 0, 1) := by decide +kernel
theorem dX5_daysAbove_3 : decode cX5_daysAbove 3 = .ok (.istore 4, 2) := by decide +kernel
theorem dX5_daysAbove_5 : decode cX5_daysAbove 5 = .ok (.iload 4, 2) := by decide +kernel
theorem dX5_daysAbove_7 : decode cX5_daysAbove 7 = .ok (.aload_n 0, 1) := by decide +kernel
theorem dX5_daysAbove_8 : decode cX5_daysAbove 8 = .ok (.getfield 16, 3) := by decide +kernel
theorem dX5_daysAbove_11 : decode cX5_daysAbove 11 = .ok (.if_icmp .ge 25, 3) := by decide +kernel
theorem dX5_daysAbove_14 : decode cX5_daysAbove 14 = .ok (.aload_n 0, 1) := by decide +kernel
theorem dX5_daysAbove_15 : decode cX5_daysAbove 15 = .ok (.getfield 11, 3) := by decide +kernel
theorem dX5_daysAbove_18 : decode cX5_daysAbove 18 = .ok (.iload_n 1, 1) := by decide +kernel
theorem dX5_daysAbove_19 : decode cX5_daysAbove 19 = .ok (.aaload, 1) := by decide +kernel
theorem dX5_daysAbove_20 : decode cX5_daysAbove 20 = .ok (.iload 4, 2) := by decide +kernel
theorem dX5_daysAbove_22 : decode cX5_daysAbove 22 = .ok (.iaload, 1) := by decide +kernel
theorem dX5_daysAbove_23 : decode cX5_daysAbove 23 = .ok (.iload_n 2, 1) := by decide +kernel
theorem dX5_daysAbove_24 : decode cX5_daysAbove 24 = .ok (.if_icmp .le 6, 3) := by decide +kernel
theorem dX5_daysAbove_27 : decode cX5_daysAbove 27 = .ok (.iinc 3 1, 3) := by decide +kernel
theorem dX5_daysAbove_30 : decode cX5_daysAbove 30 = .ok (.iinc 4 1, 3) := by decide +kernel
theorem dX5_daysAbove_33 : decode cX5_daysAbove 33 = .ok (.goto (-28), 3) := by decide +kernel
theorem dX5_daysAbove_36 : decode cX5_daysAbove 36 = .ok (.iload_n 3, 1) := by decide +kernel
theorem dX5_daysAbove_37 : decode cX5_daysAbove 37 = .ok (.ireturn, 1) := by decide +kernel
theorem dX5_greatest_0 : decode cX5_greatest 0 = .ok (.iconst 0, 1) := by decide +kernel
theorem dX5_greatest_1 : decode cX5_greatest 1 = .ok (.istore_n 2, 1) := by decide +kernel
theorem dX5_greatest_2 : decode cX5_greatest 2 = .ok (.iconst 0, 1) := by decide +kernel
theorem dX5_greatest_3 : decode cX5_greatest 3 = .ok (.istore_n 3, 1) := by decide +kernel
theorem dX5_greatest_4 : decode cX5_greatest 4 = .ok (.iload_n 3, 1) := by decide +kernel
theorem dX5_greatest_5 : decode cX5_greatest 5 = .ok (.aload_n 0, 1) := by decide +kernel
theorem dX5_greatest_6 : decode cX5_greatest 6 = .ok (.getfield 16, 3) := by decide +kernel
theorem dX5_greatest_9 : decode cX5_greatest 9 = .ok (.if_icmp .ge 22, 3) := by decide +kernel
theorem dX5_greatest_12 : decode cX5_greatest 12 = .ok (.iload_n 2, 1) := by decide +kernel
theorem dX5_greatest_13 : decode cX5_greatest 13 = .ok (.aload_n 0, 1) := by decide +kernel
theorem dX5_greatest_14 : decode cX5_greatest 14 = .ok (.getfield 11, 3) := by decide +kernel
theorem dX5_greatest_17 : decode cX5_greatest 17 = .ok (.iload_n 1, 1) := by decide +kernel
theorem dX5_greatest_18 : decode cX5_greatest 18 = .ok (.aaload, 1) := by decide +kernel
theorem dX5_greatest_19 : decode cX5_greatest 19 = .ok (.iload_n 3, 1) := by decide +kernel
theorem dX5_greatest_20 : decode cX5_greatest 20 = .ok (.iaload, 1) := by decide +kernel
theorem dX5_greatest_21 : decode cX5_greatest 21 = .ok (.invokestatic 32, 3) := by decide +kernel
theorem dX5_greatest_24 : decode cX5_greatest 24 = .ok (.istore_n 2, 1) := by decide +kernel
theorem dX5_greatest_25 : decode cX5_greatest 25 = .ok (.iinc 3 1, 3) := by decide +kernel
theorem dX5_greatest_28 : decode cX5_greatest 28 = .ok (.goto (-24), 3) := by decide +kernel
theorem dX5_greatest_31 : decode cX5_greatest 31 = .ok (.iload_n 2, 1) := by decide +kernel
theorem dX5_greatest_32 : decode cX5_greatest 32 = .ok (.ireturn, 1) := by decide +kernel
theorem dX5_leftOver_0 : decode cX5_leftOver 0 = .ok (.iconst 0, 1) := by decide +kernel
theorem dX5_leftOver_1 : decode cX5_leftOver 1 = .ok (.istore 4, 2) := by decide +kernel
theorem dX5_leftOver_3 : decode cX5_leftOver 3 = .ok (.iconst 0, 1) := by decide +kernel
theorem dX5_leftOver_4 : decode cX5_leftOver 4 = .ok (.istore 5, 2) := by decide +kernel
theorem dX5_leftOver_6 : decode cX5_leftOver 6 = .ok (.iload 5, 2) := by decide +kernel
theorem dX5_leftOver_8 : decode cX5_leftOver 8 = .ok (.iload_n 3, 1) := by decide +kernel
theorem dX5_leftOver_9 : decode cX5_leftOver 9 = .ok (.if_icmp .ge 27, 3) := by decide +kernel
theorem dX5_leftOver_12 : decode cX5_leftOver 12 = .ok (.iload 4, 2) := by decide +kernel
theorem dX5_leftOver_14 : decode cX5_leftOver 14 = .ok (.iconst 0, 1) := by decide +kernel
theorem dX5_leftOver_15 : decode cX5_leftOver 15 = .ok (.iload_n 2, 1) := by decide +kernel
theorem dX5_leftOver_16 : decode cX5_leftOver 16 = .ok (.aload_n 0, 1) := by decide +kernel
theorem dX5_leftOver_17 : decode cX5_leftOver 17 = .ok (.iload_n 1, 1) := by decide +kernel
theorem dX5_leftOver_18 : decode cX5_leftOver 18 = .ok (.iload 5, 2) := by decide +kernel
theorem dX5_leftOver_20 : decode cX5_leftOver 20 = .ok (.invokevirtual 51, 3) := by decide +kernel
theorem dX5_leftOver_23 : decode cX5_leftOver 23 = .ok (.isub, 1) := by decide +kernel
theorem dX5_leftOver_24 : decode cX5_leftOver 24 = .ok (.invokestatic 32, 3) := by decide +kernel
theorem dX5_leftOver_27 : decode cX5_leftOver 27 = .ok (.iadd, 1) := by decide +kernel
theorem dX5_leftOver_28 : decode cX5_leftOver 28 = .ok (.istore 4, 2) := by decide +kernel
theorem dX5_leftOver_30 : decode cX5_leftOver 30 = .ok (.iinc 5 1, 3) := by decide +kernel
theorem dX5_leftOver_33 : decode cX5_leftOver 33 = .ok (.goto (-27), 3) := by decide +kernel
theorem dX5_leftOver_36 : decode cX5_leftOver 36 = .ok (.iload 4, 2) := by decide +kernel
theorem dX5_leftOver_38 : decode cX5_leftOver 38 = .ok (.ireturn, 1) := by decide +kernel
theorem dX6_init_0 : decode cX6_init 0 = .ok (.aload_n 0, 1) := by decide +kernel
theorem dX6_init_1 : decode cX6_init 1 = .ok (.invokespecial 3, 3) := by decide +kernel
theorem dX6_init_4 : decode cX6_init 4 = .ok (.aload_n 0, 1) := by decide +kernel
theorem dX6_init_5 : decode cX6_init 5 = .ok (.new 9, 3) := by decide +kernel
theorem dX6_init_8 : decode cX6_init 8 = .ok (.dup, 1) := by decide +kernel
theorem dX6_init_9 : decode cX6_init 9 = .ok (.invokespecial 11, 3) := by decide +kernel
theorem dX6_init_12 : decode cX6_init 12 = .ok (.putfield 12, 3) := by decide +kernel
theorem dX6_init_15 : decode cX6_init 15 = .ok (.aload_n 0, 1) := by decide +kernel
theorem dX6_init_16 : decode cX6_init 16 = .ok (.new 9, 3) := by decide +kernel
theorem dX6_init_19 : decode cX6_init 19 = .ok (.dup, 1) := by decide +kernel
theorem dX6_init_20 : decode cX6_init 20 = .ok (.invokespecial 11, 3) := by decide +kernel
theorem dX6_init_23 : decode cX6_init 23 = .ok (.putfield 18, 3) := by decide +kernel
theorem dX6_init_26 : decode cX6_init 26 = .ok (.aload_n 0, 1) := by decide +kernel
theorem dX6_init_27 : decode cX6_init 27 = .ok (.bipush 24, 2) := by decide +kernel
theorem dX6_init_29 : decode cX6_init 29 = .ok (.newarray .int, 2) := by decide +kernel
theorem dX6_init_31 : decode cX6_init 31 = .ok (.putfield 21, 3) := by decide +kernel
theorem dX6_init_34 : decode cX6_init 34 = .ok (.aload_n 0, 1) := by decide +kernel
theorem dX6_init_35 : decode cX6_init 35 = .ok (.aload_n 1, 1) := by decide +kernel
theorem dX6_init_36 : decode cX6_init 36 = .ok (.putfield 25, 3) := by decide +kernel
theorem dX6_init_39 : decode cX6_init 39 = .ok (.return_, 1) := by decide +kernel
theorem dX6_reckonEarly_0 : decode cX6_reckonEarly 0 = .ok (.aload_n 0, 1) := by decide +kernel
theorem dX6_reckonEarly_1 : decode cX6_reckonEarly 1 = .ok (.iconst 0, 1) := by decide +kernel
theorem dX6_reckonEarly_2 : decode cX6_reckonEarly 2 = .ok (.putfield 29, 3) := by decide +kernel
theorem dX6_reckonEarly_5 : decode cX6_reckonEarly 5 = .ok (.iconst 0, 1) := by decide +kernel
theorem dX6_reckonEarly_6 : decode cX6_reckonEarly 6 = .ok (.istore_n 1, 1) := by decide +kernel
theorem dX6_reckonEarly_7 : decode cX6_reckonEarly 7 = .ok (.iload_n 1, 1) := by decide +kernel
theorem dX6_reckonEarly_8 : decode cX6_reckonEarly 8 = .ok (.aload_n 0, 1) := by decide +kernel
theorem dX6_reckonEarly_9 : decode cX6_reckonEarly 9 = .ok (.getfield 25, 3) := by decide +kernel
theorem dX6_reckonEarly_12 : decode cX6_reckonEarly 12 = .ok (.getfield 33, 3) := by decide +kernel
theorem dX6_reckonEarly_15 : decode cX6_reckonEarly 15 = .ok (.if_icmp .ge 116, 3) := by decide +kernel
theorem dX6_reckonEarly_18 : decode cX6_reckonEarly 18 = .ok (.aload_n 0, 1) := by decide +kernel
theorem dX6_reckonEarly_19 : decode cX6_reckonEarly 19 = .ok (.getfield 25, 3) := by decide +kernel
theorem dX6_reckonEarly_22 : decode cX6_reckonEarly 22 = .ok (.getfield 38, 3) := by decide +kernel
theorem dX6_reckonEarly_25 : decode cX6_reckonEarly 25 = .ok (.iload_n 1, 1) := by decide +kernel
theorem dX6_reckonEarly_26 : decode cX6_reckonEarly 26 = .ok (.iaload, 1) := by decide +kernel
theorem dX6_reckonEarly_27 : decode cX6_reckonEarly 27 = .ok (.istore_n 2, 1) := by decide +kernel
theorem dX6_reckonEarly_28 : decode cX6_reckonEarly 28 = .ok (.aload_n 0, 1) := by decide +kernel
theorem dX6_reckonEarly_29 : decode cX6_reckonEarly 29 = .ok (.getfield 25, 3) := by decide +kernel
theorem dX6_reckonEarly_32 : decode cX6_reckonEarly 32 = .ok (.getfield 41, 3) := by decide +kernel
theorem dX6_reckonEarly_35 : decode cX6_reckonEarly 35 = .ok (.iload_n 2, 1) := by decide +kernel
theorem dX6_reckonEarly_36 : decode cX6_reckonEarly 36 = .ok (.aaload, 1) := by decide +kernel
theorem dX6_reckonEarly_37 : decode cX6_reckonEarly 37 = .ok (.astore_n 3, 1) := by decide +kernel
theorem dX6_reckonEarly_38 : decode cX6_reckonEarly 38 = .ok (.aload_n 3, 1) := by decide +kernel
theorem dX6_reckonEarly_39 : decode cX6_reckonEarly 39 = .ok (.getfield 45, 3) := by decide +kernel
theorem dX6_reckonEarly_42 : decode cX6_reckonEarly 42 = .ok (.ifCond .eq 22, 3) := by decide +kernel
theorem dX6_reckonEarly_45 : decode cX6_reckonEarly 45 = .ok (.aload_n 0, 1) := by decide +kernel
theorem dX6_reckonEarly_46 : decode cX6_reckonEarly 46 = .ok (.getfield 12, 3) := by decide +kernel
theorem dX6_reckonEarly_49 : decode cX6_reckonEarly 49 = .ok (.iload_n 2, 1) := by decide +kernel
theorem dX6_reckonEarly_50 : decode cX6_reckonEarly 50 = .ok (.aload_n 3, 1) := by decide +kernel
theorem dX6_reckonEarly_51 : decode cX6_reckonEarly 51 = .ok (.getfield 51, 3) := by decide +kernel
theorem dX6_reckonEarly_54 : decode cX6_reckonEarly 54 = .ok (.aload_n 3, 1) := by decide +kernel
theorem dX6_reckonEarly_55 : decode cX6_reckonEarly 55 = .ok (.getfield 54, 3) := by decide +kernel
theorem dX6_reckonEarly_58 : decode cX6_reckonEarly 58 = .ok (.invokevirtual 57, 3) := by decide +kernel
theorem dX6_reckonEarly_61 : decode cX6_reckonEarly 61 = .ok (.goto 44, 3) := by decide +kernel
theorem dX6_reckonEarly_64 : decode cX6_reckonEarly 64 = .ok (.aload_n 0, 1) := by decide +kernel
theorem dX6_reckonEarly_65 : decode cX6_reckonEarly 65 = .ok (.getfield 25, 3) := by decide +kernel
theorem dX6_reckonEarly_68 : decode cX6_reckonEarly 68 = .ok (.iload_n 2, 1) := by decide +kernel
theorem dX6_reckonEarly_69 : decode cX6_reckonEarly 69 = .ok (.aload_n 0, 1) := by decide +kernel
theorem dX6_reckonEarly_70 : decode cX6_reckonEarly 70 = .ok (.getfield 12, 3) := by decide +kernel
theorem dX6_reckonEarly_73 : decode cX6_reckonEarly 73 = .ok (.invokevirtual 61, 3) := by decide +kernel
theorem dX6_reckonEarly_76 : decode cX6_reckonEarly 76 = .ok (.istore 4, 2) := by decide +kernel
theorem dX6_reckonEarly_78 : decode cX6_reckonEarly 78 = .ok (.aload_n 0, 1) := by decide +kernel
theorem dX6_reckonEarly_79 : decode cX6_reckonEarly 79 = .ok (.getfield 12, 3) := by decide +kernel
theorem dX6_reckonEarly_82 : decode cX6_reckonEarly 82 = .ok (.iload_n 2, 1) := by decide +kernel
theorem dX6_reckonEarly_83 : decode cX6_reckonEarly 83 = .ok (.iload 4, 2) := by decide +kernel
theorem dX6_reckonEarly_85 : decode cX6_reckonEarly 85 = .ok (.aload_n 0, 1) := by decide +kernel
theorem dX6_reckonEarly_86 : decode cX6_reckonEarly 86 = .ok (.getfield 25, 3) := by decide +kernel
theorem dX6_reckonEarly_89 : decode cX6_reckonEarly 89 = .ok (.iload_n 2, 1) := by decide +kernel
theorem dX6_reckonEarly_90 : decode cX6_reckonEarly 90 = .ok (.invokevirtual 65, 3) := by decide +kernel
theorem dX6_reckonEarly_93 : decode cX6_reckonEarly 93 = .ok (.iload 4, 2) := by decide +kernel
theorem dX6_reckonEarly_95 : decode cX6_reckonEarly 95 = .ok (.aload_n 3, 1) := by decide +kernel
theorem dX6_reckonEarly_96 : decode cX6_reckonEarly 96 = .ok (.getfield 69, 3) := by decide +kernel
theorem dX6_reckonEarly_99 : decode cX6_reckonEarly 99 = .ok (.invokevirtual 72, 3) := by decide +kernel
theorem dX6_reckonEarly_102 : decode cX6_reckonEarly 102 = .ok (.invokevirtual 57, 3) := by decide +kernel
theorem dX6_reckonEarly_105 : decode cX6_reckonEarly 105 = .ok (.aload_n 0, 1) := by decide +kernel
theorem dX6_reckonEarly_106 : decode cX6_reckonEarly 106 = .ok (.aload_n 0, 1) := by decide +kernel
theorem dX6_reckonEarly_107 : decode cX6_reckonEarly 107 = .ok (.getfield 29, 3) := by decide +kernel
theorem dX6_reckonEarly_110 : decode cX6_reckonEarly 110 = .ok (.aload_n 0, 1) := by decide +kernel
theorem dX6_reckonEarly_111 : decode cX6_reckonEarly 111 = .ok (.getfield 12, 3) := by decide +kernel
theorem dX6_reckonEarly_114 : decode cX6_reckonEarly 114 = .ok (.getfield 78, 3) := by decide +kernel
theorem dX6_reckonEarly_117 : decode cX6_reckonEarly 117 = .ok (.iload_n 2, 1) := by decide +kernel
theorem dX6_reckonEarly_118 : decode cX6_reckonEarly 118 = .ok (.iaload, 1) := by decide +kernel
theorem dX6_reckonEarly_119 : decode cX6_reckonEarly 119 = .ok (.invokestatic 81, 3) := by decide +kernel
theorem dX6_reckonEarly_122 : decode cX6_reckonEarly 122 = .ok (.putfield 29, 3) := by decide +kernel
theorem dX6_reckonEarly_125 : decode cX6_reckonEarly 125 = .ok (.iinc 1 1, 3) := by decide +kernel
theorem dX6_reckonEarly_128 : decode cX6_reckonEarly 128 = .ok (.goto (-121), 3) := by decide +kernel
theorem dX6_reckonEarly_131 : decode cX6_reckonEarly 131 = .ok (.return_, 1) := by decide +kernel
theorem dX6_reckonLate_0 : decode cX6_reckonLate 0 = .ok (.aload_n 0, 1) := by decide +kernel
theorem dX6_reckonLate_1 : decode cX6_reckonLate 1 = .ok (.getfield 25, 3) := by decide +kernel
theorem dX6_reckonLate_4 : decode cX6_reckonLate 4 = .ok (.getfield 33, 3) := by decide +kernel
theorem dX6_reckonLate_7 : decode cX6_reckonLate 7 = .ok (.iconst 1, 1) := by decide +kernel
theorem dX6_reckonLate_8 : decode cX6_reckonLate 8 = .ok (.isub, 1) := by decide +kernel
theorem dX6_reckonLate_9 : decode cX6_reckonLate 9 = .ok (.istore_n 1, 1) := by decide +kernel
theorem dX6_reckonLate_10 : decode cX6_reckonLate 10 = .ok (.iload_n 1, 1) := by decide +kernel
theorem dX6_reckonLate_11 : decode cX6_reckonLate 11 = .ok (.ifCond .lt 109, 3) := by decide +kernel
theorem dX6_reckonLate_14 : decode cX6_reckonLate 14 = .ok (.aload_n 0, 1) := by decide +kernel
theorem dX6_reckonLate_15 : decode cX6_reckonLate 15 = .ok (.getfield 25, 3) := by decide +kernel
theorem dX6_reckonLate_18 : decode cX6_reckonLate 18 = .ok (.getfield 38, 3) := by decide +kernel
theorem dX6_reckonLate_21 : decode cX6_reckonLate 21 = .ok (.iload_n 1, 1) := by decide +kernel
theorem dX6_reckonLate_22 : decode cX6_reckonLate 22 = .ok (.iaload, 1) := by decide +kernel
theorem dX6_reckonLate_23 : decode cX6_reckonLate 23 = .ok (.istore_n 2, 1) := by decide +kernel
theorem dX6_reckonLate_24 : decode cX6_reckonLate 24 = .ok (.aload_n 0, 1) := by decide +kernel
theorem dX6_reckonLate_25 : decode cX6_reckonLate 25 = .ok (.getfield 25, 3) := by decide +kernel
theorem dX6_reckonLate_28 : decode cX6_reckonLate 28 = .ok (.getfield 41, 3) := by decide +kernel
theorem dX6_reckonLate_31 : decode cX6_reckonLate 31 = .ok (.iload_n 2, 1) := by decide +kernel
theorem dX6_reckonLate_32 : decode cX6_reckonLate 32 = .ok (.aaload, 1) := by decide +kernel
theorem dX6_reckonLate_33 : decode cX6_reckonLate 33 = .ok (.astore_n 3, 1) := by decide +kernel
theorem dX6_reckonLate_34 : decode cX6_reckonLate 34 = .ok (.aload_n 3, 1) := by decide +kernel
theorem dX6_reckonLate_35 : decode cX6_reckonLate 35 = .ok (.getfield 45, 3) := by decide +kernel
theorem dX6_reckonLate_38 : decode cX6_reckonLate 38 = .ok (.ifCond .eq 29, 3) := by decide +kernel
theorem dX6_reckonLate_41 : decode cX6_reckonLate 41 = .ok (.aload_n 0, 1) := by decide +kernel
theorem dX6_reckonLate_42 : decode cX6_reckonLate 42 = .ok (.getfield 18, 3) := by decide +kernel
theorem dX6_reckonLate_45 : decode cX6_reckonLate 45 = .ok (.iload_n 2, 1) := by decide +kernel
theorem dX6_reckonLate_46 : decode cX6_reckonLate 46 = .ok (.aload_n 3, 1) := by decide +kernel
theorem dX6_reckonLate_47 : decode cX6_reckonLate 47 = .ok (.getfield 51, 3) := by decide +kernel
theorem dX6_reckonLate_50 : decode cX6_reckonLate 50 = .ok (.aload_n 3, 1) := by decide +kernel
theorem dX6_reckonLate_51 : decode cX6_reckonLate 51 = .ok (.getfield 54, 3) := by decide +kernel
theorem dX6_reckonLate_54 : decode cX6_reckonLate 54 = .ok (.invokevirtual 57, 3) := by decide +kernel
theorem dX6_reckonLate_57 : decode cX6_reckonLate 57 = .ok (.aload_n 0, 1) := by decide +kernel
theorem dX6_reckonLate_58 : decode cX6_reckonLate 58 = .ok (.getfield 21, 3) := by decide +kernel
theorem dX6_reckonLate_61 : decode cX6_reckonLate 61 = .ok (.iload_n 2, 1) := by decide +kernel
theorem dX6_reckonLate_62 : decode cX6_reckonLate 62 = .ok (.iconst 0, 1) := by decide +kernel
theorem dX6_reckonLate_63 : decode cX6_reckonLate 63 = .ok (.iastore, 1) := by decide +kernel
theorem dX6_reckonLate_64 : decode cX6_reckonLate 64 = .ok (.goto 50, 3) := by decide +kernel
theorem dX6_reckonLate_67 : decode cX6_reckonLate 67 = .ok (.aload_n 0, 1) := by decide +kernel
theorem dX6_reckonLate_68 : decode cX6_reckonLate 68 = .ok (.iload_n 2, 1) := by decide +kernel
theorem dX6_reckonLate_69 : decode cX6_reckonLate 69 = .ok (.invokevirtual 86, 3) := by decide +kernel
theorem dX6_reckonLate_72 : decode cX6_reckonLate 72 = .ok (.istore 4, 2) := by decide +kernel
theorem dX6_reckonLate_74 : decode cX6_reckonLate 74 = .ok (.aload_n 0, 1) := by decide +kernel
theorem dX6_reckonLate_75 : decode cX6_reckonLate 75 = .ok (.getfield 18, 3) := by decide +kernel
theorem dX6_reckonLate_78 : decode cX6_reckonLate 78 = .ok (.iload_n 2, 1) := by decide +kernel
theorem dX6_reckonLate_79 : decode cX6_reckonLate 79 = .ok (.iload 4, 2) := by decide +kernel
theorem dX6_reckonLate_81 : decode cX6_reckonLate 81 = .ok (.aload_n 0, 1) := by decide +kernel
theorem dX6_reckonLate_82 : decode cX6_reckonLate 82 = .ok (.getfield 25, 3) := by decide +kernel
theorem dX6_reckonLate_85 : decode cX6_reckonLate 85 = .ok (.iload_n 2, 1) := by decide +kernel
theorem dX6_reckonLate_86 : decode cX6_reckonLate 86 = .ok (.invokevirtual 65, 3) := by decide +kernel
theorem dX6_reckonLate_89 : decode cX6_reckonLate 89 = .ok (.iload 4, 2) := by decide +kernel
theorem dX6_reckonLate_91 : decode cX6_reckonLate 91 = .ok (.aload_n 3, 1) := by decide +kernel
theorem dX6_reckonLate_92 : decode cX6_reckonLate 92 = .ok (.getfield 69, 3) := by decide +kernel
theorem dX6_reckonLate_95 : decode cX6_reckonLate 95 = .ok (.invokevirtual 72, 3) := by decide +kernel
theorem dX6_reckonLate_98 : decode cX6_reckonLate 98 = .ok (.invokevirtual 57, 3) := by decide +kernel
theorem dX6_reckonLate_101 : decode cX6_reckonLate 101 = .ok (.aload_n 0, 1) := by decide +kernel
theorem dX6_reckonLate_102 : decode cX6_reckonLate 102 = .ok (.getfield 21, 3) := by decide +kernel
theorem dX6_reckonLate_105 : decode cX6_reckonLate 105 = .ok (.iload_n 2, 1) := by decide +kernel
theorem dX6_reckonLate_106 : decode cX6_reckonLate 106 = .ok (.aload_n 0, 1) := by decide +kernel
theorem dX6_reckonLate_107 : decode cX6_reckonLate 107 = .ok (.iload_n 2, 1) := by decide +kernel
theorem dX6_reckonLate_108 : decode cX6_reckonLate 108 = .ok (.iload 4, 2) := by decide +kernel
theorem dX6_reckonLate_110 : decode cX6_reckonLate 110 = .ok (.invokevirtual 90, 3) := by decide +kernel
theorem dX6_reckonLate_113 : decode cX6_reckonLate 113 = .ok (.iastore, 1) := by decide +kernel
theorem dX6_reckonLate_114 : decode cX6_reckonLate 114 = .ok (.iinc 1 (-1), 3) := by decide +kernel
theorem dX6_reckonLate_117 : decode cX6_reckonLate 117 = .ok (.goto (-107), 3) := by decide +kernel
theorem dX6_reckonLate_120 : decode cX6_reckonLate 120 = .ok (.return_, 1) := by decide +kernel
theorem dX6_latestDay_0 : decode cX6_latestDay 0 = .ok (.aload_n 0, 1) := by decide +kernel
theorem dX6_latestDay_1 : decode cX6_latestDay 1 = .ok (.getfield 29, 3) := by decide +kernel
theorem dX6_latestDay_4 : decode cX6_latestDay 4 = .ok (.istore_n 2, 1) := by decide +kernel
theorem dX6_latestDay_5 : decode cX6_latestDay 5 = .ok (.aload_n 0, 1) := by decide +kernel
theorem dX6_latestDay_6 : decode cX6_latestDay 6 = .ok (.getfield 29, 3) := by decide +kernel
theorem dX6_latestDay_9 : decode cX6_latestDay 9 = .ok (.istore_n 3, 1) := by decide +kernel
theorem dX6_latestDay_10 : decode cX6_latestDay 10 = .ok (.iconst 0, 1) := by decide +kernel
theorem dX6_latestDay_11 : decode cX6_latestDay 11 = .ok (.istore 4, 2) := by decide +kernel
theorem dX6_latestDay_13 : decode cX6_latestDay 13 = .ok (.iload 4, 2) := by decide +kernel
theorem dX6_latestDay_15 : decode cX6_latestDay 15 = .ok (.aload_n 0, 1) := by decide +kernel
theorem dX6_latestDay_16 : decode cX6_latestDay 16 = .ok (.getfield 25, 3) := by decide +kernel
theorem dX6_latestDay_19 : decode cX6_latestDay 19 = .ok (.getfield 93, 3) := by decide +kernel
theorem dX6_latestDay_22 : decode cX6_latestDay 22 = .ok (.if_icmp .ge 140, 3) := by decide +kernel
theorem dX6_latestDay_25 : decode cX6_latestDay 25 = .ok (.aload_n 0, 1) := by decide +kernel
theorem dX6_latestDay_26 : decode cX6_latestDay 26 = .ok (.getfield 25, 3) := by decide +kernel
theorem dX6_latestDay_29 : decode cX6_latestDay 29 = .ok (.getfield 96, 3) := by decide +kernel
theorem dX6_latestDay_32 : decode cX6_latestDay 32 = .ok (.iload 4, 2) := by decide +kernel
theorem dX6_latestDay_34 : decode cX6_latestDay 34 = .ok (.aaload, 1) := by decide +kernel
theorem dX6_latestDay_35 : decode cX6_latestDay 35 = .ok (.astore 5, 2) := by decide +kernel
theorem dX6_latestDay_37 : decode cX6_latestDay 37 = .ok (.aload 5, 2) := by decide +kernel
theorem dX6_latestDay_39 : decode cX6_latestDay 39 = .ok (.getfield 100, 3) := by decide +kernel
theorem dX6_latestDay_42 : decode cX6_latestDay 42 = .ok (.iload_n 1, 1) := by decide +kernel
theorem dX6_latestDay_43 : decode cX6_latestDay 43 = .ok (.if_icmp .ne 113, 3) := by decide +kernel
theorem dX6_latestDay_46 : decode cX6_latestDay 46 = .ok (.aload_n 0, 1) := by decide +kernel
theorem dX6_latestDay_47 : decode cX6_latestDay 47 = .ok (.getfield 25, 3) := by decide +kernel
theorem dX6_latestDay_50 : decode cX6_latestDay 50 = .ok (.getfield 41, 3) := by decide +kernel
theorem dX6_latestDay_53 : decode cX6_latestDay 53 = .ok (.aload 5, 2) := by decide +kernel
theorem dX6_latestDay_55 : decode cX6_latestDay 55 = .ok (.getfield 105, 3) := by decide +kernel
theorem dX6_latestDay_58 : decode cX6_latestDay 58 = .ok (.aaload, 1) := by decide +kernel
theorem dX6_latestDay_59 : decode cX6_latestDay 59 = .ok (.getfield 45, 3) := by decide +kernel
theorem dX6_latestDay_62 : decode cX6_latestDay 62 = .ok (.ifCond .eq 6, 3) := by decide +kernel
theorem dX6_latestDay_65 : decode cX6_latestDay 65 = .ok (.goto 91, 3) := by decide +kernel
theorem dX6_latestDay_68 : decode cX6_latestDay 68 = .ok (.aload 5, 2) := by decide +kernel
theorem dX6_latestDay_70 : decode cX6_latestDay 70 = .ok (.getfield 108, 3) := by decide +kernel
theorem dX6_latestDay_73 : decode cX6_latestDay 73 = .ok (.iconst 1, 1) := by decide +kernel
theorem dX6_latestDay_74 : decode cX6_latestDay 74 = .ok (.if_icmp .ne 30, 3) := by decide +kernel
theorem dX6_latestDay_77 : decode cX6_latestDay 77 = .ok (.iload_n 2, 1) := by decide +kernel
theorem dX6_latestDay_78 : decode cX6_latestDay 78 = .ok (.aload_n 0, 1) := by decide +kernel
theorem dX6_latestDay_79 : decode cX6_latestDay 79 = .ok (.getfield 18, 3) := by decide +kernel
theorem dX6_latestDay_82 : decode cX6_latestDay 82 = .ok (.getfield 111, 3) := by decide +kernel
theorem dX6_latestDay_85 : decode cX6_latestDay 85 = .ok (.aload 5, 2) := by decide +kernel
theorem dX6_latestDay_87 : decode cX6_latestDay 87 = .ok (.getfield 105, 3) := by decide +kernel
theorem dX6_latestDay_90 : decode cX6_latestDay 90 = .ok (.iaload, 1) := by decide +kernel
theorem dX6_latestDay_91 : decode cX6_latestDay 91 = .ok (.aload 5, 2) := by decide +kernel
theorem dX6_latestDay_93 : decode cX6_latestDay 93 = .ok (.getfield 114, 3) := by decide +kernel
theorem dX6_latestDay_96 : decode cX6_latestDay 96 = .ok (.isub, 1) := by decide +kernel
theorem dX6_latestDay_97 : decode cX6_latestDay 97 = .ok (.invokestatic 117, 3) := by decide +kernel
theorem dX6_latestDay_100 : decode cX6_latestDay 100 = .ok (.istore_n 2, 1) := by decide +kernel
theorem dX6_latestDay_101 : decode cX6_latestDay 101 = .ok (.goto 55, 3) := by decide +kernel
theorem dX6_latestDay_104 : decode cX6_latestDay 104 = .ok (.aload 5, 2) := by decide +kernel
theorem dX6_latestDay_106 : decode cX6_latestDay 106 = .ok (.getfield 108, 3) := by decide +kernel
theorem dX6_latestDay_109 : decode cX6_latestDay 109 = .ok (.ifCond .ne 19, 3) := by decide +kernel
theorem dX6_latestDay_112 : decode cX6_latestDay 112 = .ok (.aload_n 0, 1) := by decide +kernel
theorem dX6_latestDay_113 : decode cX6_latestDay 113 = .ok (.getfield 18, 3) := by decide +kernel
theorem dX6_latestDay_116 : decode cX6_latestDay 116 = .ok (.getfield 111, 3) := by decide +kernel
theorem dX6_latestDay_119 : decode cX6_latestDay 119 = .ok (.aload 5, 2) := by decide +kernel
theorem dX6_latestDay_121 : decode cX6_latestDay 121 = .ok (.getfield 105, 3) := by decide +kernel
theorem dX6_latestDay_124 : decode cX6_latestDay 124 = .ok (.iaload, 1) := by decide +kernel
theorem dX6_latestDay_125 : decode cX6_latestDay 125 = .ok (.goto 16, 3) := by decide +kernel
theorem dX6_latestDay_128 : decode cX6_latestDay 128 = .ok (.aload_n 0, 1) := by decide +kernel
theorem dX6_latestDay_129 : decode cX6_latestDay 129 = .ok (.getfield 18, 3) := by decide +kernel
theorem dX6_latestDay_132 : decode cX6_latestDay 132 = .ok (.getfield 78, 3) := by decide +kernel
theorem dX6_latestDay_135 : decode cX6_latestDay 135 = .ok (.aload 5, 2) := by decide +kernel
theorem dX6_latestDay_137 : decode cX6_latestDay 137 = .ok (.getfield 105, 3) := by decide +kernel
theorem dX6_latestDay_140 : decode cX6_latestDay 140 = .ok (.iaload, 1) := by decide +kernel
theorem dX6_latestDay_141 : decode cX6_latestDay 141 = .ok (.istore 6, 2) := by decide +kernel
theorem dX6_latestDay_143 : decode cX6_latestDay 143 = .ok (.iload_n 3, 1) := by decide +kernel
theorem dX6_latestDay_144 : decode cX6_latestDay 144 = .ok (.iload 6, 2) := by decide +kernel
theorem dX6_latestDay_146 : decode cX6_latestDay 146 = .ok (.aload 5, 2) := by decide +kernel
theorem dX6_latestDay_148 : decode cX6_latestDay 148 = .ok (.getfield 114, 3) := by decide +kernel
theorem dX6_latestDay_151 : decode cX6_latestDay 151 = .ok (.isub, 1) := by decide +kernel
theorem dX6_latestDay_152 : decode cX6_latestDay 152 = .ok (.invokestatic 117, 3) := by decide +kernel
theorem dX6_latestDay_155 : decode cX6_latestDay 155 = .ok (.istore_n 3, 1) := by decide +kernel
theorem dX6_latestDay_156 : decode cX6_latestDay 156 = .ok (.iinc 4 1, 3) := by decide +kernel
theorem dX6_latestDay_159 : decode cX6_latestDay 159 = .ok (.goto (-146), 3) := by decide +kernel
theorem dX6_latestDay_162 : decode cX6_latestDay 162 = .ok (.aload_n 0, 1) := by decide +kernel
theorem dX6_latestDay_163 : decode cX6_latestDay 163 = .ok (.getfield 25, 3) := by decide +kernel
theorem dX6_latestDay_166 : decode cX6_latestDay 166 = .ok (.iload_n 1, 1) := by decide +kernel
theorem dX6_latestDay_167 : decode cX6_latestDay 167 = .ok (.invokevirtual 65, 3) := by decide +kernel
theorem dX6_latestDay_170 : decode cX6_latestDay 170 = .ok (.aload_n 0, 1) := by decide +kernel
theorem dX6_latestDay_171 : decode cX6_latestDay 171 = .ok (.getfield 25, 3) := by decide +kernel
theorem dX6_latestDay_174 : decode cX6_latestDay 174 = .ok (.getfield 41, 3) := by decide +kernel
theorem dX6_latestDay_177 : decode cX6_latestDay 177 = .ok (.iload_n 1, 1) := by decide +kernel
theorem dX6_latestDay_178 : decode cX6_latestDay 178 = .ok (.aaload, 1) := by decide +kernel
theorem dX6_latestDay_179 : decode cX6_latestDay 179 = .ok (.getfield 69, 3) := by decide +kernel
theorem dX6_latestDay_182 : decode cX6_latestDay 182 = .ok (.iload_n 2, 1) := by decide +kernel
theorem dX6_latestDay_183 : decode cX6_latestDay 183 = .ok (.iload_n 3, 1) := by decide +kernel
theorem dX6_latestDay_184 : decode cX6_latestDay 184 = .ok (.invokevirtual 120, 3) := by decide +kernel
theorem dX6_latestDay_187 : decode cX6_latestDay 187 = .ok (.istore 4, 2) := by decide +kernel
theorem dX6_latestDay_189 : decode cX6_latestDay 189 = .ok (.iload 4, 2) := by decide +kernel
theorem dX6_latestDay_191 : decode cX6_latestDay 191 = .ok (.aload_n 0, 1) := by decide +kernel
theorem dX6_latestDay_192 : decode cX6_latestDay 192 = .ok (.getfield 12, 3) := by decide +kernel
theorem dX6_latestDay_195 : decode cX6_latestDay 195 = .ok (.getfield 111, 3) := by decide +kernel
theorem dX6_latestDay_198 : decode cX6_latestDay 198 = .ok (.iload_n 1, 1) := by decide +kernel
theorem dX6_latestDay_199 : decode cX6_latestDay 199 = .ok (.iaload, 1) := by decide +kernel
theorem dX6_latestDay_200 : decode cX6_latestDay 200 = .ok (.invokestatic 81, 3) := by decide +kernel
theorem dX6_latestDay_203 : decode cX6_latestDay 203 = .ok (.ireturn, 1) := by decide +kernel
theorem dX6_roomUpTo_0 : decode cX6_roomUpTo 0 = .ok (.aload_n 0, 1) := by decide +kernel
theorem dX6_roomUpTo_1 : decode cX6_roomUpTo 1 = .ok (.getfield 12, 3) := by decide +kernel
theorem dX6_roomUpTo_4 : decode cX6_roomUpTo 4 = .ok (.getfield 111, 3) := by decide +kernel
theorem dX6_roomUpTo_7 : decode cX6_roomUpTo 7 = .ok (.iload_n 1, 1) := by decide +kernel
theorem dX6_roomUpTo_8 : decode cX6_roomUpTo 8 = .ok (.iaload, 1) := by decide +kernel
theorem dX6_roomUpTo_9 : decode cX6_roomUpTo 9 = .ok (.istore_n 3, 1) := by decide +kernel
theorem dX6_roomUpTo_10 : decode cX6_roomUpTo 10 = .ok (.aload_n 0, 1) := by decide +kernel
theorem dX6_roomUpTo_11 : decode cX6_roomUpTo 11 = .ok (.getfield 25, 3) := by decide +kernel
theorem dX6_roomUpTo_14 : decode cX6_roomUpTo 14 = .ok (.getfield 41, 3) := by decide +kernel
theorem dX6_roomUpTo_17 : decode cX6_roomUpTo 17 = .ok (.iload_n 1, 1) := by decide +kernel
theorem dX6_roomUpTo_18 : decode cX6_roomUpTo 18 = .ok (.aaload, 1) := by decide +kernel
theorem dX6_roomUpTo_19 : decode cX6_roomUpTo 19 = .ok (.getfield 69, 3) := by decide +kernel
theorem dX6_roomUpTo_22 : decode cX6_roomUpTo 22 = .ok (.ifCond .ne 7, 3) := by decide +kernel
theorem dX6_roomUpTo_25 : decode cX6_roomUpTo 25 = .ok (.iload_n 2, 1) := by decide +kernel
theorem dX6_roomUpTo_26 : decode cX6_roomUpTo 26 = .ok (.iload_n 3, 1) := by decide +kernel
theorem dX6_roomUpTo_27 : decode cX6_roomUpTo 27 = .ok (.isub, 1) := by decide +kernel
theorem dX6_roomUpTo_28 : decode cX6_roomUpTo 28 = .ok (.ireturn, 1) := by decide +kernel
theorem dX6_roomUpTo_29 : decode cX6_roomUpTo 29 = .ok (.aload_n 0, 1) := by decide +kernel
theorem dX6_roomUpTo_30 : decode cX6_roomUpTo 30 = .ok (.getfield 25, 3) := by decide +kernel
theorem dX6_roomUpTo_33 : decode cX6_roomUpTo 33 = .ok (.iload_n 1, 1) := by decide +kernel
theorem dX6_roomUpTo_34 : decode cX6_roomUpTo 34 = .ok (.invokevirtual 65, 3) := by decide +kernel
theorem dX6_roomUpTo_37 : decode cX6_roomUpTo 37 = .ok (.iload_n 3, 1) := by decide +kernel
theorem dX6_roomUpTo_38 : decode cX6_roomUpTo 38 = .ok (.iload_n 2, 1) := by decide +kernel
theorem dX6_roomUpTo_39 : decode cX6_roomUpTo 39 = .ok (.invokevirtual 124, 3) := by decide +kernel
theorem dX6_roomUpTo_42 : decode cX6_roomUpTo 42 = .ok (.ireturn, 1) := by decide +kernel
theorem dX6_countTight_0 : decode cX6_countTight 0 = .ok (.iconst 0, 1) := by decide +kernel
theorem dX6_countTight_1 : decode cX6_countTight 1 = .ok (.istore_n 1, 1) := by decide +kernel
theorem dX6_countTight_2 : decode cX6_countTight 2 = .ok (.iconst 0, 1) := by decide +kernel
theorem dX6_countTight_3 : decode cX6_countTight 3 = .ok (.istore_n 2, 1) := by decide +kernel
theorem dX6_countTight_4 : decode cX6_countTight 4 = .ok (.iload_n 2, 1) := by decide +kernel
theorem dX6_countTight_5 : decode cX6_countTight 5 = .ok (.aload_n 0, 1) := by decide +kernel
theorem dX6_countTight_6 : decode cX6_countTight 6 = .ok (.getfield 25, 3) := by decide +kernel
theorem dX6_countTight_9 : decode cX6_countTight 9 = .ok (.getfield 33, 3) := by decide +kernel
theorem dX6_countTight_12 : decode cX6_countTight 12 = .ok (.if_icmp .ge 36, 3) := by decide +kernel
theorem dX6_countTight_15 : decode cX6_countTight 15 = .ok (.aload_n 0, 1) := by decide +kernel
theorem dX6_countTight_16 : decode cX6_countTight 16 = .ok (.getfield 21, 3) := by decide +kernel
theorem dX6_countTight_19 : decode cX6_countTight 19 = .ok (.iload_n 2, 1) := by decide +kernel
theorem dX6_countTight_20 : decode cX6_countTight 20 = .ok (.iaload, 1) := by decide +kernel
theorem dX6_countTight_21 : decode cX6_countTight 21 = .ok (.ifCond .ne 21, 3) := by decide +kernel
theorem dX6_countTight_24 : decode cX6_countTight 24 = .ok (.aload_n 0, 1) := by decide +kernel
theorem dX6_countTight_25 : decode cX6_countTight 25 = .ok (.getfield 25, 3) := by decide +kernel
theorem dX6_countTight_28 : decode cX6_countTight 28 = .ok (.getfield 41, 3) := by decide +kernel
theorem dX6_countTight_31 : decode cX6_countTight 31 = .ok (.iload_n 2, 1) := by decide +kernel
theorem dX6_countTight_32 : decode cX6_countTight 32 = .ok (.aaload, 1) := by decide +kernel
theorem dX6_countTight_33 : decode cX6_countTight 33 = .ok (.getfield 45, 3) := by decide +kernel
theorem dX6_countTight_36 : decode cX6_countTight 36 = .ok (.ifCond .ne 6, 3) := by decide +kernel
theorem dX6_countTight_39 : decode cX6_countTight 39 = .ok (.iinc 1 1, 3) := by decide +kernel
theorem dX6_countTight_42 : decode cX6_countTight 42 = .ok (.iinc 2 1, 3) := by decide +kernel
theorem dX6_countTight_45 : decode cX6_countTight 45 = .ok (.goto (-41), 3) := by decide +kernel
theorem dX6_countTight_48 : decode cX6_countTight 48 = .ok (.iload_n 1, 1) := by decide +kernel
theorem dX6_countTight_49 : decode cX6_countTight 49 = .ok (.ireturn, 1) := by decide +kernel
theorem dX7_init_0 : decode cX7_init 0 = .ok (.aload_n 0, 1) := by decide +kernel
theorem dX7_init_1 : decode cX7_init 1 = .ok (.invokespecial 3, 3) := by decide +kernel
theorem dX7_init_4 : decode cX7_init 4 = .ok (.aload_n 0, 1) := by decide +kernel
theorem dX7_init_5 : decode cX7_init 5 = .ok (.bipush 24, 2) := by decide +kernel
theorem dX7_init_7 : decode cX7_init 7 = .ok (.newarray .int, 2) := by decide +kernel
theorem dX7_init_9 : decode cX7_init 9 = .ok (.putfield 9, 3) := by decide +kernel
theorem dX7_init_12 : decode cX7_init 12 = .ok (.aload_n 0, 1) := by decide +kernel
theorem dX7_init_13 : decode cX7_init 13 = .ok (.bipush 24, 2) := by decide +kernel
theorem dX7_init_15 : decode cX7_init 15 = .ok (.newarray .int, 2) := by decide +kernel
theorem dX7_init_17 : decode cX7_init 17 = .ok (.putfield 15, 3) := by decide +kernel
theorem dX7_init_20 : decode cX7_init 20 = .ok (.return_, 1) := by decide +kernel
theorem dX7_set_0 : decode cX7_set 0 = .ok (.aload_n 0, 1) := by decide +kernel
theorem dX7_set_1 : decode cX7_set 1 = .ok (.getfield 9, 3) := by decide +kernel
theorem dX7_set_4 : decode cX7_set 4 = .ok (.iload_n 1, 1) := by decide +kernel
theorem dX7_set_5 : decode cX7_set 5 = .ok (.iload_n 2, 1) := by decide +kernel
theorem dX7_set_6 : decode cX7_set 6 = .ok (.iastore, 1) := by decide +kernel
theorem dX7_set_7 : decode cX7_set 7 = .ok (.aload_n 0, 1) := by decide +kernel
theorem dX7_set_8 : decode cX7_set 8 = .ok (.getfield 15, 3) := by decide +kernel
theorem dX7_set_11 : decode cX7_set 11 = .ok (.iload_n 1, 1) := by decide +kernel
theorem dX7_set_12 : decode cX7_set 12 = .ok (.iload_n 3, 1) := by decide +kernel
theorem dX7_set_13 : decode cX7_set 13 = .ok (.iastore, 1) := by decide +kernel
theorem dX7_set_14 : decode cX7_set 14 = .ok (.return_, 1) := by decide +kernel
theorem dX7_beginAsked_0 : decode cX7_beginAsked 0 = .ok (.aload_n 1, 1) := by decide +kernel
theorem dX7_beginAsked_1 : decode cX7_beginAsked 1 = .ok (.getfield 18, 3) := by decide +kernel
theorem dX7_beginAsked_4 : decode cX7_beginAsked 4 = .ok (.ifCond .ne 18, 3) := by decide +kernel
theorem dX7_beginAsked_7 : decode cX7_beginAsked 7 = .ok (.aload_n 0, 1) := by decide +kernel
theorem dX7_beginAsked_8 : decode cX7_beginAsked 8 = .ok (.getfield 15, 3) := by decide +kernel
theorem dX7_beginAsked_11 : decode cX7_beginAsked 11 = .ok (.aload_n 1, 1) := by decide +kernel
theorem dX7_beginAsked_12 : decode cX7_beginAsked 12 = .ok (.getfield 24, 3) := by decide +kernel
theorem dX7_beginAsked_15 : decode cX7_beginAsked 15 = .ok (.iaload, 1) := by decide +kernel
theorem dX7_beginAsked_16 : decode cX7_beginAsked 16 = .ok (.aload_n 1, 1) := by decide +kernel
theorem dX7_beginAsked_17 : decode cX7_beginAsked 17 = .ok (.getfield 27, 3) := by decide +kernel
theorem dX7_beginAsked_20 : decode cX7_beginAsked 20 = .ok (.iadd, 1) := by decide +kernel
theorem dX7_beginAsked_21 : decode cX7_beginAsked 21 = .ok (.ireturn, 1) := by decide +kernel
theorem dX7_beginAsked_22 : decode cX7_beginAsked 22 = .ok (.aload_n 1, 1) := by decide +kernel
theorem dX7_beginAsked_23 : decode cX7_beginAsked 23 = .ok (.getfield 18, 3) := by decide +kernel
theorem dX7_beginAsked_26 : decode cX7_beginAsked 26 = .ok (.iconst 1, 1) := by decide +kernel
theorem dX7_beginAsked_27 : decode cX7_beginAsked 27 = .ok (.if_icmp .ne 20, 3) := by decide +kernel
theorem dX7_beginAsked_30 : decode cX7_beginAsked 30 = .ok (.aload_n 0, 1) := by decide +kernel
theorem dX7_beginAsked_31 : decode cX7_beginAsked 31 = .ok (.getfield 9, 3) := by decide +kernel
theorem dX7_beginAsked_34 : decode cX7_beginAsked 34 = .ok (.aload_n 1, 1) := by decide +kernel
theorem dX7_beginAsked_35 : decode cX7_beginAsked 35 = .ok (.getfield 24, 3) := by decide +kernel
theorem dX7_beginAsked_38 : decode cX7_beginAsked 38 = .ok (.iaload, 1) := by decide +kernel
theorem dX7_beginAsked_39 : decode cX7_beginAsked 39 = .ok (.aload_n 1, 1) := by decide +kernel
theorem dX7_beginAsked_40 : decode cX7_beginAsked 40 = .ok (.getfield 27, 3) := by decide +kernel
theorem dX7_beginAsked_43 : decode cX7_beginAsked 43 = .ok (.iadd, 1) := by decide +kernel
theorem dX7_beginAsked_44 : decode cX7_beginAsked 44 = .ok (.goto 4, 3) := by decide +kernel
theorem dX7_beginAsked_47 : decode cX7_beginAsked 47 = .ok (.iconst 0, 1) := by decide +kernel
theorem dX7_beginAsked_48 : decode cX7_beginAsked 48 = .ok (.ireturn, 1) := by decide +kernel
theorem dX7_endAsked_0 : decode cX7_endAsked 0 = .ok (.aload_n 1, 1) := by decide +kernel
theorem dX7_endAsked_1 : decode cX7_endAsked 1 = .ok (.getfield 18, 3) := by decide +kernel
theorem dX7_endAsked_4 : decode cX7_endAsked 4 = .ok (.ifCond .eq 11, 3) := by decide +kernel
theorem dX7_endAsked_7 : decode cX7_endAsked 7 = .ok (.aload_n 1, 1) := by decide +kernel
theorem dX7_endAsked_8 : decode cX7_endAsked 8 = .ok (.getfield 18, 3) := by decide +kernel
theorem dX7_endAsked_11 : decode cX7_endAsked 11 = .ok (.iconst 1, 1) := by decide +kernel
theorem dX7_endAsked_12 : decode cX7_endAsked 12 = .ok (.if_icmp .ne 7, 3) := by decide +kernel
theorem dX7_endAsked_15 : decode cX7_endAsked 15 = .ok (.iconst 0, 1) := by decide +kernel
theorem dX7_endAsked_16 : decode cX7_endAsked 16 = .ok (.goto 17, 3) := by decide +kernel
theorem dX7_endAsked_19 : decode cX7_endAsked 19 = .ok (.aload_n 0, 1) := by decide +kernel
theorem dX7_endAsked_20 : decode cX7_endAsked 20 = .ok (.getfield 15, 3) := by decide +kernel
theorem dX7_endAsked_23 : decode cX7_endAsked 23 = .ok (.aload_n 1, 1) := by decide +kernel
theorem dX7_endAsked_24 : decode cX7_endAsked 24 = .ok (.getfield 24, 3) := by decide +kernel
theorem dX7_endAsked_27 : decode cX7_endAsked 27 = .ok (.iaload, 1) := by decide +kernel
theorem dX7_endAsked_28 : decode cX7_endAsked 28 = .ok (.aload_n 1, 1) := by decide +kernel
theorem dX7_endAsked_29 : decode cX7_endAsked 29 = .ok (.getfield 27, 3) := by decide +kernel
theorem dX7_endAsked_32 : decode cX7_endAsked 32 = .ok (.iadd, 1) := by decide +kernel
theorem dX7_endAsked_33 : decode cX7_endAsked 33 = .ok (.ireturn, 1) := by decide +kernel
theorem dX8_init_0 : decode cX8_init 0 = .ok (.aload_n 0, 1) := by decide +kernel
theorem dX8_init_1 : decode cX8_init 1 = .ok (.invokespecial 3, 3) := by decide +kernel
theorem dX8_init_4 : decode cX8_init 4 = .ok (.aload_n 0, 1) := by decide +kernel
theorem dX8_init_5 : decode cX8_init 5 = .ok (.iconst 4, 1) := by decide +kernel
theorem dX8_init_6 : decode cX8_init 6 = .ok (.anewarray 9, 3) := by decide +kernel
theorem dX8_init_9 : decode cX8_init 9 = .ok (.putfield 11, 3) := by decide +kernel
theorem dX8_init_12 : decode cX8_init 12 = .ok (.aload_n 0, 1) := by decide +kernel
theorem dX8_init_13 : decode cX8_init 13 = .ok (.iconst 4, 1) := by decide +kernel
theorem dX8_init_14 : decode cX8_init 14 = .ok (.anewarray 17, 3) := by decide +kernel
theorem dX8_init_17 : decode cX8_init 17 = .ok (.putfield 19, 3) := by decide +kernel
theorem dX8_init_20 : decode cX8_init 20 = .ok (.aload_n 0, 1) := by decide +kernel
theorem dX8_init_21 : decode cX8_init 21 = .ok (.bipush 24, 2) := by decide +kernel
theorem dX8_init_23 : decode cX8_init 23 = .ok (.anewarray 23, 3) := by decide +kernel
theorem dX8_init_26 : decode cX8_init 26 = .ok (.putfield 25, 3) := by decide +kernel
theorem dX8_init_29 : decode cX8_init 29 = .ok (.aload_n 0, 1) := by decide +kernel
theorem dX8_init_30 : decode cX8_init 30 = .ok (.bipush 40, 2) := by decide +kernel
theorem dX8_init_32 : decode cX8_init 32 = .ok (.anewarray 29, 3) := by decide +kernel
theorem dX8_init_35 : decode cX8_init 35 = .ok (.putfield 31, 3) := by decide +kernel
theorem dX8_init_38 : decode cX8_init 38 = .ok (.aload_n 0, 1) := by decide +kernel
theorem dX8_init_39 : decode cX8_init 39 = .ok (.bipush 24, 2) := by decide +kernel
theorem dX8_init_41 : decode cX8_init 41 = .ok (.newarray .int, 2) := by decide +kernel
theorem dX8_init_43 : decode cX8_init 43 = .ok (.putfield 35, 3) := by decide +kernel
theorem dX8_init_46 : decode cX8_init 46 = .ok (.aload_n 0, 1) := by decide +kernel
theorem dX8_init_47 : decode cX8_init 47 = .ok (.bipush 24, 2) := by decide +kernel
theorem dX8_init_49 : decode cX8_init 49 = .ok (.newarray .boolean, 2) := by decide +kernel
theorem dX8_init_51 : decode cX8_init 51 = .ok (.putfield 39, 3) := by decide +kernel
theorem dX8_init_54 : decode cX8_init 54 = .ok (.iconst 0, 1) := by decide +kernel
theorem dX8_init_55 : decode cX8_init 55 = .ok (.istore_n 1, 1) := by decide +kernel
theorem dX8_init_56 : decode cX8_init 56 = .ok (.iload_n 1, 1) := by decide +kernel
theorem dX8_init_57 : decode cX8_init 57 = .ok (.iconst 4, 1) := by decide +kernel
theorem dX8_init_58 : decode cX8_init 58 = .ok (.if_icmp .ge 22, 3) := by decide +kernel
theorem dX8_init_61 : decode cX8_init 61 = .ok (.aload_n 0, 1) := by decide +kernel
theorem dX8_init_62 : decode cX8_init 62 = .ok (.getfield 11, 3) := by decide +kernel
theorem dX8_init_65 : decode cX8_init 65 = .ok (.iload_n 1, 1) := by decide +kernel
theorem dX8_init_66 : decode cX8_init 66 = .ok (.new 9, 3) := by decide +kernel
theorem dX8_init_69 : decode cX8_init 69 = .ok (.dup, 1) := by decide +kernel
theorem dX8_init_70 : decode cX8_init 70 = .ok (.invokespecial 43, 3) := by decide +kernel
theorem dX8_init_73 : decode cX8_init 73 = .ok (.aastore, 1) := by decide +kernel
theorem dX8_init_74 : decode cX8_init 74 = .ok (.iinc 1 1, 3) := by decide +kernel
theorem dX8_init_77 : decode cX8_init 77 = .ok (.goto (-21), 3) := by decide +kernel
theorem dX8_init_80 : decode cX8_init 80 = .ok (.iconst 0, 1) := by decide +kernel
theorem dX8_init_81 : decode cX8_init 81 = .ok (.istore_n 1, 1) := by decide +kernel
theorem dX8_init_82 : decode cX8_init 82 = .ok (.iload_n 1, 1) := by decide +kernel
theorem dX8_init_83 : decode cX8_init 83 = .ok (.iconst 4, 1) := by decide +kernel
theorem dX8_init_84 : decode cX8_init 84 = .ok (.if_icmp .ge 22, 3) := by decide +kernel
theorem dX8_init_87 : decode cX8_init 87 = .ok (.aload_n 0, 1) := by decide +kernel
theorem dX8_init_88 : decode cX8_init 88 = .ok (.getfield 19, 3) := by decide +kernel
theorem dX8_init_91 : decode cX8_init 91 = .ok (.iload_n 1, 1) := by decide +kernel
theorem dX8_init_92 : decode cX8_init 92 = .ok (.new 17, 3) := by decide +kernel
theorem dX8_init_95 : decode cX8_init 95 = .ok (.dup, 1) := by decide +kernel
theorem dX8_init_96 : decode cX8_init 96 = .ok (.invokespecial 44, 3) := by decide +kernel
theorem dX8_init_99 : decode cX8_init 99 = .ok (.aastore, 1) := by decide +kernel
theorem dX8_init_100 : decode cX8_init 100 = .ok (.iinc 1 1, 3) := by decide +kernel
theorem dX8_init_103 : decode cX8_init 103 = .ok (.goto (-21), 3) := by decide +kernel
theorem dX8_init_106 : decode cX8_init 106 = .ok (.iconst 0, 1) := by decide +kernel
theorem dX8_init_107 : decode cX8_init 107 = .ok (.istore_n 1, 1) := by decide +kernel
theorem dX8_init_108 : decode cX8_init 108 = .ok (.iload_n 1, 1) := by decide +kernel
theorem dX8_init_109 : decode cX8_init 109 = .ok (.bipush 24, 2) := by decide +kernel
theorem dX8_init_111 : decode cX8_init 111 = .ok (.if_icmp .ge 22, 3) := by decide +kernel
theorem dX8_init_114 : decode cX8_init 114 = .ok (.aload_n 0, 1) := by decide +kernel
theorem dX8_init_115 : decode cX8_init 115 = .ok (.getfield 25, 3) := by decide +kernel
theorem dX8_init_118 : decode cX8_init 118 = .ok (.iload_n 1, 1) := by decide +kernel
theorem dX8_init_119 : decode cX8_init 119 = .ok (.new 23, 3) := by decide +kernel
theorem dX8_init_122 : decode cX8_init 122 = .ok (.dup, 1) := by decide +kernel
theorem dX8_init_123 : decode cX8_init 123 = .ok (.invokespecial 45, 3) := by decide +kernel
theorem dX8_init_126 : decode cX8_init 126 = .ok (.aastore, 1) := by decide +kernel
theorem dX8_init_127 : decode cX8_init 127 = .ok (.iinc 1 1, 3) := by decide +kernel
theorem dX8_init_130 : decode cX8_init 130 = .ok (.goto (-22), 3) := by decide +kernel
theorem dX8_init_133 : decode cX8_init 133 = .ok (.iconst 0, 1) := by decide +kernel
theorem dX8_init_134 : decode cX8_init 134 = .ok (.istore_n 1, 1) := by decide +kernel
theorem dX8_init_135 : decode cX8_init 135 = .ok (.iload_n 1, 1) := by decide +kernel
theorem dX8_init_136 : decode cX8_init 136 = .ok (.bipush 40, 2) := by decide +kernel
theorem dX8_init_138 : decode cX8_init 138 = .ok (.if_icmp .ge 22, 3) := by decide +kernel
theorem dX8_init_141 : decode cX8_init 141 = .ok (.aload_n 0, 1) := by decide +kernel
theorem dX8_init_142 : decode cX8_init 142 = .ok (.getfield 31, 3) := by decide +kernel
theorem dX8_init_145 : decode cX8_init 145 = .ok (.iload_n 1, 1) := by decide +kernel
theorem dX8_init_146 : decode cX8_init 146 = .ok (.new 29, 3) := by decide +kernel
theorem dX8_init_149 : decode cX8_init 149 = .ok (.dup, 1) := by decide +kernel
theorem dX8_init_150 : decode cX8_init 150 = .ok (.invokespecial 46, 3) := by decide +kernel
theorem dX8_init_153 : decode cX8_init 153 = .ok (.aastore, 1) := by decide +kernel
theorem dX8_init_154 : decode cX8_init 154 = .ok (.iinc 1 1, 3) := by decide +kernel
theorem dX8_init_157 : decode cX8_init 157 = .ok (.goto (-22), 3) := by decide +kernel
theorem dX8_init_160 : decode cX8_init 160 = .ok (.return_, 1) := by decide +kernel
theorem dX8_calendarOf_0 : decode cX8_calendarOf 0 = .ok (.aload_n 0, 1) := by decide +kernel
theorem dX8_calendarOf_1 : decode cX8_calendarOf 1 = .ok (.getfield 11, 3) := by decide +kernel
theorem dX8_calendarOf_4 : decode cX8_calendarOf 4 = .ok (.aload_n 0, 1) := by decide +kernel
theorem dX8_calendarOf_5 : decode cX8_calendarOf 5 = .ok (.getfield 25, 3) := by decide +kernel
theorem dX8_calendarOf_8 : decode cX8_calendarOf 8 = .ok (.iload_n 1, 1) := by decide +kernel
theorem dX8_calendarOf_9 : decode cX8_calendarOf 9 = .ok (.aaload, 1) := by decide +kernel
theorem dX8_calendarOf_10 : decode cX8_calendarOf 10 = .ok (.getfield 47, 3) := by decide +kernel
theorem dX8_calendarOf_13 : decode cX8_calendarOf 13 = .ok (.aaload, 1) := by decide +kernel
theorem dX8_calendarOf_14 : decode cX8_calendarOf 14 = .ok (.areturn, 1) := by decide +kernel
theorem dX8_worthOf_0 : decode cX8_worthOf 0 = .ok (.iconst 0, 1) := by decide +kernel
theorem dX8_worthOf_1 : decode cX8_worthOf 1 = .ok (.istore_n 2, 1) := by decide +kernel
theorem dX8_worthOf_2 : decode cX8_worthOf 2 = .ok (.iconst 0, 1) := by decide +kernel
theorem dX8_worthOf_3 : decode cX8_worthOf 3 = .ok (.istore_n 3, 1) := by decide +kernel
theorem dX8_worthOf_4 : decode cX8_worthOf 4 = .ok (.iload_n 3, 1) := by decide +kernel
theorem dX8_worthOf_5 : decode cX8_worthOf 5 = .ok (.iconst 4, 1) := by decide +kernel
theorem dX8_worthOf_6 : decode cX8_worthOf 6 = .ok (.if_icmp .ge 33, 3) := by decide +kernel
theorem dX8_worthOf_9 : decode cX8_worthOf 9 = .ok (.iload_n 2, 1) := by decide +kernel
theorem dX8_worthOf_10 : decode cX8_worthOf 10 = .ok (.aload_n 0, 1) := by decide +kernel
theorem dX8_worthOf_11 : decode cX8_worthOf 11 = .ok (.getfield 25, 3) := by decide +kernel
theorem dX8_worthOf_14 : decode cX8_worthOf 14 = .ok (.iload_n 1, 1) := by decide +kernel
theorem dX8_worthOf_15 : decode cX8_worthOf 15 = .ok (.aaload, 1) := by decide +kernel
theorem dX8_worthOf_16 : decode cX8_worthOf 16 = .ok (.getfield 51, 3) := by decide +kernel
theorem dX8_worthOf_19 : decode cX8_worthOf 19 = .ok (.iload_n 3, 1) := by decide +kernel
theorem dX8_worthOf_20 : decode cX8_worthOf 20 = .ok (.iaload, 1) := by decide +kernel
theorem dX8_worthOf_21 : decode cX8_worthOf 21 = .ok (.aload_n 0, 1) := by decide +kernel
theorem dX8_worthOf_22 : decode cX8_worthOf 22 = .ok (.getfield 19, 3) := by decide +kernel
theorem dX8_worthOf_25 : decode cX8_worthOf 25 = .ok (.iload_n 3, 1) := by decide +kernel
theorem dX8_worthOf_26 : decode cX8_worthOf 26 = .ok (.aaload, 1) := by decide +kernel
theorem dX8_worthOf_27 : decode cX8_worthOf 27 = .ok (.getfield 54, 3) := by decide +kernel
theorem dX8_worthOf_30 : decode cX8_worthOf 30 = .ok (.imul, 1) := by decide +kernel
theorem dX8_worthOf_31 : decode cX8_worthOf 31 = .ok (.iadd, 1) := by decide +kernel
theorem dX8_worthOf_32 : decode cX8_worthOf 32 = .ok (.istore_n 2, 1) := by decide +kernel
theorem dX8_worthOf_33 : decode cX8_worthOf 33 = .ok (.iinc 3 1, 3) := by decide +kernel
theorem dX8_worthOf_36 : decode cX8_worthOf 36 = .ok (.goto (-32), 3) := by decide +kernel
theorem dX8_worthOf_39 : decode cX8_worthOf 39 = .ok (.aload_n 0, 1) := by decide +kernel
theorem dX8_worthOf_40 : decode cX8_worthOf 40 = .ok (.getfield 25, 3) := by decide +kernel
theorem dX8_worthOf_43 : decode cX8_worthOf 43 = .ok (.iload_n 1, 1) := by decide +kernel
theorem dX8_worthOf_44 : decode cX8_worthOf 44 = .ok (.aaload, 1) := by decide +kernel
theorem dX8_worthOf_45 : decode cX8_worthOf 45 = .ok (.getfield 57, 3) := by decide +kernel
theorem dX8_worthOf_48 : decode cX8_worthOf 48 = .ok (.iload_n 2, 1) := by decide +kernel
theorem dX8_worthOf_49 : decode cX8_worthOf 49 = .ok (.imul, 1) := by decide +kernel
theorem dX8_worthOf_50 : decode cX8_worthOf 50 = .ok (.ireturn, 1) := by decide +kernel
theorem dX8_appendTask_0 : decode cX8_appendTask 0 = .ok (.aload_n 0, 1) := by decide +kernel
theorem dX8_appendTask_1 : decode cX8_appendTask 1 = .ok (.getfield 60, 3) := by decide +kernel
theorem dX8_appendTask_4 : decode cX8_appendTask 4 = .ok (.istore_n 3, 1) := by decide +kernel
theorem dX8_appendTask_5 : decode cX8_appendTask 5 = .ok (.aload_n 0, 1) := by decide +kernel
theorem dX8_appendTask_6 : decode cX8_appendTask 6 = .ok (.getfield 25, 3) := by decide +kernel
theorem dX8_appendTask_9 : decode cX8_appendTask 9 = .ok (.iload_n 3, 1) := by decide +kernel
theorem dX8_appendTask_10 : decode cX8_appendTask 10 = .ok (.aaload, 1) := by decide +kernel
theorem dX8_appendTask_11 : decode cX8_appendTask 11 = .ok (.iload_n 1, 1) := by decide +kernel
theorem dX8_appendTask_12 : decode cX8_appendTask 12 = .ok (.putfield 57, 3) := by decide +kernel
theorem dX8_appendTask_15 : decode cX8_appendTask 15 = .ok (.aload_n 0, 1) := by decide +kernel
theorem dX8_appendTask_16 : decode cX8_appendTask 16 = .ok (.getfield 25, 3) := by decide +kernel
theorem dX8_appendTask_19 : decode cX8_appendTask 19 = .ok (.iload_n 3, 1) := by decide +kernel
theorem dX8_appendTask_20 : decode cX8_appendTask 20 = .ok (.aaload, 1) := by decide +kernel
theorem dX8_appendTask_21 : decode cX8_appendTask 21 = .ok (.iload_n 2, 1) := by decide +kernel
theorem dX8_appendTask_22 : decode cX8_appendTask 22 = .ok (.putfield 47, 3) := by decide +kernel
theorem dX8_appendTask_25 : decode cX8_appendTask 25 = .ok (.aload_n 0, 1) := by decide +kernel
theorem dX8_appendTask_26 : decode cX8_appendTask 26 = .ok (.getfield 35, 3) := by decide +kernel
theorem dX8_appendTask_29 : decode cX8_appendTask 29 = .ok (.iload_n 3, 1) := by decide +kernel
theorem dX8_appendTask_30 : decode cX8_appendTask 30 = .ok (.iload_n 3, 1) := by decide +kernel
theorem dX8_appendTask_31 : decode cX8_appendTask 31 = .ok (.iastore, 1) := by decide +kernel
theorem dX8_appendTask_32 : decode cX8_appendTask 32 = .ok (.aload_n 0, 1) := by decide +kernel
theorem dX8_appendTask_33 : decode cX8_appendTask 33 = .ok (.dup, 1) := by decide +kernel
theorem dX8_appendTask_34 : decode cX8_appendTask 34 = .ok (.getfield 60, 3) := by decide +kernel
theorem dX8_appendTask_37 : decode cX8_appendTask 37 = .ok (.iconst 1, 1) := by decide +kernel
theorem dX8_appendTask_38 : decode cX8_appendTask 38 = .ok (.iadd, 1) := by decide +kernel
theorem dX8_appendTask_39 : decode cX8_appendTask 39 = .ok (.putfield 60, 3) := by decide +kernel
theorem dX8_appendTask_42 : decode cX8_appendTask 42 = .ok (.iload_n 3, 1) := by decide +kernel
theorem dX8_appendTask_43 : decode cX8_appendTask 43 = .ok (.ireturn, 1) := by decide +kernel
theorem dX8_appendLink_0 : decode cX8_appendLink 0 = .ok (.aload_n 0, 1) := by decide +kernel
theorem dX8_appendLink_1 : decode cX8_appendLink 1 = .ok (.getfield 31, 3) := by decide +kernel
theorem dX8_appendLink_4 : decode cX8_appendLink 4 = .ok (.aload_n 0, 1) := by decide +kernel
theorem dX8_appendLink_5 : decode cX8_appendLink 5 = .ok (.getfield 63, 3) := by decide +kernel
theorem dX8_appendLink_8 : decode cX8_appendLink 8 = .ok (.aaload, 1) := by decide +kernel
theorem dX8_appendLink_9 : decode cX8_appendLink 9 = .ok (.astore 5, 2) := by decide +kernel
theorem dX8_appendLink_11 : decode cX8_appendLink 11 = .ok (.aload 5, 2) := by decide +kernel
theorem dX8_appendLink_13 : decode cX8_appendLink 13 = .ok (.iload_n 1, 1) := by decide +kernel
theorem dX8_appendLink_14 : decode cX8_appendLink 14 = .ok (.putfield 66, 3) := by decide +kernel
theorem dX8_appendLink_17 : decode cX8_appendLink 17 = .ok (.aload 5, 2) := by decide +kernel
theorem dX8_appendLink_19 : decode cX8_appendLink 19 = .ok (.iload_n 2, 1) := by decide +kernel
theorem dX8_appendLink_20 : decode cX8_appendLink 20 = .ok (.putfield 69, 3) := by decide +kernel
theorem dX8_appendLink_23 : decode cX8_appendLink 23 = .ok (.aload 5, 2) := by decide +kernel
theorem dX8_appendLink_25 : decode cX8_appendLink 25 = .ok (.iload_n 3, 1) := by decide +kernel
theorem dX8_appendLink_26 : decode cX8_appendLink 26 = .ok (.putfield 72, 3) := by decide +kernel
theorem dX8_appendLink_29 : decode cX8_appendLink 29 = .ok (.aload 5, 2) := by decide +kernel
theorem dX8_appendLink_31 : decode cX8_appendLink 31 = .ok (.iload 4, 2) := by decide +kernel
theorem dX8_appendLink_33 : decode cX8_appendLink 33 = .ok (.putfield 75, 3) := by decide +kernel
theorem dX8_appendLink_36 : decode cX8_appendLink 36 = .ok (.aload_n 0, 1) := by decide +kernel
theorem dX8_appendLink_37 : decode cX8_appendLink 37 = .ok (.dup, 1) := by decide +kernel
theorem dX8_appendLink_38 : decode cX8_appendLink 38 = .ok (.getfield 63, 3) := by decide +kernel
theorem dX8_appendLink_41 : decode cX8_appendLink 41 = .ok (.iconst 1, 1) := by decide +kernel
theorem dX8_appendLink_42 : decode cX8_appendLink 42 = .ok (.iadd, 1) := by decide +kernel
theorem dX8_appendLink_43 : decode cX8_appendLink 43 = .ok (.putfield 63, 3) := by decide +kernel
theorem dX8_appendLink_46 : decode cX8_appendLink 46 = .ok (.aload_n 0, 1) := by decide +kernel
theorem dX8_appendLink_47 : decode cX8_appendLink 47 = .ok (.invokevirtual 78, 3) := by decide +kernel
theorem dX8_appendLink_50 : decode cX8_appendLink 50 = .ok (.aload_n 0, 1) := by decide +kernel
theorem dX8_appendLink_51 : decode cX8_appendLink 51 = .ok (.getfield 63, 3) := by decide +kernel
theorem dX8_appendLink_54 : decode cX8_appendLink 54 = .ok (.iconst 1, 1) := by decide +kernel
theorem dX8_appendLink_55 : decode cX8_appendLink 55 = .ok (.isub, 1) := by decide +kernel
theorem dX8_appendLink_56 : decode cX8_appendLink 56 = .ok (.ireturn, 1) := by decide +kernel
theorem dX8_takeOut_0 : decode cX8_takeOut 0 = .ok (.aload_n 0, 1) := by decide +kernel
theorem dX8_takeOut_1 : decode cX8_takeOut 1 = .ok (.getfield 31, 3) := by decide +kernel
theorem dX8_takeOut_4 : decode cX8_takeOut 4 = .ok (.iload_n 1, 1) := by decide +kernel
theorem dX8_takeOut_5 : decode cX8_takeOut 5 = .ok (.aaload, 1) := by decide +kernel
theorem dX8_takeOut_6 : decode cX8_takeOut 6 = .ok (.astore_n 2, 1) := by decide +kernel
theorem dX8_takeOut_7 : decode cX8_takeOut 7 = .ok (.aload_n 0, 1) := by decide +kernel
theorem dX8_takeOut_8 : decode cX8_takeOut 8 = .ok (.dup, 1) := by decide +kernel
theorem dX8_takeOut_9 : decode cX8_takeOut 9 = .ok (.getfield 63, 3) := by decide +kernel
theorem dX8_takeOut_12 : decode cX8_takeOut 12 = .ok (.iconst 1, 1) := by decide +kernel
theorem dX8_takeOut_13 : decode cX8_takeOut 13 = .ok (.isub, 1) := by decide +kernel
theorem dX8_takeOut_14 : decode cX8_takeOut 14 = .ok (.putfield 63, 3) := by decide +kernel
theorem dX8_takeOut_17 : decode cX8_takeOut 17 = .ok (.iload_n 1, 1) := by decide +kernel
theorem dX8_takeOut_18 : decode cX8_takeOut 18 = .ok (.istore_n 3, 1) := by decide +kernel
theorem dX8_takeOut_19 : decode cX8_takeOut 19 = .ok (.iload_n 3, 1) := by decide +kernel
theorem dX8_takeOut_20 : decode cX8_takeOut 20 = .ok (.aload_n 0, 1) := by decide +kernel
theorem dX8_takeOut_21 : decode cX8_takeOut 21 = .ok (.getfield 63, 3) := by decide +kernel
theorem dX8_takeOut_24 : decode cX8_takeOut 24 = .ok (.if_icmp .ge 23, 3) := by decide +kernel
theorem dX8_takeOut_27 : decode cX8_takeOut 27 = .ok (.aload_n 0, 1) := by decide +kernel
theorem dX8_takeOut_28 : decode cX8_takeOut 28 = .ok (.getfield 31, 3) := by decide +kernel
theorem dX8_takeOut_31 : decode cX8_takeOut 31 = .ok (.iload_n 3, 1) := by decide +kernel
theorem dX8_takeOut_32 : decode cX8_takeOut 32 = .ok (.aload_n 0, 1) := by decide +kernel
theorem dX8_takeOut_33 : decode cX8_takeOut 33 = .ok (.getfield 31, 3) := by decide +kernel
theorem dX8_takeOut_36 : decode cX8_takeOut 36 = .ok (.iload_n 3, 1) := by decide +kernel
theorem dX8_takeOut_37 : decode cX8_takeOut 37 = .ok (.iconst 1, 1) := by decide +kernel
theorem dX8_takeOut_38 : decode cX8_takeOut 38 = .ok (.iadd, 1) := by decide +kernel
theorem dX8_takeOut_39 : decode cX8_takeOut 39 = .ok (.aaload, 1) := by decide +kernel
theorem dX8_takeOut_40 : decode cX8_takeOut 40 = .ok (.aastore, 1) := by decide +kernel
theorem dX8_takeOut_41 : decode cX8_takeOut 41 = .ok (.iinc 3 1, 3) := by decide +kernel
theorem dX8_takeOut_44 : decode cX8_takeOut 44 = .ok (.goto (-25), 3) := by decide +kernel
theorem dX8_takeOut_47 : decode cX8_takeOut 47 = .ok (.aload_n 0, 1) := by decide +kernel
theorem dX8_takeOut_48 : decode cX8_takeOut 48 = .ok (.getfield 31, 3) := by decide +kernel
theorem dX8_takeOut_51 : decode cX8_takeOut 51 = .ok (.aload_n 0, 1) := by decide +kernel
theorem dX8_takeOut_52 : decode cX8_takeOut 52 = .ok (.getfield 63, 3) := by decide +kernel
theorem dX8_takeOut_55 : decode cX8_takeOut 55 = .ok (.aload_n 2, 1) := by decide +kernel
theorem dX8_takeOut_56 : decode cX8_takeOut 56 = .ok (.aastore, 1) := by decide +kernel
theorem dX8_takeOut_57 : decode cX8_takeOut 57 = .ok (.return_, 1) := by decide +kernel
theorem dX8_reaches_0 : decode cX8_reaches 0 = .ok (.aload_n 0, 1) := by decide +kernel
theorem dX8_reaches_1 : decode cX8_reaches 1 = .ok (.invokevirtual 81, 3) := by decide +kernel
theorem dX8_reaches_4 : decode cX8_reaches 4 = .ok (.aload_n 0, 1) := by decide +kernel
theorem dX8_reaches_5 : decode cX8_reaches 5 = .ok (.getfield 39, 3) := by decide +kernel
theorem dX8_reaches_8 : decode cX8_reaches 8 = .ok (.iload_n 1, 1) := by decide +kernel
theorem dX8_reaches_9 : decode cX8_reaches 9 = .ok (.iconst 1, 1) := by decide +kernel
theorem dX8_reaches_10 : decode cX8_reaches 10 = .ok (.bastore, 1) := by decide +kernel
theorem dX8_reaches_11 : decode cX8_reaches 11 = .ok (.iconst 0, 1) := by decide +kernel
theorem dX8_reaches_12 : decode cX8_reaches 12 = .ok (.istore_n 3, 1) := by decide +kernel
theorem dX8_reaches_13 : decode cX8_reaches 13 = .ok (.iload_n 3, 1) := by decide +kernel
theorem dX8_reaches_14 : decode cX8_reaches 14 = .ok (.aload_n 0, 1) := by decide +kernel
theorem dX8_reaches_15 : decode cX8_reaches 15 = .ok (.getfield 60, 3) := by decide +kernel
theorem dX8_reaches_18 : decode cX8_reaches 18 = .ok (.if_icmp .ge 33, 3) := by decide +kernel
theorem dX8_reaches_21 : decode cX8_reaches 21 = .ok (.aload_n 0, 1) := by decide +kernel
theorem dX8_reaches_22 : decode cX8_reaches 22 = .ok (.getfield 39, 3) := by decide +kernel
theorem dX8_reaches_25 : decode cX8_reaches 25 = .ok (.aload_n 0, 1) := by decide +kernel
theorem dX8_reaches_26 : decode cX8_reaches 26 = .ok (.getfield 35, 3) := by decide +kernel
theorem dX8_reaches_29 : decode cX8_reaches 29 = .ok (.iload_n 3, 1) := by decide +kernel
theorem dX8_reaches_30 : decode cX8_reaches 30 = .ok (.iaload, 1) := by decide +kernel
theorem dX8_reaches_31 : decode cX8_reaches 31 = .ok (.baload, 1) := by decide +kernel
theorem dX8_reaches_32 : decode cX8_reaches 32 = .ok (.ifCond .eq 13, 3) := by decide +kernel
theorem dX8_reaches_35 : decode cX8_reaches 35 = .ok (.aload_n 0, 1) := by decide +kernel
theorem dX8_reaches_36 : decode cX8_reaches 36 = .ok (.aload_n 0, 1) := by decide +kernel
theorem dX8_reaches_37 : decode cX8_reaches 37 = .ok (.getfield 35, 3) := by decide +kernel
theorem dX8_reaches_40 : decode cX8_reaches 40 = .ok (.iload_n 3, 1) := by decide +kernel
theorem dX8_reaches_41 : decode cX8_reaches 41 = .ok (.iaload, 1) := by decide +kernel
theorem dX8_reaches_42 : decode cX8_reaches 42 = .ok (.invokevirtual 84, 3) := by decide +kernel
theorem dX8_reaches_45 : decode cX8_reaches 45 = .ok (.iinc 3 1, 3) := by decide +kernel
theorem dX8_reaches_48 : decode cX8_reaches 48 = .ok (.goto (-35), 3) := by decide +kernel
theorem dX8_reaches_51 : decode cX8_reaches 51 = .ok (.aload_n 0, 1) := by decide +kernel
theorem dX8_reaches_52 : decode cX8_reaches 52 = .ok (.getfield 39, 3) := by decide +kernel
theorem dX8_reaches_55 : decode cX8_reaches 55 = .ok (.iload_n 2, 1) := by decide +kernel
theorem dX8_reaches_56 : decode cX8_reaches 56 = .ok (.baload, 1) := by decide +kernel
theorem dX8_reaches_57 : decode cX8_reaches 57 = .ok (.ireturn, 1) := by decide +kernel
theorem dX8_markBehind_0 : decode cX8_markBehind 0 = .ok (.iconst 0, 1) := by decide +kernel
theorem dX8_markBehind_1 : decode cX8_markBehind 1 = .ok (.istore_n 2, 1) := by decide +kernel
theorem dX8_markBehind_2 : decode cX8_markBehind 2 = .ok (.iload_n 2, 1) := by decide +kernel
theorem dX8_markBehind_3 : decode cX8_markBehind 3 = .ok (.aload_n 0, 1) := by decide +kernel
theorem dX8_markBehind_4 : decode cX8_markBehind 4 = .ok (.getfield 63, 3) := by decide +kernel
theorem dX8_markBehind_7 : decode cX8_markBehind 7 = .ok (.if_icmp .ge 37, 3) := by decide +kernel
theorem dX8_markBehind_10 : decode cX8_markBehind 10 = .ok (.aload_n 0, 1) := by decide +kernel
theorem dX8_markBehind_11 : decode cX8_markBehind 11 = .ok (.getfield 31, 3) := by decide +kernel
theorem dX8_markBehind_14 : decode cX8_markBehind 14 = .ok (.iload_n 2, 1) := by decide +kernel
theorem dX8_markBehind_15 : decode cX8_markBehind 15 = .ok (.aaload, 1) := by decide +kernel
theorem dX8_markBehind_16 : decode cX8_markBehind 16 = .ok (.getfield 66, 3) := by decide +kernel
theorem dX8_markBehind_19 : decode cX8_markBehind 19 = .ok (.iload_n 1, 1) := by decide +kernel
theorem dX8_markBehind_20 : decode cX8_markBehind 20 = .ok (.if_icmp .ne 18, 3) := by decide +kernel
theorem dX8_markBehind_23 : decode cX8_markBehind 23 = .ok (.aload_n 0, 1) := by decide +kernel
theorem dX8_markBehind_24 : decode cX8_markBehind 24 = .ok (.getfield 39, 3) := by decide +kernel
theorem dX8_markBehind_27 : decode cX8_markBehind 27 = .ok (.aload_n 0, 1) := by decide +kernel
theorem dX8_markBehind_28 : decode cX8_markBehind 28 = .ok (.getfield 31, 3) := by decide +kernel
theorem dX8_markBehind_31 : decode cX8_markBehind 31 = .ok (.iload_n 2, 1) := by decide +kernel
theorem dX8_markBehind_32 : decode cX8_markBehind 32 = .ok (.aaload, 1) := by decide +kernel
theorem dX8_markBehind_33 : decode cX8_markBehind 33 = .ok (.getfield 69, 3) := by decide +kernel
theorem dX8_markBehind_36 : decode cX8_markBehind 36 = .ok (.iconst 1, 1) := by decide +kernel
theorem dX8_markBehind_37 : decode cX8_markBehind 37 = .ok (.bastore, 1) := by decide +kernel
theorem dX8_markBehind_38 : decode cX8_markBehind 38 = .ok (.iinc 2 1, 3) := by decide +kernel
theorem dX8_markBehind_41 : decode cX8_markBehind 41 = .ok (.goto (-39), 3) := by decide +kernel
theorem dX8_markBehind_44 : decode cX8_markBehind 44 = .ok (.return_, 1) := by decide +kernel
theorem dX8_sortTasks_0 : decode cX8_sortTasks 0 = .ok (.aload_n 0, 1) := by decide +kernel
theorem dX8_sortTasks_1 : decode cX8_sortTasks 1 = .ok (.invokevirtual 81, 3) := by decide +kernel
theorem dX8_sortTasks_4 : decode cX8_sortTasks 4 = .ok (.iconst 0, 1) := by decide +kernel
theorem dX8_sortTasks_5 : decode cX8_sortTasks 5 = .ok (.istore_n 1, 1) := by decide +kernel
theorem dX8_sortTasks_6 : decode cX8_sortTasks 6 = .ok (.iload_n 1, 1) := by decide +kernel
theorem dX8_sortTasks_7 : decode cX8_sortTasks 7 = .ok (.aload_n 0, 1) := by decide +kernel
theorem dX8_sortTasks_8 : decode cX8_sortTasks 8 = .ok (.getfield 60, 3) := by decide +kernel
theorem dX8_sortTasks_11 : decode cX8_sortTasks 11 = .ok (.if_icmp .ge 33, 3) := by decide +kernel
theorem dX8_sortTasks_14 : decode cX8_sortTasks 14 = .ok (.aload_n 0, 1) := by decide +kernel
theorem dX8_sortTasks_15 : decode cX8_sortTasks 15 = .ok (.invokevirtual 88, 3) := by decide +kernel
theorem dX8_sortTasks_18 : decode cX8_sortTasks 18 = .ok (.istore_n 2, 1) := by decide +kernel
theorem dX8_sortTasks_19 : decode cX8_sortTasks 19 = .ok (.iload_n 2, 1) := by decide +kernel
theorem dX8_sortTasks_20 : decode cX8_sortTasks 20 = .ok (.ifCond .ge 4, 3) := by decide +kernel
theorem dX8_sortTasks_23 : decode cX8_sortTasks 23 = .ok (.return_, 1) := by decide +kernel
theorem dX8_sortTasks_24 : decode cX8_sortTasks 24 = .ok (.aload_n 0, 1) := by decide +kernel
theorem dX8_sortTasks_25 : decode cX8_sortTasks 25 = .ok (.getfield 39, 3) := by decide +kernel
theorem dX8_sortTasks_28 : decode cX8_sortTasks 28 = .ok (.iload_n 2, 1) := by decide +kernel
theorem dX8_sortTasks_29 : decode cX8_sortTasks 29 = .ok (.iconst 1, 1) := by decide +kernel
theorem dX8_sortTasks_30 : decode cX8_sortTasks 30 = .ok (.bastore, 1) := by decide +kernel
theorem dX8_sortTasks_31 : decode cX8_sortTasks 31 = .ok (.aload_n 0, 1) := by decide +kernel
theorem dX8_sortTasks_32 : decode cX8_sortTasks 32 = .ok (.getfield 35, 3) := by decide +kernel
theorem dX8_sortTasks_35 : decode cX8_sortTasks 35 = .ok (.iload_n 1, 1) := by decide +kernel
theorem dX8_sortTasks_36 : decode cX8_sortTasks 36 = .ok (.iload_n 2, 1) := by decide +kernel
theorem dX8_sortTasks_37 : decode cX8_sortTasks 37 = .ok (.iastore, 1) := by decide +kernel
theorem dX8_sortTasks_38 : decode cX8_sortTasks 38 = .ok (.iinc 1 1, 3) := by decide +kernel
theorem dX8_sortTasks_41 : decode cX8_sortTasks 41 = .ok (.goto (-35), 3) := by decide +kernel
theorem dX8_sortTasks_44 : decode cX8_sortTasks 44 = .ok (.return_, 1) := by decide +kernel
theorem dX8_firstOpen_0 : decode cX8_firstOpen 0 = .ok (.iconst 0, 1) := by decide +kernel
theorem dX8_firstOpen_1 : decode cX8_firstOpen 1 = .ok (.istore_n 1, 1) := by decide +kernel
theorem dX8_firstOpen_2 : decode cX8_firstOpen 2 = .ok (.iload_n 1, 1) := by decide +kernel
theorem dX8_firstOpen_3 : decode cX8_firstOpen 3 = .ok (.aload_n 0, 1) := by decide +kernel
theorem dX8_firstOpen_4 : decode cX8_firstOpen 4 = .ok (.getfield 60, 3) := by decide +kernel
theorem dX8_firstOpen_7 : decode cX8_firstOpen 7 = .ok (.if_icmp .ge 32, 3) := by decide +kernel
theorem dX8_firstOpen_10 : decode cX8_firstOpen 10 = .ok (.aload_n 0, 1) := by decide +kernel
theorem dX8_firstOpen_11 : decode cX8_firstOpen 11 = .ok (.getfield 39, 3) := by decide +kernel
theorem dX8_firstOpen_14 : decode cX8_firstOpen 14 = .ok (.iload_n 1, 1) := by decide +kernel
theorem dX8_firstOpen_15 : decode cX8_firstOpen 15 = .ok (.baload, 1) := by decide +kernel
theorem dX8_firstOpen_16 : decode cX8_firstOpen 16 = .ok (.ifCond .ne 17, 3) := by decide +kernel
theorem dX8_firstOpen_19 : decode cX8_firstOpen 19 = .ok (.aload_n 0, 1) := by decide +kernel
theorem dX8_firstOpen_20 : decode cX8_firstOpen 20 = .ok (.iload_n 1, 1) := by decide +kernel
theorem dX8_firstOpen_21 : decode cX8_firstOpen 21 = .ok (.aload_n 0, 1) := by decide +kernel
theorem dX8_firstOpen_22 : decode cX8_firstOpen 22 = .ok (.getfield 39, 3) := by decide +kernel
theorem dX8_firstOpen_25 : decode cX8_firstOpen 25 = .ok (.invokevirtual 92, 3) := by decide +kernel
theorem dX8_firstOpen_28 : decode cX8_firstOpen 28 = .ok (.ifCond .eq 5, 3) := by decide +kernel
theorem dX8_firstOpen_31 : decode cX8_firstOpen 31 = .ok (.iload_n 1, 1) := by decide +kernel
theorem dX8_firstOpen_32 : decode cX8_firstOpen 32 = .ok (.ireturn, 1) := by decide +kernel
theorem dX8_firstOpen_33 : decode cX8_firstOpen 33 = .ok (.iinc 1 1, 3) := by decide +kernel
theorem dX8_firstOpen_36 : decode cX8_firstOpen 36 = .ok (.goto (-34), 3) := by decide +kernel
theorem dX8_firstOpen_39 : decode cX8_firstOpen 39 = .ok (.iconst (-1), 1) := by decide +kernel
theorem dX8_firstOpen_40 : decode cX8_firstOpen 40 = .ok (.ireturn, 1) := by decide +kernel
theorem dX8_clearMarks_0 : decode cX8_clearMarks 0 = .ok (.iconst 0, 1) := by decide +kernel
theorem dX8_clearMarks_1 : decode cX8_clearMarks 1 = .ok (.istore_n 1, 1) := by decide +kernel
theorem dX8_clearMarks_2 : decode cX8_clearMarks 2 = .ok (.iload_n 1, 1) := by decide +kernel
theorem dX8_clearMarks_3 : decode cX8_clearMarks 3 = .ok (.bipush 24, 2) := by decide +kernel
theorem dX8_clearMarks_5 : decode cX8_clearMarks 5 = .ok (.if_icmp .ge 16, 3) := by decide +kernel
theorem dX8_clearMarks_8 : decode cX8_clearMarks 8 = .ok (.aload_n 0, 1) := by decide +kernel
theorem dX8_clearMarks_9 : decode cX8_clearMarks 9 = .ok (.getfield 39, 3) := by decide +kernel
theorem dX8_clearMarks_12 : decode cX8_clearMarks 12 = .ok (.iload_n 1, 1) := by decide +kernel
theorem dX8_clearMarks_13 : decode cX8_clearMarks 13 = .ok (.iconst 0, 1) := by decide +kernel
theorem dX8_clearMarks_14 : decode cX8_clearMarks 14 = .ok (.bastore, 1) := by decide +kernel
theorem dX8_clearMarks_15 : decode cX8_clearMarks 15 = .ok (.iinc 1 1, 3) := by decide +kernel
theorem dX8_clearMarks_18 : decode cX8_clearMarks 18 = .ok (.goto (-16), 3) := by decide +kernel
theorem dX8_clearMarks_21 : decode cX8_clearMarks 21 = .ok (.return_, 1) := by decide +kernel
theorem dX8_isOpen_0 : decode cX8_isOpen 0 = .ok (.iconst 0, 1) := by decide +kernel
theorem dX8_isOpen_1 : decode cX8_isOpen 1 = .ok (.istore_n 3, 1) := by decide +kernel
theorem dX8_isOpen_2 : decode cX8_isOpen 2 = .ok (.iload_n 3, 1) := by decide +kernel
theorem dX8_isOpen_3 : decode cX8_isOpen 3 = .ok (.aload_n 0, 1) := by decide +kernel
theorem dX8_isOpen_4 : decode cX8_isOpen 4 = .ok (.getfield 63, 3) := by decide +kernel
theorem dX8_isOpen_7 : decode cX8_isOpen 7 = .ok (.if_icmp .ge 38, 3) := by decide +kernel
theorem dX8_isOpen_10 : decode cX8_isOpen 10 = .ok (.aload_n 0, 1) := by decide +kernel
theorem dX8_isOpen_11 : decode cX8_isOpen 11 = .ok (.getfield 31, 3) := by decide +kernel
theorem dX8_isOpen_14 : decode cX8_isOpen 14 = .ok (.iload_n 3, 1) := by decide +kernel
theorem dX8_isOpen_15 : decode cX8_isOpen 15 = .ok (.aaload, 1) := by decide +kernel
theorem dX8_isOpen_16 : decode cX8_isOpen 16 = .ok (.getfield 69, 3) := by decide +kernel
theorem dX8_isOpen_19 : decode cX8_isOpen 19 = .ok (.iload_n 1, 1) := by decide +kernel
theorem dX8_isOpen_20 : decode cX8_isOpen 20 = .ok (.if_icmp .ne 19, 3) := by decide +kernel
theorem dX8_isOpen_23 : decode cX8_isOpen 23 = .ok (.aload_n 2, 1) := by decide +kernel
theorem dX8_isOpen_24 : decode cX8_isOpen 24 = .ok (.aload_n 0, 1) := by decide +kernel
theorem dX8_isOpen_25 : decode cX8_isOpen 25 = .ok (.getfield 31, 3) := by decide +kernel
theorem dX8_isOpen_28 : decode cX8_isOpen 28 = .ok (.iload_n 3, 1) := by decide +kernel
theorem dX8_isOpen_29 : decode cX8_isOpen 29 = .ok (.aaload, 1) := by decide +kernel
theorem dX8_isOpen_30 : decode cX8_isOpen 30 = .ok (.getfield 66, 3) := by decide +kernel
theorem dX8_isOpen_33 : decode cX8_isOpen 33 = .ok (.baload, 1) := by decide +kernel
theorem dX8_isOpen_34 : decode cX8_isOpen 34 = .ok (.ifCond .ne 5, 3) := by decide +kernel
theorem dX8_isOpen_37 : decode cX8_isOpen 37 = .ok (.iconst 0, 1) := by decide +kernel
theorem dX8_isOpen_38 : decode cX8_isOpen 38 = .ok (.ireturn, 1) := by decide +kernel
theorem dX8_isOpen_39 : decode cX8_isOpen 39 = .ok (.iinc 3 1, 3) := by decide +kernel
theorem dX8_isOpen_42 : decode cX8_isOpen 42 = .ok (.goto (-40), 3) := by decide +kernel
theorem dX8_isOpen_45 : decode cX8_isOpen 45 = .ok (.iconst 1, 1) := by decide +kernel
theorem dX8_isOpen_46 : decode cX8_isOpen 46 = .ok (.ireturn, 1) := by decide +kernel
theorem dX8_firstDay_0 : decode cX8_firstDay 0 = .ok (.aload_n 0, 1) := by decide +kernel
theorem dX8_firstDay_1 : decode cX8_firstDay 1 = .ok (.getfield 25, 3) := by decide +kernel
theorem dX8_firstDay_4 : decode cX8_firstDay 4 = .ok (.iload_n 1, 1) := by decide +kernel
theorem dX8_firstDay_5 : decode cX8_firstDay 5 = .ok (.aaload, 1) := by decide +kernel
theorem dX8_firstDay_6 : decode cX8_firstDay 6 = .ok (.getfield 96, 3) := by decide +kernel
theorem dX8_firstDay_9 : decode cX8_firstDay 9 = .ok (.istore_n 3, 1) := by decide +kernel
theorem dX8_firstDay_10 : decode cX8_firstDay 10 = .ok (.iconst 0, 1) := by decide +kernel
theorem dX8_firstDay_11 : decode cX8_firstDay 11 = .ok (.istore 4, 2) := by decide +kernel
theorem dX8_firstDay_13 : decode cX8_firstDay 13 = .ok (.iconst 0, 1) := by decide +kernel
theorem dX8_firstDay_14 : decode cX8_firstDay 14 = .ok (.istore 5, 2) := by decide +kernel
theorem dX8_firstDay_16 : decode cX8_firstDay 16 = .ok (.iload 5, 2) := by decide +kernel
theorem dX8_firstDay_18 : decode cX8_firstDay 18 = .ok (.aload_n 0, 1) := by decide +kernel
theorem dX8_firstDay_19 : decode cX8_firstDay 19 = .ok (.getfield 63, 3) := by decide +kernel
theorem dX8_firstDay_22 : decode cX8_firstDay 22 = .ok (.if_icmp .ge 57, 3) := by decide +kernel
theorem dX8_firstDay_25 : decode cX8_firstDay 25 = .ok (.aload_n 0, 1) := by decide +kernel
theorem dX8_firstDay_26 : decode cX8_firstDay 26 = .ok (.getfield 31, 3) := by decide +kernel
theorem dX8_firstDay_29 : decode cX8_firstDay 29 = .ok (.iload 5, 2) := by decide +kernel
theorem dX8_firstDay_31 : decode cX8_firstDay 31 = .ok (.aaload, 1) := by decide +kernel
theorem dX8_firstDay_32 : decode cX8_firstDay 32 = .ok (.getfield 69, 3) := by decide +kernel
theorem dX8_firstDay_35 : decode cX8_firstDay 35 = .ok (.iload_n 1, 1) := by decide +kernel
theorem dX8_firstDay_36 : decode cX8_firstDay 36 = .ok (.if_icmp .ne 37, 3) := by decide +kernel
theorem dX8_firstDay_39 : decode cX8_firstDay 39 = .ok (.iload_n 3, 1) := by decide +kernel
theorem dX8_firstDay_40 : decode cX8_firstDay 40 = .ok (.aload_n 2, 1) := by decide +kernel
theorem dX8_firstDay_41 : decode cX8_firstDay 41 = .ok (.aload_n 0, 1) := by decide +kernel
theorem dX8_firstDay_42 : decode cX8_firstDay 42 = .ok (.getfield 31, 3) := by decide +kernel
theorem dX8_firstDay_45 : decode cX8_firstDay 45 = .ok (.iload 5, 2) := by decide +kernel
theorem dX8_firstDay_47 : decode cX8_firstDay 47 = .ok (.aaload, 1) := by decide +kernel
theorem dX8_firstDay_48 : decode cX8_firstDay 48 = .ok (.invokevirtual 99, 3) := by decide +kernel
theorem dX8_firstDay_51 : decode cX8_firstDay 51 = .ok (.invokestatic 105, 3) := by decide +kernel
theorem dX8_firstDay_54 : decode cX8_firstDay 54 = .ok (.istore_n 3, 1) := by decide +kernel
theorem dX8_firstDay_55 : decode cX8_firstDay 55 = .ok (.iload 4, 2) := by decide +kernel
theorem dX8_firstDay_57 : decode cX8_firstDay 57 = .ok (.aload_n 2, 1) := by decide +kernel
theorem dX8_firstDay_58 : decode cX8_firstDay 58 = .ok (.aload_n 0, 1) := by decide +kernel
theorem dX8_firstDay_59 : decode cX8_firstDay 59 = .ok (.getfield 31, 3) := by decide +kernel
theorem dX8_firstDay_62 : decode cX8_firstDay 62 = .ok (.iload 5, 2) := by decide +kernel
theorem dX8_firstDay_64 : decode cX8_firstDay 64 = .ok (.aaload, 1) := by decide +kernel
theorem dX8_firstDay_65 : decode cX8_firstDay 65 = .ok (.invokevirtual 111, 3) := by decide +kernel
theorem dX8_firstDay_68 : decode cX8_firstDay 68 = .ok (.invokestatic 105, 3) := by decide +kernel
theorem dX8_firstDay_71 : decode cX8_firstDay 71 = .ok (.istore 4, 2) := by decide +kernel
theorem dX8_firstDay_73 : decode cX8_firstDay 73 = .ok (.iinc 5 1, 3) := by decide +kernel
theorem dX8_firstDay_76 : decode cX8_firstDay 76 = .ok (.goto (-60), 3) := by decide +kernel
theorem dX8_firstDay_79 : decode cX8_firstDay 79 = .ok (.aload_n 0, 1) := by decide +kernel
theorem dX8_firstDay_80 : decode cX8_firstDay 80 = .ok (.iload_n 1, 1) := by decide +kernel
theorem dX8_firstDay_81 : decode cX8_firstDay 81 = .ok (.invokevirtual 114, 3) := by decide +kernel
theorem dX8_firstDay_84 : decode cX8_firstDay 84 = .ok (.aload_n 0, 1) := by decide +kernel
theorem dX8_firstDay_85 : decode cX8_firstDay 85 = .ok (.getfield 25, 3) := by decide +kernel
theorem dX8_firstDay_88 : decode cX8_firstDay 88 = .ok (.iload_n 1, 1) := by decide +kernel
theorem dX8_firstDay_89 : decode cX8_firstDay 89 = .ok (.aaload, 1) := by decide +kernel
theorem dX8_firstDay_90 : decode cX8_firstDay 90 = .ok (.getfield 57, 3) := by decide +kernel
theorem dX8_firstDay_93 : decode cX8_firstDay 93 = .ok (.iload_n 3, 1) := by decide +kernel
theorem dX8_firstDay_94 : decode cX8_firstDay 94 = .ok (.iload 4, 2) := by decide +kernel
theorem dX8_firstDay_96 : decode cX8_firstDay 96 = .ok (.invokevirtual 118, 3) := by decide +kernel
theorem dX8_firstDay_99 : decode cX8_firstDay 99 = .ok (.ireturn, 1) := by decide +kernel
theorem dX8_firstDayBy_0 : decode cX8_firstDayBy 0 = .ok (.aload_n 0, 1) := by decide +kernel
theorem dX8_firstDayBy_1 : decode cX8_firstDayBy 1 = .ok (.getfield 25, 3) := by decide +kernel
theorem dX8_firstDayBy_4 : decode cX8_firstDayBy 4 = .ok (.aload_n 1, 1) := by decide +kernel
theorem dX8_firstDayBy_5 : decode cX8_firstDayBy 5 = .ok (.getfield 69, 3) := by decide +kernel
theorem dX8_firstDayBy_8 : decode cX8_firstDayBy 8 = .ok (.aaload, 1) := by decide +kernel
theorem dX8_firstDayBy_9 : decode cX8_firstDayBy 9 = .ok (.astore_n 3, 1) := by decide +kernel
theorem dX8_firstDayBy_10 : decode cX8_firstDayBy 10 = .ok (.aload_n 3, 1) := by decide +kernel
theorem dX8_firstDayBy_11 : decode cX8_firstDayBy 11 = .ok (.getfield 96, 3) := by decide +kernel
theorem dX8_firstDayBy_14 : decode cX8_firstDayBy 14 = .ok (.aload_n 2, 1) := by decide +kernel
theorem dX8_firstDayBy_15 : decode cX8_firstDayBy 15 = .ok (.aload_n 1, 1) := by decide +kernel
theorem dX8_firstDayBy_16 : decode cX8_firstDayBy 16 = .ok (.invokevirtual 99, 3) := by decide +kernel
theorem dX8_firstDayBy_19 : decode cX8_firstDayBy 19 = .ok (.invokestatic 105, 3) := by decide +kernel
theorem dX8_firstDayBy_22 : decode cX8_firstDayBy 22 = .ok (.istore 4, 2) := by decide +kernel
theorem dX8_firstDayBy_24 : decode cX8_firstDayBy 24 = .ok (.aload_n 0, 1) := by decide +kernel
theorem dX8_firstDayBy_25 : decode cX8_firstDayBy 25 = .ok (.aload_n 1, 1) := by decide +kernel
theorem dX8_firstDayBy_26 : decode cX8_firstDayBy 26 = .ok (.getfield 69, 3) := by decide +kernel
theorem dX8_firstDayBy_29 : decode cX8_firstDayBy 29 = .ok (.invokevirtual 114, 3) := by decide +kernel
theorem dX8_firstDayBy_32 : decode cX8_firstDayBy 32 = .ok (.aload_n 3, 1) := by decide +kernel
theorem dX8_firstDayBy_33 : decode cX8_firstDayBy 33 = .ok (.getfield 57, 3) := by decide +kernel
theorem dX8_firstDayBy_36 : decode cX8_firstDayBy 36 = .ok (.iload 4, 2) := by decide +kernel
theorem dX8_firstDayBy_38 : decode cX8_firstDayBy 38 = .ok (.aload_n 2, 1) := by decide +kernel
theorem dX8_firstDayBy_39 : decode cX8_firstDayBy 39 = .ok (.aload_n 1, 1) := by decide +kernel
theorem dX8_firstDayBy_40 : decode cX8_firstDayBy 40 = .ok (.invokevirtual 111, 3) := by decide +kernel
theorem dX8_firstDayBy_43 : decode cX8_firstDayBy 43 = .ok (.invokevirtual 118, 3) := by decide +kernel
theorem dX8_firstDayBy_46 : decode cX8_firstDayBy 46 = .ok (.ireturn, 1) := by decide +kernel
theorem dX9_init_0 : decode cX9_init 0 = .ok (.aload_n 0, 1) := by decide +kernel
theorem dX9_init_1 : decode cX9_init 1 = .ok (.invokespecial 3, 3) := by decide +kernel
theorem dX9_init_4 : decode cX9_init 4 = .ok (.aload_n 0, 1) := by decide +kernel
theorem dX9_init_5 : decode cX9_init 5 = .ok (.iconst 4, 1) := by decide +kernel
theorem dX9_init_6 : decode cX9_init 6 = .ok (.newarray .int, 2) := by decide +kernel
theorem dX9_init_8 : decode cX9_init 8 = .ok (.putfield 9, 3) := by decide +kernel
theorem dX9_init_11 : decode cX9_init 11 = .ok (.return_, 1) := by decide +kernel
theorem dX10_init_0 : decode cX10_init 0 = .ok (.aload_n 0, 1) := by decide +kernel
theorem dX10_init_1 : decode cX10_init 1 = .ok (.invokespecial 1, 3) := by decide +kernel
theorem dX10_init_4 : decode cX10_init 4 = .ok (.aload_n 0, 1) := by decide +kernel
theorem dX10_init_5 : decode cX10_init 5 = .ok (.new 7, 3) := by decide +kernel
theorem dX10_init_8 : decode cX10_init 8 = .ok (.dup, 1) := by decide +kernel
theorem dX10_init_9 : decode cX10_init 9 = .ok (.invokespecial 9, 3) := by decide +kernel
theorem dX10_init_12 : decode cX10_init 12 = .ok (.putfield 10, 3) := by decide +kernel
theorem dX10_init_15 : decode cX10_init 15 = .ok (.aload_n 0, 1) := by decide +kernel
theorem dX10_init_16 : decode cX10_init 16 = .ok (.new 16, 3) := by decide +kernel
theorem dX10_init_19 : decode cX10_init 19 = .ok (.dup, 1) := by decide +kernel
theorem dX10_init_20 : decode cX10_init 20 = .ok (.aload_n 0, 1) := by decide +kernel
theorem dX10_init_21 : decode cX10_init 21 = .ok (.getfield 10, 3) := by decide +kernel
theorem dX10_init_24 : decode cX10_init 24 = .ok (.invokespecial 18, 3) := by decide +kernel
theorem dX10_init_27 : decode cX10_init 27 = .ok (.putfield 21, 3) := by decide +kernel
theorem dX10_init_30 : decode cX10_init 30 = .ok (.aload_n 0, 1) := by decide +kernel
theorem dX10_init_31 : decode cX10_init 31 = .ok (.new 25, 3) := by decide +kernel
theorem dX10_init_34 : decode cX10_init 34 = .ok (.dup, 1) := by decide +kernel
theorem dX10_init_35 : decode cX10_init 35 = .ok (.aload_n 0, 1) := by decide +kernel
theorem dX10_init_36 : decode cX10_init 36 = .ok (.getfield 10, 3) := by decide +kernel
theorem dX10_init_39 : decode cX10_init 39 = .ok (.invokespecial 27, 3) := by decide +kernel
theorem dX10_init_42 : decode cX10_init 42 = .ok (.putfield 28, 3) := by decide +kernel
theorem dX10_init_45 : decode cX10_init 45 = .ok (.aload_n 0, 1) := by decide +kernel
theorem dX10_init_46 : decode cX10_init 46 = .ok (.new 32, 3) := by decide +kernel
theorem dX10_init_49 : decode cX10_init 49 = .ok (.dup, 1) := by decide +kernel
theorem dX10_init_50 : decode cX10_init 50 = .ok (.invokespecial 34, 3) := by decide +kernel
theorem dX10_init_53 : decode cX10_init 53 = .ok (.putfield 35, 3) := by decide +kernel
theorem dX10_init_56 : decode cX10_init 56 = .ok (.aload_n 0, 1) := by decide +kernel
theorem dX10_init_57 : decode cX10_init 57 = .ok (.new 16, 3) := by decide +kernel
theorem dX10_init_60 : decode cX10_init 60 = .ok (.dup, 1) := by decide +kernel
theorem dX10_init_61 : decode cX10_init 61 = .ok (.aload_n 0, 1) := by decide +kernel
theorem dX10_init_62 : decode cX10_init 62 = .ok (.getfield 10, 3) := by decide +kernel
theorem dX10_init_65 : decode cX10_init 65 = .ok (.invokespecial 18, 3) := by decide +kernel
theorem dX10_init_68 : decode cX10_init 68 = .ok (.putfield 39, 3) := by decide +kernel
theorem dX10_init_71 : decode cX10_init 71 = .ok (.aload_n 0, 1) := by decide +kernel
theorem dX10_init_72 : decode cX10_init 72 = .ok (.new 25, 3) := by decide +kernel
theorem dX10_init_75 : decode cX10_init 75 = .ok (.dup, 1) := by decide +kernel
theorem dX10_init_76 : decode cX10_init 76 = .ok (.aload_n 0, 1) := by decide +kernel
theorem dX10_init_77 : decode cX10_init 77 = .ok (.getfield 10, 3) := by decide +kernel
theorem dX10_init_80 : decode cX10_init 80 = .ok (.invokespecial 27, 3) := by decide +kernel
theorem dX10_init_83 : decode cX10_init 83 = .ok (.putfield 42, 3) := by decide +kernel
theorem dX10_init_86 : decode cX10_init 86 = .ok (.aload_n 0, 1) := by decide +kernel
theorem dX10_init_87 : decode cX10_init 87 = .ok (.new 45, 3) := by decide +kernel
theorem dX10_init_90 : decode cX10_init 90 = .ok (.dup, 1) := by decide +kernel
theorem dX10_init_91 : decode cX10_init 91 = .ok (.aload_n 0, 1) := by decide +kernel
theorem dX10_init_92 : decode cX10_init 92 = .ok (.getfield 10, 3) := by decide +kernel
theorem dX10_init_95 : decode cX10_init 95 = .ok (.invokespecial 47, 3) := by decide +kernel
theorem dX10_init_98 : decode cX10_init 98 = .ok (.putfield 48, 3) := by decide +kernel
theorem dX10_init_101 : decode cX10_init 101 = .ok (.aload_n 0, 1) := by decide +kernel
theorem dX10_init_102 : decode cX10_init 102 = .ok (.iconst 1, 1) := by decide +kernel
theorem dX10_init_103 : decode cX10_init 103 = .ok (.putfield 52, 3) := by decide +kernel
theorem dX10_init_106 : decode cX10_init 106 = .ok (.return_, 1) := by decide +kernel
theorem dX10_setWeek_0 : decode cX10_setWeek 0 = .ok (.iload_n 1, 1) := by decide +kernel
theorem dX10_setWeek_1 : decode cX10_setWeek 1 = .ok (.invokestatic 56, 3) := by decide +kernel
theorem dX10_setWeek_4 : decode cX10_setWeek 4 = .ok (.iload_n 2, 1) := by decide +kernel
theorem dX10_setWeek_5 : decode cX10_setWeek 5 = .ok (.iconst 1, 1) := by decide +kernel
theorem dX10_setWeek_6 : decode cX10_setWeek 6 = .ok (.if_icmp .lt 13, 3) := by decide +kernel
theorem dX10_setWeek_9 : decode cX10_setWeek 9 = .ok (.iload_n 2, 1) := by decide +kernel
theorem dX10_setWeek_10 : decode cX10_setWeek 10 = .ok (.bipush 127, 2) := by decide +kernel
theorem dX10_setWeek_12 : decode cX10_setWeek 12 = .ok (.if_icmp .gt 7, 3) := by decide +kernel
theorem dX10_setWeek_15 : decode cX10_setWeek 15 = .ok (.iconst 1, 1) := by decide +kernel
theorem dX10_setWeek_16 : decode cX10_setWeek 16 = .ok (.goto 4, 3) := by decide +kernel
theorem dX10_setWeek_19 : decode cX10_setWeek 19 = .ok (.iconst 0, 1) := by decide +kernel
theorem dX10_setWeek_20 : decode cX10_setWeek 20 = .ok (.invokestatic 60, 3) := by decide +kernel
theorem dX10_setWeek_23 : decode cX10_setWeek 23 = .ok (.aload_n 0, 1) := by decide +kernel
theorem dX10_setWeek_24 : decode cX10_setWeek 24 = .ok (.getfield 10, 3) := by decide +kernel
theorem dX10_setWeek_27 : decode cX10_setWeek 27 = .ok (.getfield 64, 3) := by decide +kernel
theorem dX10_setWeek_30 : decode cX10_setWeek 30 = .ok (.iload_n 1, 1) := by decide +kernel
theorem dX10_setWeek_31 : decode cX10_setWeek 31 = .ok (.aaload, 1) := by decide +kernel
theorem dX10_setWeek_32 : decode cX10_setWeek 32 = .ok (.astore_n 3, 1) := by decide +kernel
theorem dX10_setWeek_33 : decode cX10_setWeek 33 = .ok (.aload_n 3, 1) := by decide +kernel
theorem dX10_setWeek_34 : decode cX10_setWeek 34 = .ok (.getfield 68, 3) := by decide +kernel
theorem dX10_setWeek_37 : decode cX10_setWeek 37 = .ok (.istore 4, 2) := by decide +kernel
theorem dX10_setWeek_39 : decode cX10_setWeek 39 = .ok (.aload_n 3, 1) := by decide +kernel
theorem dX10_setWeek_40 : decode cX10_setWeek 40 = .ok (.iload_n 2, 1) := by decide +kernel
theorem dX10_setWeek_41 : decode cX10_setWeek 41 = .ok (.putfield 68, 3) := by decide +kernel
theorem dX10_setWeek_44 : decode cX10_setWeek 44 = .ok (.aload_n 0, 1) := by decide +kernel
theorem dX10_setWeek_45 : decode cX10_setWeek 45 = .ok (.iconst 1, 1) := by decide +kernel
theorem dX10_setWeek_46 : decode cX10_setWeek 46 = .ok (.putfield 52, 3) := by decide +kernel
theorem dX10_setWeek_49 : decode cX10_setWeek 49 = .ok (.iload 4, 2) := by decide +kernel
theorem dX10_setWeek_51 : decode cX10_setWeek 51 = .ok (.ireturn, 1) := by decide +kernel
theorem dX10_setCrew_0 : decode cX10_setCrew 0 = .ok (.iload_n 1, 1) := by decide +kernel
theorem dX10_setCrew_1 : decode cX10_setCrew 1 = .ok (.invokestatic 92, 3) := by decide +kernel
theorem dX10_setCrew_4 : decode cX10_setCrew 4 = .ok (.iload_n 2, 1) := by decide +kernel
theorem dX10_setCrew_5 : decode cX10_setCrew 5 = .ok (.bipush 9, 2) := by decide +kernel
theorem dX10_setCrew_7 : decode cX10_setCrew 7 = .ok (.invokestatic 74, 3) := by decide +kernel
theorem dX10_setCrew_10 : decode cX10_setCrew 10 = .ok (.ifCond .eq 16, 3) := by decide +kernel
theorem dX10_setCrew_13 : decode cX10_setCrew 13 = .ok (.iload_n 3, 1) := by decide +kernel
theorem dX10_setCrew_14 : decode cX10_setCrew 14 = .ok (.bipush 99, 2) := by decide +kernel
theorem dX10_setCrew_16 : decode cX10_setCrew 16 = .ok (.invokestatic 74, 3) := by decide +kernel
theorem dX10_setCrew_19 : decode cX10_setCrew 19 = .ok (.ifCond .eq 7, 3) := by decide +kernel
theorem dX10_setCrew_22 : decode cX10_setCrew 22 = .ok (.iconst 1, 1) := by decide +kernel
theorem dX10_setCrew_23 : decode cX10_setCrew 23 = .ok (.goto 4, 3) := by decide +kernel
theorem dX10_setCrew_26 : decode cX10_setCrew 26 = .ok (.iconst 0, 1) := by decide +kernel
theorem dX10_setCrew_27 : decode cX10_setCrew 27 = .ok (.invokestatic 60, 3) := by decide +kernel
theorem dX10_setCrew_30 : decode cX10_setCrew 30 = .ok (.aload_n 0, 1) := by decide +kernel
theorem dX10_setCrew_31 : decode cX10_setCrew 31 = .ok (.getfield 10, 3) := by decide +kernel
theorem dX10_setCrew_34 : decode cX10_setCrew 34 = .ok (.getfield 95, 3) := by decide +kernel
theorem dX10_setCrew_37 : decode cX10_setCrew 37 = .ok (.iload_n 1, 1) := by decide +kernel
theorem dX10_setCrew_38 : decode cX10_setCrew 38 = .ok (.aaload, 1) := by decide +kernel
theorem dX10_setCrew_39 : decode cX10_setCrew 39 = .ok (.astore 4, 2) := by decide +kernel
theorem dX10_setCrew_41 : decode cX10_setCrew 41 = .ok (.aload 4, 2) := by decide +kernel
theorem dX10_setCrew_43 : decode cX10_setCrew 43 = .ok (.getfield 99, 3) := by decide +kernel
theorem dX10_setCrew_46 : decode cX10_setCrew 46 = .ok (.istore 5, 2) := by decide +kernel
theorem dX10_setCrew_48 : decode cX10_setCrew 48 = .ok (.aload 4, 2) := by decide +kernel
theorem dX10_setCrew_50 : decode cX10_setCrew 50 = .ok (.iload_n 2, 1) := by decide +kernel
theorem dX10_setCrew_51 : decode cX10_setCrew 51 = .ok (.putfield 99, 3) := by decide +kernel
theorem dX10_setCrew_54 : decode cX10_setCrew 54 = .ok (.aload 4, 2) := by decide +kernel
theorem dX10_setCrew_56 : decode cX10_setCrew 56 = .ok (.iload_n 3, 1) := by decide +kernel
theorem dX10_setCrew_57 : decode cX10_setCrew 57 = .ok (.putfield 104, 3) := by decide +kernel
theorem dX10_setCrew_60 : decode cX10_setCrew 60 = .ok (.aload_n 0, 1) := by decide +kernel
theorem dX10_setCrew_61 : decode cX10_setCrew 61 = .ok (.iconst 1, 1) := by decide +kernel
theorem dX10_setCrew_62 : decode cX10_setCrew 62 = .ok (.putfield 52, 3) := by decide +kernel
theorem dX10_setCrew_65 : decode cX10_setCrew 65 = .ok (.iload 5, 2) := by decide +kernel
theorem dX10_setCrew_67 : decode cX10_setCrew 67 = .ok (.ireturn, 1) := by decide +kernel
theorem dX10_addTask_0 : decode cX10_addTask 0 = .ok (.iload_n 2, 1) := by decide +kernel
theorem dX10_addTask_1 : decode cX10_addTask 1 = .ok (.invokestatic 56, 3) := by decide +kernel
theorem dX10_addTask_4 : decode cX10_addTask 4 = .ok (.iload_n 1, 1) := by decide +kernel
theorem dX10_addTask_5 : decode cX10_addTask 5 = .ok (.bipush 20, 2) := by decide +kernel
theorem dX10_addTask_7 : decode cX10_addTask 7 = .ok (.invokestatic 74, 3) := by decide +kernel
theorem dX10_addTask_10 : decode cX10_addTask 10 = .ok (.invokestatic 60, 3) := by decide +kernel
theorem dX10_addTask_13 : decode cX10_addTask 13 = .ok (.aload_n 0, 1) := by decide +kernel
theorem dX10_addTask_14 : decode cX10_addTask 14 = .ok (.getfield 10, 3) := by decide +kernel
theorem dX10_addTask_17 : decode cX10_addTask 17 = .ok (.getfield 107, 3) := by decide +kernel
theorem dX10_addTask_20 : decode cX10_addTask 20 = .ok (.bipush 24, 2) := by decide +kernel
theorem dX10_addTask_22 : decode cX10_addTask 22 = .ok (.if_icmp .ge 7, 3) := by decide +kernel
theorem dX10_addTask_25 : decode cX10_addTask 25 = .ok (.iconst 1, 1) := by decide +kernel
theorem dX10_addTask_26 : decode cX10_addTask 26 = .ok (.goto 4, 3) := by decide +kernel
theorem dX10_addTask_29 : decode cX10_addTask 29 = .ok (.iconst 0, 1) := by decide +kernel
theorem dX10_addTask_30 : decode cX10_addTask 30 = .ok (.invokestatic 85, 3) := by decide +kernel
theorem dX10_addTask_33 : decode cX10_addTask 33 = .ok (.aload_n 0, 1) := by decide +kernel
theorem dX10_addTask_34 : decode cX10_addTask 34 = .ok (.iconst 1, 1) := by decide +kernel
theorem dX10_addTask_35 : decode cX10_addTask 35 = .ok (.putfield 52, 3) := by decide +kernel
theorem dX10_addTask_38 : decode cX10_addTask 38 = .ok (.aload_n 0, 1) := by decide +kernel
theorem dX10_addTask_39 : decode cX10_addTask 39 = .ok (.getfield 10, 3) := by decide +kernel
theorem dX10_addTask_42 : decode cX10_addTask 42 = .ok (.iload_n 1, 1) := by decide +kernel
theorem dX10_addTask_43 : decode cX10_addTask 43 = .ok (.iload_n 2, 1) := by decide +kernel
theorem dX10_addTask_44 : decode cX10_addTask 44 = .ok (.invokevirtual 110, 3) := by decide +kernel
theorem dX10_addTask_47 : decode cX10_addTask 47 = .ok (.ireturn, 1) := by decide +kernel
theorem dX10_setLength_0 : decode cX10_setLength 0 = .ok (.aload_n 0, 1) := by decide +kernel
theorem dX10_setLength_1 : decode cX10_setLength 1 = .ok (.iload_n 1, 1) := by decide +kernel
theorem dX10_setLength_2 : decode cX10_setLength 2 = .ok (.invokevirtual 114, 3) := by decide +kernel
theorem dX10_setLength_5 : decode cX10_setLength 5 = .ok (.iload_n 2, 1) := by decide +kernel
theorem dX10_setLength_6 : decode cX10_setLength 6 = .ok (.bipush 20, 2) := by decide +kernel
theorem dX10_setLength_8 : decode cX10_setLength 8 = .ok (.invokestatic 74, 3) := by decide +kernel
theorem dX10_setLength_11 : decode cX10_setLength 11 = .ok (.invokestatic 60, 3) := by decide +kernel
theorem dX10_setLength_14 : decode cX10_setLength 14 = .ok (.aload_n 0, 1) := by decide +kernel
theorem dX10_setLength_15 : decode cX10_setLength 15 = .ok (.getfield 10, 3) := by decide +kernel
theorem dX10_setLength_18 : decode cX10_setLength 18 = .ok (.getfield 117, 3) := by decide +kernel
theorem dX10_setLength_21 : decode cX10_setLength 21 = .ok (.iload_n 1, 1) := by decide +kernel
theorem dX10_setLength_22 : decode cX10_setLength 22 = .ok (.aaload, 1) := by decide +kernel
theorem dX10_setLength_23 : decode cX10_setLength 23 = .ok (.astore_n 3, 1) := by decide +kernel
theorem dX10_setLength_24 : decode cX10_setLength 24 = .ok (.aload_n 3, 1) := by decide +kernel
theorem dX10_setLength_25 : decode cX10_setLength 25 = .ok (.getfield 121, 3) := by decide +kernel
theorem dX10_setLength_28 : decode cX10_setLength 28 = .ok (.istore 4, 2) := by decide +kernel
theorem dX10_setLength_30 : decode cX10_setLength 30 = .ok (.aload_n 3, 1) := by decide +kernel
theorem dX10_setLength_31 : decode cX10_setLength 31 = .ok (.iload_n 2, 1) := by decide +kernel
theorem dX10_setLength_32 : decode cX10_setLength 32 = .ok (.putfield 121, 3) := by decide +kernel
theorem dX10_setLength_35 : decode cX10_setLength 35 = .ok (.aload_n 0, 1) := by decide +kernel
theorem dX10_setLength_36 : decode cX10_setLength 36 = .ok (.iconst 1, 1) := by decide +kernel
theorem dX10_setLength_37 : decode cX10_setLength 37 = .ok (.putfield 52, 3) := by decide +kernel
theorem dX10_setLength_40 : decode cX10_setLength 40 = .ok (.iload 4, 2) := by decide +kernel
theorem dX10_setLength_42 : decode cX10_setLength 42 = .ok (.ireturn, 1) := by decide +kernel
theorem dX10_setTerms_0 : decode cX10_setTerms 0 = .ok (.aload_n 0, 1) := by decide +kernel
theorem dX10_setTerms_1 : decode cX10_setTerms 1 = .ok (.iload_n 1, 1) := by decide +kernel
theorem dX10_setTerms_2 : decode cX10_setTerms 2 = .ok (.invokevirtual 114, 3) := by decide +kernel
theorem dX10_setTerms_5 : decode cX10_setTerms 5 = .ok (.iload_n 2, 1) := by decide +kernel
theorem dX10_setTerms_6 : decode cX10_setTerms 6 = .ok (.bipush 9, 2) := by decide +kernel
theorem dX10_setTerms_8 : decode cX10_setTerms 8 = .ok (.invokestatic 74, 3) := by decide +kernel
theorem dX10_setTerms_11 : decode cX10_setTerms 11 = .ok (.ifCond .eq 17, 3) := by decide +kernel
theorem dX10_setTerms_14 : decode cX10_setTerms 14 = .ok (.iload_n 3, 1) := by decide +kernel
theorem dX10_setTerms_15 : decode cX10_setTerms 15 = .ok (.sipush 999, 3) := by decide +kernel
theorem dX10_setTerms_18 : decode cX10_setTerms 18 = .ok (.invokestatic 74, 3) := by decide +kernel
theorem dX10_setTerms_21 : decode cX10_setTerms 21 = .ok (.ifCond .eq 7, 3) := by decide +kernel
theorem dX10_setTerms_24 : decode cX10_setTerms 24 = .ok (.iconst 1, 1) := by decide +kernel
theorem dX10_setTerms_25 : decode cX10_setTerms 25 = .ok (.goto 4, 3) := by decide +kernel
theorem dX10_setTerms_28 : decode cX10_setTerms 28 = .ok (.iconst 0, 1) := by decide +kernel
theorem dX10_setTerms_29 : decode cX10_setTerms 29 = .ok (.invokestatic 60, 3) := by decide +kernel
theorem dX10_setTerms_32 : decode cX10_setTerms 32 = .ok (.aload_n 0, 1) := by decide +kernel
theorem dX10_setTerms_33 : decode cX10_setTerms 33 = .ok (.getfield 10, 3) := by decide +kernel
theorem dX10_setTerms_36 : decode cX10_setTerms 36 = .ok (.getfield 117, 3) := by decide +kernel
theorem dX10_setTerms_39 : decode cX10_setTerms 39 = .ok (.iload_n 1, 1) := by decide +kernel
theorem dX10_setTerms_40 : decode cX10_setTerms 40 = .ok (.aaload, 1) := by decide +kernel
theorem dX10_setTerms_41 : decode cX10_setTerms 41 = .ok (.astore 4, 2) := by decide +kernel
theorem dX10_setTerms_43 : decode cX10_setTerms 43 = .ok (.aload 4, 2) := by decide +kernel
theorem dX10_setTerms_45 : decode cX10_setTerms 45 = .ok (.getfield 126, 3) := by decide +kernel
theorem dX10_setTerms_48 : decode cX10_setTerms 48 = .ok (.istore 5, 2) := by decide +kernel
theorem dX10_setTerms_50 : decode cX10_setTerms 50 = .ok (.aload 4, 2) := by decide +kernel
theorem dX10_setTerms_52 : decode cX10_setTerms 52 = .ok (.iload_n 2, 1) := by decide +kernel
theorem dX10_setTerms_53 : decode cX10_setTerms 53 = .ok (.putfield 129, 3) := by decide +kernel
theorem dX10_setTerms_56 : decode cX10_setTerms 56 = .ok (.aload 4, 2) := by decide +kernel
theorem dX10_setTerms_58 : decode cX10_setTerms 58 = .ok (.iload_n 3, 1) := by decide +kernel
theorem dX10_setTerms_59 : decode cX10_setTerms 59 = .ok (.putfield 126, 3) := by decide +kernel
theorem dX10_setTerms_62 : decode cX10_setTerms 62 = .ok (.aload_n 0, 1) := by decide +kernel
theorem dX10_setTerms_63 : decode cX10_setTerms 63 = .ok (.iconst 1, 1) := by decide +kernel
theorem dX10_setTerms_64 : decode cX10_setTerms 64 = .ok (.putfield 52, 3) := by decide +kernel
theorem dX10_setTerms_67 : decode cX10_setTerms 67 = .ok (.iload 5, 2) := by decide +kernel
theorem dX10_setTerms_69 : decode cX10_setTerms 69 = .ok (.ireturn, 1) := by decide +kernel
theorem dX10_setNeed_0 : decode cX10_setNeed 0 = .ok (.aload_n 0, 1) := by decide +kernel
theorem dX10_setNeed_1 : decode cX10_setNeed 1 = .ok (.iload_n 1, 1) := by decide +kernel
theorem dX10_setNeed_2 : decode cX10_setNeed 2 = .ok (.invokevirtual 114, 3) := by decide +kernel
theorem dX10_setNeed_5 : decode cX10_setNeed 5 = .ok (.iload_n 2, 1) := by decide +kernel
theorem dX10_setNeed_6 : decode cX10_setNeed 6 = .ok (.invokestatic 92, 3) := by decide +kernel
theorem dX10_setNeed_9 : decode cX10_setNeed 9 = .ok (.iload_n 3, 1) := by decide +kernel
theorem dX10_setNeed_10 : decode cX10_setNeed 10 = .ok (.bipush 9, 2) := by decide +kernel
theorem dX10_setNeed_12 : decode cX10_setNeed 12 = .ok (.invokestatic 74, 3) := by decide +kernel
theorem dX10_setNeed_15 : decode cX10_setNeed 15 = .ok (.invokestatic 60, 3) := by decide +kernel
theorem dX10_setNeed_18 : decode cX10_setNeed 18 = .ok (.aload_n 0, 1) := by decide +kernel
theorem dX10_setNeed_19 : decode cX10_setNeed 19 = .ok (.getfield 10, 3) := by decide +kernel
theorem dX10_setNeed_22 : decode cX10_setNeed 22 = .ok (.getfield 117, 3) := by decide +kernel
theorem dX10_setNeed_25 : decode cX10_setNeed 25 = .ok (.iload_n 1, 1) := by decide +kernel
theorem dX10_setNeed_26 : decode cX10_setNeed 26 = .ok (.aaload, 1) := by decide +kernel
theorem dX10_setNeed_27 : decode cX10_setNeed 27 = .ok (.astore 4, 2) := by decide +kernel
theorem dX10_setNeed_29 : decode cX10_setNeed 29 = .ok (.aload 4, 2) := by decide +kernel
theorem dX10_setNeed_31 : decode cX10_setNeed 31 = .ok (.getfield 132, 3) := by decide +kernel
theorem dX10_setNeed_34 : decode cX10_setNeed 34 = .ok (.iload_n 2, 1) := by decide +kernel
theorem dX10_setNeed_35 : decode cX10_setNeed 35 = .ok (.iaload, 1) := by decide +kernel
theorem dX10_setNeed_36 : decode cX10_setNeed 36 = .ok (.istore 5, 2) := by decide +kernel
theorem dX10_setNeed_38 : decode cX10_setNeed 38 = .ok (.aload 4, 2) := by decide +kernel
theorem dX10_setNeed_40 : decode cX10_setNeed 40 = .ok (.getfield 132, 3) := by decide +kernel
theorem dX10_setNeed_43 : decode cX10_setNeed 43 = .ok (.iload_n 2, 1) := by decide +kernel
theorem dX10_setNeed_44 : decode cX10_setNeed 44 = .ok (.iload_n 3, 1) := by decide +kernel
theorem dX10_setNeed_45 : decode cX10_setNeed 45 = .ok (.iastore, 1) := by decide +kernel
theorem dX10_setNeed_46 : decode cX10_setNeed 46 = .ok (.aload_n 0, 1) := by decide +kernel
theorem dX10_setNeed_47 : decode cX10_setNeed 47 = .ok (.iconst 1, 1) := by decide +kernel
theorem dX10_setNeed_48 : decode cX10_setNeed 48 = .ok (.putfield 52, 3) := by decide +kernel
theorem dX10_setNeed_51 : decode cX10_setNeed 51 = .ok (.iload 5, 2) := by decide +kernel
theorem dX10_setNeed_53 : decode cX10_setNeed 53 = .ok (.ireturn, 1) := by decide +kernel
theorem dX10_link_0 : decode cX10_link 0 = .ok (.aload_n 0, 1) := by decide +kernel
theorem dX10_link_1 : decode cX10_link 1 = .ok (.iload_n 1, 1) := by decide +kernel
theorem dX10_link_2 : decode cX10_link 2 = .ok (.invokevirtual 114, 3) := by decide +kernel
theorem dX10_link_5 : decode cX10_link 5 = .ok (.aload_n 0, 1) := by decide +kernel
theorem dX10_link_6 : decode cX10_link 6 = .ok (.iload_n 2, 1) := by decide +kernel
theorem dX10_link_7 : decode cX10_link 7 = .ok (.invokevirtual 114, 3) := by decide +kernel
theorem dX10_link_10 : decode cX10_link 10 = .ok (.iload_n 3, 1) := by decide +kernel
theorem dX10_link_11 : decode cX10_link 11 = .ok (.iconst 2, 1) := by decide +kernel
theorem dX10_link_12 : decode cX10_link 12 = .ok (.invokestatic 74, 3) := by decide +kernel
theorem dX10_link_15 : decode cX10_link 15 = .ok (.ifCond .eq 17, 3) := by decide +kernel
theorem dX10_link_18 : decode cX10_link 18 = .ok (.iload 4, 2) := by decide +kernel
theorem dX10_link_20 : decode cX10_link 20 = .ok (.bipush 20, 2) := by decide +kernel
theorem dX10_link_22 : decode cX10_link 22 = .ok (.invokestatic 74, 3) := by decide +kernel
theorem dX10_link_25 : decode cX10_link 25 = .ok (.ifCond .eq 7, 3) := by decide +kernel
theorem dX10_link_28 : decode cX10_link 28 = .ok (.iconst 1, 1) := by decide +kernel
theorem dX10_link_29 : decode cX10_link 29 = .ok (.goto 4, 3) := by decide +kernel
theorem dX10_link_32 : decode cX10_link 32 = .ok (.iconst 0, 1) := by decide +kernel
theorem dX10_link_33 : decode cX10_link 33 = .ok (.invokestatic 60, 3) := by decide +kernel
theorem dX10_link_36 : decode cX10_link 36 = .ok (.aload_n 0, 1) := by decide +kernel
theorem dX10_link_37 : decode cX10_link 37 = .ok (.getfield 10, 3) := by decide +kernel
theorem dX10_link_40 : decode cX10_link 40 = .ok (.getfield 136, 3) := by decide +kernel
theorem dX10_link_43 : decode cX10_link 43 = .ok (.bipush 40, 2) := by decide +kernel
theorem dX10_link_45 : decode cX10_link 45 = .ok (.if_icmp .ge 19, 3) := by decide +kernel
theorem dX10_link_48 : decode cX10_link 48 = .ok (.aload_n 0, 1) := by decide +kernel
theorem dX10_link_49 : decode cX10_link 49 = .ok (.getfield 10, 3) := by decide +kernel
theorem dX10_link_52 : decode cX10_link 52 = .ok (.iload_n 2, 1) := by decide +kernel
theorem dX10_link_53 : decode cX10_link 53 = .ok (.iload_n 1, 1) := by decide +kernel
theorem dX10_link_54 : decode cX10_link 54 = .ok (.invokevirtual 139, 3) := by decide +kernel
theorem dX10_link_57 : decode cX10_link 57 = .ok (.ifCond .ne 7, 3) := by decide +kernel
theorem dX10_link_60 : decode cX10_link 60 = .ok (.iconst 1, 1) := by decide +kernel
theorem dX10_link_61 : decode cX10_link 61 = .ok (.goto 4, 3) := by decide +kernel
theorem dX10_link_64 : decode cX10_link 64 = .ok (.iconst 0, 1) := by decide +kernel
theorem dX10_link_65 : decode cX10_link 65 = .ok (.invokestatic 85, 3) := by decide +kernel
theorem dX10_link_68 : decode cX10_link 68 = .ok (.aload_n 0, 1) := by decide +kernel
theorem dX10_link_69 : decode cX10_link 69 = .ok (.iconst 1, 1) := by decide +kernel
theorem dX10_link_70 : decode cX10_link 70 = .ok (.putfield 52, 3) := by decide +kernel
theorem dX10_link_73 : decode cX10_link 73 = .ok (.aload_n 0, 1) := by decide +kernel
theorem dX10_link_74 : decode cX10_link 74 = .ok (.getfield 10, 3) := by decide +kernel
theorem dX10_link_77 : decode cX10_link 77 = .ok (.iload_n 1, 1) := by decide +kernel
theorem dX10_link_78 : decode cX10_link 78 = .ok (.iload_n 2, 1) := by decide +kernel
theorem dX10_link_79 : decode cX10_link 79 = .ok (.iload_n 3, 1) := by decide +kernel
theorem dX10_link_80 : decode cX10_link 80 = .ok (.iload 4, 2) := by decide +kernel
theorem dX10_link_82 : decode cX10_link 82 = .ok (.invokevirtual 142, 3) := by decide +kernel
theorem dX10_link_85 : decode cX10_link 85 = .ok (.ireturn, 1) := by decide +kernel
theorem dX10_drop_0 : decode cX10_drop 0 = .ok (.aload_n 0, 1) := by decide +kernel
theorem dX10_drop_1 : decode cX10_drop 1 = .ok (.iload_n 1, 1) := by decide +kernel
theorem dX10_drop_2 : decode cX10_drop 2 = .ok (.invokevirtual 146, 3) := by decide +kernel
theorem dX10_drop_5 : decode cX10_drop 5 = .ok (.aload_n 0, 1) := by decide +kernel
theorem dX10_drop_6 : decode cX10_drop 6 = .ok (.getfield 10, 3) := by decide +kernel
theorem dX10_drop_9 : decode cX10_drop 9 = .ok (.iload_n 1, 1) := by decide +kernel
theorem dX10_drop_10 : decode cX10_drop 10 = .ok (.invokevirtual 149, 3) := by decide +kernel
theorem dX10_drop_13 : decode cX10_drop 13 = .ok (.aload_n 0, 1) := by decide +kernel
theorem dX10_drop_14 : decode cX10_drop 14 = .ok (.iconst 1, 1) := by decide +kernel
theorem dX10_drop_15 : decode cX10_drop 15 = .ok (.putfield 52, 3) := by decide +kernel
theorem dX10_drop_18 : decode cX10_drop 18 = .ok (.aload_n 0, 1) := by decide +kernel
theorem dX10_drop_19 : decode cX10_drop 19 = .ok (.getfield 10, 3) := by decide +kernel
theorem dX10_drop_22 : decode cX10_drop 22 = .ok (.getfield 136, 3) := by decide +kernel
theorem dX10_drop_25 : decode cX10_drop 25 = .ok (.ireturn, 1) := by decide +kernel
theorem dX10_finish_0 : decode cX10_finish 0 = .ok (.aload_n 0, 1) := by decide +kernel
theorem dX10_finish_1 : decode cX10_finish 1 = .ok (.iload_n 1, 1) := by decide +kernel
theorem dX10_finish_2 : decode cX10_finish 2 = .ok (.invokevirtual 114, 3) := by decide +kernel
theorem dX10_finish_5 : decode cX10_finish 5 = .ok (.iload_n 2, 1) := by decide +kernel
theorem dX10_finish_6 : decode cX10_finish 6 = .ok (.sipush 999, 3) := by decide +kernel
theorem dX10_finish_9 : decode cX10_finish 9 = .ok (.invokestatic 74, 3) := by decide +kernel
theorem dX10_finish_12 : decode cX10_finish 12 = .ok (.ifCond .eq 22, 3) := by decide +kernel
theorem dX10_finish_15 : decode cX10_finish 15 = .ok (.iload_n 3, 1) := by decide +kernel
theorem dX10_finish_16 : decode cX10_finish 16 = .ok (.sipush 999, 3) := by decide +kernel
theorem dX10_finish_19 : decode cX10_finish 19 = .ok (.invokestatic 74, 3) := by decide +kernel
theorem dX10_finish_22 : decode cX10_finish 22 = .ok (.ifCond .eq 12, 3) := by decide +kernel
theorem dX10_finish_25 : decode cX10_finish 25 = .ok (.iload_n 2, 1) := by decide +kernel
theorem dX10_finish_26 : decode cX10_finish 26 = .ok (.iload_n 3, 1) := by decide +kernel
theorem dX10_finish_27 : decode cX10_finish 27 = .ok (.if_icmp .gt 7, 3) := by decide +kernel
theorem dX10_finish_30 : decode cX10_finish 30 = .ok (.iconst 1, 1) := by decide +kernel
theorem dX10_finish_31 : decode cX10_finish 31 = .ok (.goto 4, 3) := by decide +kernel
theorem dX10_finish_34 : decode cX10_finish 34 = .ok (.iconst 0, 1) := by decide +kernel
theorem dX10_finish_35 : decode cX10_finish 35 = .ok (.invokestatic 60, 3) := by decide +kernel
theorem dX10_finish_38 : decode cX10_finish 38 = .ok (.aload_n 0, 1) := by decide +kernel
theorem dX10_finish_39 : decode cX10_finish 39 = .ok (.getfield 10, 3) := by decide +kernel
theorem dX10_finish_42 : decode cX10_finish 42 = .ok (.getfield 117, 3) := by decide +kernel
theorem dX10_finish_45 : decode cX10_finish 45 = .ok (.iload_n 1, 1) := by decide +kernel
theorem dX10_finish_46 : decode cX10_finish 46 = .ok (.aaload, 1) := by decide +kernel
theorem dX10_finish_47 : decode cX10_finish 47 = .ok (.astore 4, 2) := by decide +kernel
theorem dX10_finish_49 : decode cX10_finish 49 = .ok (.aload 4, 2) := by decide +kernel
theorem dX10_finish_51 : decode cX10_finish 51 = .ok (.getfield 152, 3) := by decide +kernel
theorem dX10_finish_54 : decode cX10_finish 54 = .ok (.istore 5, 2) := by decide +kernel
theorem dX10_finish_56 : decode cX10_finish 56 = .ok (.aload 4, 2) := by decide +kernel
theorem dX10_finish_58 : decode cX10_finish 58 = .ok (.iconst 1, 1) := by decide +kernel
theorem dX10_finish_59 : decode cX10_finish 59 = .ok (.putfield 152, 3) := by decide +kernel
theorem dX10_finish_62 : decode cX10_finish 62 = .ok (.aload 4, 2) := by decide +kernel
theorem dX10_finish_64 : decode cX10_finish 64 = .ok (.iload_n 2, 1) := by decide +kernel
theorem dX10_finish_65 : decode cX10_finish 65 = .ok (.putfield 155, 3) := by decide +kernel
theorem dX10_finish_68 : decode cX10_finish 68 = .ok (.aload 4, 2) := by decide +kernel
theorem dX10_finish_70 : decode cX10_finish 70 = .ok (.iload_n 3, 1) := by decide +kernel
theorem dX10_finish_71 : decode cX10_finish 71 = .ok (.putfield 158, 3) := by decide +kernel
theorem dX10_finish_74 : decode cX10_finish 74 = .ok (.aload_n 0, 1) := by decide +kernel
theorem dX10_finish_75 : decode cX10_finish 75 = .ok (.iconst 1, 1) := by decide +kernel
theorem dX10_finish_76 : decode cX10_finish 76 = .ok (.putfield 52, 3) := by decide +kernel
theorem dX10_finish_79 : decode cX10_finish 79 = .ok (.iload 5, 2) := by decide +kernel
theorem dX10_finish_81 : decode cX10_finish 81 = .ok (.ireturn, 1) := by decide +kernel
theorem dX10_reopen_0 : decode cX10_reopen 0 = .ok (.aload_n 0, 1) := by decide +kernel
theorem dX10_reopen_1 : decode cX10_reopen 1 = .ok (.iload_n 1, 1) := by decide +kernel
theorem dX10_reopen_2 : decode cX10_reopen 2 = .ok (.invokevirtual 114, 3) := by decide +kernel
theorem dX10_reopen_5 : decode cX10_reopen 5 = .ok (.aload_n 0, 1) := by decide +kernel
theorem dX10_reopen_6 : decode cX10_reopen 6 = .ok (.getfield 10, 3) := by decide +kernel
theorem dX10_reopen_9 : decode cX10_reopen 9 = .ok (.getfield 117, 3) := by decide +kernel
theorem dX10_reopen_12 : decode cX10_reopen 12 = .ok (.iload_n 1, 1) := by decide +kernel
theorem dX10_reopen_13 : decode cX10_reopen 13 = .ok (.aaload, 1) := by decide +kernel
theorem dX10_reopen_14 : decode cX10_reopen 14 = .ok (.astore_n 2, 1) := by decide +kernel
theorem dX10_reopen_15 : decode cX10_reopen 15 = .ok (.aload_n 2, 1) := by decide +kernel
theorem dX10_reopen_16 : decode cX10_reopen 16 = .ok (.getfield 152, 3) := by decide +kernel
theorem dX10_reopen_19 : decode cX10_reopen 19 = .ok (.istore_n 3, 1) := by decide +kernel
theorem dX10_reopen_20 : decode cX10_reopen 20 = .ok (.aload_n 2, 1) := by decide +kernel
theorem dX10_reopen_21 : decode cX10_reopen 21 = .ok (.iconst 0, 1) := by decide +kernel
theorem dX10_reopen_22 : decode cX10_reopen 22 = .ok (.putfield 152, 3) := by decide +kernel
theorem dX10_reopen_25 : decode cX10_reopen 25 = .ok (.aload_n 0, 1) := by decide +kernel
theorem dX10_reopen_26 : decode cX10_reopen 26 = .ok (.iconst 1, 1) := by decide +kernel
theorem dX10_reopen_27 : decode cX10_reopen 27 = .ok (.putfield 52, 3) := by decide +kernel
theorem dX10_reopen_30 : decode cX10_reopen 30 = .ok (.iload_n 3, 1) := by decide +kernel
theorem dX10_reopen_31 : decode cX10_reopen 31 = .ok (.ireturn, 1) := by decide +kernel
theorem dX10_setRule_0 : decode cX10_setRule 0 = .ok (.iload_n 1, 1) := by decide +kernel
theorem dX10_setRule_1 : decode cX10_setRule 1 = .ok (.iconst 3, 1) := by decide +kernel
theorem dX10_setRule_2 : decode cX10_setRule 2 = .ok (.invokestatic 74, 3) := by decide +kernel
theorem dX10_setRule_5 : decode cX10_setRule 5 = .ok (.invokestatic 60, 3) := by decide +kernel
theorem dX10_setRule_8 : decode cX10_setRule 8 = .ok (.aload_n 0, 1) := by decide +kernel
theorem dX10_setRule_9 : decode cX10_setRule 9 = .ok (.getfield 10, 3) := by decide +kernel
theorem dX10_setRule_12 : decode cX10_setRule 12 = .ok (.getfield 161, 3) := by decide +kernel
theorem dX10_setRule_15 : decode cX10_setRule 15 = .ok (.istore_n 2, 1) := by decide +kernel
theorem dX10_setRule_16 : decode cX10_setRule 16 = .ok (.aload_n 0, 1) := by decide +kernel
theorem dX10_setRule_17 : decode cX10_setRule 17 = .ok (.getfield 10, 3) := by decide +kernel
theorem dX10_setRule_20 : decode cX10_setRule 20 = .ok (.iload_n 1, 1) := by decide +kernel
theorem dX10_setRule_21 : decode cX10_setRule 21 = .ok (.putfield 161, 3) := by decide +kernel
theorem dX10_setRule_24 : decode cX10_setRule 24 = .ok (.aload_n 0, 1) := by decide +kernel
theorem dX10_setRule_25 : decode cX10_setRule 25 = .ok (.iconst 1, 1) := by decide +kernel
theorem dX10_setRule_26 : decode cX10_setRule 26 = .ok (.putfield 52, 3) := by decide +kernel
theorem dX10_setRule_29 : decode cX10_setRule 29 = .ok (.iload_n 2, 1) := by decide +kernel
theorem dX10_setRule_30 : decode cX10_setRule 30 = .ok (.ireturn, 1) := by decide +kernel
theorem dX10_tasks_0 : decode cX10_tasks 0 = .ok (.aload_n 0, 1) := by decide +kernel
theorem dX10_tasks_1 : decode cX10_tasks 1 = .ok (.getfield 10, 3) := by decide +kernel
theorem dX10_tasks_4 : decode cX10_tasks 4 = .ok (.getfield 107, 3) := by decide +kernel
theorem dX10_tasks_7 : decode cX10_tasks 7 = .ok (.ireturn, 1) := by decide +kernel
theorem dX10_links_0 : decode cX10_links 0 = .ok (.aload_n 0, 1) := by decide +kernel
theorem dX10_links_1 : decode cX10_links 1 = .ok (.getfield 10, 3) := by decide +kernel
theorem dX10_links_4 : decode cX10_links 4 = .ok (.getfield 136, 3) := by decide +kernel
theorem dX10_links_7 : decode cX10_links 7 = .ok (.ireturn, 1) := by decide +kernel
theorem dX10_earlyBegin_0 : decode cX10_earlyBegin 0 = .ok (.aload_n 0, 1) := by decide +kernel
theorem dX10_earlyBegin_1 : decode cX10_earlyBegin 1 = .ok (.iload_n 1, 1) := by decide +kernel
theorem dX10_earlyBegin_2 : decode cX10_earlyBegin 2 = .ok (.invokevirtual 114, 3) := by decide +kernel
theorem dX10_earlyBegin_5 : decode cX10_earlyBegin 5 = .ok (.aload_n 0, 1) := by decide +kernel
theorem dX10_earlyBegin_6 : decode cX10_earlyBegin 6 = .ok (.invokevirtual 171, 3) := by decide +kernel
theorem dX10_earlyBegin_9 : decode cX10_earlyBegin 9 = .ok (.aload_n 0, 1) := by decide +kernel
theorem dX10_earlyBegin_10 : decode cX10_earlyBegin 10 = .ok (.getfield 21, 3) := by decide +kernel
theorem dX10_earlyBegin_13 : decode cX10_earlyBegin 13 = .ok (.getfield 174, 3) := by decide +kernel
theorem dX10_earlyBegin_16 : decode cX10_earlyBegin 16 = .ok (.getfield 178, 3) := by decide +kernel
theorem dX10_earlyBegin_19 : decode cX10_earlyBegin 19 = .ok (.iload_n 1, 1) := by decide +kernel
theorem dX10_earlyBegin_20 : decode cX10_earlyBegin 20 = .ok (.iaload, 1) := by decide +kernel
theorem dX10_earlyBegin_21 : decode cX10_earlyBegin 21 = .ok (.ireturn, 1) := by decide +kernel
theorem dX10_earlyEnd_0 : decode cX10_earlyEnd 0 = .ok (.aload_n 0, 1) := by decide +kernel
theorem dX10_earlyEnd_1 : decode cX10_earlyEnd 1 = .ok (.iload_n 1, 1) := by decide +kernel
theorem dX10_earlyEnd_2 : decode cX10_earlyEnd 2 = .ok (.invokevirtual 114, 3) := by decide +kernel
theorem dX10_earlyEnd_5 : decode cX10_earlyEnd 5 = .ok (.aload_n 0, 1) := by decide +kernel
theorem dX10_earlyEnd_6 : decode cX10_earlyEnd 6 = .ok (.invokevirtual 171, 3) := by decide +kernel
theorem dX10_earlyEnd_9 : decode cX10_earlyEnd 9 = .ok (.aload_n 0, 1) := by decide +kernel
theorem dX10_earlyEnd_10 : decode cX10_earlyEnd 10 = .ok (.getfield 21, 3) := by decide +kernel
theorem dX10_earlyEnd_13 : decode cX10_earlyEnd 13 = .ok (.getfield 174, 3) := by decide +kernel
theorem dX10_earlyEnd_16 : decode cX10_earlyEnd 16 = .ok (.getfield 183, 3) := by decide +kernel
theorem dX10_earlyEnd_19 : decode cX10_earlyEnd 19 = .ok (.iload_n 1, 1) := by decide +kernel
theorem dX10_earlyEnd_20 : decode cX10_earlyEnd 20 = .ok (.iaload, 1) := by decide +kernel
theorem dX10_earlyEnd_21 : decode cX10_earlyEnd 21 = .ok (.ireturn, 1) := by decide +kernel
theorem dX10_lateBegin_0 : decode cX10_lateBegin 0 = .ok (.aload_n 0, 1) := by decide +kernel
theorem dX10_lateBegin_1 : decode cX10_lateBegin 1 = .ok (.iload_n 1, 1) := by decide +kernel
theorem dX10_lateBegin_2 : decode cX10_lateBegin 2 = .ok (.invokevirtual 114, 3) := by decide +kernel
theorem dX10_lateBegin_5 : decode cX10_lateBegin 5 = .ok (.aload_n 0, 1) := by decide +kernel
theorem dX10_lateBegin_6 : decode cX10_lateBegin 6 = .ok (.invokevirtual 171, 3) := by decide +kernel
theorem dX10_lateBegin_9 : decode cX10_lateBegin 9 = .ok (.aload_n 0, 1) := by decide +kernel
theorem dX10_lateBegin_10 : decode cX10_lateBegin 10 = .ok (.getfield 21, 3) := by decide +kernel
theorem dX10_lateBegin_13 : decode cX10_lateBegin 13 = .ok (.getfield 186, 3) := by decide +kernel
theorem dX10_lateBegin_16 : decode cX10_lateBegin 16 = .ok (.getfield 178, 3) := by decide +kernel
theorem dX10_lateBegin_19 : decode cX10_lateBegin 19 = .ok (.iload_n 1, 1) := by decide +kernel
theorem dX10_lateBegin_20 : decode cX10_lateBegin 20 = .ok (.iaload, 1) := by decide +kernel
theorem dX10_lateBegin_21 : decode cX10_lateBegin 21 = .ok (.ireturn, 1) := by decide +kernel
theorem dX10_lateEnd_0 : decode cX10_lateEnd 0 = .ok (.aload_n 0, 1) := by decide +kernel
theorem dX10_lateEnd_1 : decode cX10_lateEnd 1 = .ok (.iload_n 1, 1) := by decide +kernel
theorem dX10_lateEnd_2 : decode cX10_lateEnd 2 = .ok (.invokevirtual 114, 3) := by decide +kernel
theorem dX10_lateEnd_5 : decode cX10_lateEnd 5 = .ok (.aload_n 0, 1) := by decide +kernel
theorem dX10_lateEnd_6 : decode cX10_lateEnd 6 = .ok (.invokevirtual 171, 3) := by decide +kernel
theorem dX10_lateEnd_9 : decode cX10_lateEnd 9 = .ok (.aload_n 0, 1) := by decide +kernel
theorem dX10_lateEnd_10 : decode cX10_lateEnd 10 = .ok (.getfield 21, 3) := by decide +kernel
theorem dX10_lateEnd_13 : decode cX10_lateEnd 13 = .ok (.getfield 186, 3) := by decide +kernel
theorem dX10_lateEnd_16 : decode cX10_lateEnd 16 = .ok (.getfield 183, 3) := by decide +kernel
theorem dX10_lateEnd_19 : decode cX10_lateEnd 19 = .ok (.iload_n 1, 1) := by decide +kernel
theorem dX10_lateEnd_20 : decode cX10_lateEnd 20 = .ok (.iaload, 1) := by decide +kernel
theorem dX10_lateEnd_21 : decode cX10_lateEnd 21 = .ok (.ireturn, 1) := by decide +kernel
theorem dX10_room_0 : decode cX10_room 0 = .ok (.aload_n 0, 1) := by decide +kernel
theorem dX10_room_1 : decode cX10_room 1 = .ok (.iload_n 1, 1) := by decide +kernel
theorem dX10_room_2 : decode cX10_room 2 = .ok (.invokevirtual 114, 3) := by decide +kernel
theorem dX10_room_5 : decode cX10_room 5 = .ok (.aload_n 0, 1) := by decide +kernel
theorem dX10_room_6 : decode cX10_room 6 = .ok (.invokevirtual 171, 3) := by decide +kernel
theorem dX10_room_9 : decode cX10_room 9 = .ok (.aload_n 0, 1) := by decide +kernel
theorem dX10_room_10 : decode cX10_room 10 = .ok (.getfield 21, 3) := by decide +kernel
theorem dX10_room_13 : decode cX10_room 13 = .ok (.getfield 189, 3) := by decide +kernel
theorem dX10_room_16 : decode cX10_room 16 = .ok (.iload_n 1, 1) := by decide +kernel
theorem dX10_room_17 : decode cX10_room 17 = .ok (.iaload, 1) := by decide +kernel
theorem dX10_room_18 : decode cX10_room 18 = .ok (.ireturn, 1) := by decide +kernel
theorem dX10_last_0 : decode cX10_last 0 = .ok (.aload_n 0, 1) := by decide +kernel
theorem dX10_last_1 : decode cX10_last 1 = .ok (.invokevirtual 171, 3) := by decide +kernel
theorem dX10_last_4 : decode cX10_last 4 = .ok (.aload_n 0, 1) := by decide +kernel
theorem dX10_last_5 : decode cX10_last 5 = .ok (.getfield 21, 3) := by decide +kernel
theorem dX10_last_8 : decode cX10_last 8 = .ok (.getfield 192, 3) := by decide +kernel
theorem dX10_last_11 : decode cX10_last 11 = .ok (.ireturn, 1) := by decide +kernel
theorem dX10_tight_0 : decode cX10_tight 0 = .ok (.aload_n 0, 1) := by decide +kernel
theorem dX10_tight_1 : decode cX10_tight 1 = .ok (.invokevirtual 171, 3) := by decide +kernel
theorem dX10_tight_4 : decode cX10_tight 4 = .ok (.aload_n 0, 1) := by decide +kernel
theorem dX10_tight_5 : decode cX10_tight 5 = .ok (.getfield 21, 3) := by decide +kernel
theorem dX10_tight_8 : decode cX10_tight 8 = .ok (.invokevirtual 195, 3) := by decide +kernel
theorem dX10_tight_11 : decode cX10_tight 11 = .ok (.ireturn, 1) := by decide +kernel
theorem dX10_overloaded_0 : decode cX10_overloaded 0 = .ok (.iload_n 1, 1) := by decide +kernel
theorem dX10_overloaded_1 : decode cX10_overloaded 1 = .ok (.invokestatic 92, 3) := by decide +kernel
theorem dX10_overloaded_4 : decode cX10_overloaded 4 = .ok (.aload_n 0, 1) := by decide +kernel
theorem dX10_overloaded_5 : decode cX10_overloaded 5 = .ok (.invokevirtual 171, 3) := by decide +kernel
theorem dX10_overloaded_8 : decode cX10_overloaded 8 = .ok (.aload_n 0, 1) := by decide +kernel
theorem dX10_overloaded_9 : decode cX10_overloaded 9 = .ok (.getfield 35, 3) := by decide +kernel
theorem dX10_overloaded_12 : decode cX10_overloaded 12 = .ok (.iload_n 1, 1) := by decide +kernel
theorem dX10_overloaded_13 : decode cX10_overloaded 13 = .ok (.aload_n 0, 1) := by decide +kernel
theorem dX10_overloaded_14 : decode cX10_overloaded 14 = .ok (.getfield 10, 3) := by decide +kernel
theorem dX10_overloaded_17 : decode cX10_overloaded 17 = .ok (.getfield 95, 3) := by decide +kernel
theorem dX10_overloaded_20 : decode cX10_overloaded 20 = .ok (.iload_n 1, 1) := by decide +kernel
theorem dX10_overloaded_21 : decode cX10_overloaded 21 = .ok (.aaload, 1) := by decide +kernel
theorem dX10_overloaded_22 : decode cX10_overloaded 22 = .ok (.getfield 99, 3) := by decide +kernel
theorem dX10_overloaded_25 : decode cX10_overloaded 25 = .ok (.invokevirtual 202, 3) := by decide +kernel
theorem dX10_overloaded_28 : decode cX10_overloaded 28 = .ok (.ireturn, 1) := by decide +kernel
theorem dX10_begin_0 : decode cX10_begin 0 = .ok (.aload_n 0, 1) := by decide +kernel
theorem dX10_begin_1 : decode cX10_begin 1 = .ok (.iload_n 1, 1) := by decide +kernel
theorem dX10_begin_2 : decode cX10_begin 2 = .ok (.invokevirtual 114, 3) := by decide +kernel
theorem dX10_begin_5 : decode cX10_begin 5 = .ok (.aload_n 0, 1) := by decide +kernel
theorem dX10_begin_6 : decode cX10_begin 6 = .ok (.invokevirtual 171, 3) := by decide +kernel
theorem dX10_begin_9 : decode cX10_begin 9 = .ok (.aload_n 0, 1) := by decide +kernel
theorem dX10_begin_10 : decode cX10_begin 10 = .ok (.getfield 28, 3) := by decide +kernel
theorem dX10_begin_13 : decode cX10_begin 13 = .ok (.getfield 205, 3) := by decide +kernel
theorem dX10_begin_16 : decode cX10_begin 16 = .ok (.getfield 178, 3) := by decide +kernel
theorem dX10_begin_19 : decode cX10_begin 19 = .ok (.iload_n 1, 1) := by decide +kernel
theorem dX10_begin_20 : decode cX10_begin 20 = .ok (.iaload, 1) := by decide +kernel
theorem dX10_begin_21 : decode cX10_begin 21 = .ok (.ireturn, 1) := by decide +kernel
theorem dX10_end_0 : decode cX10_end 0 = .ok (.aload_n 0, 1) := by decide +kernel
theorem dX10_end_1 : decode cX10_end 1 = .ok (.iload_n 1, 1) := by decide +kernel
theorem dX10_end_2 : decode cX10_end 2 = .ok (.invokevirtual 114, 3) := by decide +kernel
theorem dX10_end_5 : decode cX10_end 5 = .ok (.aload_n 0, 1) := by decide +kernel
theorem dX10_end_6 : decode cX10_end 6 = .ok (.invokevirtual 171, 3) := by decide +kernel
theorem dX10_end_9 : decode cX10_end 9 = .ok (.aload_n 0, 1) := by decide +kernel
theorem dX10_end_10 : decode cX10_end 10 = .ok (.getfield 28, 3) := by decide +kernel
theorem dX10_end_13 : decode cX10_end 13 = .ok (.getfield 205, 3) := by decide +kernel
theorem dX10_end_16 : decode cX10_end 16 = .ok (.getfield 183, 3) := by decide +kernel
theorem dX10_end_19 : decode cX10_end 19 = .ok (.iload_n 1, 1) := by decide +kernel
theorem dX10_end_20 : decode cX10_end 20 = .ok (.iaload, 1) := by decide +kernel
theorem dX10_end_21 : decode cX10_end 21 = .ok (.ireturn, 1) := by decide +kernel
theorem dX10_levelledLast_0 : decode cX10_levelledLast 0 = .ok (.aload_n 0, 1) := by decide +kernel
theorem dX10_levelledLast_1 : decode cX10_levelledLast 1 = .ok (.invokevirtual 171, 3) := by decide +kernel
theorem dX10_levelledLast_4 : decode cX10_levelledLast 4 = .ok (.aload_n 0, 1) := by decide +kernel
theorem dX10_levelledLast_5 : decode cX10_levelledLast 5 = .ok (.getfield 28, 3) := by decide +kernel
theorem dX10_levelledLast_8 : decode cX10_levelledLast 8 = .ok (.getfield 208, 3) := by decide +kernel
theorem dX10_levelledLast_11 : decode cX10_levelledLast 11 = .ok (.ireturn, 1) := by decide +kernel
theorem dX10_stuck_0 : decode cX10_stuck 0 = .ok (.aload_n 0, 1) := by decide +kernel
theorem dX10_stuck_1 : decode cX10_stuck 1 = .ok (.invokevirtual 171, 3) := by decide +kernel
theorem dX10_stuck_4 : decode cX10_stuck 4 = .ok (.aload_n 0, 1) := by decide +kernel
theorem dX10_stuck_5 : decode cX10_stuck 5 = .ok (.getfield 10, 3) := by decide +kernel
theorem dX10_stuck_8 : decode cX10_stuck 8 = .ok (.getfield 107, 3) := by decide +kernel
theorem dX10_stuck_11 : decode cX10_stuck 11 = .ok (.aload_n 0, 1) := by decide +kernel
theorem dX10_stuck_12 : decode cX10_stuck 12 = .ok (.getfield 28, 3) := by decide +kernel
theorem dX10_stuck_15 : decode cX10_stuck 15 = .ok (.getfield 209, 3) := by decide +kernel
theorem dX10_stuck_18 : decode cX10_stuck 18 = .ok (.isub, 1) := by decide +kernel
theorem dX10_stuck_19 : decode cX10_stuck 19 = .ok (.ireturn, 1) := by decide +kernel
theorem dX10_orderAt_0 : decode cX10_orderAt 0 = .ok (.aload_n 0, 1) := by decide +kernel
theorem dX10_orderAt_1 : decode cX10_orderAt 1 = .ok (.invokevirtual 171, 3) := by decide +kernel
theorem dX10_orderAt_4 : decode cX10_orderAt 4 = .ok (.iload_n 1, 1) := by decide +kernel
theorem dX10_orderAt_5 : decode cX10_orderAt 5 = .ok (.aload_n 0, 1) := by decide +kernel
theorem dX10_orderAt_6 : decode cX10_orderAt 6 = .ok (.getfield 28, 3) := by decide +kernel
theorem dX10_orderAt_9 : decode cX10_orderAt 9 = .ok (.getfield 209, 3) := by decide +kernel
theorem dX10_orderAt_12 : decode cX10_orderAt 12 = .ok (.invokestatic 212, 3) := by decide +kernel
theorem dX10_orderAt_15 : decode cX10_orderAt 15 = .ok (.aload_n 0, 1) := by decide +kernel
theorem dX10_orderAt_16 : decode cX10_orderAt 16 = .ok (.getfield 28, 3) := by decide +kernel
theorem dX10_orderAt_19 : decode cX10_orderAt 19 = .ok (.getfield 216, 3) := by decide +kernel
theorem dX10_orderAt_22 : decode cX10_orderAt 22 = .ok (.iload_n 1, 1) := by decide +kernel
theorem dX10_orderAt_23 : decode cX10_orderAt 23 = .ok (.iaload, 1) := by decide +kernel
theorem dX10_orderAt_24 : decode cX10_orderAt 24 = .ok (.ireturn, 1) := by decide +kernel
theorem dX10_used_0 : decode cX10_used 0 = .ok (.iload_n 1, 1) := by decide +kernel
theorem dX10_used_1 : decode cX10_used 1 = .ok (.invokestatic 92, 3) := by decide +kernel
theorem dX10_used_4 : decode cX10_used 4 = .ok (.iload_n 2, 1) := by decide +kernel
theorem dX10_used_5 : decode cX10_used 5 = .ok (.invokestatic 164, 3) := by decide +kernel
theorem dX10_used_8 : decode cX10_used 8 = .ok (.aload_n 0, 1) := by decide +kernel
theorem dX10_used_9 : decode cX10_used 9 = .ok (.invokevirtual 171, 3) := by decide +kernel
theorem dX10_used_12 : decode cX10_used 12 = .ok (.aload_n 0, 1) := by decide +kernel
theorem dX10_used_13 : decode cX10_used 13 = .ok (.getfield 28, 3) := by decide +kernel
theorem dX10_used_16 : decode cX10_used 16 = .ok (.getfield 219, 3) := by decide +kernel
theorem dX10_used_19 : decode cX10_used 19 = .ok (.iload_n 1, 1) := by decide +kernel
theorem dX10_used_20 : decode cX10_used 20 = .ok (.iload_n 2, 1) := by decide +kernel
theorem dX10_used_21 : decode cX10_used 21 = .ok (.invokevirtual 199, 3) := by decide +kernel
theorem dX10_used_24 : decode cX10_used 24 = .ok (.ireturn, 1) := by decide +kernel
theorem dX10_peak_0 : decode cX10_peak 0 = .ok (.iload_n 1, 1) := by decide +kernel
theorem dX10_peak_1 : decode cX10_peak 1 = .ok (.invokestatic 92, 3) := by decide +kernel
theorem dX10_peak_4 : decode cX10_peak 4 = .ok (.aload_n 0, 1) := by decide +kernel
theorem dX10_peak_5 : decode cX10_peak 5 = .ok (.invokevirtual 171, 3) := by decide +kernel
theorem dX10_peak_8 : decode cX10_peak 8 = .ok (.aload_n 0, 1) := by decide +kernel
theorem dX10_peak_9 : decode cX10_peak 9 = .ok (.getfield 28, 3) := by decide +kernel
theorem dX10_peak_12 : decode cX10_peak 12 = .ok (.getfield 219, 3) := by decide +kernel
theorem dX10_peak_15 : decode cX10_peak 15 = .ok (.iload_n 1, 1) := by decide +kernel
theorem dX10_peak_16 : decode cX10_peak 16 = .ok (.invokevirtual 222, 3) := by decide +kernel
theorem dX10_peak_19 : decode cX10_peak 19 = .ok (.ireturn, 1) := by decide +kernel
theorem dX10_holds_0 : decode cX10_holds 0 = .ok (.aload_n 0, 1) := by decide +kernel
theorem dX10_holds_1 : decode cX10_holds 1 = .ok (.iload_n 1, 1) := by decide +kernel
theorem dX10_holds_2 : decode cX10_holds 2 = .ok (.invokevirtual 114, 3) := by decide +kernel
theorem dX10_holds_5 : decode cX10_holds 5 = .ok (.aload_n 0, 1) := by decide +kernel
theorem dX10_holds_6 : decode cX10_holds 6 = .ok (.invokevirtual 171, 3) := by decide +kernel
theorem dX10_holds_9 : decode cX10_holds 9 = .ok (.aload_n 0, 1) := by decide +kernel
theorem dX10_holds_10 : decode cX10_holds 10 = .ok (.getfield 28, 3) := by decide +kernel
theorem dX10_holds_13 : decode cX10_holds 13 = .ok (.iload_n 1, 1) := by decide +kernel
theorem dX10_holds_14 : decode cX10_holds 14 = .ok (.invokevirtual 226, 3) := by decide +kernel
theorem dX10_holds_17 : decode cX10_holds 17 = .ok (.ireturn, 1) := by decide +kernel
theorem dX10_heldBy_0 : decode cX10_heldBy 0 = .ok (.aload_n 0, 1) := by decide +kernel
theorem dX10_heldBy_1 : decode cX10_heldBy 1 = .ok (.iload_n 1, 1) := by decide +kernel
theorem dX10_heldBy_2 : decode cX10_heldBy 2 = .ok (.invokevirtual 114, 3) := by decide +kernel
theorem dX10_heldBy_5 : decode cX10_heldBy 5 = .ok (.aload_n 0, 1) := by decide +kernel
theorem dX10_heldBy_6 : decode cX10_heldBy 6 = .ok (.invokevirtual 171, 3) := by decide +kernel
theorem dX10_heldBy_9 : decode cX10_heldBy 9 = .ok (.aload_n 0, 1) := by decide +kernel
theorem dX10_heldBy_10 : decode cX10_heldBy 10 = .ok (.getfield 28, 3) := by decide +kernel
theorem dX10_heldBy_13 : decode cX10_heldBy 13 = .ok (.iload_n 1, 1) := by decide +kernel
theorem dX10_heldBy_14 : decode cX10_heldBy 14 = .ok (.invokevirtual 229, 3) := by decide +kernel
theorem dX10_heldBy_17 : decode cX10_heldBy 17 = .ok (.ireturn, 1) := by decide +kernel
theorem dX10_idle_0 : decode cX10_idle 0 = .ok (.iload_n 1, 1) := by decide +kernel
theorem dX10_idle_1 : decode cX10_idle 1 = .ok (.invokestatic 92, 3) := by decide +kernel
theorem dX10_idle_4 : decode cX10_idle 4 = .ok (.aload_n 0, 1) := by decide +kernel
theorem dX10_idle_5 : decode cX10_idle 5 = .ok (.invokevirtual 171, 3) := by decide +kernel
theorem dX10_idle_8 : decode cX10_idle 8 = .ok (.aload_n 0, 1) := by decide +kernel
theorem dX10_idle_9 : decode cX10_idle 9 = .ok (.getfield 28, 3) := by decide +kernel
theorem dX10_idle_12 : decode cX10_idle 12 = .ok (.getfield 219, 3) := by decide +kernel
theorem dX10_idle_15 : decode cX10_idle 15 = .ok (.iload_n 1, 1) := by decide +kernel
theorem dX10_idle_16 : decode cX10_idle 16 = .ok (.aload_n 0, 1) := by decide +kernel
theorem dX10_idle_17 : decode cX10_idle 17 = .ok (.getfield 10, 3) := by decide +kernel
theorem dX10_idle_20 : decode cX10_idle 20 = .ok (.getfield 95, 3) := by decide +kernel
theorem dX10_idle_23 : decode cX10_idle 23 = .ok (.iload_n 1, 1) := by decide +kernel
theorem dX10_idle_24 : decode cX10_idle 24 = .ok (.aaload, 1) := by decide +kernel
theorem dX10_idle_25 : decode cX10_idle 25 = .ok (.getfield 99, 3) := by decide +kernel
theorem dX10_idle_28 : decode cX10_idle 28 = .ok (.aload_n 0, 1) := by decide +kernel
theorem dX10_idle_29 : decode cX10_idle 29 = .ok (.getfield 28, 3) := by decide +kernel
theorem dX10_idle_32 : decode cX10_idle 32 = .ok (.getfield 208, 3) := by decide +kernel
theorem dX10_idle_35 : decode cX10_idle 35 = .ok (.invokevirtual 232, 3) := by decide +kernel
theorem dX10_idle_38 : decode cX10_idle 38 = .ok (.ireturn, 1) := by decide +kernel
theorem dX10_keep_0 : decode cX10_keep 0 = .ok (.aload_n 0, 1) := by decide +kernel
theorem dX10_keep_1 : decode cX10_keep 1 = .ok (.invokevirtual 171, 3) := by decide +kernel
theorem dX10_keep_4 : decode cX10_keep 4 = .ok (.aload_n 0, 1) := by decide +kernel
theorem dX10_keep_5 : decode cX10_keep 5 = .ok (.getfield 48, 3) := by decide +kernel
theorem dX10_keep_8 : decode cX10_keep 8 = .ok (.aload_n 0, 1) := by decide +kernel
theorem dX10_keep_9 : decode cX10_keep 9 = .ok (.getfield 28, 3) := by decide +kernel
theorem dX10_keep_12 : decode cX10_keep 12 = .ok (.invokevirtual 236, 3) := by decide +kernel
theorem dX10_keep_15 : decode cX10_keep 15 = .ok (.aload_n 0, 1) := by decide +kernel
theorem dX10_keep_16 : decode cX10_keep 16 = .ok (.getfield 28, 3) := by decide +kernel
theorem dX10_keep_19 : decode cX10_keep 19 = .ok (.getfield 209, 3) := by decide +kernel
theorem dX10_keep_22 : decode cX10_keep 22 = .ok (.ireturn, 1) := by decide +kernel
theorem dX10_planned_0 : decode cX10_planned 0 = .ok (.iload_n 1, 1) := by decide +kernel
theorem dX10_planned_1 : decode cX10_planned 1 = .ok (.invokestatic 164, 3) := by decide +kernel
theorem dX10_planned_4 : decode cX10_planned 4 = .ok (.aload_n 0, 1) := by decide +kernel
theorem dX10_planned_5 : decode cX10_planned 5 = .ok (.getfield 48, 3) := by decide +kernel
theorem dX10_planned_8 : decode cX10_planned 8 = .ok (.iload_n 1, 1) := by decide +kernel
theorem dX10_planned_9 : decode cX10_planned 9 = .ok (.invokevirtual 244, 3) := by decide +kernel
theorem dX10_planned_12 : decode cX10_planned 12 = .ok (.ireturn, 1) := by decide +kernel
theorem dX10_earned_0 : decode cX10_earned 0 = .ok (.aload_n 0, 1) := by decide +kernel
theorem dX10_earned_1 : decode cX10_earned 1 = .ok (.getfield 48, 3) := by decide +kernel
theorem dX10_earned_4 : decode cX10_earned 4 = .ok (.invokevirtual 247, 3) := by decide +kernel
theorem dX10_earned_7 : decode cX10_earned 7 = .ok (.ireturn, 1) := by decide +kernel
theorem dX10_worth_0 : decode cX10_worth 0 = .ok (.iconst 0, 1) := by decide +kernel
theorem dX10_worth_1 : decode cX10_worth 1 = .ok (.istore_n 1, 1) := by decide +kernel
theorem dX10_worth_2 : decode cX10_worth 2 = .ok (.iconst 0, 1) := by decide +kernel
theorem dX10_worth_3 : decode cX10_worth 3 = .ok (.istore_n 2, 1) := by decide +kernel
theorem dX10_worth_4 : decode cX10_worth 4 = .ok (.iload_n 2, 1) := by decide +kernel
theorem dX10_worth_5 : decode cX10_worth 5 = .ok (.aload_n 0, 1) := by decide +kernel
theorem dX10_worth_6 : decode cX10_worth 6 = .ok (.getfield 10, 3) := by decide +kernel
theorem dX10_worth_9 : decode cX10_worth 9 = .ok (.getfield 107, 3) := by decide +kernel
theorem dX10_worth_12 : decode cX10_worth 12 = .ok (.if_icmp .ge 20, 3) := by decide +kernel
theorem dX10_worth_15 : decode cX10_worth 15 = .ok (.iload_n 1, 1) := by decide +kernel
theorem dX10_worth_16 : decode cX10_worth 16 = .ok (.aload_n 0, 1) := by decide +kernel
theorem dX10_worth_17 : decode cX10_worth 17 = .ok (.getfield 10, 3) := by decide +kernel
theorem dX10_worth_20 : decode cX10_worth 20 = .ok (.iload_n 2, 1) := by decide +kernel
theorem dX10_worth_21 : decode cX10_worth 21 = .ok (.invokevirtual 250, 3) := by decide +kernel
theorem dX10_worth_24 : decode cX10_worth 24 = .ok (.iadd, 1) := by decide +kernel
theorem dX10_worth_25 : decode cX10_worth 25 = .ok (.istore_n 1, 1) := by decide +kernel
theorem dX10_worth_26 : decode cX10_worth 26 = .ok (.iinc 2 1, 3) := by decide +kernel
theorem dX10_worth_29 : decode cX10_worth 29 = .ok (.goto (-25), 3) := by decide +kernel
theorem dX10_worth_32 : decode cX10_worth 32 = .ok (.iload_n 1, 1) := by decide +kernel
theorem dX10_worth_33 : decode cX10_worth 33 = .ok (.ireturn, 1) := by decide +kernel
theorem dX10_digest_0 : decode cX10_digest 0 = .ok (.aload_n 0, 1) := by decide +kernel
theorem dX10_digest_1 : decode cX10_digest 1 = .ok (.invokevirtual 171, 3) := by decide +kernel
theorem dX10_digest_4 : decode cX10_digest 4 = .ok (.ldc2_w 269, 3) := by decide +kernel
theorem dX10_digest_7 : decode cX10_digest 7 = .ok (.lstore_n 1, 1) := by decide +kernel
theorem dX10_digest_8 : decode cX10_digest 8 = .ok (.lload_n 1, 1) := by decide +kernel
theorem dX10_digest_9 : decode cX10_digest 9 = .ok (.ldc2_w 271, 3) := by decide +kernel
theorem dX10_digest_12 : decode cX10_digest 12 = .ok (.lmul, 1) := by decide +kernel
theorem dX10_digest_13 : decode cX10_digest 13 = .ok (.aload_n 0, 1) := by decide +kernel
theorem dX10_digest_14 : decode cX10_digest 14 = .ok (.getfield 10, 3) := by decide +kernel
theorem dX10_digest_17 : decode cX10_digest 17 = .ok (.getfield 107, 3) := by decide +kernel
theorem dX10_digest_20 : decode cX10_digest 20 = .ok (.i2l, 1) := by decide +kernel
theorem dX10_digest_21 : decode cX10_digest 21 = .ok (.ladd, 1) := by decide +kernel
theorem dX10_digest_22 : decode cX10_digest 22 = .ok (.lstore_n 1, 1) := by decide +kernel
theorem dX10_digest_23 : decode cX10_digest 23 = .ok (.lload_n 1, 1) := by decide +kernel
theorem dX10_digest_24 : decode cX10_digest 24 = .ok (.ldc2_w 271, 3) := by decide +kernel
theorem dX10_digest_27 : decode cX10_digest 27 = .ok (.lmul, 1) := by decide +kernel
theorem dX10_digest_28 : decode cX10_digest 28 = .ok (.aload_n 0, 1) := by decide +kernel
theorem dX10_digest_29 : decode cX10_digest 29 = .ok (.getfield 10, 3) := by decide +kernel
theorem dX10_digest_32 : decode cX10_digest 32 = .ok (.getfield 136, 3) := by decide +kernel
theorem dX10_digest_35 : decode cX10_digest 35 = .ok (.i2l, 1) := by decide +kernel
theorem dX10_digest_36 : decode cX10_digest 36 = .ok (.ladd, 1) := by decide +kernel
theorem dX10_digest_37 : decode cX10_digest 37 = .ok (.lstore_n 1, 1) := by decide +kernel
theorem dX10_digest_38 : decode cX10_digest 38 = .ok (.lload_n 1, 1) := by decide +kernel
theorem dX10_digest_39 : decode cX10_digest 39 = .ok (.ldc2_w 271, 3) := by decide +kernel
theorem dX10_digest_42 : decode cX10_digest 42 = .ok (.lmul, 1) := by decide +kernel
theorem dX10_digest_43 : decode cX10_digest 43 = .ok (.aload_n 0, 1) := by decide +kernel
theorem dX10_digest_44 : decode cX10_digest 44 = .ok (.getfield 21, 3) := by decide +kernel
theorem dX10_digest_47 : decode cX10_digest 47 = .ok (.getfield 192, 3) := by decide +kernel
theorem dX10_digest_50 : decode cX10_digest 50 = .ok (.i2l, 1) := by decide +kernel
theorem dX10_digest_51 : decode cX10_digest 51 = .ok (.ladd, 1) := by decide +kernel
theorem dX10_digest_52 : decode cX10_digest 52 = .ok (.lstore_n 1, 1) := by decide +kernel
theorem dX10_digest_53 : decode cX10_digest 53 = .ok (.lload_n 1, 1) := by decide +kernel
theorem dX10_digest_54 : decode cX10_digest 54 = .ok (.ldc2_w 271, 3) := by decide +kernel
theorem dX10_digest_57 : decode cX10_digest 57 = .ok (.lmul, 1) := by decide +kernel
theorem dX10_digest_58 : decode cX10_digest 58 = .ok (.aload_n 0, 1) := by decide +kernel
theorem dX10_digest_59 : decode cX10_digest 59 = .ok (.getfield 21, 3) := by decide +kernel
theorem dX10_digest_62 : decode cX10_digest 62 = .ok (.invokevirtual 195, 3) := by decide +kernel
theorem dX10_digest_65 : decode cX10_digest 65 = .ok (.i2l, 1) := by decide +kernel
theorem dX10_digest_66 : decode cX10_digest 66 = .ok (.ladd, 1) := by decide +kernel
theorem dX10_digest_67 : decode cX10_digest 67 = .ok (.lstore_n 1, 1) := by decide +kernel
theorem dX10_digest_68 : decode cX10_digest 68 = .ok (.lload_n 1, 1) := by decide +kernel
theorem dX10_digest_69 : decode cX10_digest 69 = .ok (.ldc2_w 271, 3) := by decide +kernel
theorem dX10_digest_72 : decode cX10_digest 72 = .ok (.lmul, 1) := by decide +kernel
theorem dX10_digest_73 : decode cX10_digest 73 = .ok (.aload_n 0, 1) := by decide +kernel
theorem dX10_digest_74 : decode cX10_digest 74 = .ok (.getfield 28, 3) := by decide +kernel
theorem dX10_digest_77 : decode cX10_digest 77 = .ok (.getfield 208, 3) := by decide +kernel
theorem dX10_digest_80 : decode cX10_digest 80 = .ok (.i2l, 1) := by decide +kernel
theorem dX10_digest_81 : decode cX10_digest 81 = .ok (.ladd, 1) := by decide +kernel
theorem dX10_digest_82 : decode cX10_digest 82 = .ok (.lstore_n 1, 1) := by decide +kernel
theorem dX10_digest_83 : decode cX10_digest 83 = .ok (.lload_n 1, 1) := by decide +kernel
theorem dX10_digest_84 : decode cX10_digest 84 = .ok (.ldc2_w 271, 3) := by decide +kernel
theorem dX10_digest_87 : decode cX10_digest 87 = .ok (.lmul, 1) := by decide +kernel
theorem dX10_digest_88 : decode cX10_digest 88 = .ok (.aload_n 0, 1) := by decide +kernel
theorem dX10_digest_89 : decode cX10_digest 89 = .ok (.getfield 10, 3) := by decide +kernel
theorem dX10_digest_92 : decode cX10_digest 92 = .ok (.getfield 107, 3) := by decide +kernel
theorem dX10_digest_95 : decode cX10_digest 95 = .ok (.aload_n 0, 1) := by decide +kernel
theorem dX10_digest_96 : decode cX10_digest 96 = .ok (.getfield 28, 3) := by decide +kernel
theorem dX10_digest_99 : decode cX10_digest 99 = .ok (.getfield 209, 3) := by decide +kernel
theorem dX10_digest_102 : decode cX10_digest 102 = .ok (.isub, 1) := by decide +kernel
theorem dX10_digest_103 : decode cX10_digest 103 = .ok (.i2l, 1) := by decide +kernel
theorem dX10_digest_104 : decode cX10_digest 104 = .ok (.ladd, 1) := by decide +kernel
theorem dX10_digest_105 : decode cX10_digest 105 = .ok (.lstore_n 1, 1) := by decide +kernel
theorem dX10_digest_106 : decode cX10_digest 106 = .ok (.iconst 0, 1) := by decide +kernel
theorem dX10_digest_107 : decode cX10_digest 107 = .ok (.istore_n 3, 1) := by decide +kernel
theorem dX10_digest_108 : decode cX10_digest 108 = .ok (.iload_n 3, 1) := by decide +kernel
theorem dX10_digest_109 : decode cX10_digest 109 = .ok (.aload_n 0, 1) := by decide +kernel
theorem dX10_digest_110 : decode cX10_digest 110 = .ok (.getfield 10, 3) := by decide +kernel
theorem dX10_digest_113 : decode cX10_digest 113 = .ok (.getfield 107, 3) := by decide +kernel
theorem dX10_digest_116 : decode cX10_digest 116 = .ok (.if_icmp .ge 198, 3) := by decide +kernel
theorem dX10_digest_119 : decode cX10_digest 119 = .ok (.lload_n 1, 1) := by decide +kernel
theorem dX10_digest_120 : decode cX10_digest 120 = .ok (.ldc2_w 271, 3) := by decide +kernel
theorem dX10_digest_123 : decode cX10_digest 123 = .ok (.lmul, 1) := by decide +kernel
theorem dX10_digest_124 : decode cX10_digest 124 = .ok (.aload_n 0, 1) := by decide +kernel
theorem dX10_digest_125 : decode cX10_digest 125 = .ok (.getfield 21, 3) := by decide +kernel
theorem dX10_digest_128 : decode cX10_digest 128 = .ok (.getfield 174, 3) := by decide +kernel
theorem dX10_digest_131 : decode cX10_digest 131 = .ok (.getfield 178, 3) := by decide +kernel
theorem dX10_digest_134 : decode cX10_digest 134 = .ok (.iload_n 3, 1) := by decide +kernel
theorem dX10_digest_135 : decode cX10_digest 135 = .ok (.iaload, 1) := by decide +kernel
theorem dX10_digest_136 : decode cX10_digest 136 = .ok (.i2l, 1) := by decide +kernel
theorem dX10_digest_137 : decode cX10_digest 137 = .ok (.ladd, 1) := by decide +kernel
theorem dX10_digest_138 : decode cX10_digest 138 = .ok (.lstore_n 1, 1) := by decide +kernel
theorem dX10_digest_139 : decode cX10_digest 139 = .ok (.lload_n 1, 1) := by decide +kernel
theorem dX10_digest_140 : decode cX10_digest 140 = .ok (.ldc2_w 271, 3) := by decide +kernel
theorem dX10_digest_143 : decode cX10_digest 143 = .ok (.lmul, 1) := by decide +kernel
theorem dX10_digest_144 : decode cX10_digest 144 = .ok (.aload_n 0, 1) := by decide +kernel
theorem dX10_digest_145 : decode cX10_digest 145 = .ok (.getfield 21, 3) := by decide +kernel
theorem dX10_digest_148 : decode cX10_digest 148 = .ok (.getfield 174, 3) := by decide +kernel
theorem dX10_digest_151 : decode cX10_digest 151 = .ok (.getfield 183, 3) := by decide +kernel
theorem dX10_digest_154 : decode cX10_digest 154 = .ok (.iload_n 3, 1) := by decide +kernel
theorem dX10_digest_155 : decode cX10_digest 155 = .ok (.iaload, 1) := by decide +kernel
theorem dX10_digest_156 : decode cX10_digest 156 = .ok (.i2l, 1) := by decide +kernel
theorem dX10_digest_157 : decode cX10_digest 157 = .ok (.ladd, 1) := by decide +kernel
theorem dX10_digest_158 : decode cX10_digest 158 = .ok (.lstore_n 1, 1) := by decide +kernel
theorem dX10_digest_159 : decode cX10_digest 159 = .ok (.lload_n 1, 1) := by decide +kernel
theorem dX10_digest_160 : decode cX10_digest 160 = .ok (.ldc2_w 271, 3) := by decide +kernel
theorem dX10_digest_163 : decode cX10_digest 163 = .ok (.lmul, 1) := by decide +kernel
theorem dX10_digest_164 : decode cX10_digest 164 = .ok (.aload_n 0, 1) := by decide +kernel
theorem dX10_digest_165 : decode cX10_digest 165 = .ok (.getfield 21, 3) := by decide +kernel
theorem dX10_digest_168 : decode cX10_digest 168 = .ok (.getfield 186, 3) := by decide +kernel
theorem dX10_digest_171 : decode cX10_digest 171 = .ok (.getfield 178, 3) := by decide +kernel
theorem dX10_digest_174 : decode cX10_digest 174 = .ok (.iload_n 3, 1) := by decide +kernel
theorem dX10_digest_175 : decode cX10_digest 175 = .ok (.iaload, 1) := by decide +kernel
theorem dX10_digest_176 : decode cX10_digest 176 = .ok (.i2l, 1) := by decide +kernel
theorem dX10_digest_177 : decode cX10_digest 177 = .ok (.ladd, 1) := by decide +kernel
theorem dX10_digest_178 : decode cX10_digest 178 = .ok (.lstore_n 1, 1) := by decide +kernel
theorem dX10_digest_179 : decode cX10_digest 179 = .ok (.lload_n 1, 1) := by decide +kernel
theorem dX10_digest_180 : decode cX10_digest 180 = .ok (.ldc2_w 271, 3) := by decide +kernel
theorem dX10_digest_183 : decode cX10_digest 183 = .ok (.lmul, 1) := by decide +kernel
theorem dX10_digest_184 : decode cX10_digest 184 = .ok (.aload_n 0, 1) := by decide +kernel
theorem dX10_digest_185 : decode cX10_digest 185 = .ok (.getfield 21, 3) := by decide +kernel
theorem dX10_digest_188 : decode cX10_digest 188 = .ok (.getfield 186, 3) := by decide +kernel
theorem dX10_digest_191 : decode cX10_digest 191 = .ok (.getfield 183, 3) := by decide +kernel
theorem dX10_digest_194 : decode cX10_digest 194 = .ok (.iload_n 3, 1) := by decide +kernel
theorem dX10_digest_195 : decode cX10_digest 195 = .ok (.iaload, 1) := by decide +kernel
theorem dX10_digest_196 : decode cX10_digest 196 = .ok (.i2l, 1) := by decide +kernel
theorem dX10_digest_197 : decode cX10_digest 197 = .ok (.ladd, 1) := by decide +kernel
theorem dX10_digest_198 : decode cX10_digest 198 = .ok (.lstore_n 1, 1) := by decide +kernel
theorem dX10_digest_199 : decode cX10_digest 199 = .ok (.lload_n 1, 1) := by decide +kernel
theorem dX10_digest_200 : decode cX10_digest 200 = .ok (.ldc2_w 271, 3) := by decide +kernel
theorem dX10_digest_203 : decode cX10_digest 203 = .ok (.lmul, 1) := by decide +kernel
theorem dX10_digest_204 : decode cX10_digest 204 = .ok (.aload_n 0, 1) := by decide +kernel
theorem dX10_digest_205 : decode cX10_digest 205 = .ok (.getfield 21, 3) := by decide +kernel
theorem dX10_digest_208 : decode cX10_digest 208 = .ok (.getfield 189, 3) := by decide +kernel
theorem dX10_digest_211 : decode cX10_digest 211 = .ok (.iload_n 3, 1) := by decide +kernel
theorem dX10_digest_212 : decode cX10_digest 212 = .ok (.iaload, 1) := by decide +kernel
theorem dX10_digest_213 : decode cX10_digest 213 = .ok (.i2l, 1) := by decide +kernel
theorem dX10_digest_214 : decode cX10_digest 214 = .ok (.ladd, 1) := by decide +kernel
theorem dX10_digest_215 : decode cX10_digest 215 = .ok (.lstore_n 1, 1) := by decide +kernel
theorem dX10_digest_216 : decode cX10_digest 216 = .ok (.lload_n 1, 1) := by decide +kernel
theorem dX10_digest_217 : decode cX10_digest 217 = .ok (.ldc2_w 271, 3) := by decide +kernel
theorem dX10_digest_220 : decode cX10_digest 220 = .ok (.lmul, 1) := by decide +kernel
theorem dX10_digest_221 : decode cX10_digest 221 = .ok (.aload_n 0, 1) := by decide +kernel
theorem dX10_digest_222 : decode cX10_digest 222 = .ok (.getfield 28, 3) := by decide +kernel
theorem dX10_digest_225 : decode cX10_digest 225 = .ok (.getfield 205, 3) := by decide +kernel
theorem dX10_digest_228 : decode cX10_digest 228 = .ok (.getfield 178, 3) := by decide +kernel
theorem dX10_digest_231 : decode cX10_digest 231 = .ok (.iload_n 3, 1) := by decide +kernel
theorem dX10_digest_232 : decode cX10_digest 232 = .ok (.iaload, 1) := by decide +kernel
theorem dX10_digest_233 : decode cX10_digest 233 = .ok (.i2l, 1) := by decide +kernel
theorem dX10_digest_234 : decode cX10_digest 234 = .ok (.ladd, 1) := by decide +kernel
theorem dX10_digest_235 : decode cX10_digest 235 = .ok (.lstore_n 1, 1) := by decide +kernel
theorem dX10_digest_236 : decode cX10_digest 236 = .ok (.lload_n 1, 1) := by decide +kernel
theorem dX10_digest_237 : decode cX10_digest 237 = .ok (.ldc2_w 271, 3) := by decide +kernel
theorem dX10_digest_240 : decode cX10_digest 240 = .ok (.lmul, 1) := by decide +kernel
theorem dX10_digest_241 : decode cX10_digest 241 = .ok (.aload_n 0, 1) := by decide +kernel
theorem dX10_digest_242 : decode cX10_digest 242 = .ok (.getfield 28, 3) := by decide +kernel
theorem dX10_digest_245 : decode cX10_digest 245 = .ok (.getfield 205, 3) := by decide +kernel
theorem dX10_digest_248 : decode cX10_digest 248 = .ok (.getfield 183, 3) := by decide +kernel
theorem dX10_digest_251 : decode cX10_digest 251 = .ok (.iload_n 3, 1) := by decide +kernel
theorem dX10_digest_252 : decode cX10_digest 252 = .ok (.iaload, 1) := by decide +kernel
theorem dX10_digest_253 : decode cX10_digest 253 = .ok (.i2l, 1) := by decide +kernel
theorem dX10_digest_254 : decode cX10_digest 254 = .ok (.ladd, 1) := by decide +kernel
theorem dX10_digest_255 : decode cX10_digest 255 = .ok (.lstore_n 1, 1) := by decide +kernel
theorem dX10_digest_256 : decode cX10_digest 256 = .ok (.lload_n 1, 1) := by decide +kernel
theorem dX10_digest_257 : decode cX10_digest 257 = .ok (.ldc2_w 271, 3) := by decide +kernel
theorem dX10_digest_260 : decode cX10_digest 260 = .ok (.lmul, 1) := by decide +kernel
theorem dX10_digest_261 : decode cX10_digest 261 = .ok (.aload_n 0, 1) := by decide +kernel
theorem dX10_digest_262 : decode cX10_digest 262 = .ok (.getfield 28, 3) := by decide +kernel
theorem dX10_digest_265 : decode cX10_digest 265 = .ok (.iload_n 3, 1) := by decide +kernel
theorem dX10_digest_266 : decode cX10_digest 266 = .ok (.invokevirtual 226, 3) := by decide +kernel
theorem dX10_digest_269 : decode cX10_digest 269 = .ok (.i2l, 1) := by decide +kernel
theorem dX10_digest_270 : decode cX10_digest 270 = .ok (.ladd, 1) := by decide +kernel
theorem dX10_digest_271 : decode cX10_digest 271 = .ok (.lstore_n 1, 1) := by decide +kernel
theorem dX10_digest_272 : decode cX10_digest 272 = .ok (.lload_n 1, 1) := by decide +kernel
theorem dX10_digest_273 : decode cX10_digest 273 = .ok (.ldc2_w 271, 3) := by decide +kernel
theorem dX10_digest_276 : decode cX10_digest 276 = .ok (.lmul, 1) := by decide +kernel
theorem dX10_digest_277 : decode cX10_digest 277 = .ok (.aload_n 0, 1) := by decide +kernel
theorem dX10_digest_278 : decode cX10_digest 278 = .ok (.getfield 28, 3) := by decide +kernel
theorem dX10_digest_281 : decode cX10_digest 281 = .ok (.iload_n 3, 1) := by decide +kernel
theorem dX10_digest_282 : decode cX10_digest 282 = .ok (.invokevirtual 229, 3) := by decide +kernel
theorem dX10_digest_285 : decode cX10_digest 285 = .ok (.i2l, 1) := by decide +kernel
theorem dX10_digest_286 : decode cX10_digest 286 = .ok (.ladd, 1) := by decide +kernel
theorem dX10_digest_287 : decode cX10_digest 287 = .ok (.lstore_n 1, 1) := by decide +kernel
theorem dX10_digest_288 : decode cX10_digest 288 = .ok (.lload_n 1, 1) := by decide +kernel
theorem dX10_digest_289 : decode cX10_digest 289 = .ok (.ldc2_w 271, 3) := by decide +kernel
theorem dX10_digest_292 : decode cX10_digest 292 = .ok (.lmul, 1) := by decide +kernel
theorem dX10_digest_293 : decode cX10_digest 293 = .ok (.aload_n 0, 1) := by decide +kernel
theorem dX10_digest_294 : decode cX10_digest 294 = .ok (.getfield 48, 3) := by decide +kernel
theorem dX10_digest_297 : decode cX10_digest 297 = .ok (.iload_n 3, 1) := by decide +kernel
theorem dX10_digest_298 : decode cX10_digest 298 = .ok (.aload_n 0, 1) := by decide +kernel
theorem dX10_digest_299 : decode cX10_digest 299 = .ok (.getfield 28, 3) := by decide +kernel
theorem dX10_digest_302 : decode cX10_digest 302 = .ok (.invokevirtual 240, 3) := by decide +kernel
theorem dX10_digest_305 : decode cX10_digest 305 = .ok (.i2l, 1) := by decide +kernel
theorem dX10_digest_306 : decode cX10_digest 306 = .ok (.ladd, 1) := by decide +kernel
theorem dX10_digest_307 : decode cX10_digest 307 = .ok (.lstore_n 1, 1) := by decide +kernel
theorem dX10_digest_308 : decode cX10_digest 308 = .ok (.iinc 3 1, 3) := by decide +kernel
theorem dX10_digest_311 : decode cX10_digest 311 = .ok (.goto (-203), 3) := by decide +kernel
theorem dX10_digest_314 : decode cX10_digest 314 = .ok (.iconst 0, 1) := by decide +kernel
theorem dX10_digest_315 : decode cX10_digest 315 = .ok (.istore_n 3, 1) := by decide +kernel
theorem dX10_digest_316 : decode cX10_digest 316 = .ok (.iload_n 3, 1) := by decide +kernel
theorem dX10_digest_317 : decode cX10_digest 317 = .ok (.iconst 4, 1) := by decide +kernel
theorem dX10_digest_318 : decode cX10_digest 318 = .ok (.if_icmp .ge 88, 3) := by decide +kernel
theorem dX10_digest_321 : decode cX10_digest 321 = .ok (.aload_n 0, 1) := by decide +kernel
theorem dX10_digest_322 : decode cX10_digest 322 = .ok (.getfield 10, 3) := by decide +kernel
theorem dX10_digest_325 : decode cX10_digest 325 = .ok (.getfield 95, 3) := by decide +kernel
theorem dX10_digest_328 : decode cX10_digest 328 = .ok (.iload_n 3, 1) := by decide +kernel
theorem dX10_digest_329 : decode cX10_digest 329 = .ok (.aaload, 1) := by decide +kernel
theorem dX10_digest_330 : decode cX10_digest 330 = .ok (.getfield 99, 3) := by decide +kernel
theorem dX10_digest_333 : decode cX10_digest 333 = .ok (.istore 4, 2) := by decide +kernel
theorem dX10_digest_335 : decode cX10_digest 335 = .ok (.lload_n 1, 1) := by decide +kernel
theorem dX10_digest_336 : decode cX10_digest 336 = .ok (.ldc2_w 271, 3) := by decide +kernel
theorem dX10_digest_339 : decode cX10_digest 339 = .ok (.lmul, 1) := by decide +kernel
theorem dX10_digest_340 : decode cX10_digest 340 = .ok (.aload_n 0, 1) := by decide +kernel
theorem dX10_digest_341 : decode cX10_digest 341 = .ok (.getfield 35, 3) := by decide +kernel
theorem dX10_digest_344 : decode cX10_digest 344 = .ok (.iload_n 3, 1) := by decide +kernel
theorem dX10_digest_345 : decode cX10_digest 345 = .ok (.iload 4, 2) := by decide +kernel
theorem dX10_digest_347 : decode cX10_digest 347 = .ok (.invokevirtual 202, 3) := by decide +kernel
theorem dX10_digest_350 : decode cX10_digest 350 = .ok (.i2l, 1) := by decide +kernel
theorem dX10_digest_351 : decode cX10_digest 351 = .ok (.ladd, 1) := by decide +kernel
theorem dX10_digest_352 : decode cX10_digest 352 = .ok (.lstore_n 1, 1) := by decide +kernel
theorem dX10_digest_353 : decode cX10_digest 353 = .ok (.lload_n 1, 1) := by decide +kernel
theorem dX10_digest_354 : decode cX10_digest 354 = .ok (.ldc2_w 271, 3) := by decide +kernel
theorem dX10_digest_357 : decode cX10_digest 357 = .ok (.lmul, 1) := by decide +kernel
theorem dX10_digest_358 : decode cX10_digest 358 = .ok (.aload_n 0, 1) := by decide +kernel
theorem dX10_digest_359 : decode cX10_digest 359 = .ok (.getfield 28, 3) := by decide +kernel
theorem dX10_digest_362 : decode cX10_digest 362 = .ok (.getfield 219, 3) := by decide +kernel
theorem dX10_digest_365 : decode cX10_digest 365 = .ok (.iload_n 3, 1) := by decide +kernel
theorem dX10_digest_366 : decode cX10_digest 366 = .ok (.invokevirtual 222, 3) := by decide +kernel
theorem dX10_digest_369 : decode cX10_digest 369 = .ok (.i2l, 1) := by decide +kernel
theorem dX10_digest_370 : decode cX10_digest 370 = .ok (.ladd, 1) := by decide +kernel
theorem dX10_digest_371 : decode cX10_digest 371 = .ok (.lstore_n 1, 1) := by decide +kernel
theorem dX10_digest_372 : decode cX10_digest 372 = .ok (.lload_n 1, 1) := by decide +kernel
theorem dX10_digest_373 : decode cX10_digest 373 = .ok (.ldc2_w 271, 3) := by decide +kernel
theorem dX10_digest_376 : decode cX10_digest 376 = .ok (.lmul, 1) := by decide +kernel
theorem dX10_digest_377 : decode cX10_digest 377 = .ok (.aload_n 0, 1) := by decide +kernel
theorem dX10_digest_378 : decode cX10_digest 378 = .ok (.getfield 28, 3) := by decide +kernel
theorem dX10_digest_381 : decode cX10_digest 381 = .ok (.getfield 219, 3) := by decide +kernel
theorem dX10_digest_384 : decode cX10_digest 384 = .ok (.iload_n 3, 1) := by decide +kernel
theorem dX10_digest_385 : decode cX10_digest 385 = .ok (.iload 4, 2) := by decide +kernel
theorem dX10_digest_387 : decode cX10_digest 387 = .ok (.aload_n 0, 1) := by decide +kernel
theorem dX10_digest_388 : decode cX10_digest 388 = .ok (.getfield 28, 3) := by decide +kernel
theorem dX10_digest_391 : decode cX10_digest 391 = .ok (.getfield 208, 3) := by decide +kernel
theorem dX10_digest_394 : decode cX10_digest 394 = .ok (.invokevirtual 232, 3) := by decide +kernel
theorem dX10_digest_397 : decode cX10_digest 397 = .ok (.i2l, 1) := by decide +kernel
theorem dX10_digest_398 : decode cX10_digest 398 = .ok (.ladd, 1) := by decide +kernel
theorem dX10_digest_399 : decode cX10_digest 399 = .ok (.lstore_n 1, 1) := by decide +kernel
theorem dX10_digest_400 : decode cX10_digest 400 = .ok (.iinc 3 1, 3) := by decide +kernel
theorem dX10_digest_403 : decode cX10_digest 403 = .ok (.goto (-87), 3) := by decide +kernel
theorem dX10_digest_406 : decode cX10_digest 406 = .ok (.iconst 0, 1) := by decide +kernel
theorem dX10_digest_407 : decode cX10_digest 407 = .ok (.istore_n 3, 1) := by decide +kernel
theorem dX10_digest_408 : decode cX10_digest 408 = .ok (.iload_n 3, 1) := by decide +kernel
theorem dX10_digest_409 : decode cX10_digest 409 = .ok (.aload_n 0, 1) := by decide +kernel
theorem dX10_digest_410 : decode cX10_digest 410 = .ok (.getfield 28, 3) := by decide +kernel
theorem dX10_digest_413 : decode cX10_digest 413 = .ok (.getfield 209, 3) := by decide +kernel
theorem dX10_digest_416 : decode cX10_digest 416 = .ok (.if_icmp .ge 26, 3) := by decide +kernel
theorem dX10_digest_419 : decode cX10_digest 419 = .ok (.lload_n 1, 1) := by decide +kernel
theorem dX10_digest_420 : decode cX10_digest 420 = .ok (.ldc2_w 271, 3) := by decide +kernel
theorem dX10_digest_423 : decode cX10_digest 423 = .ok (.lmul, 1) := by decide +kernel
theorem dX10_digest_424 : decode cX10_digest 424 = .ok (.aload_n 0, 1) := by decide +kernel
theorem dX10_digest_425 : decode cX10_digest 425 = .ok (.getfield 28, 3) := by decide +kernel
theorem dX10_digest_428 : decode cX10_digest 428 = .ok (.getfield 216, 3) := by decide +kernel
theorem dX10_digest_431 : decode cX10_digest 431 = .ok (.iload_n 3, 1) := by decide +kernel
theorem dX10_digest_432 : decode cX10_digest 432 = .ok (.iaload, 1) := by decide +kernel
theorem dX10_digest_433 : decode cX10_digest 433 = .ok (.i2l, 1) := by decide +kernel
theorem dX10_digest_434 : decode cX10_digest 434 = .ok (.ladd, 1) := by decide +kernel
theorem dX10_digest_435 : decode cX10_digest 435 = .ok (.lstore_n 1, 1) := by decide +kernel
theorem dX10_digest_436 : decode cX10_digest 436 = .ok (.iinc 3 1, 3) := by decide +kernel
theorem dX10_digest_439 : decode cX10_digest 439 = .ok (.goto (-31), 3) := by decide +kernel
theorem dX10_digest_442 : decode cX10_digest 442 = .ok (.lload_n 1, 1) := by decide +kernel
theorem dX10_digest_443 : decode cX10_digest 443 = .ok (.ldc2_w 271, 3) := by decide +kernel
theorem dX10_digest_446 : decode cX10_digest 446 = .ok (.lmul, 1) := by decide +kernel
theorem dX10_digest_447 : decode cX10_digest 447 = .ok (.aload_n 0, 1) := by decide +kernel
theorem dX10_digest_448 : decode cX10_digest 448 = .ok (.getfield 48, 3) := by decide +kernel
theorem dX10_digest_451 : decode cX10_digest 451 = .ok (.invokevirtual 247, 3) := by decide +kernel
theorem dX10_digest_454 : decode cX10_digest 454 = .ok (.i2l, 1) := by decide +kernel
theorem dX10_digest_455 : decode cX10_digest 455 = .ok (.ladd, 1) := by decide +kernel
theorem dX10_digest_456 : decode cX10_digest 456 = .ok (.lstore_n 1, 1) := by decide +kernel
theorem dX10_digest_457 : decode cX10_digest 457 = .ok (.lload_n 1, 1) := by decide +kernel
theorem dX10_digest_458 : decode cX10_digest 458 = .ok (.ldc2_w 271, 3) := by decide +kernel
theorem dX10_digest_461 : decode cX10_digest 461 = .ok (.lmul, 1) := by decide +kernel
theorem dX10_digest_462 : decode cX10_digest 462 = .ok (.aload_n 0, 1) := by decide +kernel
theorem dX10_digest_463 : decode cX10_digest 463 = .ok (.invokevirtual 273, 3) := by decide +kernel
theorem dX10_digest_466 : decode cX10_digest 466 = .ok (.i2l, 1) := by decide +kernel
theorem dX10_digest_467 : decode cX10_digest 467 = .ok (.ladd, 1) := by decide +kernel
theorem dX10_digest_468 : decode cX10_digest 468 = .ok (.lstore_n 1, 1) := by decide +kernel
theorem dX10_digest_469 : decode cX10_digest 469 = .ok (.lload_n 1, 1) := by decide +kernel
theorem dX10_digest_470 : decode cX10_digest 470 = .ok (.ldc2_w 271, 3) := by decide +kernel
theorem dX10_digest_473 : decode cX10_digest 473 = .ok (.lmul, 1) := by decide +kernel
theorem dX10_digest_474 : decode cX10_digest 474 = .ok (.aload_n 0, 1) := by decide +kernel
theorem dX10_digest_475 : decode cX10_digest 475 = .ok (.getfield 48, 3) := by decide +kernel
theorem dX10_digest_478 : decode cX10_digest 478 = .ok (.aload_n 0, 1) := by decide +kernel
theorem dX10_digest_479 : decode cX10_digest 479 = .ok (.getfield 28, 3) := by decide +kernel
theorem dX10_digest_482 : decode cX10_digest 482 = .ok (.getfield 208, 3) := by decide +kernel
theorem dX10_digest_485 : decode cX10_digest 485 = .ok (.invokevirtual 244, 3) := by decide +kernel
theorem dX10_digest_488 : decode cX10_digest 488 = .ok (.i2l, 1) := by decide +kernel
theorem dX10_digest_489 : decode cX10_digest 489 = .ok (.ladd, 1) := by decide +kernel
theorem dX10_digest_490 : decode cX10_digest 490 = .ok (.lstore_n 1, 1) := by decide +kernel
theorem dX10_digest_491 : decode cX10_digest 491 = .ok (.lload_n 1, 1) := by decide +kernel
theorem dX10_digest_492 : decode cX10_digest 492 = .ok (.lreturn, 1) := by decide +kernel
theorem dX10_isWithin_0 : decode cX10_isWithin 0 = .ok (.iload_n 0, 1) := by decide +kernel
theorem dX10_isWithin_1 : decode cX10_isWithin 1 = .ok (.ifCond .lt 12, 3) := by decide +kernel
theorem dX10_isWithin_4 : decode cX10_isWithin 4 = .ok (.iload_n 0, 1) := by decide +kernel
theorem dX10_isWithin_5 : decode cX10_isWithin 5 = .ok (.iload_n 1, 1) := by decide +kernel
theorem dX10_isWithin_6 : decode cX10_isWithin 6 = .ok (.if_icmp .gt 7, 3) := by decide +kernel
theorem dX10_isWithin_9 : decode cX10_isWithin 9 = .ok (.iconst 1, 1) := by decide +kernel
theorem dX10_isWithin_10 : decode cX10_isWithin 10 = .ok (.goto 4, 3) := by decide +kernel
theorem dX10_isWithin_13 : decode cX10_isWithin 13 = .ok (.iconst 0, 1) := by decide +kernel
theorem dX10_isWithin_14 : decode cX10_isWithin 14 = .ok (.ireturn, 1) := by decide +kernel
theorem dX10_checkIndex_0 : decode cX10_checkIndex 0 = .ok (.iload_n 0, 1) := by decide +kernel
theorem dX10_checkIndex_1 : decode cX10_checkIndex 1 = .ok (.ifCond .lt 8, 3) := by decide +kernel
theorem dX10_checkIndex_4 : decode cX10_checkIndex 4 = .ok (.iload_n 0, 1) := by decide +kernel
theorem dX10_checkIndex_5 : decode cX10_checkIndex 5 = .ok (.iload_n 1, 1) := by decide +kernel
theorem dX10_checkIndex_6 : decode cX10_checkIndex 6 = .ok (.if_icmp .lt 14, 3) := by decide +kernel
theorem dX10_checkIndex_9 : decode cX10_checkIndex 9 = .ok (.new 276, 3) := by decide +kernel
theorem dX10_checkIndex_12 : decode cX10_checkIndex 12 = .ok (.dup, 1) := by decide +kernel
theorem dX10_checkIndex_13 : decode cX10_checkIndex 13 = .ok (.ldc_w 278, 3) := by decide +kernel
theorem dX10_checkIndex_16 : decode cX10_checkIndex 16 = .ok (.invokespecial 280, 3) := by decide +kernel
theorem dX10_checkIndex_19 : decode cX10_checkIndex 19 = .ok (.athrow, 1) := by decide +kernel
theorem dX10_checkIndex_20 : decode cX10_checkIndex 20 = .ok (.return_, 1) := by decide +kernel
theorem dX10_checkArgument_0 : decode cX10_checkArgument 0 = .ok (.iload_n 0, 1) := by decide +kernel
theorem dX10_checkArgument_1 : decode cX10_checkArgument 1 = .ok (.ifCond .ne 14, 3) := by decide +kernel
theorem dX10_checkArgument_4 : decode cX10_checkArgument 4 = .ok (.new 283, 3) := by decide +kernel
theorem dX10_checkArgument_7 : decode cX10_checkArgument 7 = .ok (.dup, 1) := by decide +kernel
theorem dX10_checkArgument_8 : decode cX10_checkArgument 8 = .ok (.ldc_w 285, 3) := by decide +kernel
theorem dX10_checkArgument_11 : decode cX10_checkArgument 11 = .ok (.invokespecial 287, 3) := by decide +kernel
theorem dX10_checkArgument_14 : decode cX10_checkArgument 14 = .ok (.athrow, 1) := by decide +kernel
theorem dX10_checkArgument_15 : decode cX10_checkArgument 15 = .ok (.return_, 1) := by decide +kernel
theorem dX10_checkState_0 : decode cX10_checkState 0 = .ok (.iload_n 0, 1) := by decide +kernel
theorem dX10_checkState_1 : decode cX10_checkState 1 = .ok (.ifCond .ne 14, 3) := by decide +kernel
theorem dX10_checkState_4 : decode cX10_checkState 4 = .ok (.new 288, 3) := by decide +kernel
theorem dX10_checkState_7 : decode cX10_checkState 7 = .ok (.dup, 1) := by decide +kernel
theorem dX10_checkState_8 : decode cX10_checkState 8 = .ok (.ldc_w 290, 3) := by decide +kernel
theorem dX10_checkState_11 : decode cX10_checkState 11 = .ok (.invokespecial 292, 3) := by decide +kernel
theorem dX10_checkState_14 : decode cX10_checkState 14 = .ok (.athrow, 1) := by decide +kernel
theorem dX10_checkState_15 : decode cX10_checkState 15 = .ok (.return_, 1) := by decide +kernel
theorem dX10_checkCalendar_0 : decode cX10_checkCalendar 0 = .ok (.iload_n 0, 1) := by decide +kernel
theorem dX10_checkCalendar_1 : decode cX10_checkCalendar 1 = .ok (.iconst 4, 1) := by decide +kernel
theorem dX10_checkCalendar_2 : decode cX10_checkCalendar 2 = .ok (.invokestatic 212, 3) := by decide +kernel
theorem dX10_checkCalendar_5 : decode cX10_checkCalendar 5 = .ok (.return_, 1) := by decide +kernel
theorem dX10_checkCrew_0 : decode cX10_checkCrew 0 = .ok (.iload_n 0, 1) := by decide +kernel
theorem dX10_checkCrew_1 : decode cX10_checkCrew 1 = .ok (.iconst 4, 1) := by decide +kernel
theorem dX10_checkCrew_2 : decode cX10_checkCrew 2 = .ok (.invokestatic 212, 3) := by decide +kernel
theorem dX10_checkCrew_5 : decode cX10_checkCrew 5 = .ok (.return_, 1) := by decide +kernel
theorem dX10_checkAskedDay_0 : decode cX10_checkAskedDay 0 = .ok (.iload_n 0, 1) := by decide +kernel
theorem dX10_checkAskedDay_1 : decode cX10_checkAskedDay 1 = .ok (.sipush 9999, 3) := by decide +kernel
theorem dX10_checkAskedDay_4 : decode cX10_checkAskedDay 4 = .ok (.invokestatic 74, 3) := by decide +kernel
theorem dX10_checkAskedDay_7 : decode cX10_checkAskedDay 7 = .ok (.invokestatic 60, 3) := by decide +kernel
theorem dX10_checkAskedDay_10 : decode cX10_checkAskedDay 10 = .ok (.return_, 1) := by decide +kernel
theorem dX10_checkTask_0 : decode cX10_checkTask 0 = .ok (.iload_n 1, 1) := by decide +kernel
theorem dX10_checkTask_1 : decode cX10_checkTask 1 = .ok (.aload_n 0, 1) := by decide +kernel
theorem dX10_checkTask_2 : decode cX10_checkTask 2 = .ok (.getfield 10, 3) := by decide +kernel
theorem dX10_checkTask_5 : decode cX10_checkTask 5 = .ok (.getfield 107, 3) := by decide +kernel
theorem dX10_checkTask_8 : decode cX10_checkTask 8 = .ok (.invokestatic 212, 3) := by decide +kernel
theorem dX10_checkTask_11 : decode cX10_checkTask 11 = .ok (.return_, 1) := by decide +kernel
theorem dX10_checkLink_0 : decode cX10_checkLink 0 = .ok (.iload_n 1, 1) := by decide +kernel
theorem dX10_checkLink_1 : decode cX10_checkLink 1 = .ok (.aload_n 0, 1) := by decide +kernel
theorem dX10_checkLink_2 : decode cX10_checkLink 2 = .ok (.getfield 10, 3) := by decide +kernel
theorem dX10_checkLink_5 : decode cX10_checkLink 5 = .ok (.getfield 136, 3) := by decide +kernel
theorem dX10_checkLink_8 : decode cX10_checkLink 8 = .ok (.invokestatic 212, 3) := by decide +kernel
theorem dX10_checkLink_11 : decode cX10_checkLink 11 = .ok (.return_, 1) := by decide +kernel
theorem dX10_refresh_0 : decode cX10_refresh 0 = .ok (.aload_n 0, 1) := by decide +kernel
theorem dX10_refresh_1 : decode cX10_refresh 1 = .ok (.getfield 52, 3) := by decide +kernel
theorem dX10_refresh_4 : decode cX10_refresh 4 = .ok (.ifCond .ne 4, 3) := by decide +kernel
theorem dX10_refresh_7 : decode cX10_refresh 7 = .ok (.return_, 1) := by decide +kernel
theorem dX10_refresh_8 : decode cX10_refresh 8 = .ok (.aload_n 0, 1) := by decide +kernel
theorem dX10_refresh_9 : decode cX10_refresh 9 = .ok (.getfield 21, 3) := by decide +kernel
theorem dX10_refresh_12 : decode cX10_refresh 12 = .ok (.invokevirtual 260, 3) := by decide +kernel
theorem dX10_refresh_15 : decode cX10_refresh 15 = .ok (.aload_n 0, 1) := by decide +kernel
theorem dX10_refresh_16 : decode cX10_refresh 16 = .ok (.getfield 21, 3) := by decide +kernel
theorem dX10_refresh_19 : decode cX10_refresh 19 = .ok (.invokevirtual 263, 3) := by decide +kernel
theorem dX10_refresh_22 : decode cX10_refresh 22 = .ok (.aload_n 0, 1) := by decide +kernel
theorem dX10_refresh_23 : decode cX10_refresh 23 = .ok (.getfield 35, 3) := by decide +kernel
theorem dX10_refresh_26 : decode cX10_refresh 26 = .ok (.invokevirtual 293, 3) := by decide +kernel
theorem dX10_refresh_29 : decode cX10_refresh 29 = .ok (.iconst 0, 1) := by decide +kernel
theorem dX10_refresh_30 : decode cX10_refresh 30 = .ok (.istore_n 1, 1) := by decide +kernel
theorem dX10_refresh_31 : decode cX10_refresh 31 = .ok (.iload_n 1, 1) := by decide +kernel
theorem dX10_refresh_32 : decode cX10_refresh 32 = .ok (.aload_n 0, 1) := by decide +kernel
theorem dX10_refresh_33 : decode cX10_refresh 33 = .ok (.getfield 10, 3) := by decide +kernel
theorem dX10_refresh_36 : decode cX10_refresh 36 = .ok (.getfield 107, 3) := by decide +kernel
theorem dX10_refresh_39 : decode cX10_refresh 39 = .ok (.if_icmp .ge 57, 3) := by decide +kernel
theorem dX10_refresh_42 : decode cX10_refresh 42 = .ok (.aload_n 0, 1) := by decide +kernel
theorem dX10_refresh_43 : decode cX10_refresh 43 = .ok (.getfield 35, 3) := by decide +kernel
theorem dX10_refresh_46 : decode cX10_refresh 46 = .ok (.aload_n 0, 1) := by decide +kernel
theorem dX10_refresh_47 : decode cX10_refresh 47 = .ok (.getfield 10, 3) := by decide +kernel
theorem dX10_refresh_50 : decode cX10_refresh 50 = .ok (.getfield 117, 3) := by decide +kernel
theorem dX10_refresh_53 : decode cX10_refresh 53 = .ok (.iload_n 1, 1) := by decide +kernel
theorem dX10_refresh_54 : decode cX10_refresh 54 = .ok (.aaload, 1) := by decide +kernel
theorem dX10_refresh_55 : decode cX10_refresh 55 = .ok (.aload_n 0, 1) := by decide +kernel
theorem dX10_refresh_56 : decode cX10_refresh 56 = .ok (.getfield 10, 3) := by decide +kernel
theorem dX10_refresh_59 : decode cX10_refresh 59 = .ok (.iload_n 1, 1) := by decide +kernel
theorem dX10_refresh_60 : decode cX10_refresh 60 = .ok (.invokevirtual 296, 3) := by decide +kernel
theorem dX10_refresh_63 : decode cX10_refresh 63 = .ok (.aload_n 0, 1) := by decide +kernel
theorem dX10_refresh_64 : decode cX10_refresh 64 = .ok (.getfield 21, 3) := by decide +kernel
theorem dX10_refresh_67 : decode cX10_refresh 67 = .ok (.getfield 174, 3) := by decide +kernel
theorem dX10_refresh_70 : decode cX10_refresh 70 = .ok (.getfield 178, 3) := by decide +kernel
theorem dX10_refresh_73 : decode cX10_refresh 73 = .ok (.iload_n 1, 1) := by decide +kernel
theorem dX10_refresh_74 : decode cX10_refresh 74 = .ok (.iaload, 1) := by decide +kernel
theorem dX10_refresh_75 : decode cX10_refresh 75 = .ok (.aload_n 0, 1) := by decide +kernel
theorem dX10_refresh_76 : decode cX10_refresh 76 = .ok (.getfield 21, 3) := by decide +kernel
theorem dX10_refresh_79 : decode cX10_refresh 79 = .ok (.getfield 174, 3) := by decide +kernel
theorem dX10_refresh_82 : decode cX10_refresh 82 = .ok (.getfield 183, 3) := by decide +kernel
theorem dX10_refresh_85 : decode cX10_refresh 85 = .ok (.iload_n 1, 1) := by decide +kernel
theorem dX10_refresh_86 : decode cX10_refresh 86 = .ok (.iaload, 1) := by decide +kernel
theorem dX10_refresh_87 : decode cX10_refresh 87 = .ok (.invokevirtual 300, 3) := by decide +kernel
theorem dX10_refresh_90 : decode cX10_refresh 90 = .ok (.iinc 1 1, 3) := by decide +kernel
theorem dX10_refresh_93 : decode cX10_refresh 93 = .ok (.goto (-62), 3) := by decide +kernel
theorem dX10_refresh_96 : decode cX10_refresh 96 = .ok (.aload_n 0, 1) := by decide +kernel
theorem dX10_refresh_97 : decode cX10_refresh 97 = .ok (.getfield 28, 3) := by decide +kernel
theorem dX10_refresh_100 : decode cX10_refresh 100 = .ok (.aload_n 0, 1) := by decide +kernel
theorem dX10_refresh_101 : decode cX10_refresh 101 = .ok (.getfield 21, 3) := by decide +kernel
theorem dX10_refresh_104 : decode cX10_refresh 104 = .ok (.aload_n 0, 1) := by decide +kernel
theorem dX10_refresh_105 : decode cX10_refresh 105 = .ok (.getfield 10, 3) := by decide +kernel
theorem dX10_refresh_108 : decode cX10_refresh 108 = .ok (.getfield 161, 3) := by decide +kernel
theorem dX10_refresh_111 : decode cX10_refresh 111 = .ok (.invokevirtual 256, 3) := by decide +kernel
theorem dX10_refresh_114 : decode cX10_refresh 114 = .ok (.aload_n 0, 1) := by decide +kernel
theorem dX10_refresh_115 : decode cX10_refresh 115 = .ok (.iconst 0, 1) := by decide +kernel
theorem dX10_refresh_116 : decode cX10_refresh 116 = .ok (.putfield 52, 3) := by decide +kernel
theorem dX10_refresh_119 : decode cX10_refresh 119 = .ok (.return_, 1) := by decide +kernel
end
section
theorem dL_below_0 : decode cL_below 0 = .ok (.iload_n 0, 1) := by decide +kernel
theorem dL_below_1 : decode cL_below 1 = .ok (.ldc 7, 2) := by decide +kernel
theorem dL_below_3 : decode cL_below 3 = .ok (.iand, 1) := by decide +kernel
theorem dL_below_4 : decode cL_below 4 = .ok (.iload_n 1, 1) := by decide +kernel
theorem dL_below_5 : decode cL_below 5 = .ok (.irem, 1) := by decide +kernel
theorem dL_below_6 : decode cL_below 6 = .ok (.ireturn, 1) := by decide +kernel
theorem dL_cell_0 : decode cL_cell 0 = .ok (.iload_n 1, 1) := by decide +kernel
theorem dL_cell_1 : decode cL_cell 1 = .ok (.aload_n 0, 1) := by decide +kernel
theorem dL_cell_2 : decode cL_cell 2 = .ok (.arraylength, 1) := by decide +kernel
theorem dL_cell_3 : decode cL_cell 3 = .ok (.if_icmp .ge 9, 3) := by decide +kernel
theorem dL_cell_6 : decode cL_cell 6 = .ok (.aload_n 0, 1) := by decide +kernel
theorem dL_cell_7 : decode cL_cell 7 = .ok (.iload_n 1, 1) := by decide +kernel
theorem dL_cell_8 : decode cL_cell 8 = .ok (.iaload, 1) := by decide +kernel
theorem dL_cell_9 : decode cL_cell 9 = .ok (.goto 9, 3) := by decide +kernel
theorem dL_cell_12 : decode cL_cell 12 = .ok (.ldc 8, 2) := by decide +kernel
theorem dL_cell_14 : decode cL_cell 14 = .ok (.iload_n 1, 1) := by decide +kernel
theorem dL_cell_15 : decode cL_cell 15 = .ok (.iconst 3, 1) := by decide +kernel
theorem dL_cell_16 : decode cL_cell 16 = .ok (.iadd, 1) := by decide +kernel
theorem dL_cell_17 : decode cL_cell 17 = .ok (.imul, 1) := by decide +kernel
theorem dL_cell_18 : decode cL_cell 18 = .ok (.ireturn, 1) := by decide +kernel
theorem dL_law_0 : decode cL_law 0 = .ok (.new 9, 3) := by decide +kernel
theorem dL_law_3 : decode cL_law 3 = .ok (.dup, 1) := by decide +kernel
theorem dL_law_4 : decode cL_law 4 = .ok (.invokespecial 11, 3) := by decide +kernel
theorem dL_law_7 : decode cL_law 7 = .ok (.astore_n 1, 1) := by decide +kernel
theorem dL_law_8 : decode cL_law 8 = .ok (.bipush 40, 2) := by decide +kernel
theorem dL_law_10 : decode cL_law 10 = .ok (.iconst 4, 1) := by decide +kernel
theorem dL_law_11 : decode cL_law 11 = .ok (.multianewarray 12 2, 4) := by decide +kernel
theorem dL_law_15 : decode cL_law 15 = .ok (.astore_n 2, 1) := by decide +kernel
theorem dL_law_16 : decode cL_law 16 = .ok (.iconst 3, 1) := by decide +kernel
theorem dL_law_17 : decode cL_law 17 = .ok (.newarray .int, 2) := by decide +kernel
theorem dL_law_19 : decode cL_law 19 = .ok (.dup, 1) := by decide +kernel
theorem dL_law_20 : decode cL_law 20 = .ok (.iconst 0, 1) := by decide +kernel
theorem dL_law_21 : decode cL_law 21 = .ok (.bipush 9, 2) := by decide +kernel
theorem dL_law_23 : decode cL_law 23 = .ok (.iastore, 1) := by decide +kernel
theorem dL_law_24 : decode cL_law 24 = .ok (.dup, 1) := by decide +kernel
theorem dL_law_25 : decode cL_law 25 = .ok (.iconst 1, 1) := by decide +kernel
theorem dL_law_26 : decode cL_law 26 = .ok (.bipush 9, 2) := by decide +kernel
theorem dL_law_28 : decode cL_law 28 = .ok (.iastore, 1) := by decide +kernel
theorem dL_law_29 : decode cL_law 29 = .ok (.dup, 1) := by decide +kernel
theorem dL_law_30 : decode cL_law 30 = .ok (.iconst 2, 1) := by decide +kernel
theorem dL_law_31 : decode cL_law 31 = .ok (.bipush 9, 2) := by decide +kernel
theorem dL_law_33 : decode cL_law 33 = .ok (.iastore, 1) := by decide +kernel
theorem dL_law_34 : decode cL_law 34 = .ok (.astore_n 3, 1) := by decide +kernel
theorem dL_law_35 : decode cL_law 35 = .ok (.bipush 24, 2) := by decide +kernel
theorem dL_law_37 : decode cL_law 37 = .ok (.newarray .int, 2) := by decide +kernel
theorem dL_law_39 : decode cL_law 39 = .ok (.astore 4, 2) := by decide +kernel
theorem dL_law_41 : decode cL_law 41 = .ok (.iconst 0, 1) := by decide +kernel
theorem dL_law_42 : decode cL_law 42 = .ok (.istore 5, 2) := by decide +kernel
theorem dL_law_44 : decode cL_law 44 = .ok (.iload 5, 2) := by decide +kernel
theorem dL_law_46 : decode cL_law 46 = .ok (.bipush 42, 2) := by decide +kernel
theorem dL_law_48 : decode cL_law 48 = .ok (.if_icmp .ge 96, 3) := by decide +kernel
theorem dL_law_51 : decode cL_law 51 = .ok (.aload_n 1, 1) := by decide +kernel
theorem dL_law_52 : decode cL_law 52 = .ok (.aload_n 0, 1) := by decide +kernel
theorem dL_law_53 : decode cL_law 53 = .ok (.iload 5, 2) := by decide +kernel
theorem dL_law_55 : decode cL_law 55 = .ok (.bipush 36, 2) := by decide +kernel
theorem dL_law_57 : decode cL_law 57 = .ok (.irem, 1) := by decide +kernel
theorem dL_law_58 : decode cL_law 58 = .ok (.invokestatic 14, 3) := by decide +kernel
theorem dL_law_61 : decode cL_law 61 = .ok (.iload 5, 2) := by decide +kernel
theorem dL_law_63 : decode cL_law 63 = .ok (.bipush 36, 2) := by decide +kernel
theorem dL_law_65 : decode cL_law 65 = .ok (.idiv, 1) := by decide +kernel
theorem dL_law_66 : decode cL_law 66 = .ok (.bipush 11, 2) := by decide +kernel
theorem dL_law_68 : decode cL_law 68 = .ok (.imul, 1) := by decide +kernel
theorem dL_law_69 : decode cL_law 69 = .ok (.ishr, 1) := by decide +kernel
theorem dL_law_70 : decode cL_law 70 = .ok (.aload_n 2, 1) := by decide +kernel
theorem dL_law_71 : decode cL_law 71 = .ok (.aload_n 3, 1) := by decide +kernel
theorem dL_law_72 : decode cL_law 72 = .ok (.aload 4, 2) := by decide +kernel
theorem dL_law_74 : decode cL_law 74 = .ok (.invokestatic 20, 3) := by decide +kernel
theorem dL_law_77 : decode cL_law 77 = .ok (.ifCond .ne 5, 3) := by decide +kernel
theorem dL_law_80 : decode cL_law 80 = .ok (.iconst 0, 1) := by decide +kernel
theorem dL_law_81 : decode cL_law 81 = .ok (.ireturn, 1) := by decide +kernel
theorem dL_law_82 : decode cL_law 82 = .ok (.iload 5, 2) := by decide +kernel
theorem dL_law_84 : decode cL_law 84 = .ok (.bipush 7, 2) := by decide +kernel
theorem dL_law_86 : decode cL_law 86 = .ok (.irem, 1) := by decide +kernel
theorem dL_law_87 : decode cL_law 87 = .ok (.bipush 6, 2) := by decide +kernel
theorem dL_law_89 : decode cL_law 89 = .ok (.if_icmp .eq 6, 3) := by decide +kernel
theorem dL_law_92 : decode cL_law 92 = .ok (.goto 46, 3) := by decide +kernel
theorem dL_law_95 : decode cL_law 95 = .ok (.aload_n 1, 1) := by decide +kernel
theorem dL_law_96 : decode cL_law 96 = .ok (.invokevirtual 24, 3) := by decide +kernel
theorem dL_law_99 : decode cL_law 99 = .ok (.lstore 6, 2) := by decide +kernel
theorem dL_law_101 : decode cL_law 101 = .ok (.aload_n 1, 1) := by decide +kernel
theorem dL_law_102 : decode cL_law 102 = .ok (.aload 4, 2) := by decide +kernel
theorem dL_law_104 : decode cL_law 104 = .ok (.invokestatic 28, 3) := by decide +kernel
theorem dL_law_107 : decode cL_law 107 = .ok (.ifCond .eq 29, 3) := by decide +kernel
theorem dL_law_110 : decode cL_law 110 = .ok (.aload_n 1, 1) := by decide +kernel
theorem dL_law_111 : decode cL_law 111 = .ok (.aload_n 2, 1) := by decide +kernel
theorem dL_law_112 : decode cL_law 112 = .ok (.invokestatic 32, 3) := by decide +kernel
theorem dL_law_115 : decode cL_law 115 = .ok (.ifCond .eq 21, 3) := by decide +kernel
theorem dL_law_118 : decode cL_law 118 = .ok (.aload_n 1, 1) := by decide +kernel
theorem dL_law_119 : decode cL_law 119 = .ok (.aload_n 3, 1) := by decide +kernel
theorem dL_law_120 : decode cL_law 120 = .ok (.invokestatic 36, 3) := by decide +kernel
theorem dL_law_123 : decode cL_law 123 = .ok (.ifCond .eq 13, 3) := by decide +kernel
theorem dL_law_126 : decode cL_law 126 = .ok (.aload_n 1, 1) := by decide +kernel
theorem dL_law_127 : decode cL_law 127 = .ok (.invokevirtual 24, 3) := by decide +kernel
theorem dL_law_130 : decode cL_law 130 = .ok (.lload 6, 2) := by decide +kernel
theorem dL_law_132 : decode cL_law 132 = .ok (.lcmp, 1) := by decide +kernel
theorem dL_law_133 : decode cL_law 133 = .ok (.ifCond .eq 5, 3) := by decide +kernel
theorem dL_law_136 : decode cL_law 136 = .ok (.iconst 0, 1) := by decide +kernel
theorem dL_law_137 : decode cL_law 137 = .ok (.ireturn, 1) := by decide +kernel
theorem dL_law_138 : decode cL_law 138 = .ok (.iinc 5 1, 3) := by decide +kernel
theorem dL_law_141 : decode cL_law 141 = .ok (.goto (-97), 3) := by decide +kernel
theorem dL_law_144 : decode cL_law 144 = .ok (.iconst 1, 1) := by decide +kernel
theorem dL_law_145 : decode cL_law 145 = .ok (.ireturn, 1) := by decide +kernel
theorem dL_act_0 : decode cL_act 0 = .ok (.aload_n 0, 1) := by decide +kernel
theorem dL_act_1 : decode cL_act 1 = .ok (.invokevirtual 39, 3) := by decide +kernel
theorem dL_act_4 : decode cL_act 4 = .ok (.istore 5, 2) := by decide +kernel
theorem dL_act_6 : decode cL_act 6 = .ok (.iload_n 1, 1) := by decide +kernel
theorem dL_act_7 : decode cL_act 7 = .ok (.iconst 4, 1) := by decide +kernel
theorem dL_act_8 : decode cL_act 8 = .ok (.ishr, 1) := by decide +kernel
theorem dL_act_9 : decode cL_act 9 = .ok (.iconst 1, 1) := by decide +kernel
theorem dL_act_10 : decode cL_act 10 = .ok (.iload 5, 2) := by decide +kernel
theorem dL_act_12 : decode cL_act 12 = .ok (.invokestatic 43, 3) := by decide +kernel
theorem dL_act_15 : decode cL_act 15 = .ok (.invokestatic 49, 3) := by decide +kernel
theorem dL_act_18 : decode cL_act 18 = .ok (.istore 6, 2) := by decide +kernel
theorem dL_act_20 : decode cL_act 20 = .ok (.iload_n 1, 1) := by decide +kernel
theorem dL_act_21 : decode cL_act 21 = .ok (.bipush 13, 2) := by decide +kernel
theorem dL_act_23 : decode cL_act 23 = .ok (.invokestatic 49, 3) := by decide +kernel
theorem dL_act_26 : decode cL_act 26 = .ok (.tableswitch 540 0 11 #[62, 62, 62, 102, 102, 102, 201, 256, 319, 372, 431, 502], 62) := by decide +kernel
theorem dL_act_88 : decode cL_act 88 = .ok (.iload 5, 2) := by decide +kernel
theorem dL_act_90 : decode cL_act 90 = .ok (.bipush 8, 2) := by decide +kernel
theorem dL_act_92 : decode cL_act 92 = .ok (.if_icmp .le 6, 3) := by decide +kernel
theorem dL_act_95 : decode cL_act 95 = .ok (.goto 524, 3) := by decide +kernel
theorem dL_act_98 : decode cL_act 98 = .ok (.aload_n 0, 1) := by decide +kernel
theorem dL_act_99 : decode cL_act 99 = .ok (.iload_n 1, 1) := by decide +kernel
theorem dL_act_100 : decode cL_act 100 = .ok (.iconst 4, 1) := by decide +kernel
theorem dL_act_101 : decode cL_act 101 = .ok (.ishr, 1) := by decide +kernel
theorem dL_act_102 : decode cL_act 102 = .ok (.iconst 5, 1) := by decide +kernel
theorem dL_act_103 : decode cL_act 103 = .ok (.invokestatic 49, 3) := by decide +kernel
theorem dL_act_106 : decode cL_act 106 = .ok (.iload_n 1, 1) := by decide +kernel
theorem dL_act_107 : decode cL_act 107 = .ok (.bipush 7, 2) := by decide +kernel
theorem dL_act_109 : decode cL_act 109 = .ok (.ishr, 1) := by decide +kernel
theorem dL_act_110 : decode cL_act 110 = .ok (.iconst 2, 1) := by decide +kernel
theorem dL_act_111 : decode cL_act 111 = .ok (.invokestatic 49, 3) := by decide +kernel
theorem dL_act_114 : decode cL_act 114 = .ok (.invokevirtual 52, 3) := by decide +kernel
theorem dL_act_117 : decode cL_act 117 = .ok (.iload 5, 2) := by decide +kernel
theorem dL_act_119 : decode cL_act 119 = .ok (.if_icmp .ne 7, 3) := by decide +kernel
theorem dL_act_122 : decode cL_act 122 = .ok (.iconst 1, 1) := by decide +kernel
theorem dL_act_123 : decode cL_act 123 = .ok (.goto 4, 3) := by decide +kernel
theorem dL_act_126 : decode cL_act 126 = .ok (.iconst 0, 1) := by decide +kernel
theorem dL_act_127 : decode cL_act 127 = .ok (.ireturn, 1) := by decide +kernel
theorem dL_act_128 : decode cL_act 128 = .ok (.iload_n 1, 1) := by decide +kernel
theorem dL_act_129 : decode cL_act 129 = .ok (.bipush 7, 2) := by decide +kernel
theorem dL_act_131 : decode cL_act 131 = .ok (.ishr, 1) := by decide +kernel
theorem dL_act_132 : decode cL_act 132 = .ok (.iconst 1, 1) := by decide +kernel
theorem dL_act_133 : decode cL_act 133 = .ok (.iload 5, 2) := by decide +kernel
theorem dL_act_135 : decode cL_act 135 = .ok (.invokestatic 43, 3) := by decide +kernel
theorem dL_act_138 : decode cL_act 138 = .ok (.invokestatic 49, 3) := by decide +kernel
theorem dL_act_141 : decode cL_act 141 = .ok (.istore 7, 2) := by decide +kernel
theorem dL_act_143 : decode cL_act 143 = .ok (.aload_n 0, 1) := by decide +kernel
theorem dL_act_144 : decode cL_act 144 = .ok (.iload 6, 2) := by decide +kernel
theorem dL_act_146 : decode cL_act 146 = .ok (.iload 7, 2) := by decide +kernel
theorem dL_act_148 : decode cL_act 148 = .ok (.iload_n 1, 1) := by decide +kernel
theorem dL_act_149 : decode cL_act 149 = .ok (.iconst 3, 1) := by decide +kernel
theorem dL_act_150 : decode cL_act 150 = .ok (.ishr, 1) := by decide +kernel
theorem dL_act_151 : decode cL_act 151 = .ok (.iconst 3, 1) := by decide +kernel
theorem dL_act_152 : decode cL_act 152 = .ok (.invokestatic 49, 3) := by decide +kernel
theorem dL_act_155 : decode cL_act 155 = .ok (.iload_n 1, 1) := by decide +kernel
theorem dL_act_156 : decode cL_act 156 = .ok (.bipush 9, 2) := by decide +kernel
theorem dL_act_158 : decode cL_act 158 = .ok (.ishr, 1) := by decide +kernel
theorem dL_act_159 : decode cL_act 159 = .ok (.iconst 4, 1) := by decide +kernel
theorem dL_act_160 : decode cL_act 160 = .ok (.invokestatic 49, 3) := by decide +kernel
theorem dL_act_163 : decode cL_act 163 = .ok (.invokevirtual 55, 3) := by decide +kernel
theorem dL_act_166 : decode cL_act 166 = .ok (.istore 8, 2) := by decide +kernel
theorem dL_act_168 : decode cL_act 168 = .ok (.iconst 4, 1) := by decide +kernel
theorem dL_act_169 : decode cL_act 169 = .ok (.newarray .int, 2) := by decide +kernel
theorem dL_act_171 : decode cL_act 171 = .ok (.dup, 1) := by decide +kernel
theorem dL_act_172 : decode cL_act 172 = .ok (.iconst 0, 1) := by decide +kernel
theorem dL_act_173 : decode cL_act 173 = .ok (.iload 6, 2) := by decide +kernel
theorem dL_act_175 : decode cL_act 175 = .ok (.iastore, 1) := by decide +kernel
theorem dL_act_176 : decode cL_act 176 = .ok (.dup, 1) := by decide +kernel
theorem dL_act_177 : decode cL_act 177 = .ok (.iconst 1, 1) := by decide +kernel
theorem dL_act_178 : decode cL_act 178 = .ok (.iload 7, 2) := by decide +kernel
theorem dL_act_180 : decode cL_act 180 = .ok (.iastore, 1) := by decide +kernel
theorem dL_act_181 : decode cL_act 181 = .ok (.dup, 1) := by decide +kernel
theorem dL_act_182 : decode cL_act 182 = .ok (.iconst 2, 1) := by decide +kernel
theorem dL_act_183 : decode cL_act 183 = .ok (.iload_n 1, 1) := by decide +kernel
theorem dL_act_184 : decode cL_act 184 = .ok (.iconst 3, 1) := by decide +kernel
theorem dL_act_185 : decode cL_act 185 = .ok (.ishr, 1) := by decide +kernel
theorem dL_act_186 : decode cL_act 186 = .ok (.iconst 3, 1) := by decide +kernel
theorem dL_act_187 : decode cL_act 187 = .ok (.invokestatic 49, 3) := by decide +kernel
theorem dL_act_190 : decode cL_act 190 = .ok (.iastore, 1) := by decide +kernel
theorem dL_act_191 : decode cL_act 191 = .ok (.dup, 1) := by decide +kernel
theorem dL_act_192 : decode cL_act 192 = .ok (.iconst 3, 1) := by decide +kernel
theorem dL_act_193 : decode cL_act 193 = .ok (.iload_n 1, 1) := by decide +kernel
theorem dL_act_194 : decode cL_act 194 = .ok (.bipush 9, 2) := by decide +kernel
theorem dL_act_196 : decode cL_act 196 = .ok (.ishr, 1) := by decide +kernel
theorem dL_act_197 : decode cL_act 197 = .ok (.iconst 4, 1) := by decide +kernel
theorem dL_act_198 : decode cL_act 198 = .ok (.invokestatic 49, 3) := by decide +kernel
theorem dL_act_201 : decode cL_act 201 = .ok (.iastore, 1) := by decide +kernel
theorem dL_act_202 : decode cL_act 202 = .ok (.astore 9, 2) := by decide +kernel
theorem dL_act_204 : decode cL_act 204 = .ok (.aload_n 2, 1) := by decide +kernel
theorem dL_act_205 : decode cL_act 205 = .ok (.iload 8, 2) := by decide +kernel
theorem dL_act_207 : decode cL_act 207 = .ok (.aload 9, 2) := by decide +kernel
theorem dL_act_209 : decode cL_act 209 = .ok (.aastore, 1) := by decide +kernel
theorem dL_act_210 : decode cL_act 210 = .ok (.iload 8, 2) := by decide +kernel
theorem dL_act_212 : decode cL_act 212 = .ok (.aload_n 0, 1) := by decide +kernel
theorem dL_act_213 : decode cL_act 213 = .ok (.invokevirtual 59, 3) := by decide +kernel
theorem dL_act_216 : decode cL_act 216 = .ok (.iconst 1, 1) := by decide +kernel
theorem dL_act_217 : decode cL_act 217 = .ok (.isub, 1) := by decide +kernel
theorem dL_act_218 : decode cL_act 218 = .ok (.if_icmp .ne 7, 3) := by decide +kernel
theorem dL_act_221 : decode cL_act 221 = .ok (.iconst 1, 1) := by decide +kernel
theorem dL_act_222 : decode cL_act 222 = .ok (.goto 4, 3) := by decide +kernel
theorem dL_act_225 : decode cL_act 225 = .ok (.iconst 0, 1) := by decide +kernel
theorem dL_act_226 : decode cL_act 226 = .ok (.ireturn, 1) := by decide +kernel
theorem dL_act_227 : decode cL_act 227 = .ok (.iload_n 1, 1) := by decide +kernel
theorem dL_act_228 : decode cL_act 228 = .ok (.iconst 4, 1) := by decide +kernel
theorem dL_act_229 : decode cL_act 229 = .ok (.ishr, 1) := by decide +kernel
theorem dL_act_230 : decode cL_act 230 = .ok (.iconst 1, 1) := by decide +kernel
theorem dL_act_231 : decode cL_act 231 = .ok (.aload_n 0, 1) := by decide +kernel
theorem dL_act_232 : decode cL_act 232 = .ok (.invokevirtual 59, 3) := by decide +kernel
theorem dL_act_235 : decode cL_act 235 = .ok (.invokestatic 43, 3) := by decide +kernel
theorem dL_act_238 : decode cL_act 238 = .ok (.invokestatic 49, 3) := by decide +kernel
theorem dL_act_241 : decode cL_act 241 = .ok (.istore 10, 2) := by decide +kernel
theorem dL_act_243 : decode cL_act 243 = .ok (.aload_n 0, 1) := by decide +kernel
theorem dL_act_244 : decode cL_act 244 = .ok (.iload 10, 2) := by decide +kernel
theorem dL_act_246 : decode cL_act 246 = .ok (.invokevirtual 62, 3) := by decide +kernel
theorem dL_act_249 : decode cL_act 249 = .ok (.pop, 1) := by decide +kernel
theorem dL_act_250 : decode cL_act 250 = .ok (.iload 10, 2) := by decide +kernel
theorem dL_act_252 : decode cL_act 252 = .ok (.istore 11, 2) := by decide +kernel
theorem dL_act_254 : decode cL_act 254 = .ok (.iload 11, 2) := by decide +kernel
theorem dL_act_256 : decode cL_act 256 = .ok (.aload_n 0, 1) := by decide +kernel
theorem dL_act_257 : decode cL_act 257 = .ok (.invokevirtual 59, 3) := by decide +kernel
theorem dL_act_260 : decode cL_act 260 = .ok (.if_icmp .ge 19, 3) := by decide +kernel
theorem dL_act_263 : decode cL_act 263 = .ok (.aload_n 2, 1) := by decide +kernel
theorem dL_act_264 : decode cL_act 264 = .ok (.iload 11, 2) := by decide +kernel
theorem dL_act_266 : decode cL_act 266 = .ok (.aload_n 2, 1) := by decide +kernel
theorem dL_act_267 : decode cL_act 267 = .ok (.iload 11, 2) := by decide +kernel
theorem dL_act_269 : decode cL_act 269 = .ok (.iconst 1, 1) := by decide +kernel
theorem dL_act_270 : decode cL_act 270 = .ok (.iadd, 1) := by decide +kernel
theorem dL_act_271 : decode cL_act 271 = .ok (.aaload, 1) := by decide +kernel
theorem dL_act_272 : decode cL_act 272 = .ok (.aastore, 1) := by decide +kernel
theorem dL_act_273 : decode cL_act 273 = .ok (.iinc 11 1, 3) := by decide +kernel
theorem dL_act_276 : decode cL_act 276 = .ok (.goto (-22), 3) := by decide +kernel
theorem dL_act_279 : decode cL_act 279 = .ok (.goto 340, 3) := by decide +kernel
theorem dL_act_282 : decode cL_act 282 = .ok (.iload_n 1, 1) := by decide +kernel
theorem dL_act_283 : decode cL_act 283 = .ok (.bipush 9, 2) := by decide +kernel
theorem dL_act_285 : decode cL_act 285 = .ok (.ishr, 1) := by decide +kernel
theorem dL_act_286 : decode cL_act 286 = .ok (.iconst 3, 1) := by decide +kernel
theorem dL_act_287 : decode cL_act 287 = .ok (.invokestatic 49, 3) := by decide +kernel
theorem dL_act_290 : decode cL_act 290 = .ok (.ifCond .ne 29, 3) := by decide +kernel
theorem dL_act_293 : decode cL_act 293 = .ok (.aload_n 0, 1) := by decide +kernel
theorem dL_act_294 : decode cL_act 294 = .ok (.iload 6, 2) := by decide +kernel
theorem dL_act_296 : decode cL_act 296 = .ok (.invokevirtual 66, 3) := by decide +kernel
theorem dL_act_299 : decode cL_act 299 = .ok (.ifCond .ne 14, 3) := by decide +kernel
theorem dL_act_302 : decode cL_act 302 = .ok (.aload_n 0, 1) := by decide +kernel
theorem dL_act_303 : decode cL_act 303 = .ok (.iload 6, 2) := by decide +kernel
theorem dL_act_305 : decode cL_act 305 = .ok (.invokevirtual 70, 3) := by decide +kernel
theorem dL_act_308 : decode cL_act 308 = .ok (.bipush (-2), 2) := by decide +kernel
theorem dL_act_310 : decode cL_act 310 = .ok (.if_icmp .le 7, 3) := by decide +kernel
theorem dL_act_313 : decode cL_act 313 = .ok (.iconst 1, 1) := by decide +kernel
theorem dL_act_314 : decode cL_act 314 = .ok (.goto 4, 3) := by decide +kernel
theorem dL_act_317 : decode cL_act 317 = .ok (.iconst 0, 1) := by decide +kernel
theorem dL_act_318 : decode cL_act 318 = .ok (.ireturn, 1) := by decide +kernel
theorem dL_act_319 : decode cL_act 319 = .ok (.aload_n 0, 1) := by decide +kernel
theorem dL_act_320 : decode cL_act 320 = .ok (.iload 6, 2) := by decide +kernel
theorem dL_act_322 : decode cL_act 322 = .ok (.iload_n 1, 1) := by decide +kernel
theorem dL_act_323 : decode cL_act 323 = .ok (.bipush 6, 2) := by decide +kernel
theorem dL_act_325 : decode cL_act 325 = .ok (.ishr, 1) := by decide +kernel
theorem dL_act_326 : decode cL_act 326 = .ok (.iconst 3, 1) := by decide +kernel
theorem dL_act_327 : decode cL_act 327 = .ok (.invokestatic 49, 3) := by decide +kernel
theorem dL_act_330 : decode cL_act 330 = .ok (.iload_n 1, 1) := by decide +kernel
theorem dL_act_331 : decode cL_act 331 = .ok (.bipush 8, 2) := by decide +kernel
theorem dL_act_333 : decode cL_act 333 = .ok (.ishr, 1) := by decide +kernel
theorem dL_act_334 : decode cL_act 334 = .ok (.iconst 4, 1) := by decide +kernel
theorem dL_act_335 : decode cL_act 335 = .ok (.invokestatic 49, 3) := by decide +kernel
theorem dL_act_338 : decode cL_act 338 = .ok (.invokevirtual 73, 3) := by decide +kernel
theorem dL_act_341 : decode cL_act 341 = .ok (.pop, 1) := by decide +kernel
theorem dL_act_342 : decode cL_act 342 = .ok (.goto 277, 3) := by decide +kernel
theorem dL_act_345 : decode cL_act 345 = .ok (.aload_n 0, 1) := by decide +kernel
theorem dL_act_346 : decode cL_act 346 = .ok (.iload 6, 2) := by decide +kernel
theorem dL_act_348 : decode cL_act 348 = .ok (.iload_n 1, 1) := by decide +kernel
theorem dL_act_349 : decode cL_act 349 = .ok (.bipush 6, 2) := by decide +kernel
theorem dL_act_351 : decode cL_act 351 = .ok (.ishr, 1) := by decide +kernel
theorem dL_act_352 : decode cL_act 352 = .ok (.bipush 10, 2) := by decide +kernel
theorem dL_act_354 : decode cL_act 354 = .ok (.invokestatic 49, 3) := by decide +kernel
theorem dL_act_357 : decode cL_act 357 = .ok (.iload_n 1, 1) := by decide +kernel
theorem dL_act_358 : decode cL_act 358 = .ok (.bipush 9, 2) := by decide +kernel
theorem dL_act_360 : decode cL_act 360 = .ok (.ishr, 1) := by decide +kernel
theorem dL_act_361 : decode cL_act 361 = .ok (.iconst 4, 1) := by decide +kernel
theorem dL_act_362 : decode cL_act 362 = .ok (.invokestatic 49, 3) := by decide +kernel
theorem dL_act_365 : decode cL_act 365 = .ok (.iconst 3, 1) := by decide +kernel
theorem dL_act_366 : decode cL_act 366 = .ok (.imul, 1) := by decide +kernel
theorem dL_act_367 : decode cL_act 367 = .ok (.invokevirtual 77, 3) := by decide +kernel
theorem dL_act_370 : decode cL_act 370 = .ok (.aload 4, 2) := by decide +kernel
theorem dL_act_372 : decode cL_act 372 = .ok (.iload 6, 2) := by decide +kernel
theorem dL_act_374 : decode cL_act 374 = .ok (.iaload, 1) := by decide +kernel
theorem dL_act_375 : decode cL_act 375 = .ok (.if_icmp .eq 5, 3) := by decide +kernel
theorem dL_act_378 : decode cL_act 378 = .ok (.iconst 0, 1) := by decide +kernel
theorem dL_act_379 : decode cL_act 379 = .ok (.ireturn, 1) := by decide +kernel
theorem dL_act_380 : decode cL_act 380 = .ok (.aload 4, 2) := by decide +kernel
theorem dL_act_382 : decode cL_act 382 = .ok (.iload 6, 2) := by decide +kernel
theorem dL_act_384 : decode cL_act 384 = .ok (.iload_n 1, 1) := by decide +kernel
theorem dL_act_385 : decode cL_act 385 = .ok (.bipush 9, 2) := by decide +kernel
theorem dL_act_387 : decode cL_act 387 = .ok (.ishr, 1) := by decide +kernel
theorem dL_act_388 : decode cL_act 388 = .ok (.iconst 4, 1) := by decide +kernel
theorem dL_act_389 : decode cL_act 389 = .ok (.invokestatic 49, 3) := by decide +kernel
theorem dL_act_392 : decode cL_act 392 = .ok (.iconst 3, 1) := by decide +kernel
theorem dL_act_393 : decode cL_act 393 = .ok (.imul, 1) := by decide +kernel
theorem dL_act_394 : decode cL_act 394 = .ok (.iastore, 1) := by decide +kernel
theorem dL_act_395 : decode cL_act 395 = .ok (.goto 224, 3) := by decide +kernel
theorem dL_act_398 : decode cL_act 398 = .ok (.iload_n 1, 1) := by decide +kernel
theorem dL_act_399 : decode cL_act 399 = .ok (.bipush 9, 2) := by decide +kernel
theorem dL_act_401 : decode cL_act 401 = .ok (.ishr, 1) := by decide +kernel
theorem dL_act_402 : decode cL_act 402 = .ok (.iconst 2, 1) := by decide +kernel
theorem dL_act_403 : decode cL_act 403 = .ok (.invokestatic 49, 3) := by decide +kernel
theorem dL_act_406 : decode cL_act 406 = .ok (.ifCond .ne 32, 3) := by decide +kernel
theorem dL_act_409 : decode cL_act 409 = .ok (.aload_n 0, 1) := by decide +kernel
theorem dL_act_410 : decode cL_act 410 = .ok (.iload 6, 2) := by decide +kernel
theorem dL_act_412 : decode cL_act 412 = .ok (.iload_n 1, 1) := by decide +kernel
theorem dL_act_413 : decode cL_act 413 = .ok (.iconst 5, 1) := by decide +kernel
theorem dL_act_414 : decode cL_act 414 = .ok (.ishr, 1) := by decide +kernel
theorem dL_act_415 : decode cL_act 415 = .ok (.bipush 8, 2) := by decide +kernel
theorem dL_act_417 : decode cL_act 417 = .ok (.invokestatic 49, 3) := by decide +kernel
theorem dL_act_420 : decode cL_act 420 = .ok (.bipush 8, 2) := by decide +kernel
theorem dL_act_422 : decode cL_act 422 = .ok (.iload_n 1, 1) := by decide +kernel
theorem dL_act_423 : decode cL_act 423 = .ok (.bipush 7, 2) := by decide +kernel
theorem dL_act_425 : decode cL_act 425 = .ok (.ishr, 1) := by decide +kernel
theorem dL_act_426 : decode cL_act 426 = .ok (.iconst 4, 1) := by decide +kernel
theorem dL_act_427 : decode cL_act 427 = .ok (.invokestatic 49, 3) := by decide +kernel
theorem dL_act_430 : decode cL_act 430 = .ok (.iadd, 1) := by decide +kernel
theorem dL_act_431 : decode cL_act 431 = .ok (.invokevirtual 80, 3) := by decide +kernel
theorem dL_act_434 : decode cL_act 434 = .ok (.pop, 1) := by decide +kernel
theorem dL_act_435 : decode cL_act 435 = .ok (.goto 184, 3) := by decide +kernel
theorem dL_act_438 : decode cL_act 438 = .ok (.aload_n 0, 1) := by decide +kernel
theorem dL_act_439 : decode cL_act 439 = .ok (.iload 6, 2) := by decide +kernel
theorem dL_act_441 : decode cL_act 441 = .ok (.iload_n 1, 1) := by decide +kernel
theorem dL_act_442 : decode cL_act 442 = .ok (.bipush 6, 2) := by decide +kernel
theorem dL_act_444 : decode cL_act 444 = .ok (.ishr, 1) := by decide +kernel
theorem dL_act_445 : decode cL_act 445 = .ok (.bipush 6, 2) := by decide +kernel
theorem dL_act_447 : decode cL_act 447 = .ok (.invokestatic 49, 3) := by decide +kernel
theorem dL_act_450 : decode cL_act 450 = .ok (.invokevirtual 84, 3) := by decide +kernel
theorem dL_act_453 : decode cL_act 453 = .ok (.pop, 1) := by decide +kernel
theorem dL_act_454 : decode cL_act 454 = .ok (.goto 165, 3) := by decide +kernel
theorem dL_act_457 : decode cL_act 457 = .ok (.aload_n 3, 1) := by decide +kernel
theorem dL_act_458 : decode cL_act 458 = .ok (.iload_n 1, 1) := by decide +kernel
theorem dL_act_459 : decode cL_act 459 = .ok (.iconst 4, 1) := by decide +kernel
theorem dL_act_460 : decode cL_act 460 = .ok (.ishr, 1) := by decide +kernel
theorem dL_act_461 : decode cL_act 461 = .ok (.iconst 3, 1) := by decide +kernel
theorem dL_act_462 : decode cL_act 462 = .ok (.invokestatic 49, 3) := by decide +kernel
theorem dL_act_465 : decode cL_act 465 = .ok (.iaload, 1) := by decide +kernel
theorem dL_act_466 : decode cL_act 466 = .ok (.istore 11, 2) := by decide +kernel
theorem dL_act_468 : decode cL_act 468 = .ok (.aload_n 3, 1) := by decide +kernel
theorem dL_act_469 : decode cL_act 469 = .ok (.iload_n 1, 1) := by decide +kernel
theorem dL_act_470 : decode cL_act 470 = .ok (.iconst 4, 1) := by decide +kernel
theorem dL_act_471 : decode cL_act 471 = .ok (.ishr, 1) := by decide +kernel
theorem dL_act_472 : decode cL_act 472 = .ok (.iconst 3, 1) := by decide +kernel
theorem dL_act_473 : decode cL_act 473 = .ok (.invokestatic 49, 3) := by decide +kernel
theorem dL_act_476 : decode cL_act 476 = .ok (.iconst 1, 1) := by decide +kernel
theorem dL_act_477 : decode cL_act 477 = .ok (.iload_n 1, 1) := by decide +kernel
theorem dL_act_478 : decode cL_act 478 = .ok (.bipush 6, 2) := by decide +kernel
theorem dL_act_480 : decode cL_act 480 = .ok (.ishr, 1) := by decide +kernel
theorem dL_act_481 : decode cL_act 481 = .ok (.iconst 4, 1) := by decide +kernel
theorem dL_act_482 : decode cL_act 482 = .ok (.invokestatic 49, 3) := by decide +kernel
theorem dL_act_485 : decode cL_act 485 = .ok (.iadd, 1) := by decide +kernel
theorem dL_act_486 : decode cL_act 486 = .ok (.iastore, 1) := by decide +kernel
theorem dL_act_487 : decode cL_act 487 = .ok (.aload_n 0, 1) := by decide +kernel
theorem dL_act_488 : decode cL_act 488 = .ok (.iload_n 1, 1) := by decide +kernel
theorem dL_act_489 : decode cL_act 489 = .ok (.iconst 4, 1) := by decide +kernel
theorem dL_act_490 : decode cL_act 490 = .ok (.ishr, 1) := by decide +kernel
theorem dL_act_491 : decode cL_act 491 = .ok (.iconst 3, 1) := by decide +kernel
theorem dL_act_492 : decode cL_act 492 = .ok (.invokestatic 49, 3) := by decide +kernel
theorem dL_act_495 : decode cL_act 495 = .ok (.iconst 1, 1) := by decide +kernel
theorem dL_act_496 : decode cL_act 496 = .ok (.iload_n 1, 1) := by decide +kernel
theorem dL_act_497 : decode cL_act 497 = .ok (.bipush 6, 2) := by decide +kernel
theorem dL_act_499 : decode cL_act 499 = .ok (.ishr, 1) := by decide +kernel
theorem dL_act_500 : decode cL_act 500 = .ok (.iconst 4, 1) := by decide +kernel
theorem dL_act_501 : decode cL_act 501 = .ok (.invokestatic 49, 3) := by decide +kernel
theorem dL_act_504 : decode cL_act 504 = .ok (.iadd, 1) := by decide +kernel
theorem dL_act_505 : decode cL_act 505 = .ok (.iload_n 1, 1) := by decide +kernel
theorem dL_act_506 : decode cL_act 506 = .ok (.bipush 8, 2) := by decide +kernel
theorem dL_act_508 : decode cL_act 508 = .ok (.ishr, 1) := by decide +kernel
theorem dL_act_509 : decode cL_act 509 = .ok (.bipush 9, 2) := by decide +kernel
theorem dL_act_511 : decode cL_act 511 = .ok (.invokestatic 49, 3) := by decide +kernel
theorem dL_act_514 : decode cL_act 514 = .ok (.invokevirtual 87, 3) := by decide +kernel
theorem dL_act_517 : decode cL_act 517 = .ok (.iload 11, 2) := by decide +kernel
theorem dL_act_519 : decode cL_act 519 = .ok (.if_icmp .ne 7, 3) := by decide +kernel
theorem dL_act_522 : decode cL_act 522 = .ok (.iconst 1, 1) := by decide +kernel
theorem dL_act_523 : decode cL_act 523 = .ok (.goto 4, 3) := by decide +kernel
theorem dL_act_526 : decode cL_act 526 = .ok (.iconst 0, 1) := by decide +kernel
theorem dL_act_527 : decode cL_act 527 = .ok (.ireturn, 1) := by decide +kernel
theorem dL_act_528 : decode cL_act 528 = .ok (.aload_n 0, 1) := by decide +kernel
theorem dL_act_529 : decode cL_act 529 = .ok (.iload_n 1, 1) := by decide +kernel
theorem dL_act_530 : decode cL_act 530 = .ok (.iconst 4, 1) := by decide +kernel
theorem dL_act_531 : decode cL_act 531 = .ok (.ishr, 1) := by decide +kernel
theorem dL_act_532 : decode cL_act 532 = .ok (.iconst 2, 1) := by decide +kernel
theorem dL_act_533 : decode cL_act 533 = .ok (.invokestatic 49, 3) := by decide +kernel
theorem dL_act_536 : decode cL_act 536 = .ok (.iconst 1, 1) := by decide +kernel
theorem dL_act_537 : decode cL_act 537 = .ok (.iload_n 1, 1) := by decide +kernel
theorem dL_act_538 : decode cL_act 538 = .ok (.iconst 5, 1) := by decide +kernel
theorem dL_act_539 : decode cL_act 539 = .ok (.ishr, 1) := by decide +kernel
theorem dL_act_540 : decode cL_act 540 = .ok (.bipush 127, 2) := by decide +kernel
theorem dL_act_542 : decode cL_act 542 = .ok (.invokestatic 49, 3) := by decide +kernel
theorem dL_act_545 : decode cL_act 545 = .ok (.iadd, 1) := by decide +kernel
theorem dL_act_546 : decode cL_act 546 = .ok (.invokevirtual 90, 3) := by decide +kernel
theorem dL_act_549 : decode cL_act 549 = .ok (.pop, 1) := by decide +kernel
theorem dL_act_550 : decode cL_act 550 = .ok (.aload_n 0, 1) := by decide +kernel
theorem dL_act_551 : decode cL_act 551 = .ok (.iload_n 1, 1) := by decide +kernel
theorem dL_act_552 : decode cL_act 552 = .ok (.bipush 9, 2) := by decide +kernel
theorem dL_act_554 : decode cL_act 554 = .ok (.ishr, 1) := by decide +kernel
theorem dL_act_555 : decode cL_act 555 = .ok (.iconst 4, 1) := by decide +kernel
theorem dL_act_556 : decode cL_act 556 = .ok (.invokestatic 49, 3) := by decide +kernel
theorem dL_act_559 : decode cL_act 559 = .ok (.invokevirtual 93, 3) := by decide +kernel
theorem dL_act_562 : decode cL_act 562 = .ok (.pop, 1) := by decide +kernel
theorem dL_act_563 : decode cL_act 563 = .ok (.goto 56, 3) := by decide +kernel
theorem dL_act_566 : decode cL_act 566 = .ok (.aload_n 0, 1) := by decide +kernel
theorem dL_act_567 : decode cL_act 567 = .ok (.invokevirtual 96, 3) := by decide +kernel
theorem dL_act_570 : decode cL_act 570 = .ok (.iload 5, 2) := by decide +kernel
theorem dL_act_572 : decode cL_act 572 = .ok (.aload_n 0, 1) := by decide +kernel
theorem dL_act_573 : decode cL_act 573 = .ok (.invokevirtual 99, 3) := by decide +kernel
theorem dL_act_576 : decode cL_act 576 = .ok (.isub, 1) := by decide +kernel
theorem dL_act_577 : decode cL_act 577 = .ok (.if_icmp .ne 40, 3) := by decide +kernel
theorem dL_act_580 : decode cL_act 580 = .ok (.aload_n 0, 1) := by decide +kernel
theorem dL_act_581 : decode cL_act 581 = .ok (.sipush 9999, 3) := by decide +kernel
theorem dL_act_584 : decode cL_act 584 = .ok (.invokevirtual 102, 3) := by decide +kernel
theorem dL_act_587 : decode cL_act 587 = .ok (.aload_n 0, 1) := by decide +kernel
theorem dL_act_588 : decode cL_act 588 = .ok (.iload_n 1, 1) := by decide +kernel
theorem dL_act_589 : decode cL_act 589 = .ok (.iconst 4, 1) := by decide +kernel
theorem dL_act_590 : decode cL_act 590 = .ok (.ishr, 1) := by decide +kernel
theorem dL_act_591 : decode cL_act 591 = .ok (.bipush 30, 2) := by decide +kernel
theorem dL_act_593 : decode cL_act 593 = .ok (.invokestatic 49, 3) := by decide +kernel
theorem dL_act_596 : decode cL_act 596 = .ok (.invokevirtual 102, 3) := by decide +kernel
theorem dL_act_599 : decode cL_act 599 = .ok (.if_icmp .lt 18, 3) := by decide +kernel
theorem dL_act_602 : decode cL_act 602 = .ok (.aload_n 0, 1) := by decide +kernel
theorem dL_act_603 : decode cL_act 603 = .ok (.invokevirtual 105, 3) := by decide +kernel
theorem dL_act_606 : decode cL_act 606 = .ok (.aload_n 0, 1) := by decide +kernel
theorem dL_act_607 : decode cL_act 607 = .ok (.invokevirtual 108, 3) := by decide +kernel
theorem dL_act_610 : decode cL_act 610 = .ok (.if_icmp .gt 7, 3) := by decide +kernel
theorem dL_act_613 : decode cL_act 613 = .ok (.iconst 1, 1) := by decide +kernel
theorem dL_act_614 : decode cL_act 614 = .ok (.goto 4, 3) := by decide +kernel
theorem dL_act_617 : decode cL_act 617 = .ok (.iconst 0, 1) := by decide +kernel
theorem dL_act_618 : decode cL_act 618 = .ok (.ireturn, 1) := by decide +kernel
theorem dL_act_619 : decode cL_act 619 = .ok (.goto 37, 3) := by decide +kernel
theorem dL_act_622 : decode cL_act 622 = .ok (.astore 7, 2) := by decide +kernel
theorem dL_act_624 : decode cL_act 624 = .ok (.aload_n 0, 1) := by decide +kernel
theorem dL_act_625 : decode cL_act 625 = .ok (.invokevirtual 39, 3) := by decide +kernel
theorem dL_act_628 : decode cL_act 628 = .ok (.iload 5, 2) := by decide +kernel
theorem dL_act_630 : decode cL_act 630 = .ok (.if_icmp .ne 7, 3) := by decide +kernel
theorem dL_act_633 : decode cL_act 633 = .ok (.iconst 1, 1) := by decide +kernel
theorem dL_act_634 : decode cL_act 634 = .ok (.goto 4, 3) := by decide +kernel
theorem dL_act_637 : decode cL_act 637 = .ok (.iconst 0, 1) := by decide +kernel
theorem dL_act_638 : decode cL_act 638 = .ok (.ireturn, 1) := by decide +kernel
theorem dL_act_639 : decode cL_act 639 = .ok (.astore 7, 2) := by decide +kernel
theorem dL_act_641 : decode cL_act 641 = .ok (.aload_n 0, 1) := by decide +kernel
theorem dL_act_642 : decode cL_act 642 = .ok (.invokevirtual 39, 3) := by decide +kernel
theorem dL_act_645 : decode cL_act 645 = .ok (.iload 5, 2) := by decide +kernel
theorem dL_act_647 : decode cL_act 647 = .ok (.if_icmp .ne 7, 3) := by decide +kernel
theorem dL_act_650 : decode cL_act 650 = .ok (.iconst 1, 1) := by decide +kernel
theorem dL_act_651 : decode cL_act 651 = .ok (.goto 4, 3) := by decide +kernel
theorem dL_act_654 : decode cL_act 654 = .ok (.iconst 0, 1) := by decide +kernel
theorem dL_act_655 : decode cL_act 655 = .ok (.ireturn, 1) := by decide +kernel
theorem dL_act_656 : decode cL_act 656 = .ok (.iconst 1, 1) := by decide +kernel
theorem dL_act_657 : decode cL_act 657 = .ok (.ireturn, 1) := by decide +kernel
theorem dL_isDone_0 : decode cL_isDone 0 = .ok (.aload_n 0, 1) := by decide +kernel
theorem dL_isDone_1 : decode cL_isDone 1 = .ok (.iload_n 1, 1) := by decide +kernel
theorem dL_isDone_2 : decode cL_isDone 2 = .ok (.invokevirtual 70, 3) := by decide +kernel
theorem dL_isDone_5 : decode cL_isDone 5 = .ok (.iconst (-1), 1) := by decide +kernel
theorem dL_isDone_6 : decode cL_isDone 6 = .ok (.if_icmp .ne 15, 3) := by decide +kernel
theorem dL_isDone_9 : decode cL_isDone 9 = .ok (.aload_n 0, 1) := by decide +kernel
theorem dL_isDone_10 : decode cL_isDone 10 = .ok (.iload_n 1, 1) := by decide +kernel
theorem dL_isDone_11 : decode cL_isDone 11 = .ok (.invokevirtual 115, 3) := by decide +kernel
theorem dL_isDone_14 : decode cL_isDone 14 = .ok (.ifCond .lt 7, 3) := by decide +kernel
theorem dL_isDone_17 : decode cL_isDone 17 = .ok (.iconst 1, 1) := by decide +kernel
theorem dL_isDone_18 : decode cL_isDone 18 = .ok (.goto 4, 3) := by decide +kernel
theorem dL_isDone_21 : decode cL_isDone 21 = .ok (.iconst 0, 1) := by decide +kernel
theorem dL_isDone_22 : decode cL_isDone 22 = .ok (.ireturn, 1) := by decide +kernel
theorem dL_arePlansRight_0 : decode cL_arePlansRight 0 = .ok (.iconst 0, 1) := by decide +kernel
theorem dL_arePlansRight_1 : decode cL_arePlansRight 1 = .ok (.istore_n 2, 1) := by decide +kernel
theorem dL_arePlansRight_2 : decode cL_arePlansRight 2 = .ok (.iconst 0, 1) := by decide +kernel
theorem dL_arePlansRight_3 : decode cL_arePlansRight 3 = .ok (.istore_n 3, 1) := by decide +kernel
theorem dL_arePlansRight_4 : decode cL_arePlansRight 4 = .ok (.iconst 0, 1) := by decide +kernel
theorem dL_arePlansRight_5 : decode cL_arePlansRight 5 = .ok (.istore 4, 2) := by decide +kernel
theorem dL_arePlansRight_7 : decode cL_arePlansRight 7 = .ok (.iload 4, 2) := by decide +kernel
theorem dL_arePlansRight_9 : decode cL_arePlansRight 9 = .ok (.aload_n 0, 1) := by decide +kernel
theorem dL_arePlansRight_10 : decode cL_arePlansRight 10 = .ok (.invokevirtual 39, 3) := by decide +kernel
theorem dL_arePlansRight_13 : decode cL_arePlansRight 13 = .ok (.if_icmp .ge 294, 3) := by decide +kernel
theorem dL_arePlansRight_16 : decode cL_arePlansRight 16 = .ok (.aload_n 0, 1) := by decide +kernel
theorem dL_arePlansRight_17 : decode cL_arePlansRight 17 = .ok (.iload 4, 2) := by decide +kernel
theorem dL_arePlansRight_19 : decode cL_arePlansRight 19 = .ok (.invokestatic 118, 3) := by decide +kernel
theorem dL_arePlansRight_22 : decode cL_arePlansRight 22 = .ok (.istore 5, 2) := by decide +kernel
theorem dL_arePlansRight_24 : decode cL_arePlansRight 24 = .ok (.iload_n 3, 1) := by decide +kernel
theorem dL_arePlansRight_25 : decode cL_arePlansRight 25 = .ok (.aload_n 0, 1) := by decide +kernel
theorem dL_arePlansRight_26 : decode cL_arePlansRight 26 = .ok (.iload 4, 2) := by decide +kernel
theorem dL_arePlansRight_28 : decode cL_arePlansRight 28 = .ok (.invokevirtual 115, 3) := by decide +kernel
theorem dL_arePlansRight_31 : decode cL_arePlansRight 31 = .ok (.ifCond .lt 7, 3) := by decide +kernel
theorem dL_arePlansRight_34 : decode cL_arePlansRight 34 = .ok (.iconst 1, 1) := by decide +kernel
theorem dL_arePlansRight_35 : decode cL_arePlansRight 35 = .ok (.goto 4, 3) := by decide +kernel
theorem dL_arePlansRight_38 : decode cL_arePlansRight 38 = .ok (.iconst 0, 1) := by decide +kernel
theorem dL_arePlansRight_39 : decode cL_arePlansRight 39 = .ok (.iadd, 1) := by decide +kernel
theorem dL_arePlansRight_40 : decode cL_arePlansRight 40 = .ok (.istore_n 3, 1) := by decide +kernel
theorem dL_arePlansRight_41 : decode cL_arePlansRight 41 = .ok (.aload_n 0, 1) := by decide +kernel
theorem dL_arePlansRight_42 : decode cL_arePlansRight 42 = .ok (.iload 4, 2) := by decide +kernel
theorem dL_arePlansRight_44 : decode cL_arePlansRight 44 = .ok (.invokevirtual 122, 3) := by decide +kernel
theorem dL_arePlansRight_47 : decode cL_arePlansRight 47 = .ok (.aload_n 0, 1) := by decide +kernel
theorem dL_arePlansRight_48 : decode cL_arePlansRight 48 = .ok (.iload 4, 2) := by decide +kernel
theorem dL_arePlansRight_50 : decode cL_arePlansRight 50 = .ok (.invokevirtual 125, 3) := by decide +kernel
theorem dL_arePlansRight_53 : decode cL_arePlansRight 53 = .ok (.if_icmp .lt 53, 3) := by decide +kernel
theorem dL_arePlansRight_56 : decode cL_arePlansRight 56 = .ok (.aload_n 0, 1) := by decide +kernel
theorem dL_arePlansRight_57 : decode cL_arePlansRight 57 = .ok (.iload 4, 2) := by decide +kernel
theorem dL_arePlansRight_59 : decode cL_arePlansRight 59 = .ok (.invokevirtual 125, 3) := by decide +kernel
theorem dL_arePlansRight_62 : decode cL_arePlansRight 62 = .ok (.aload_n 0, 1) := by decide +kernel
theorem dL_arePlansRight_63 : decode cL_arePlansRight 63 = .ok (.iload 4, 2) := by decide +kernel
theorem dL_arePlansRight_65 : decode cL_arePlansRight 65 = .ok (.invokevirtual 128, 3) := by decide +kernel
theorem dL_arePlansRight_68 : decode cL_arePlansRight 68 = .ok (.if_icmp .gt 38, 3) := by decide +kernel
theorem dL_arePlansRight_71 : decode cL_arePlansRight 71 = .ok (.aload_n 0, 1) := by decide +kernel
theorem dL_arePlansRight_72 : decode cL_arePlansRight 72 = .ok (.iload 4, 2) := by decide +kernel
theorem dL_arePlansRight_74 : decode cL_arePlansRight 74 = .ok (.invokevirtual 122, 3) := by decide +kernel
theorem dL_arePlansRight_77 : decode cL_arePlansRight 77 = .ok (.aload_n 0, 1) := by decide +kernel
theorem dL_arePlansRight_78 : decode cL_arePlansRight 78 = .ok (.invokevirtual 131, 3) := by decide +kernel
theorem dL_arePlansRight_81 : decode cL_arePlansRight 81 = .ok (.if_icmp .gt 25, 3) := by decide +kernel
theorem dL_arePlansRight_84 : decode cL_arePlansRight 84 = .ok (.aload_n 0, 1) := by decide +kernel
theorem dL_arePlansRight_85 : decode cL_arePlansRight 85 = .ok (.iload 4, 2) := by decide +kernel
theorem dL_arePlansRight_87 : decode cL_arePlansRight 87 = .ok (.invokevirtual 134, 3) := by decide +kernel
theorem dL_arePlansRight_90 : decode cL_arePlansRight 90 = .ok (.ifCond .lt 16, 3) := by decide +kernel
theorem dL_arePlansRight_93 : decode cL_arePlansRight 93 = .ok (.aload_n 0, 1) := by decide +kernel
theorem dL_arePlansRight_94 : decode cL_arePlansRight 94 = .ok (.iload 4, 2) := by decide +kernel
theorem dL_arePlansRight_96 : decode cL_arePlansRight 96 = .ok (.invokevirtual 137, 3) := by decide +kernel
theorem dL_arePlansRight_99 : decode cL_arePlansRight 99 = .ok (.aload_n 0, 1) := by decide +kernel
theorem dL_arePlansRight_100 : decode cL_arePlansRight 100 = .ok (.invokevirtual 140, 3) := by decide +kernel
theorem dL_arePlansRight_103 : decode cL_arePlansRight 103 = .ok (.if_icmp .le 5, 3) := by decide +kernel
theorem dL_arePlansRight_106 : decode cL_arePlansRight 106 = .ok (.iconst 0, 1) := by decide +kernel
theorem dL_arePlansRight_107 : decode cL_arePlansRight 107 = .ok (.ireturn, 1) := by decide +kernel
theorem dL_arePlansRight_108 : decode cL_arePlansRight 108 = .ok (.iload 5, 2) := by decide +kernel
theorem dL_arePlansRight_110 : decode cL_arePlansRight 110 = .ok (.ifCond .ne 18, 3) := by decide +kernel
theorem dL_arePlansRight_113 : decode cL_arePlansRight 113 = .ok (.aload_n 0, 1) := by decide +kernel
theorem dL_arePlansRight_114 : decode cL_arePlansRight 114 = .ok (.iload 4, 2) := by decide +kernel
theorem dL_arePlansRight_116 : decode cL_arePlansRight 116 = .ok (.invokevirtual 125, 3) := by decide +kernel
theorem dL_arePlansRight_119 : decode cL_arePlansRight 119 = .ok (.aload_n 1, 1) := by decide +kernel
theorem dL_arePlansRight_120 : decode cL_arePlansRight 120 = .ok (.iload 4, 2) := by decide +kernel
theorem dL_arePlansRight_122 : decode cL_arePlansRight 122 = .ok (.iaload, 1) := by decide +kernel
theorem dL_arePlansRight_123 : decode cL_arePlansRight 123 = .ok (.if_icmp .ge 5, 3) := by decide +kernel
theorem dL_arePlansRight_126 : decode cL_arePlansRight 126 = .ok (.iconst 0, 1) := by decide +kernel
theorem dL_arePlansRight_127 : decode cL_arePlansRight 127 = .ok (.ireturn, 1) := by decide +kernel
theorem dL_arePlansRight_128 : decode cL_arePlansRight 128 = .ok (.iload 5, 2) := by decide +kernel
theorem dL_arePlansRight_130 : decode cL_arePlansRight 130 = .ok (.ifCond .eq 45, 3) := by decide +kernel
theorem dL_arePlansRight_133 : decode cL_arePlansRight 133 = .ok (.aload_n 0, 1) := by decide +kernel
theorem dL_arePlansRight_134 : decode cL_arePlansRight 134 = .ok (.iload 4, 2) := by decide +kernel
theorem dL_arePlansRight_136 : decode cL_arePlansRight 136 = .ok (.invokevirtual 115, 3) := by decide +kernel
theorem dL_arePlansRight_139 : decode cL_arePlansRight 139 = .ok (.aload_n 0, 1) := by decide +kernel
theorem dL_arePlansRight_140 : decode cL_arePlansRight 140 = .ok (.iload 4, 2) := by decide +kernel
theorem dL_arePlansRight_142 : decode cL_arePlansRight 142 = .ok (.invokevirtual 125, 3) := by decide +kernel
theorem dL_arePlansRight_145 : decode cL_arePlansRight 145 = .ok (.if_icmp .ne 54, 3) := by decide +kernel
theorem dL_arePlansRight_148 : decode cL_arePlansRight 148 = .ok (.aload_n 0, 1) := by decide +kernel
theorem dL_arePlansRight_149 : decode cL_arePlansRight 149 = .ok (.iload 4, 2) := by decide +kernel
theorem dL_arePlansRight_151 : decode cL_arePlansRight 151 = .ok (.invokevirtual 143, 3) := by decide +kernel
theorem dL_arePlansRight_154 : decode cL_arePlansRight 154 = .ok (.aload_n 0, 1) := by decide +kernel
theorem dL_arePlansRight_155 : decode cL_arePlansRight 155 = .ok (.iload 4, 2) := by decide +kernel
theorem dL_arePlansRight_157 : decode cL_arePlansRight 157 = .ok (.invokevirtual 137, 3) := by decide +kernel
theorem dL_arePlansRight_160 : decode cL_arePlansRight 160 = .ok (.if_icmp .ne 39, 3) := by decide +kernel
theorem dL_arePlansRight_163 : decode cL_arePlansRight 163 = .ok (.aload_n 0, 1) := by decide +kernel
theorem dL_arePlansRight_164 : decode cL_arePlansRight 164 = .ok (.iload 4, 2) := by decide +kernel
theorem dL_arePlansRight_166 : decode cL_arePlansRight 166 = .ok (.invokevirtual 134, 3) := by decide +kernel
theorem dL_arePlansRight_169 : decode cL_arePlansRight 169 = .ok (.ifCond .eq 32, 3) := by decide +kernel
theorem dL_arePlansRight_172 : decode cL_arePlansRight 172 = .ok (.goto 27, 3) := by decide +kernel
theorem dL_arePlansRight_175 : decode cL_arePlansRight 175 = .ok (.aload_n 0, 1) := by decide +kernel
theorem dL_arePlansRight_176 : decode cL_arePlansRight 176 = .ok (.iload 4, 2) := by decide +kernel
theorem dL_arePlansRight_178 : decode cL_arePlansRight 178 = .ok (.invokevirtual 115, 3) := by decide +kernel
theorem dL_arePlansRight_181 : decode cL_arePlansRight 181 = .ok (.ifCond .lt 20, 3) := by decide +kernel
theorem dL_arePlansRight_184 : decode cL_arePlansRight 184 = .ok (.aload_n 0, 1) := by decide +kernel
theorem dL_arePlansRight_185 : decode cL_arePlansRight 185 = .ok (.iload 4, 2) := by decide +kernel
theorem dL_arePlansRight_187 : decode cL_arePlansRight 187 = .ok (.invokevirtual 115, 3) := by decide +kernel
theorem dL_arePlansRight_190 : decode cL_arePlansRight 190 = .ok (.aload_n 0, 1) := by decide +kernel
theorem dL_arePlansRight_191 : decode cL_arePlansRight 191 = .ok (.iload 4, 2) := by decide +kernel
theorem dL_arePlansRight_193 : decode cL_arePlansRight 193 = .ok (.invokevirtual 125, 3) := by decide +kernel
theorem dL_arePlansRight_196 : decode cL_arePlansRight 196 = .ok (.if_icmp .ge 5, 3) := by decide +kernel
theorem dL_arePlansRight_199 : decode cL_arePlansRight 199 = .ok (.iconst 0, 1) := by decide +kernel
theorem dL_arePlansRight_200 : decode cL_arePlansRight 200 = .ok (.ireturn, 1) := by decide +kernel
theorem dL_arePlansRight_201 : decode cL_arePlansRight 201 = .ok (.aload_n 0, 1) := by decide +kernel
theorem dL_arePlansRight_202 : decode cL_arePlansRight 202 = .ok (.iload 4, 2) := by decide +kernel
theorem dL_arePlansRight_204 : decode cL_arePlansRight 204 = .ok (.invokevirtual 115, 3) := by decide +kernel
theorem dL_arePlansRight_207 : decode cL_arePlansRight 207 = .ok (.ifCond .ge 7, 3) := by decide +kernel
theorem dL_arePlansRight_210 : decode cL_arePlansRight 210 = .ok (.iconst 1, 1) := by decide +kernel
theorem dL_arePlansRight_211 : decode cL_arePlansRight 211 = .ok (.goto 4, 3) := by decide +kernel
theorem dL_arePlansRight_214 : decode cL_arePlansRight 214 = .ok (.iconst 0, 1) := by decide +kernel
theorem dL_arePlansRight_215 : decode cL_arePlansRight 215 = .ok (.aload_n 0, 1) := by decide +kernel
theorem dL_arePlansRight_216 : decode cL_arePlansRight 216 = .ok (.iload 4, 2) := by decide +kernel
theorem dL_arePlansRight_218 : decode cL_arePlansRight 218 = .ok (.invokevirtual 137, 3) := by decide +kernel
theorem dL_arePlansRight_221 : decode cL_arePlansRight 221 = .ok (.ifCond .ge 7, 3) := by decide +kernel
theorem dL_arePlansRight_224 : decode cL_arePlansRight 224 = .ok (.iconst 1, 1) := by decide +kernel
theorem dL_arePlansRight_225 : decode cL_arePlansRight 225 = .ok (.goto 4, 3) := by decide +kernel
theorem dL_arePlansRight_228 : decode cL_arePlansRight 228 = .ok (.iconst 0, 1) := by decide +kernel
theorem dL_arePlansRight_229 : decode cL_arePlansRight 229 = .ok (.if_icmp .ne 48, 3) := by decide +kernel
theorem dL_arePlansRight_232 : decode cL_arePlansRight 232 = .ok (.aload_n 0, 1) := by decide +kernel
theorem dL_arePlansRight_233 : decode cL_arePlansRight 233 = .ok (.iload 4, 2) := by decide +kernel
theorem dL_arePlansRight_235 : decode cL_arePlansRight 235 = .ok (.invokevirtual 146, 3) := by decide +kernel
theorem dL_arePlansRight_238 : decode cL_arePlansRight 238 = .ok (.ifCond .lt 7, 3) := by decide +kernel
theorem dL_arePlansRight_241 : decode cL_arePlansRight 241 = .ok (.iconst 1, 1) := by decide +kernel
theorem dL_arePlansRight_242 : decode cL_arePlansRight 242 = .ok (.goto 4, 3) := by decide +kernel
theorem dL_arePlansRight_245 : decode cL_arePlansRight 245 = .ok (.iconst 0, 1) := by decide +kernel
theorem dL_arePlansRight_246 : decode cL_arePlansRight 246 = .ok (.aload_n 0, 1) := by decide +kernel
theorem dL_arePlansRight_247 : decode cL_arePlansRight 247 = .ok (.iload 4, 2) := by decide +kernel
theorem dL_arePlansRight_249 : decode cL_arePlansRight 249 = .ok (.invokevirtual 70, 3) := by decide +kernel
theorem dL_arePlansRight_252 : decode cL_arePlansRight 252 = .ok (.iconst 1, 1) := by decide +kernel
theorem dL_arePlansRight_253 : decode cL_arePlansRight 253 = .ok (.if_icmp .ne 7, 3) := by decide +kernel
theorem dL_arePlansRight_256 : decode cL_arePlansRight 256 = .ok (.iconst 1, 1) := by decide +kernel
theorem dL_arePlansRight_257 : decode cL_arePlansRight 257 = .ok (.goto 4, 3) := by decide +kernel
theorem dL_arePlansRight_260 : decode cL_arePlansRight 260 = .ok (.iconst 0, 1) := by decide +kernel
theorem dL_arePlansRight_261 : decode cL_arePlansRight 261 = .ok (.if_icmp .ne 16, 3) := by decide +kernel
theorem dL_arePlansRight_264 : decode cL_arePlansRight 264 = .ok (.aload_n 0, 1) := by decide +kernel
theorem dL_arePlansRight_265 : decode cL_arePlansRight 265 = .ok (.iload 4, 2) := by decide +kernel
theorem dL_arePlansRight_267 : decode cL_arePlansRight 267 = .ok (.invokevirtual 146, 3) := by decide +kernel
theorem dL_arePlansRight_270 : decode cL_arePlansRight 270 = .ok (.aload_n 0, 1) := by decide +kernel
theorem dL_arePlansRight_271 : decode cL_arePlansRight 271 = .ok (.invokevirtual 59, 3) := by decide +kernel
theorem dL_arePlansRight_274 : decode cL_arePlansRight 274 = .ok (.if_icmp .lt 5, 3) := by decide +kernel
theorem dL_arePlansRight_277 : decode cL_arePlansRight 277 = .ok (.iconst 0, 1) := by decide +kernel
theorem dL_arePlansRight_278 : decode cL_arePlansRight 278 = .ok (.ireturn, 1) := by decide +kernel
theorem dL_arePlansRight_279 : decode cL_arePlansRight 279 = .ok (.iload_n 2, 1) := by decide +kernel
theorem dL_arePlansRight_280 : decode cL_arePlansRight 280 = .ok (.iload 5, 2) := by decide +kernel
theorem dL_arePlansRight_282 : decode cL_arePlansRight 282 = .ok (.ifCond .ne 16, 3) := by decide +kernel
theorem dL_arePlansRight_285 : decode cL_arePlansRight 285 = .ok (.aload_n 0, 1) := by decide +kernel
theorem dL_arePlansRight_286 : decode cL_arePlansRight 286 = .ok (.iload 4, 2) := by decide +kernel
theorem dL_arePlansRight_288 : decode cL_arePlansRight 288 = .ok (.invokevirtual 134, 3) := by decide +kernel
theorem dL_arePlansRight_291 : decode cL_arePlansRight 291 = .ok (.ifCond .ne 7, 3) := by decide +kernel
theorem dL_arePlansRight_294 : decode cL_arePlansRight 294 = .ok (.iconst 1, 1) := by decide +kernel
theorem dL_arePlansRight_295 : decode cL_arePlansRight 295 = .ok (.goto 4, 3) := by decide +kernel
theorem dL_arePlansRight_298 : decode cL_arePlansRight 298 = .ok (.iconst 0, 1) := by decide +kernel
theorem dL_arePlansRight_299 : decode cL_arePlansRight 299 = .ok (.iadd, 1) := by decide +kernel
theorem dL_arePlansRight_300 : decode cL_arePlansRight 300 = .ok (.istore_n 2, 1) := by decide +kernel
theorem dL_arePlansRight_301 : decode cL_arePlansRight 301 = .ok (.iinc 4 1, 3) := by decide +kernel
theorem dL_arePlansRight_304 : decode cL_arePlansRight 304 = .ok (.goto (-297), 3) := by decide +kernel
theorem dL_arePlansRight_307 : decode cL_arePlansRight 307 = .ok (.aload_n 0, 1) := by decide +kernel
theorem dL_arePlansRight_308 : decode cL_arePlansRight 308 = .ok (.invokevirtual 149, 3) := by decide +kernel
theorem dL_arePlansRight_311 : decode cL_arePlansRight 311 = .ok (.iload_n 2, 1) := by decide +kernel
theorem dL_arePlansRight_312 : decode cL_arePlansRight 312 = .ok (.if_icmp .ne 16, 3) := by decide +kernel
theorem dL_arePlansRight_315 : decode cL_arePlansRight 315 = .ok (.aload_n 0, 1) := by decide +kernel
theorem dL_arePlansRight_316 : decode cL_arePlansRight 316 = .ok (.invokevirtual 99, 3) := by decide +kernel
theorem dL_arePlansRight_319 : decode cL_arePlansRight 319 = .ok (.aload_n 0, 1) := by decide +kernel
theorem dL_arePlansRight_320 : decode cL_arePlansRight 320 = .ok (.invokevirtual 39, 3) := by decide +kernel
theorem dL_arePlansRight_323 : decode cL_arePlansRight 323 = .ok (.iload_n 3, 1) := by decide +kernel
theorem dL_arePlansRight_324 : decode cL_arePlansRight 324 = .ok (.isub, 1) := by decide +kernel
theorem dL_arePlansRight_325 : decode cL_arePlansRight 325 = .ok (.if_icmp .eq 5, 3) := by decide +kernel
theorem dL_arePlansRight_328 : decode cL_arePlansRight 328 = .ok (.iconst 0, 1) := by decide +kernel
theorem dL_arePlansRight_329 : decode cL_arePlansRight 329 = .ok (.ireturn, 1) := by decide +kernel
theorem dL_arePlansRight_330 : decode cL_arePlansRight 330 = .ok (.iconst 0, 1) := by decide +kernel
theorem dL_arePlansRight_331 : decode cL_arePlansRight 331 = .ok (.istore 4, 2) := by decide +kernel
theorem dL_arePlansRight_333 : decode cL_arePlansRight 333 = .ok (.iconst 0, 1) := by decide +kernel
theorem dL_arePlansRight_334 : decode cL_arePlansRight 334 = .ok (.istore 5, 2) := by decide +kernel
theorem dL_arePlansRight_336 : decode cL_arePlansRight 336 = .ok (.iload 5, 2) := by decide +kernel
theorem dL_arePlansRight_338 : decode cL_arePlansRight 338 = .ok (.iload_n 3, 1) := by decide +kernel
theorem dL_arePlansRight_339 : decode cL_arePlansRight 339 = .ok (.if_icmp .ge 22, 3) := by decide +kernel
theorem dL_arePlansRight_342 : decode cL_arePlansRight 342 = .ok (.iload 4, 2) := by decide +kernel
theorem dL_arePlansRight_344 : decode cL_arePlansRight 344 = .ok (.iconst 1, 1) := by decide +kernel
theorem dL_arePlansRight_345 : decode cL_arePlansRight 345 = .ok (.aload_n 0, 1) := by decide +kernel
theorem dL_arePlansRight_346 : decode cL_arePlansRight 346 = .ok (.iload 5, 2) := by decide +kernel
theorem dL_arePlansRight_348 : decode cL_arePlansRight 348 = .ok (.invokevirtual 152, 3) := by decide +kernel
theorem dL_arePlansRight_351 : decode cL_arePlansRight 351 = .ok (.ishl, 1) := by decide +kernel
theorem dL_arePlansRight_352 : decode cL_arePlansRight 352 = .ok (.ior, 1) := by decide +kernel
theorem dL_arePlansRight_353 : decode cL_arePlansRight 353 = .ok (.istore 4, 2) := by decide +kernel
theorem dL_arePlansRight_355 : decode cL_arePlansRight 355 = .ok (.iinc 5 1, 3) := by decide +kernel
theorem dL_arePlansRight_358 : decode cL_arePlansRight 358 = .ok (.goto (-22), 3) := by decide +kernel
theorem dL_arePlansRight_361 : decode cL_arePlansRight 361 = .ok (.iload 4, 2) := by decide +kernel
theorem dL_arePlansRight_363 : decode cL_arePlansRight 363 = .ok (.invokestatic 155, 3) := by decide +kernel
theorem dL_arePlansRight_366 : decode cL_arePlansRight 366 = .ok (.iload_n 3, 1) := by decide +kernel
theorem dL_arePlansRight_367 : decode cL_arePlansRight 367 = .ok (.if_icmp .ne 32, 3) := by decide +kernel
theorem dL_arePlansRight_370 : decode cL_arePlansRight 370 = .ok (.aload_n 0, 1) := by decide +kernel
theorem dL_arePlansRight_371 : decode cL_arePlansRight 371 = .ok (.invokevirtual 140, 3) := by decide +kernel
theorem dL_arePlansRight_374 : decode cL_arePlansRight 374 = .ok (.ifCond .lt 25, 3) := by decide +kernel
theorem dL_arePlansRight_377 : decode cL_arePlansRight 377 = .ok (.aload_n 0, 1) := by decide +kernel
theorem dL_arePlansRight_378 : decode cL_arePlansRight 378 = .ok (.invokevirtual 99, 3) := by decide +kernel
theorem dL_arePlansRight_381 : decode cL_arePlansRight 381 = .ok (.ifCond .gt 14, 3) := by decide +kernel
theorem dL_arePlansRight_384 : decode cL_arePlansRight 384 = .ok (.aload_n 0, 1) := by decide +kernel
theorem dL_arePlansRight_385 : decode cL_arePlansRight 385 = .ok (.invokevirtual 140, 3) := by decide +kernel
theorem dL_arePlansRight_388 : decode cL_arePlansRight 388 = .ok (.aload_n 0, 1) := by decide +kernel
theorem dL_arePlansRight_389 : decode cL_arePlansRight 389 = .ok (.invokevirtual 131, 3) := by decide +kernel
theorem dL_arePlansRight_392 : decode cL_arePlansRight 392 = .ok (.if_icmp .lt 7, 3) := by decide +kernel
theorem dL_arePlansRight_395 : decode cL_arePlansRight 395 = .ok (.iconst 1, 1) := by decide +kernel
theorem dL_arePlansRight_396 : decode cL_arePlansRight 396 = .ok (.goto 4, 3) := by decide +kernel
theorem dL_arePlansRight_399 : decode cL_arePlansRight 399 = .ok (.iconst 0, 1) := by decide +kernel
theorem dL_arePlansRight_400 : decode cL_arePlansRight 400 = .ok (.ireturn, 1) := by decide +kernel
theorem dL_areLinksRight_0 : decode cL_areLinksRight 0 = .ok (.iconst 0, 1) := by decide +kernel
theorem dL_areLinksRight_1 : decode cL_areLinksRight 1 = .ok (.istore_n 2, 1) := by decide +kernel
theorem dL_areLinksRight_2 : decode cL_areLinksRight 2 = .ok (.iload_n 2, 1) := by decide +kernel
theorem dL_areLinksRight_3 : decode cL_areLinksRight 3 = .ok (.aload_n 0, 1) := by decide +kernel
theorem dL_areLinksRight_4 : decode cL_areLinksRight 4 = .ok (.invokevirtual 59, 3) := by decide +kernel
theorem dL_areLinksRight_7 : decode cL_areLinksRight 7 = .ok (.if_icmp .ge 258, 3) := by decide +kernel
theorem dL_areLinksRight_10 : decode cL_areLinksRight 10 = .ok (.aload_n 1, 1) := by decide +kernel
theorem dL_areLinksRight_11 : decode cL_areLinksRight 11 = .ok (.iload_n 2, 1) := by decide +kernel
theorem dL_areLinksRight_12 : decode cL_areLinksRight 12 = .ok (.aaload, 1) := by decide +kernel
theorem dL_areLinksRight_13 : decode cL_areLinksRight 13 = .ok (.iconst 0, 1) := by decide +kernel
theorem dL_areLinksRight_14 : decode cL_areLinksRight 14 = .ok (.iaload, 1) := by decide +kernel
theorem dL_areLinksRight_15 : decode cL_areLinksRight 15 = .ok (.istore_n 3, 1) := by decide +kernel
theorem dL_areLinksRight_16 : decode cL_areLinksRight 16 = .ok (.aload_n 1, 1) := by decide +kernel
theorem dL_areLinksRight_17 : decode cL_areLinksRight 17 = .ok (.iload_n 2, 1) := by decide +kernel
theorem dL_areLinksRight_18 : decode cL_areLinksRight 18 = .ok (.aaload, 1) := by decide +kernel
theorem dL_areLinksRight_19 : decode cL_areLinksRight 19 = .ok (.iconst 1, 1) := by decide +kernel
theorem dL_areLinksRight_20 : decode cL_areLinksRight 20 = .ok (.iaload, 1) := by decide +kernel
theorem dL_areLinksRight_21 : decode cL_areLinksRight 21 = .ok (.istore 4, 2) := by decide +kernel
theorem dL_areLinksRight_23 : decode cL_areLinksRight 23 = .ok (.aload_n 0, 1) := by decide +kernel
theorem dL_areLinksRight_24 : decode cL_areLinksRight 24 = .ok (.iload 4, 2) := by decide +kernel
theorem dL_areLinksRight_26 : decode cL_areLinksRight 26 = .ok (.invokestatic 118, 3) := by decide +kernel
theorem dL_areLinksRight_29 : decode cL_areLinksRight 29 = .ok (.ifCond .eq 6, 3) := by decide +kernel
theorem dL_areLinksRight_32 : decode cL_areLinksRight 32 = .ok (.goto 227, 3) := by decide +kernel
theorem dL_areLinksRight_35 : decode cL_areLinksRight 35 = .ok (.aload_n 1, 1) := by decide +kernel
theorem dL_areLinksRight_36 : decode cL_areLinksRight 36 = .ok (.iload_n 2, 1) := by decide +kernel
theorem dL_areLinksRight_37 : decode cL_areLinksRight 37 = .ok (.aaload, 1) := by decide +kernel
theorem dL_areLinksRight_38 : decode cL_areLinksRight 38 = .ok (.iconst 2, 1) := by decide +kernel
theorem dL_areLinksRight_39 : decode cL_areLinksRight 39 = .ok (.iaload, 1) := by decide +kernel
theorem dL_areLinksRight_40 : decode cL_areLinksRight 40 = .ok (.iconst 1, 1) := by decide +kernel
theorem dL_areLinksRight_41 : decode cL_areLinksRight 41 = .ok (.if_icmp .ne 11, 3) := by decide +kernel
theorem dL_areLinksRight_44 : decode cL_areLinksRight 44 = .ok (.aload_n 0, 1) := by decide +kernel
theorem dL_areLinksRight_45 : decode cL_areLinksRight 45 = .ok (.iload_n 3, 1) := by decide +kernel
theorem dL_areLinksRight_46 : decode cL_areLinksRight 46 = .ok (.invokevirtual 128, 3) := by decide +kernel
theorem dL_areLinksRight_49 : decode cL_areLinksRight 49 = .ok (.goto 8, 3) := by decide +kernel
theorem dL_areLinksRight_52 : decode cL_areLinksRight 52 = .ok (.aload_n 0, 1) := by decide +kernel
theorem dL_areLinksRight_53 : decode cL_areLinksRight 53 = .ok (.iload_n 3, 1) := by decide +kernel
theorem dL_areLinksRight_54 : decode cL_areLinksRight 54 = .ok (.invokevirtual 143, 3) := by decide +kernel
theorem dL_areLinksRight_57 : decode cL_areLinksRight 57 = .ok (.istore 5, 2) := by decide +kernel
theorem dL_areLinksRight_59 : decode cL_areLinksRight 59 = .ok (.aload_n 0, 1) := by decide +kernel
theorem dL_areLinksRight_60 : decode cL_areLinksRight 60 = .ok (.iload_n 3, 1) := by decide +kernel
theorem dL_areLinksRight_61 : decode cL_areLinksRight 61 = .ok (.invokestatic 118, 3) := by decide +kernel
theorem dL_areLinksRight_64 : decode cL_areLinksRight 64 = .ok (.ifCond .ne 53, 3) := by decide +kernel
theorem dL_areLinksRight_67 : decode cL_areLinksRight 67 = .ok (.aload_n 0, 1) := by decide +kernel
theorem dL_areLinksRight_68 : decode cL_areLinksRight 68 = .ok (.iload_n 3, 1) := by decide +kernel
theorem dL_areLinksRight_69 : decode cL_areLinksRight 69 = .ok (.invokevirtual 128, 3) := by decide +kernel
theorem dL_areLinksRight_72 : decode cL_areLinksRight 72 = .ok (.aload_n 0, 1) := by decide +kernel
theorem dL_areLinksRight_73 : decode cL_areLinksRight 73 = .ok (.iload_n 3, 1) := by decide +kernel
theorem dL_areLinksRight_74 : decode cL_areLinksRight 74 = .ok (.invokevirtual 125, 3) := by decide +kernel
theorem dL_areLinksRight_77 : decode cL_areLinksRight 77 = .ok (.if_icmp .le 40, 3) := by decide +kernel
theorem dL_areLinksRight_80 : decode cL_areLinksRight 80 = .ok (.aload_n 1, 1) := by decide +kernel
theorem dL_areLinksRight_81 : decode cL_areLinksRight 81 = .ok (.iload_n 2, 1) := by decide +kernel
theorem dL_areLinksRight_82 : decode cL_areLinksRight 82 = .ok (.aaload, 1) := by decide +kernel
theorem dL_areLinksRight_83 : decode cL_areLinksRight 83 = .ok (.iconst 2, 1) := by decide +kernel
theorem dL_areLinksRight_84 : decode cL_areLinksRight 84 = .ok (.iaload, 1) := by decide +kernel
theorem dL_areLinksRight_85 : decode cL_areLinksRight 85 = .ok (.iconst 2, 1) := by decide +kernel
theorem dL_areLinksRight_86 : decode cL_areLinksRight 86 = .ok (.if_icmp .ne 12, 3) := by decide +kernel
theorem dL_areLinksRight_89 : decode cL_areLinksRight 89 = .ok (.aload_n 0, 1) := by decide +kernel
theorem dL_areLinksRight_90 : decode cL_areLinksRight 90 = .ok (.iload 4, 2) := by decide +kernel
theorem dL_areLinksRight_92 : decode cL_areLinksRight 92 = .ok (.invokevirtual 143, 3) := by decide +kernel
theorem dL_areLinksRight_95 : decode cL_areLinksRight 95 = .ok (.goto 9, 3) := by decide +kernel
theorem dL_areLinksRight_98 : decode cL_areLinksRight 98 = .ok (.aload_n 0, 1) := by decide +kernel
theorem dL_areLinksRight_99 : decode cL_areLinksRight 99 = .ok (.iload 4, 2) := by decide +kernel
theorem dL_areLinksRight_101 : decode cL_areLinksRight 101 = .ok (.invokevirtual 128, 3) := by decide +kernel
theorem dL_areLinksRight_104 : decode cL_areLinksRight 104 = .ok (.iload 5, 2) := by decide +kernel
theorem dL_areLinksRight_106 : decode cL_areLinksRight 106 = .ok (.aload_n 1, 1) := by decide +kernel
theorem dL_areLinksRight_107 : decode cL_areLinksRight 107 = .ok (.iload_n 2, 1) := by decide +kernel
theorem dL_areLinksRight_108 : decode cL_areLinksRight 108 = .ok (.aaload, 1) := by decide +kernel
theorem dL_areLinksRight_109 : decode cL_areLinksRight 109 = .ok (.iconst 3, 1) := by decide +kernel
theorem dL_areLinksRight_110 : decode cL_areLinksRight 110 = .ok (.iaload, 1) := by decide +kernel
theorem dL_areLinksRight_111 : decode cL_areLinksRight 111 = .ok (.iadd, 1) := by decide +kernel
theorem dL_areLinksRight_112 : decode cL_areLinksRight 112 = .ok (.if_icmp .ge 5, 3) := by decide +kernel
theorem dL_areLinksRight_115 : decode cL_areLinksRight 115 = .ok (.iconst 0, 1) := by decide +kernel
theorem dL_areLinksRight_116 : decode cL_areLinksRight 116 = .ok (.ireturn, 1) := by decide +kernel
theorem dL_areLinksRight_117 : decode cL_areLinksRight 117 = .ok (.aload_n 1, 1) := by decide +kernel
theorem dL_areLinksRight_118 : decode cL_areLinksRight 118 = .ok (.iload_n 2, 1) := by decide +kernel
theorem dL_areLinksRight_119 : decode cL_areLinksRight 119 = .ok (.aaload, 1) := by decide +kernel
theorem dL_areLinksRight_120 : decode cL_areLinksRight 120 = .ok (.iconst 2, 1) := by decide +kernel
theorem dL_areLinksRight_121 : decode cL_areLinksRight 121 = .ok (.iaload, 1) := by decide +kernel
theorem dL_areLinksRight_122 : decode cL_areLinksRight 122 = .ok (.iconst 1, 1) := by decide +kernel
theorem dL_areLinksRight_123 : decode cL_areLinksRight 123 = .ok (.if_icmp .ne 11, 3) := by decide +kernel
theorem dL_areLinksRight_126 : decode cL_areLinksRight 126 = .ok (.aload_n 0, 1) := by decide +kernel
theorem dL_areLinksRight_127 : decode cL_areLinksRight 127 = .ok (.iload_n 3, 1) := by decide +kernel
theorem dL_areLinksRight_128 : decode cL_areLinksRight 128 = .ok (.invokevirtual 125, 3) := by decide +kernel
theorem dL_areLinksRight_131 : decode cL_areLinksRight 131 = .ok (.goto 8, 3) := by decide +kernel
theorem dL_areLinksRight_134 : decode cL_areLinksRight 134 = .ok (.aload_n 0, 1) := by decide +kernel
theorem dL_areLinksRight_135 : decode cL_areLinksRight 135 = .ok (.iload_n 3, 1) := by decide +kernel
theorem dL_areLinksRight_136 : decode cL_areLinksRight 136 = .ok (.invokevirtual 122, 3) := by decide +kernel
theorem dL_areLinksRight_139 : decode cL_areLinksRight 139 = .ok (.istore 6, 2) := by decide +kernel
theorem dL_areLinksRight_141 : decode cL_areLinksRight 141 = .ok (.aload_n 1, 1) := by decide +kernel
theorem dL_areLinksRight_142 : decode cL_areLinksRight 142 = .ok (.iload_n 2, 1) := by decide +kernel
theorem dL_areLinksRight_143 : decode cL_areLinksRight 143 = .ok (.aaload, 1) := by decide +kernel
theorem dL_areLinksRight_144 : decode cL_areLinksRight 144 = .ok (.iconst 2, 1) := by decide +kernel
theorem dL_areLinksRight_145 : decode cL_areLinksRight 145 = .ok (.iaload, 1) := by decide +kernel
theorem dL_areLinksRight_146 : decode cL_areLinksRight 146 = .ok (.iconst 2, 1) := by decide +kernel
theorem dL_areLinksRight_147 : decode cL_areLinksRight 147 = .ok (.if_icmp .ne 12, 3) := by decide +kernel
theorem dL_areLinksRight_150 : decode cL_areLinksRight 150 = .ok (.aload_n 0, 1) := by decide +kernel
theorem dL_areLinksRight_151 : decode cL_areLinksRight 151 = .ok (.iload 4, 2) := by decide +kernel
theorem dL_areLinksRight_153 : decode cL_areLinksRight 153 = .ok (.invokevirtual 122, 3) := by decide +kernel
theorem dL_areLinksRight_156 : decode cL_areLinksRight 156 = .ok (.goto 9, 3) := by decide +kernel
theorem dL_areLinksRight_159 : decode cL_areLinksRight 159 = .ok (.aload_n 0, 1) := by decide +kernel
theorem dL_areLinksRight_160 : decode cL_areLinksRight 160 = .ok (.iload 4, 2) := by decide +kernel
theorem dL_areLinksRight_162 : decode cL_areLinksRight 162 = .ok (.invokevirtual 125, 3) := by decide +kernel
theorem dL_areLinksRight_165 : decode cL_areLinksRight 165 = .ok (.iload 6, 2) := by decide +kernel
theorem dL_areLinksRight_167 : decode cL_areLinksRight 167 = .ok (.aload_n 1, 1) := by decide +kernel
theorem dL_areLinksRight_168 : decode cL_areLinksRight 168 = .ok (.iload_n 2, 1) := by decide +kernel
theorem dL_areLinksRight_169 : decode cL_areLinksRight 169 = .ok (.aaload, 1) := by decide +kernel
theorem dL_areLinksRight_170 : decode cL_areLinksRight 170 = .ok (.iconst 3, 1) := by decide +kernel
theorem dL_areLinksRight_171 : decode cL_areLinksRight 171 = .ok (.iaload, 1) := by decide +kernel
theorem dL_areLinksRight_172 : decode cL_areLinksRight 172 = .ok (.iadd, 1) := by decide +kernel
theorem dL_areLinksRight_173 : decode cL_areLinksRight 173 = .ok (.if_icmp .ge 5, 3) := by decide +kernel
theorem dL_areLinksRight_176 : decode cL_areLinksRight 176 = .ok (.iconst 0, 1) := by decide +kernel
theorem dL_areLinksRight_177 : decode cL_areLinksRight 177 = .ok (.ireturn, 1) := by decide +kernel
theorem dL_areLinksRight_178 : decode cL_areLinksRight 178 = .ok (.aload_n 0, 1) := by decide +kernel
theorem dL_areLinksRight_179 : decode cL_areLinksRight 179 = .ok (.iload 4, 2) := by decide +kernel
theorem dL_areLinksRight_181 : decode cL_areLinksRight 181 = .ok (.invokevirtual 115, 3) := by decide +kernel
theorem dL_areLinksRight_184 : decode cL_areLinksRight 184 = .ok (.ifCond .ge 6, 3) := by decide +kernel
theorem dL_areLinksRight_187 : decode cL_areLinksRight 187 = .ok (.goto 72, 3) := by decide +kernel
theorem dL_areLinksRight_190 : decode cL_areLinksRight 190 = .ok (.aload_n 1, 1) := by decide +kernel
theorem dL_areLinksRight_191 : decode cL_areLinksRight 191 = .ok (.iload_n 2, 1) := by decide +kernel
theorem dL_areLinksRight_192 : decode cL_areLinksRight 192 = .ok (.aaload, 1) := by decide +kernel
theorem dL_areLinksRight_193 : decode cL_areLinksRight 193 = .ok (.iconst 2, 1) := by decide +kernel
theorem dL_areLinksRight_194 : decode cL_areLinksRight 194 = .ok (.iaload, 1) := by decide +kernel
theorem dL_areLinksRight_195 : decode cL_areLinksRight 195 = .ok (.iconst 1, 1) := by decide +kernel
theorem dL_areLinksRight_196 : decode cL_areLinksRight 196 = .ok (.if_icmp .ne 11, 3) := by decide +kernel
theorem dL_areLinksRight_199 : decode cL_areLinksRight 199 = .ok (.aload_n 0, 1) := by decide +kernel
theorem dL_areLinksRight_200 : decode cL_areLinksRight 200 = .ok (.iload_n 3, 1) := by decide +kernel
theorem dL_areLinksRight_201 : decode cL_areLinksRight 201 = .ok (.invokevirtual 115, 3) := by decide +kernel
theorem dL_areLinksRight_204 : decode cL_areLinksRight 204 = .ok (.goto 8, 3) := by decide +kernel
theorem dL_areLinksRight_207 : decode cL_areLinksRight 207 = .ok (.aload_n 0, 1) := by decide +kernel
theorem dL_areLinksRight_208 : decode cL_areLinksRight 208 = .ok (.iload_n 3, 1) := by decide +kernel
theorem dL_areLinksRight_209 : decode cL_areLinksRight 209 = .ok (.invokevirtual 137, 3) := by decide +kernel
theorem dL_areLinksRight_212 : decode cL_areLinksRight 212 = .ok (.istore 7, 2) := by decide +kernel
theorem dL_areLinksRight_214 : decode cL_areLinksRight 214 = .ok (.aload_n 0, 1) := by decide +kernel
theorem dL_areLinksRight_215 : decode cL_areLinksRight 215 = .ok (.iload_n 3, 1) := by decide +kernel
theorem dL_areLinksRight_216 : decode cL_areLinksRight 216 = .ok (.invokevirtual 115, 3) := by decide +kernel
theorem dL_areLinksRight_219 : decode cL_areLinksRight 219 = .ok (.ifCond .lt 38, 3) := by decide +kernel
theorem dL_areLinksRight_222 : decode cL_areLinksRight 222 = .ok (.aload_n 1, 1) := by decide +kernel
theorem dL_areLinksRight_223 : decode cL_areLinksRight 223 = .ok (.iload_n 2, 1) := by decide +kernel
theorem dL_areLinksRight_224 : decode cL_areLinksRight 224 = .ok (.aaload, 1) := by decide +kernel
theorem dL_areLinksRight_225 : decode cL_areLinksRight 225 = .ok (.iconst 2, 1) := by decide +kernel
theorem dL_areLinksRight_226 : decode cL_areLinksRight 226 = .ok (.iaload, 1) := by decide +kernel
theorem dL_areLinksRight_227 : decode cL_areLinksRight 227 = .ok (.iconst 2, 1) := by decide +kernel
theorem dL_areLinksRight_228 : decode cL_areLinksRight 228 = .ok (.if_icmp .ne 12, 3) := by decide +kernel
theorem dL_areLinksRight_231 : decode cL_areLinksRight 231 = .ok (.aload_n 0, 1) := by decide +kernel
theorem dL_areLinksRight_232 : decode cL_areLinksRight 232 = .ok (.iload 4, 2) := by decide +kernel
theorem dL_areLinksRight_234 : decode cL_areLinksRight 234 = .ok (.invokevirtual 137, 3) := by decide +kernel
theorem dL_areLinksRight_237 : decode cL_areLinksRight 237 = .ok (.goto 9, 3) := by decide +kernel
theorem dL_areLinksRight_240 : decode cL_areLinksRight 240 = .ok (.aload_n 0, 1) := by decide +kernel
theorem dL_areLinksRight_241 : decode cL_areLinksRight 241 = .ok (.iload 4, 2) := by decide +kernel
theorem dL_areLinksRight_243 : decode cL_areLinksRight 243 = .ok (.invokevirtual 115, 3) := by decide +kernel
theorem dL_areLinksRight_246 : decode cL_areLinksRight 246 = .ok (.iload 7, 2) := by decide +kernel
theorem dL_areLinksRight_248 : decode cL_areLinksRight 248 = .ok (.aload_n 1, 1) := by decide +kernel
theorem dL_areLinksRight_249 : decode cL_areLinksRight 249 = .ok (.iload_n 2, 1) := by decide +kernel
theorem dL_areLinksRight_250 : decode cL_areLinksRight 250 = .ok (.aaload, 1) := by decide +kernel
theorem dL_areLinksRight_251 : decode cL_areLinksRight 251 = .ok (.iconst 3, 1) := by decide +kernel
theorem dL_areLinksRight_252 : decode cL_areLinksRight 252 = .ok (.iaload, 1) := by decide +kernel
theorem dL_areLinksRight_253 : decode cL_areLinksRight 253 = .ok (.iadd, 1) := by decide +kernel
theorem dL_areLinksRight_254 : decode cL_areLinksRight 254 = .ok (.if_icmp .ge 5, 3) := by decide +kernel
theorem dL_areLinksRight_257 : decode cL_areLinksRight 257 = .ok (.iconst 0, 1) := by decide +kernel
theorem dL_areLinksRight_258 : decode cL_areLinksRight 258 = .ok (.ireturn, 1) := by decide +kernel
theorem dL_areLinksRight_259 : decode cL_areLinksRight 259 = .ok (.iinc 2 1, 3) := by decide +kernel
theorem dL_areLinksRight_262 : decode cL_areLinksRight 262 = .ok (.goto (-260), 3) := by decide +kernel
theorem dL_areLinksRight_265 : decode cL_areLinksRight 265 = .ok (.iconst 1, 1) := by decide +kernel
theorem dL_areLinksRight_266 : decode cL_areLinksRight 266 = .ok (.ireturn, 1) := by decide +kernel
theorem dL_areCrewsRight_0 : decode cL_areCrewsRight 0 = .ok (.iconst 0, 1) := by decide +kernel
theorem dL_areCrewsRight_1 : decode cL_areCrewsRight 1 = .ok (.istore_n 2, 1) := by decide +kernel
theorem dL_areCrewsRight_2 : decode cL_areCrewsRight 2 = .ok (.iconst 0, 1) := by decide +kernel
theorem dL_areCrewsRight_3 : decode cL_areCrewsRight 3 = .ok (.istore_n 3, 1) := by decide +kernel
theorem dL_areCrewsRight_4 : decode cL_areCrewsRight 4 = .ok (.iload_n 3, 1) := by decide +kernel
theorem dL_areCrewsRight_5 : decode cL_areCrewsRight 5 = .ok (.aload_n 0, 1) := by decide +kernel
theorem dL_areCrewsRight_6 : decode cL_areCrewsRight 6 = .ok (.invokevirtual 39, 3) := by decide +kernel
theorem dL_areCrewsRight_9 : decode cL_areCrewsRight 9 = .ok (.if_icmp .ge 17, 3) := by decide +kernel
theorem dL_areCrewsRight_12 : decode cL_areCrewsRight 12 = .ok (.iload_n 2, 1) := by decide +kernel
theorem dL_areCrewsRight_13 : decode cL_areCrewsRight 13 = .ok (.aload_n 0, 1) := by decide +kernel
theorem dL_areCrewsRight_14 : decode cL_areCrewsRight 14 = .ok (.iload_n 3, 1) := by decide +kernel
theorem dL_areCrewsRight_15 : decode cL_areCrewsRight 15 = .ok (.invokestatic 118, 3) := by decide +kernel
theorem dL_areCrewsRight_18 : decode cL_areCrewsRight 18 = .ok (.ior, 1) := by decide +kernel
theorem dL_areCrewsRight_19 : decode cL_areCrewsRight 19 = .ok (.istore_n 2, 1) := by decide +kernel
theorem dL_areCrewsRight_20 : decode cL_areCrewsRight 20 = .ok (.iinc 3 1, 3) := by decide +kernel
theorem dL_areCrewsRight_23 : decode cL_areCrewsRight 23 = .ok (.goto (-19), 3) := by decide +kernel
theorem dL_areCrewsRight_26 : decode cL_areCrewsRight 26 = .ok (.iconst 0, 1) := by decide +kernel
theorem dL_areCrewsRight_27 : decode cL_areCrewsRight 27 = .ok (.istore_n 3, 1) := by decide +kernel
theorem dL_areCrewsRight_28 : decode cL_areCrewsRight 28 = .ok (.iload_n 3, 1) := by decide +kernel
theorem dL_areCrewsRight_29 : decode cL_areCrewsRight 29 = .ok (.iconst 3, 1) := by decide +kernel
theorem dL_areCrewsRight_30 : decode cL_areCrewsRight 30 = .ok (.if_icmp .ge 112, 3) := by decide +kernel
theorem dL_areCrewsRight_33 : decode cL_areCrewsRight 33 = .ok (.iconst 0, 1) := by decide +kernel
theorem dL_areCrewsRight_34 : decode cL_areCrewsRight 34 = .ok (.istore 4, 2) := by decide +kernel
theorem dL_areCrewsRight_36 : decode cL_areCrewsRight 36 = .ok (.iconst 0, 1) := by decide +kernel
theorem dL_areCrewsRight_37 : decode cL_areCrewsRight 37 = .ok (.istore 5, 2) := by decide +kernel
theorem dL_areCrewsRight_39 : decode cL_areCrewsRight 39 = .ok (.iload 5, 2) := by decide +kernel
theorem dL_areCrewsRight_41 : decode cL_areCrewsRight 41 = .ok (.bipush 40, 2) := by decide +kernel
theorem dL_areCrewsRight_43 : decode cL_areCrewsRight 43 = .ok (.aload_n 0, 1) := by decide +kernel
theorem dL_areCrewsRight_44 : decode cL_areCrewsRight 44 = .ok (.invokevirtual 140, 3) := by decide +kernel
theorem dL_areCrewsRight_47 : decode cL_areCrewsRight 47 = .ok (.invokestatic 160, 3) := by decide +kernel
theorem dL_areCrewsRight_50 : decode cL_areCrewsRight 50 = .ok (.if_icmp .ge 23, 3) := by decide +kernel
theorem dL_areCrewsRight_53 : decode cL_areCrewsRight 53 = .ok (.iload 4, 2) := by decide +kernel
theorem dL_areCrewsRight_55 : decode cL_areCrewsRight 55 = .ok (.aload_n 0, 1) := by decide +kernel
theorem dL_areCrewsRight_56 : decode cL_areCrewsRight 56 = .ok (.iload_n 3, 1) := by decide +kernel
theorem dL_areCrewsRight_57 : decode cL_areCrewsRight 57 = .ok (.iload 5, 2) := by decide +kernel
theorem dL_areCrewsRight_59 : decode cL_areCrewsRight 59 = .ok (.invokevirtual 163, 3) := by decide +kernel
theorem dL_areCrewsRight_62 : decode cL_areCrewsRight 62 = .ok (.invokestatic 43, 3) := by decide +kernel
theorem dL_areCrewsRight_65 : decode cL_areCrewsRight 65 = .ok (.istore 4, 2) := by decide +kernel
theorem dL_areCrewsRight_67 : decode cL_areCrewsRight 67 = .ok (.iinc 5 1, 3) := by decide +kernel
theorem dL_areCrewsRight_70 : decode cL_areCrewsRight 70 = .ok (.goto (-31), 3) := by decide +kernel
theorem dL_areCrewsRight_73 : decode cL_areCrewsRight 73 = .ok (.iload 4, 2) := by decide +kernel
theorem dL_areCrewsRight_75 : decode cL_areCrewsRight 75 = .ok (.aload_n 0, 1) := by decide +kernel
theorem dL_areCrewsRight_76 : decode cL_areCrewsRight 76 = .ok (.iload_n 3, 1) := by decide +kernel
theorem dL_areCrewsRight_77 : decode cL_areCrewsRight 77 = .ok (.invokevirtual 166, 3) := by decide +kernel
theorem dL_areCrewsRight_80 : decode cL_areCrewsRight 80 = .ok (.if_icmp .gt 54, 3) := by decide +kernel
theorem dL_areCrewsRight_83 : decode cL_areCrewsRight 83 = .ok (.iload_n 2, 1) := by decide +kernel
theorem dL_areCrewsRight_84 : decode cL_areCrewsRight 84 = .ok (.ifCond .ne 14, 3) := by decide +kernel
theorem dL_areCrewsRight_87 : decode cL_areCrewsRight 87 = .ok (.aload_n 0, 1) := by decide +kernel
theorem dL_areCrewsRight_88 : decode cL_areCrewsRight 88 = .ok (.iload_n 3, 1) := by decide +kernel
theorem dL_areCrewsRight_89 : decode cL_areCrewsRight 89 = .ok (.invokevirtual 166, 3) := by decide +kernel
theorem dL_areCrewsRight_92 : decode cL_areCrewsRight 92 = .ok (.aload_n 1, 1) := by decide +kernel
theorem dL_areCrewsRight_93 : decode cL_areCrewsRight 93 = .ok (.iload_n 3, 1) := by decide +kernel
theorem dL_areCrewsRight_94 : decode cL_areCrewsRight 94 = .ok (.iaload, 1) := by decide +kernel
theorem dL_areCrewsRight_95 : decode cL_areCrewsRight 95 = .ok (.if_icmp .gt 39, 3) := by decide +kernel
theorem dL_areCrewsRight_98 : decode cL_areCrewsRight 98 = .ok (.aload_n 0, 1) := by decide +kernel
theorem dL_areCrewsRight_99 : decode cL_areCrewsRight 99 = .ok (.iload_n 3, 1) := by decide +kernel
theorem dL_areCrewsRight_100 : decode cL_areCrewsRight 100 = .ok (.invokevirtual 169, 3) := by decide +kernel
theorem dL_areCrewsRight_103 : decode cL_areCrewsRight 103 = .ok (.ifCond .lt 31, 3) := by decide +kernel
theorem dL_areCrewsRight_106 : decode cL_areCrewsRight 106 = .ok (.aload_n 0, 1) := by decide +kernel
theorem dL_areCrewsRight_107 : decode cL_areCrewsRight 107 = .ok (.iload_n 3, 1) := by decide +kernel
theorem dL_areCrewsRight_108 : decode cL_areCrewsRight 108 = .ok (.invokevirtual 169, 3) := by decide +kernel
theorem dL_areCrewsRight_111 : decode cL_areCrewsRight 111 = .ok (.aload_n 1, 1) := by decide +kernel
theorem dL_areCrewsRight_112 : decode cL_areCrewsRight 112 = .ok (.iload_n 3, 1) := by decide +kernel
theorem dL_areCrewsRight_113 : decode cL_areCrewsRight 113 = .ok (.iaload, 1) := by decide +kernel
theorem dL_areCrewsRight_114 : decode cL_areCrewsRight 114 = .ok (.aload_n 0, 1) := by decide +kernel
theorem dL_areCrewsRight_115 : decode cL_areCrewsRight 115 = .ok (.invokevirtual 140, 3) := by decide +kernel
theorem dL_areCrewsRight_118 : decode cL_areCrewsRight 118 = .ok (.imul, 1) := by decide +kernel
theorem dL_areCrewsRight_119 : decode cL_areCrewsRight 119 = .ok (.if_icmp .gt 15, 3) := by decide +kernel
theorem dL_areCrewsRight_122 : decode cL_areCrewsRight 122 = .ok (.aload_n 0, 1) := by decide +kernel
theorem dL_areCrewsRight_123 : decode cL_areCrewsRight 123 = .ok (.iload_n 3, 1) := by decide +kernel
theorem dL_areCrewsRight_124 : decode cL_areCrewsRight 124 = .ok (.invokevirtual 172, 3) := by decide +kernel
theorem dL_areCrewsRight_127 : decode cL_areCrewsRight 127 = .ok (.aload_n 0, 1) := by decide +kernel
theorem dL_areCrewsRight_128 : decode cL_areCrewsRight 128 = .ok (.invokevirtual 131, 3) := by decide +kernel
theorem dL_areCrewsRight_131 : decode cL_areCrewsRight 131 = .ok (.if_icmp .le 5, 3) := by decide +kernel
theorem dL_areCrewsRight_134 : decode cL_areCrewsRight 134 = .ok (.iconst 0, 1) := by decide +kernel
theorem dL_areCrewsRight_135 : decode cL_areCrewsRight 135 = .ok (.ireturn, 1) := by decide +kernel
theorem dL_areCrewsRight_136 : decode cL_areCrewsRight 136 = .ok (.iinc 3 1, 3) := by decide +kernel
theorem dL_areCrewsRight_139 : decode cL_areCrewsRight 139 = .ok (.goto (-111), 3) := by decide +kernel
theorem dL_areCrewsRight_142 : decode cL_areCrewsRight 142 = .ok (.iconst 1, 1) := by decide +kernel
theorem dL_areCrewsRight_143 : decode cL_areCrewsRight 143 = .ok (.ireturn, 1) := by decide +kernel
end
section
/-! ===== THE LAYER: one predicate WP over the machine, with the heap as a function from addresses to cells ===== -/
/-- the words that every method of ours is given: those of the tables that keep -/
def AW : List Cond := lw_tbl.filter goodWord
theorem aw_t {w : Cond} (i : Nat) (h : tables_1[i]? = some w) (hg : goodWord w = true) : w ∈ AW :=
  List.mem_filter.mpr ⟨List.mem_append_right _ (List.mem_of_getElem? h), hg⟩
theorem aw_s {w : Cond} (i : Nat) (h : (k2_sels lw_privs)[i]? = some w) (hg : goodWord w = true) : w ∈ AW :=
  List.mem_filter.mpr ⟨List.mem_append_left _ (List.mem_of_getElem? h), hg⟩
theorem aw_good : GoodIn AW AW := fun w h => ⟨h, good_of_word (List.mem_filter.mp h).2⟩
theorem aw_goodIn {ws : List Cond} (h : ∀ w ∈ ws, w ∈ AW) : GoodIn AW ws := fun w hw => aw_good w (h w hw)
/-- the classes whose objects the worlds hold -/
abbrev swCl : List vw_C := [(RX0, TX0, 3), (RX1, TX1, 2), (RX2, TX2, 5), (RX3, TX3, 7), (RX4, TX4, 4), (RX5, TX5, 2), (RX6, TX6, 5), (RX7, TX7, 2), (RX8, TX8, 9), (RX9, TX9, 8), (RX10, TX10, 8)]
/-- launch, classes' numbers and slots, the arrays' classes, the first address that is the law's own, the texts' addresses -/
abbrev Ctx : Type := Launch × va_G × (Nat → ClassId) × Nat × (Nat → Nat)
abbrev cL (G : Ctx) : Launch := G.1
abbrev cD (G : Ctx) : va_G := G.2.1
abbrev cA (G : Ctx) : Nat → ClassId := G.2.2.1
abbrev cB (G : Ctx) : Nat := G.2.2.2.1
abbrev cS (G : Ctx) : Nat → Nat := G.2.2.2.2
abbrev cF (G : Ctx) : Nat → Prop := fun q => cB G ≤ q
abbrev AH : Type := Nat → Option va_E
def hup (h : AH) (a : Nat) (e : va_E) : AH := fun q => if q = a then some e else h q
theorem hup_self (h : AH) (a : Nat) (e : va_E) : hup h a e a = some e := if_pos rfl
theorem hup_ne {h : AH} {a b : Nat} {e : va_E} (hn : b ≠ a) : hup h a e b = h b := if_neg hn
abbrev J (i : Int) : Int32 := Int32.ofInt i
abbrev JV (i : Int) : Value := .int (Int32.ofInt i)
def InR (i : Int) : Prop := -2147483648 ≤ i ∧ i < 2147483648
theorem J_toInt {i : Int} (h : InR i) : (Int32.ofInt i).toInt = i := Int32.toInt_ofInt_of_le h.1 h.2
abbrev swTY : List FieldType := [.int, .boolean, .int, .int, .array .int, .object RX0, .object RX1, .object RX9, .object RX4]
abbrev swTys (a : Nat → ClassId) : List (ClassId × FieldType) := [(a 0, .int), (a 1, .boolean), (a 2, .int), (a 3, .int), (a 4, .array .int), (a 5, .object RX0), (a 6, .object RX1), (a 7, .object RX9), (a 8, .object RX4)]
/-- the words that don't keep of themselves -/
abbrev swNW : List Cond := [.methodLinkNest RX8 43 yX0_init RX10, .methodLinkNest RX8 44 yX1_init RX10, .methodLinkNest RX8 45 yX9_init RX10, .methodLinkNest RX8 46 yX4_init RX10, .methodLinkNest RX6 11 yX7_init RX10, .methodLinkNest RX3 11 yX7_init RX10, .methodLinkNest RX3 20 yX5_init RX10, .methodLinkNest RX10 34 yX5_init RX10, .methodLinkNest RX2 11 yX7_init RX10, .methodLinkNest RX2 36 yX0_init RX10, .methodLinkNest RX5 47 yX10_isWithin RX10]
abbrev swCA : List (String × String) := [("java/lang/IllegalArgumentException", "java/lang/IllegalArgumentException"), ("java/lang/IndexOutOfBoundsException", "java/lang/IndexOutOfBoundsException"), ("java/lang/IllegalStateException", "java/lang/IllegalStateException")]
abbrev swNC : List (String × String) := [("java/lang/IllegalArgumentException", "java/lang/IndexOutOfBoundsException"), ("java/lang/IllegalStateException", "java/lang/IndexOutOfBoundsException"), ("java/lang/IllegalArgumentException", "java/lang/IllegalStateException")]
abbrev swDE : List MethodName := [⟨"java/lang/RuntimeException", "<init>", "()V"⟩, ⟨"java/lang/RuntimeException", "<init>", "(Ljava/lang/String;)V"⟩, ⟨"java/lang/Exception", "<init>", "()V"⟩, ⟨"java/lang/Exception", "<init>", "(Ljava/lang/String;)V"⟩, ⟨"java/lang/Throwable", "<init>", "()V"⟩, ⟨"java/lang/Throwable", "<init>", "(Ljava/lang/String;)V"⟩]
abbrev swST : List (Nat × String) := [(278, "there is no such one"), (285, "a number is outside its bounds"), (290, "this can not be added")]
/-- an int[][] is an array of int[] -/
def swAOI (U : State) : Prop := (Cond.arrayOver (.array .int)).before #[] U = true
theorem swAOI.moved {u U : State} (hvm : u.vm.Alike U.vm) (h : swAOI u) : swAOI U := by
  have h1 : (Cond.arrayOver (.array .int)).before #[] (u.setVm U.vm) = true := (Cond.arrayOver_setVmC hvm (.array .int)).trans h
  exact h1
def swII (a0 a4 : ClassId) (U : State) : Prop := ∃ k0 k4 : Class, U.vm.classes[a0]? = some k0 ∧ U.vm.classes[a4]? = some k4 ∧ k4.kind = .array a0 (.array .int) ∧ (∃ c, k0.kind = .array c .int) ∧ swAOI U
theorem swII.moved {a0 a4 : ClassId} {u U : State} (hvm : u.vm.Alike U.vm) (h : swII a0 a4 u) : swII a0 a4 U := by
  obtain ⟨k0, k4, h0, h4, h1, ⟨c, h2⟩, h3⟩ := h
  obtain ⟨k0', g0, e0⟩ := hvm.2.2 _ _ h0
  obtain ⟨k4', g4, e4⟩ := hvm.2.2 _ _ h4
  exact ⟨k0', k4', g0, g4, by rw [e4]; exact h1, ⟨c, by rw [e0]; exact h2⟩, h3.moved hvm⟩
/-- what is known of a state's tables, and of the statics that a throw reads -/
def KN (G : Ctx) (s : State) : Prop :=
  (cL G).stackTraces = false ∧ va_K (cD G) swCl (swTys (cA G)) s ∧ (∀ w ∈ swNW, va_Nw w s) ∧ (∀ q ∈ swCA, va_Nw (.castable q.1 q.2) s) ∧ (∀ x ∈ swDE, va_Nw (.declares x) s) ∧
  (∀ q ∈ swNC, va_Nc q.1 q.2 s) ∧ (∀ C ∈ [RX0, RX1, RX9, RX4], va_AO C s) ∧ (∀ q ∈ swST, vk_R RX10 q.1 q.2 (cS G q.1) s) ∧ swII (cA G 0) (cA G 4) s ∧
  vx_Zq Bundle.tN "UNASSIGNED_STACK" Bundle.steD (cF G) s s.heap ∧ vx_Zq Bundle.tN "SUPPRESSED_SENTINEL" Bundle.listD (cF G) s s.heap ∧ cB G ≤ s.heap.size
theorem KN.moved {G : Ctx} {s U : State} (h : KN G s) (hW : s.WarmedH U.vm) (hz : s.heap.size ≤ U.heap.size) (hk : ∀ a : Nat, a < s.heap.size → ¬ cF G a → U.heap[a]? = s.heap[a]?) : KN G U := by
  obtain ⟨h1, h2, h3, h4, h5, h6, h7, h8, h9, h10, h11, h12⟩ := h
  refine ⟨h1, h2.moved hW.alike, fun w hw => ?_, fun q hq => (h4 q hq).warmC hW, fun x hx => (h5 x hx).warmD hW, fun q hq => (h6 q hq).moved hW.alike, fun C hC => (h7 C hC).moved hW.alike, fun q hq => (h8 q hq).warm hW, h9.moved hW.alike, (h10.moved hW.alike).kept hk, (h11.moved hW.alike).kept hk, Nat.le_trans h12 hz⟩
  have h := h3 w hw
  simp only [List.mem_cons, List.not_mem_nil, or_false] at hw
  rcases hw with rfl | rfl | rfl | rfl | rfl | rfl | rfl | rfl | rfl | rfl | rfl <;> exact h.warmM hW
theorem KN.blind {G : Ctx} {U : State} (h : KN G U) (g : JFrame) (mk : MethodId) (a : Array Value) : KN G (U.calling g mk a) := by
  obtain ⟨h1, h2, h3, h4, h5, h6, h7, h8, h9, h10, h11, h12⟩ := h
  have hA : U.vm.Alike (U.calling g mk a).vm := Vm.Alike.refl U.vm
  refine ⟨h1, h2.moved hA, fun w hw => ?_, fun q hq => (h4 q hq).same rfl rfl, fun x hx => (h5 x hx).same rfl rfl, fun q hq => (h6 q hq).moved hA, fun C hC => (h7 C hC).moved hA, fun q hq => (h8 q hq).same rfl, h9.moved hA, h10.moved hA, h11.moved hA, h12⟩
  have h := h3 w hw
  simp only [List.mem_cons, List.not_mem_nil, or_false] at hw
  rcases hw with rfl | rfl | rfl | rfl | rfl | rfl | rfl | rfl | rfl | rfl | rfl <;> exact h.same rfl rfl
/-- the real heap H, of N cells, holds what h says -/
def Rep (G : Ctx) (h : AH) (N : Nat) (H : Heap) : Prop := H.size = N ∧ ∀ (a : Nat) (e : va_E), h a = some e → cB G ≤ a ∧ va_at (cD G) swCl (a, e) H
theorem Rep.P {G : Ctx} {h : AH} {N : Nat} {H : Heap} (hR : Rep G h N H) {a : Nat} {e : va_E} (he : h a = some e) : va_P (cD G) swCl [(a, e)] H := by
  intro k q hq
  have h0 : k < 1 := (List.getElem?_eq_some_iff.mp hq).1
  rw [show k = 0 by omega] at hq
  cases hq
  exact (hR.2 a e he).2
theorem Rep.lt {G : Ctx} {h : AH} {N : Nat} {H : Heap} (hR : Rep G h N H) {a : Nat} {e : va_E} (he : h a = some e) : a < N := by
  have := (hR.2 a e he).2.lt
  rw [hR.1] at this
  exact this
theorem Rep.set {G : Ctx} {h : AH} {N a : Nat} {e0 e : va_E} {H H1 : Heap} (hR : Rep G h N H) (h0 : h a = some e0) (z : H1.size = H.size) (he : va_at (cD G) swCl (a, e) H1) (oq : ∀ q : Nat, q ≠ a → H1[q]? = H[q]?) : Rep G (hup h a e) N H1 := by
  refine ⟨z.trans hR.1, fun b e2 hb => ?_⟩
  by_cases hba : b = a
  · subst hba
    rw [hup_self] at hb
    cases hb
    exact ⟨(hR.2 _ _ h0).1, he⟩
  · rw [hup_ne hba] at hb
    exact ⟨(hR.2 _ _ hb).1, (hR.2 _ _ hb).2.kept (oq b hba)⟩
theorem Rep.new {G : Ctx} {h : AH} {N M : Nat} {e : va_E} {H H1 : Heap} (hR : Rep G h N H) (hB : cB G ≤ N) (z : H1.size = M) (he : va_at (cD G) swCl (N, e) H1) (oq : ∀ q : Nat, q < N → H1[q]? = H[q]?) : Rep G (hup h N e) M H1 := by
  refine ⟨z, fun b e2 hb => ?_⟩
  by_cases hba : b = N
  · subst hba
    rw [hup_self] at hb
    cases hb
    exact ⟨hB, he⟩
  · rw [hup_ne hba] at hb
    exact ⟨(hR.2 _ _ hb).1, (hR.2 _ _ hb).2.kept (oq b (hR.lt hb))⟩
theorem Rep.grow {G : Ctx} {h : AH} {N M : Nat} {H H1 : Heap} (hR : Rep G h N H) (z : H1.size = M) (oq : ∀ q : Nat, q < N → H1[q]? = H[q]?) : Rep G h M H1 :=
  ⟨z, fun b e2 hb => ⟨(hR.2 _ _ hb).1, (hR.2 _ _ hb).2.kept (oq b (hR.lt hb))⟩⟩
/-! locals -/
def LA (L : List (Option Value)) : List (Nat × Value) := L.zipIdx.filterMap (fun q => q.1.map (fun v => (q.2, v)))
theorem mem_LA {L : List (Option Value)} {i : Nat} {v : Value} : (i, v) ∈ LA L ↔ L[i]? = some (some v) := by
  unfold LA
  constructor
  · intro h
    obtain ⟨q, hq, he⟩ := List.mem_filterMap.mp h
    obtain ⟨o, j⟩ := q
    have h1 := List.mem_zipIdx_iff_getElem?.mp hq
    cases o with
    | none => cases he
    | some w =>
      have e2 : (j, w) = (i, v) := Option.some.inj he
      cases e2
      exact h1
  · intro h
    exact List.mem_filterMap.mpr ⟨(some v, i), List.mem_zipIdx_iff_getElem?.mpr h, rfl⟩
def LR (nL : Nat) (L : List (Option Value)) (ls : Array Slot) : Prop := lv_has ls nL (LA L)
theorem LR.at {nL : Nat} {L : List (Option Value)} {ls : Array Slot} (h : LR nL L ls) {i : Nat} {v : Value} (hi : L[i]? = some (some v)) : ls[i]? = some (.val v) := h.2.2 (i, v) (mem_LA.mpr hi)
theorem lv_mono {ls : Array Slot} {nL : Nat} {l l' : List (Nat × Value)} (h : lv_has ls nL l) (hs : ∀ q ∈ l', q ∈ l) : lv_has ls nL l' := ⟨h.1, h.2.1, fun q hq => h.2.2 q (hs q hq)⟩
/-- the local ahead of i is no long or double -/
def okS (L : List (Option Value)) (i : Nat) : Bool := match i with
  | 0 => true
  | j + 1 => match L[j]? with
    | some (some v) => v.category == 1
    | _ => true
theorem LR.set1 {nL : Nat} {L : List (Option Value)} {ls : Array Slot} {i : Nat} {v : Value} (ho : okS L i = true)
    (h : lv_has ls nL ((i, v) :: (LA L).filter (fun q => !(q.1 == i) && !(q.1 + 1 == i && q.2.category == 2)))) : LR nL (L.set i (some v)) ls := by
  refine lv_mono h fun q hq => ?_
  obtain ⟨j, w⟩ := q
  have hj := mem_LA.mp hq
  by_cases hji : j = i
  · subst hji
    have hl : j < L.length := by
      have := (List.getElem?_eq_some_iff.mp hj).1
      simpa using this
    rw [List.getElem?_set_self hl] at hj
    cases hj
    exact List.mem_cons_self
  · rw [List.getElem?_set_ne (Ne.symm hji)] at hj
    refine List.mem_cons_of_mem _ (List.mem_filter.mpr ⟨mem_LA.mpr hj, ?_⟩)
    by_cases h1 : j + 1 = i
    · subst h1
      simp only [okS, hj] at ho
      have hc : w.category = 1 := by simpa using ho
      simp [hji, hc]
    · simp [hji, h1]
theorem LR.set2 {nL : Nat} {L : List (Option Value)} {ls : Array Slot} {i : Nat} {v : Value} (ho : okS L i = true)
    (h : lv_has ls nL ((i, v) :: (LA L).filter (fun q => !(q.1 == i) && (!(q.1 == i + 1) && !(q.1 + 1 == i && q.2.category == 2))))) : LR nL ((L.set i (some v)).set (i + 1) none) ls := by
  refine lv_mono h fun q hq => ?_
  obtain ⟨j, w⟩ := q
  have hj := mem_LA.mp hq
  by_cases hj1 : j = i + 1
  · subst hj1
    exfalso
    have hl : i + 1 < ((L.set i (some v)).set (i + 1) none).length := (List.getElem?_eq_some_iff.mp hj).1
    rw [List.getElem?_set_self (by simpa using hl)] at hj
    cases hj
  rw [List.getElem?_set_ne (Ne.symm hj1)] at hj
  by_cases hji : j = i
  · subst hji
    have hl : j < L.length := by
      have := (List.getElem?_eq_some_iff.mp hj).1
      simpa using this
    rw [List.getElem?_set_self hl] at hj
    cases hj
    exact List.mem_cons_self
  · rw [List.getElem?_set_ne (Ne.symm hji)] at hj
    refine List.mem_cons_of_mem _ (List.mem_filter.mpr ⟨mem_LA.mpr hj, ?_⟩)
    by_cases h1 : j + 1 = i
    · subst h1
      simp only [okS, hj] at ho
      have hc : w.category = 1 := by simpa using ho
      simp [hji, hj1, hc]
    · simp [hji, h1, hj1]
end
section
/-! ===== a method: name, bytes, locals, answer, frames and words of locals below it, handlers ===== -/
abbrev MI : Type := MethodName × ByteArray × Nat × Option FieldType × Nat × Nat × List (Nat × Nat × Nat × Nat)
abbrev mY (μ : MI) : MethodName := μ.1
abbrev mC (μ : MI) : ByteArray := μ.2.1
abbrev mL (μ : MI) : Nat := μ.2.2.1
abbrev mR (μ : MI) : Option FieldType := μ.2.2.2.1
abbrev mF (μ : MI) : Nat := μ.2.2.2.2.1
abbrev mO (μ : MI) : Nat := μ.2.2.2.2.2.1
abbrev mH (μ : MI) : List (Nat × Nat × Nat × Nat) := μ.2.2.2.2.2.2
def mW (μ : MI) : List Cond := Cond.code (mY μ) (mC μ) (mL μ) (mR μ) :: AW
def mWh (μ : MI) : List Cond := Cond.codeWith (mY μ) (mC μ) (mL μ) (mR μ) (mH μ) :: AW
abbrev mRm (μ : MI) (k n : Nat) : Room := { frames := mF μ, cells := k, slots := n, locals := mO μ }
/-- what a walk of the method's body stands on -/
def FX (G : Ctx) (μ : MI) (p : Program) (s : State) (m : MethodId) (args : Array Value) (meth : Method) (c : Code) : Prop :=
  p.tables.exec = Jvm.exec ∧ c.code = mC μ ∧ c.maxLocals = mL μ ∧ meth.sig.returnType = mR μ ∧ s.vm.findClass (mY μ).cls = some m.cls ∧ (∀ w ∈ AW, w.before args s = true) ∧ meth.locks = false ∧ meth.name = (mY μ).name ∧ c.exceptionTable.toList = tableOf (mH μ) ∧ KN G s
abbrev PQ : Type := Option Value → AH → Nat → Prop
abbrev PX : Type := String → AH → Nat → Prop
def noX : PX := fun _ _ _ => False
def SQ (G : Ctx) (Q : PQ) : Array Value → State → Outcome → State → Prop := fun _ st o t => (∃ (r : Option Value) (h' : AH), o = .returned r ∧ Q r h' t.heap.size ∧ Rep G h' t.heap.size t.heap) ∧ va_F (cF G) st t
def SX (G : Ctx) (X : PX) : String → State → State → Prop := fun E st t => (∃ h' : AH, X E h' t.heap.size ∧ Rep G h' t.heap.size t.heap) ∧ va_F (cF G) st t
/-- from pc, with the locals L and the stack st, over the heap h of N cells: the method comes to its end with Q, or throws with X, and makes at most k cells of n slots -/
def WP (G : Ctx) (μ : MI) (Q : PQ) (X : PX) (k n : Nat) (h : AH) (N : Nat) (pc : Nat) (L : List (Option Value)) (st : List Value) : Prop :=
  ∀ (p : Program) (e : Env) (R : Room) (s : State) (m : MethodId) (args : Array Value) (below : List Frame) (meth : Method) (c : Code) (H : Heap) (locs : List Loc) (cells slots mc ms : Nat) (ls : Array Slot),
    FX G μ p s m args meth c → mF μ ≤ R.frames → mO μ ≤ R.locals → cells + k ≤ mc → slots + n ≤ ms → mc ≤ R.cells → ms ≤ R.slots → Rep G h N H → va_S (cF G) s.heap H locs → LR (mL μ) L ls →
    W p (cL G) e R s m args below meth c H locs cells slots (vx_MQ below (SQ G Q) (SX G X) args s mc ms (cF G)) (F0 m pc ls st)
section Rules
variable {G : Ctx} {μ : MI} {Q : PQ} {X : PX} {k n : Nat} {h : AH} {N : Nat} {pc : Nat} {L : List (Option Value)} {st : List Value}
theorem WP.le {k' n' : Nat} (h1 : k' ≤ k) (h2 : n' ≤ n) (w : WP G μ Q X k' n' h N pc L st) : WP G μ Q X k n h N pc L st := by
  intro p e R s m args below meth c H locs cells slots mc ms ls F a1 a2 a3 a4
  exact w p e R s m args below meth c H locs cells slots mc ms ls F a1 a2 (by omega) (by omega)
theorem W.impl {p : Program} {l : Launch} {e : Env} {R : Room} {s : State} {m : MethodId} {args : Array Value} {below : List Frame} {meth : Method} {c : Code} {H : Heap} {locs : List Loc} {cells slots : Nat} {Z Z' : State → Prop} {g : JFrame} (w : W p l e R s m args below meth c H locs cells slots Z g) (i : ∀ t, Z t → Z' t) : W p l e R s m args below meth c H locs cells slots Z' g := by
  intro T hT Y
  obtain ⟨t, a, b⟩ := w T hT Y
  exact ⟨t, a, i t b⟩
theorem WP.weak {Q' : PQ} {X' : PX} (w : WP G μ Q' X' k n h N pc L st) (hq : ∀ r h1 N1, Q' r h1 N1 → Q r h1 N1) (hx : ∀ E h1 N1, X' E h1 N1 → X E h1 N1) : WP G μ Q X k n h N pc L st := by
  intro p e R s m args below meth c H locs cells slots mc ms ls F a1 a2 a3 a4 a5 a6 hR hS hL
  refine W.impl (w p e R s m args below meth c H locs cells slots mc ms ls F a1 a2 a3 a4 a5 a6 hR hS hL) fun t ht => ?_
  obtain ⟨o, b1, b2, b3⟩ := ht
  refine ⟨o, b1, b2, ?_⟩
  rcases b3 with ⟨⟨⟨r, h', c1, c2, c3⟩, c4⟩, c5⟩ | ⟨q, d1, E, ce, L9, ⟨⟨h', d2, d3⟩, d4⟩, d5⟩
  · exact Or.inl ⟨⟨⟨r, h', c1, hq _ _ _ c2, c3⟩, c4⟩, c5⟩
  · exact Or.inr ⟨q, d1, E, ce, L9, ⟨⟨h', hx _ _ _ d2, d3⟩, d4⟩, d5⟩
/-- a step that leaves heap and locals -/
theorem WP.go {pc' : Nat} {st' : List Value} (kk : WP G μ Q X k n h N pc' L st')
    (hs : ∀ {p : Program} {e : Env} {R : Room} {s : State} {m : MethodId} {args : Array Value} {below : List Frame} {meth : Method} {c : Code} {H : Heap} {locs : List Loc} {cells slots : Nat} {ls : Array Slot} {Z : State → Prop},
      FX G μ p s m args meth c → Rep G h N H → va_S (cF G) s.heap H locs → LR (mL μ) L ls → mF μ ≤ R.frames → mO μ ≤ R.locals → cells ≤ R.cells → slots ≤ R.slots → W p (cL G) e R s m args below meth c H locs cells slots Z (F0 m pc' ls st') → W p (cL G) e R s m args below meth c H locs cells slots Z (F0 m pc ls st)) : WP G μ Q X k n h N pc L st := by
  intro p e R s m args below meth c H locs cells slots mc ms ls F a1 a2 a3 a4 a5 a6 hR hS hL
  exact hs F hR hS hL a1 a2 (by omega) (by omega) (kk p e R s m args below meth c H locs cells slots mc ms ls F a1 a2 a3 a4 a5 a6 hR hS hL)
/-- a step that leaves the heap and stores a local -/
theorem WP.goL {pc' : Nat} {st' : List Value} {L' : List (Option Value)} (kk : WP G μ Q X k n h N pc' L' st')
    (hs : ∀ {p : Program} {e : Env} {R : Room} {s : State} {m : MethodId} {args : Array Value} {below : List Frame} {meth : Method} {c : Code} {H : Heap} {locs : List Loc} {cells slots : Nat} {ls : Array Slot} {Z : State → Prop},
      FX G μ p s m args meth c → LR (mL μ) L ls → (∀ ls' : Array Slot, LR (mL μ) L' ls' → W p (cL G) e R s m args below meth c H locs cells slots Z (F0 m pc' ls' st')) → W p (cL G) e R s m args below meth c H locs cells slots Z (F0 m pc ls st)) : WP G μ Q X k n h N pc L st := by
  intro p e R s m args below meth c H locs cells slots mc ms ls F a1 a2 a3 a4 a5 a6 hR hS hL
  exact hs F hL fun ls' hL' => kk p e R s m args below meth c H locs cells slots mc ms ls' F a1 a2 a3 a4 a5 a6 hR hS hL'
/-! constants, loads, stores -/
theorem wp_iconst {i : Int} (d : decode (mC μ) pc = .ok (.iconst i, 1)) (kk : WP G μ Q X k n h N (pc + 1) L (JV i :: st)) : WP G μ Q X k n h N pc L st :=
  kk.go fun F _ _ _ _ _ _ _ w => lv_iconst F.1 F.2.1 d rfl w
theorem wp_bipush {i : Int} (d : decode (mC μ) pc = .ok (.bipush i, 2)) (hv : (Int8.ofInt i).toInt32 = Int32.ofInt i) (kk : WP G μ Q X k n h N (pc + 2) L (JV i :: st)) : WP G μ Q X k n h N pc L st :=
  kk.go fun F _ _ _ _ _ _ _ w => lv_bipush F.1 F.2.1 d hv w
theorem wp_sipush {i : Int} (d : decode (mC μ) pc = .ok (.sipush i, 3)) (hv : (Int16.ofInt i).toInt32 = Int32.ofInt i) (kk : WP G μ Q X k n h N (pc + 3) L (JV i :: st)) : WP G μ Q X k n h N pc L st :=
  kk.go fun F _ _ _ _ _ _ _ w => lv_sipush F.1 F.2.1 d hv w
theorem wp_lconst {i : Fin 2} (d : decode (mC μ) pc = .ok (.lconst i, 1)) (kk : WP G μ Q X k n h N (pc + 1) L (.long (Int64.ofNat (i : Nat)) :: st)) : WP G μ Q X k n h N pc L st :=
  kk.go fun F _ _ _ _ _ _ _ w => lv_lconst F.1 F.2.1 d rfl w
theorem wp_iload_n {i : Fin 4} {x : Int32} (d : decode (mC μ) pc = .ok (.iload_n i, 1)) (hl : L[(i : Nat)]? = some (some (.int x))) (kk : WP G μ Q X k n h N (pc + 1) L (.int x :: st)) : WP G μ Q X k n h N pc L st :=
  kk.go fun F _ _ hL _ _ _ _ w => lv_iload_n F.1 F.2.1 d rfl (hL.at hl) w
theorem wp_iload {i : Nat} {x : Int32} (d : decode (mC μ) pc = .ok (.iload i, 2)) (hl : L[i]? = some (some (.int x))) (kk : WP G μ Q X k n h N (pc + 2) L (.int x :: st)) : WP G μ Q X k n h N pc L st :=
  kk.go fun F _ _ hL _ _ _ _ w => lv_iload F.1 F.2.1 d (hL.at hl) w
theorem wp_aload_n {i : Fin 4} {x : Nat} (d : decode (mC μ) pc = .ok (.aload_n i, 1)) (hl : L[(i : Nat)]? = some (some (.ref x))) (kk : WP G μ Q X k n h N (pc + 1) L (.ref x :: st)) : WP G μ Q X k n h N pc L st :=
  kk.go fun F _ _ hL _ _ _ _ w => lv_aload_n F.1 F.2.1 d rfl (hL.at hl) w
theorem wp_aload {i : Nat} {x : Nat} (d : decode (mC μ) pc = .ok (.aload i, 2)) (hl : L[i]? = some (some (.ref x))) (kk : WP G μ Q X k n h N (pc + 2) L (.ref x :: st)) : WP G μ Q X k n h N pc L st :=
  kk.go fun F _ _ hL _ _ _ _ w => lv_aload F.1 F.2.1 d (hL.at hl) w
theorem wp_lload_n {i : Fin 4} {x : Int64} (d : decode (mC μ) pc = .ok (.lload_n i, 1)) (hl : L[(i : Nat)]? = some (some (.long x))) (kk : WP G μ Q X k n h N (pc + 1) L (.long x :: st)) : WP G μ Q X k n h N pc L st :=
  kk.go fun F _ _ hL _ _ _ _ w => lv_lload_n F.1 F.2.1 d rfl (hL.at hl) w
theorem wp_dload {i : Nat} {x : UInt64} (d : decode (mC μ) pc = .ok (.dload i, 2)) (hl : L[i]? = some (some (.double x))) (kk : WP G μ Q X k n h N (pc + 2) L (.double x :: st)) : WP G μ Q X k n h N pc L st :=
  kk.go fun F _ _ hL _ _ _ _ w => lv_dload F.1 F.2.1 d (hL.at hl) w
theorem wp_istore_n {i : Fin 4} {x : Int32} (d : decode (mC μ) pc = .ok (.istore_n i, 1)) (hi : (i : Nat) < mL μ) (ho : okS L (i : Nat) = true) (kk : WP G μ Q X k n h N (pc + 1) (L.set (i : Nat) (some (.int x))) st) : WP G μ Q X k n h N pc L (.int x :: st) :=
  kk.goL fun F hL w => lv_istore_n F.1 F.2.1 d rfl hL hi rfl fun ls' hl' => w ls' (LR.set1 ho hl')
theorem wp_istore {i : Nat} {x : Int32} (d : decode (mC μ) pc = .ok (.istore i, 2)) (hi : i < mL μ) (ho : okS L i = true) (kk : WP G μ Q X k n h N (pc + 2) (L.set i (some (.int x))) st) : WP G μ Q X k n h N pc L (.int x :: st) :=
  kk.goL fun F hL w => lv_istore F.1 F.2.1 d hL hi rfl fun ls' hl' => w ls' (LR.set1 ho hl')
theorem wp_astore_n {i : Fin 4} {x : Nat} (d : decode (mC μ) pc = .ok (.astore_n i, 1)) (hi : (i : Nat) < mL μ) (ho : okS L (i : Nat) = true) (kk : WP G μ Q X k n h N (pc + 1) (L.set (i : Nat) (some (.ref x))) st) : WP G μ Q X k n h N pc L (.ref x :: st) :=
  kk.goL fun F hL w => lv_astore_n F.1 F.2.1 d rfl hL hi rfl fun ls' hl' => w ls' (LR.set1 ho hl')
theorem wp_astore {i : Nat} {x : Nat} (d : decode (mC μ) pc = .ok (.astore i, 2)) (hi : i < mL μ) (ho : okS L i = true) (kk : WP G μ Q X k n h N (pc + 2) (L.set i (some (.ref x))) st) : WP G μ Q X k n h N pc L (.ref x :: st) :=
  kk.goL fun F hL w => lv_astore F.1 F.2.1 d hL hi rfl fun ls' hl' => w ls' (LR.set1 ho hl')
theorem wp_lstore_n {i : Fin 4} {x : Int64} (d : decode (mC μ) pc = .ok (.lstore_n i, 1)) (hi : (i : Nat) + 1 < mL μ) (ho : okS L (i : Nat) = true) (kk : WP G μ Q X k n h N (pc + 1) ((L.set (i : Nat) (some (.long x))).set ((i : Nat) + 1) none) st) : WP G μ Q X k n h N pc L (.long x :: st) :=
  kk.goL fun F hL w => lv_lstore_n F.1 F.2.1 d rfl hL hi rfl fun ls' hl' => w ls' (LR.set2 ho hl')
theorem wp_dstore {i : Nat} {x : UInt64} (d : decode (mC μ) pc = .ok (.dstore i, 2)) (hi : i + 1 < mL μ) (ho : okS L i = true) (kk : WP G μ Q X k n h N (pc + 2) ((L.set i (some (.double x))).set (i + 1) none) st) : WP G μ Q X k n h N pc L (.double x :: st) :=
  kk.goL fun F hL w => lv_dstore F.1 F.2.1 d hL hi rfl fun ls' hl' => w ls' (LR.set2 ho hl')
theorem lv_iincL {p : Program} {l : Launch} {e : Env} {R : Room} {s : State} {m : MethodId} {args : Array Value} {below : List Frame} {meth : Method} {c : Code} {H : Heap} {locs : List Loc} {cells slots : Nat} {Z : State → Prop} {cc : ByteArray} {ls : Array Slot} {rest : List Value} (hexec : p.tables.exec = Jvm.exec) (hb : c.code = cc) {i nL : Nat} {j : Int} {x : Int32} {lv : List (Nat × Value)} (hdg : decode cc pc = .ok (.iinc i j, 3)) (hh : lv_has ls nL lv) (hk : (i, Value.int x) ∈ lv) (hn : i < nL)
    (kk : ∀ ls' : Array Slot, lv_has ls' nL ((i, Value.int (x + Int32.ofInt j)) :: lv.filter (fun q => !(q.1 == i) && !(q.1 + 1 == i && q.2.category == 2))) → W p l e R s m args below meth c H locs cells slots Z (F0 m (pc + 3) ls' rest)) : W p l e R s m args below meth c H locs cells slots Z (F0 m pc ls rest) := by
  obtain ⟨a, ha⟩ := List.getElem?_of_mem hk
  exact lv_iinc hexec hb hdg hh ha rfl hn rfl kk
theorem wp_iinc {i : Nat} {j x : Int} (d : decode (mC μ) pc = .ok (.iinc i j, 3)) (hl : L[i]? = some (some (JV x))) (hi : i < mL μ) (ho : okS L i = true) (kk : WP G μ Q X k n h N (pc + 3) (L.set i (some (JV (x + j)))) st) : WP G μ Q X k n h N pc L st :=
  kk.goL fun F hL w => lv_iincL F.1 F.2.1 d hL (mem_LA.mpr hl) hi fun ls' hl' => w ls' (LR.set1 ho (by rw [← Int32.ofInt_add] at hl'; exact hl'))
/-! arithmetic -/
theorem wp_iadd {x y : Int} (d : decode (mC μ) pc = .ok (.iadd, 1)) (kk : WP G μ Q X k n h N (pc + 1) L (JV (x + y) :: st)) : WP G μ Q X k n h N pc L (JV y :: JV x :: st) :=
  kk.go fun F _ _ _ _ _ _ _ w => lv_iadd F.1 F.2.1 d (by rw [← Int32.ofInt_add]; exact w)
theorem wp_isub {x y : Int} (d : decode (mC μ) pc = .ok (.isub, 1)) (kk : WP G μ Q X k n h N (pc + 1) L (JV (x - y) :: st)) : WP G μ Q X k n h N pc L (JV y :: JV x :: st) :=
  kk.go fun F _ _ _ _ _ _ _ w => lv_isub F.1 F.2.1 d (by rw [← Int32.ofInt_sub]; exact w)
theorem wp_imul {x y : Int} (d : decode (mC μ) pc = .ok (.imul, 1)) (kk : WP G μ Q X k n h N (pc + 1) L (JV (x * y) :: st)) : WP G μ Q X k n h N pc L (JV y :: JV x :: st) :=
  kk.go fun F _ _ _ _ _ _ _ w => lv_imul F.1 F.2.1 d (by rw [← Int32.ofInt_mul]; exact w)
theorem wp_ineg {x : Int} (d : decode (mC μ) pc = .ok (.ineg, 1)) (kk : WP G μ Q X k n h N (pc + 1) L (JV (-x) :: st)) : WP G μ Q X k n h N pc L (JV x :: st) :=
  kk.go fun F _ _ _ _ _ _ _ w => lv_ineg F.1 F.2.1 d (by rw [← Int32.ofInt_neg]; exact w)
end Rules
end
section
/-! ===== branches, division, bits, longs, doubles, ends ===== -/
theorem J_lt {x y : Int} (hx : InR x) (hy : InR y) : Int32.ofInt x < Int32.ofInt y ↔ x < y := by
  rw [Int32.lt_iff_toInt_lt, J_toInt hx, J_toInt hy]
theorem J_le {x y : Int} (hx : InR x) (hy : InR y) : Int32.ofInt x ≤ Int32.ofInt y ↔ x ≤ y := by
  rw [Int32.le_iff_toInt_le, J_toInt hx, J_toInt hy]
theorem J_eq {x y : Int} (hx : InR x) (hy : InR y) : Int32.ofInt x = Int32.ofInt y ↔ x = y := by
  rw [← Int32.toInt_inj, J_toInt hx, J_toInt hy]
theorem J_nat (n : Nat) : Int32.ofInt (n : Int) = Int32.ofNat n := by
  apply Int32.toBitVec_inj.mp
  rw [Int32.toBitVec_ofInt]
  exact BitVec.ofInt_natCast 32 n
theorem J_clamp {x : Int} (h0 : 0 ≤ x) (h1 : x < 2147483648) : (Int32.ofInt x).toNatClampNeg = x.toNat := by
  unfold Int32.toNatClampNeg
  rw [J_toInt ⟨by omega, h1⟩]
theorem J_in {x : Int} {n : Nat} (h0 : 0 ≤ x) (h1 : x < (n : Int)) (hn : n < 2147483648) : vp_in (Int32.ofInt x) n := by
  intro hc
  rcases hc with hc | hc
  · rw [show (0 : Int32) = Int32.ofInt 0 from rfl, J_lt ⟨by omega, by omega⟩ ⟨by omega, by omega⟩] at hc
    omega
  · rw [J_clamp h0 (by omega)] at hc
    omega
theorem J_div {x y : Int} (hx : InR x) (hx0 : 0 ≤ x) (hy : InR y) (hy0 : 0 < y) : Int32.ofInt x / Int32.ofInt y = Int32.ofInt (x / y) := by
  apply Int32.toInt_inj.mp
  have h2 : Int32.ofInt y ≠ -1 := by
    intro hc
    have := congrArg Int32.toInt hc
    rw [J_toInt hy] at this
    have h3 : (-1 : Int32).toInt = -1 := by decide
    omega
  have h4 : x / y ≤ x := Int.ediv_le_self y hx0
  have h5 : 0 ≤ x / y := Int.ediv_nonneg hx0 (by omega)
  rw [Int32.toInt_div_of_ne_right _ _ h2, J_toInt hx, J_toInt hy, J_toInt ⟨by omega, by have := hx.2; omega⟩, Int.tdiv_eq_ediv_of_nonneg hx0]
theorem J_rem {x y : Int} (hx : InR x) (hx0 : 0 ≤ x) (hy : InR y) (hy0 : 0 < y) : Int32.ofInt x - Int32.ofInt x / Int32.ofInt y * Int32.ofInt y = Int32.ofInt (x % y) := by
  rw [J_div hx hx0 hy hy0, ← Int32.ofInt_mul, ← Int32.ofInt_sub]
  congr 1
  have := Int.mul_ediv_add_emod x y
  have h2 : x / y * y = y * (x / y) := Int.mul_comm _ _
  omega
theorem sw_s : ∀ n, n < 32 → ((Int32.ofNat n &&& 31).toBitVec.smod 32).toNat = n := by decide +kernel
theorem J_shr {x y : Int} (hx0 : 0 ≤ x) (hx : x < 2147483648) (hy0 : 0 ≤ y) (hy : y < 32) : Int32.ofInt x >>> (Int32.ofInt y &&& 31) = Int32.ofInt ((x.toNat / 2 ^ y.toNat : Nat) : Int) := by
  obtain ⟨a, rfl⟩ := Int.eq_ofNat_of_zero_le hx0
  obtain ⟨b, rfl⟩ := Int.eq_ofNat_of_zero_le hy0
  rw [J_nat, J_nat, J_nat, Int.toNat_natCast, Int.toNat_natCast]
  exact pk_shrN (by omega) _ _ (sw_s b (by omega))
theorem J_shl {x y : Int} (hx0 : 0 ≤ x) (hy0 : 0 ≤ y) (hy : y < 32) (hz : x.toNat * 2 ^ y.toNat < 2 ^ 32) : Int32.ofInt x <<< (Int32.ofInt y &&& 31) = Int32.ofInt ((x.toNat * 2 ^ y.toNat : Nat) : Int) := by
  obtain ⟨a, rfl⟩ := Int.eq_ofNat_of_zero_le hx0
  obtain ⟨b, rfl⟩ := Int.eq_ofNat_of_zero_le hy0
  rw [J_nat, J_nat, J_nat]
  rw [Int.toNat_natCast, Int.toNat_natCast] at hz ⊢
  exact pk_shlN _ _ (sw_s b (by omega)) hz
theorem J_or (a b : Nat) : Int32.ofInt (a : Int) ||| Int32.ofInt (b : Int) = Int32.ofInt ((a ||| b : Nat) : Int) := by
  rw [J_nat, J_nat, J_nat]
  apply Int32.toBitVec_inj.mp
  rw [Int32.toBitVec_or]
  show BitVec.ofNat 32 a ||| BitVec.ofNat 32 b = BitVec.ofNat 32 (a ||| b)
  exact BitVec.ofNat_or.symm
theorem J_and1 {x : Int} (hx0 : 0 ≤ x) (hx : x < 2147483648) : Int32.ofInt x &&& Int32.ofInt 1 = Int32.ofInt (x % 2) := by
  obtain ⟨a, rfl⟩ := Int.eq_ofNat_of_zero_le hx0
  rw [J_nat, show Int32.ofInt 1 = (1 : Int32) from rfl]
  have := pk_andN (n := a) (by omega) (m := (1 : Int32)) 1 (by decide)
  rw [show nI a = Int32.ofNat a from rfl] at this
  rw [this]
  show Int32.ofNat _ = _
  rw [← J_nat]
  congr 1
theorem J_and63 (x : Int32) : ∃ j : Nat, j < 64 ∧ x &&& Int32.ofInt 63 = Int32.ofInt (j : Int) := by
  obtain ⟨j, h1, h2⟩ := pk_andE x (m := (63 : Int32)) 6 (by decide)
  exact ⟨j, h1, by rw [J_nat]; exact h2⟩
section Rules2
variable {G : Ctx} {μ : MI} {Q : PQ} {X : PX} {k n : Nat} {h : AH} {N : Nat} {pc : Nat} {L : List (Option Value)} {st : List Value}
theorem WP.br {p1 p2 : Nat} {st1 : List Value} {P1 P2 : Prop} (k1 : P1 → WP G μ Q X k n h N p1 L st1) (k2 : P2 → WP G μ Q X k n h N p2 L st1)
    (hs : ∀ {p : Program} {e : Env} {R : Room} {s : State} {m : MethodId} {args : Array Value} {below : List Frame} {meth : Method} {c : Code} {H : Heap} {locs : List Loc} {cells slots : Nat} {ls : Array Slot} {Z : State → Prop},
      FX G μ p s m args meth c → (P1 → W p (cL G) e R s m args below meth c H locs cells slots Z (F0 m p1 ls st1)) → (P2 → W p (cL G) e R s m args below meth c H locs cells slots Z (F0 m p2 ls st1)) → W p (cL G) e R s m args below meth c H locs cells slots Z (F0 m pc ls st)) : WP G μ Q X k n h N pc L st := by
  intro p e R s m args below meth c H locs cells slots mc ms ls F a1 a2 a3 a4 a5 a6 hR hS hL
  exact hs F (fun q => k1 q p e R s m args below meth c H locs cells slots mc ms ls F a1 a2 a3 a4 a5 a6 hR hS hL) (fun q => k2 q p e R s m args below meth c H locs cells slots mc ms ls F a1 a2 a3 a4 a5 a6 hR hS hL)
theorem wp_goto {off : Int} (tgt : Nat) (d : decode (mC μ) pc = .ok (.goto off, 3)) (ht : (pc : Int) + off = (tgt : Int)) (kk : WP G μ Q X k n h N tgt L st) : WP G μ Q X k n h N pc L st :=
  kk.go fun F _ _ _ _ _ _ _ w => lv_goto F.1 F.2.1 d ht w
theorem wp_dup {v : Value} (d : decode (mC μ) pc = .ok (.dup, 1)) (hv : v.category = 1) (kk : WP G μ Q X k n h N (pc + 1) L (v :: v :: st)) : WP G μ Q X k n h N pc L (v :: st) :=
  kk.go fun F _ _ _ _ _ _ _ w => lv_dup F.1 F.2.1 d hv w
theorem wp_dup2 {v u : Value} (d : decode (mC μ) pc = .ok (.dup2, 1)) (hv : v.category = 1) (hu : u.category = 1) (kk : WP G μ Q X k n h N (pc + 1) L (v :: u :: v :: u :: st)) : WP G μ Q X k n h N pc L (v :: u :: st) :=
  kk.go fun F _ _ _ _ _ _ _ w => lv_dup2_11 F.1 F.2.1 d hv hu w
theorem wp_idiv {x y : Int} (d : decode (mC μ) pc = .ok (.idiv, 1)) (hx : InR x) (hx0 : 0 ≤ x) (hy : InR y) (hy0 : 0 < y) (kk : WP G μ Q X k n h N (pc + 1) L (JV (x / y) :: st)) : WP G μ Q X k n h N pc L (JV y :: JV x :: st) :=
  kk.go fun F _ _ _ _ _ _ _ w => lv_idiv F.1 F.2.1 d (by rw [show (0 : Int32) = Int32.ofInt 0 from rfl, J_eq hy ⟨by omega, by omega⟩]; omega) (by rw [J_div hx hx0 hy hy0]; exact w)
theorem wp_irem {x y : Int} (d : decode (mC μ) pc = .ok (.irem, 1)) (hx : InR x) (hx0 : 0 ≤ x) (hy : InR y) (hy0 : 0 < y) (kk : WP G μ Q X k n h N (pc + 1) L (JV (x % y) :: st)) : WP G μ Q X k n h N pc L (JV y :: JV x :: st) :=
  kk.go fun F _ _ _ _ _ _ _ w => lv_irem F.1 F.2.1 d (by rw [show (0 : Int32) = Int32.ofInt 0 from rfl, J_eq hy ⟨by omega, by omega⟩]; omega) (by rw [J_rem hx hx0 hy hy0]; exact w)
theorem wp_ishr {x y : Int} (d : decode (mC μ) pc = .ok (.ishr, 1)) (hx0 : 0 ≤ x) (hx : x < 2147483648) (hy0 : 0 ≤ y) (hy : y < 32) (kk : WP G μ Q X k n h N (pc + 1) L (JV ((x.toNat / 2 ^ y.toNat : Nat) : Int) :: st)) : WP G μ Q X k n h N pc L (JV y :: JV x :: st) :=
  kk.go fun F _ _ _ _ _ _ _ w => lv_ishr F.1 F.2.1 d (by rw [J_shr hx0 hx hy0 hy]; exact w)
theorem wp_ishl {x y : Int} (d : decode (mC μ) pc = .ok (.ishl, 1)) (hx0 : 0 ≤ x) (hy0 : 0 ≤ y) (hy : y < 32) (hz : x.toNat * 2 ^ y.toNat < 2 ^ 32) (kk : WP G μ Q X k n h N (pc + 1) L (JV ((x.toNat * 2 ^ y.toNat : Nat) : Int) :: st)) : WP G μ Q X k n h N pc L (JV y :: JV x :: st) :=
  kk.go fun F _ _ _ _ _ _ _ w => lv_ishl F.1 F.2.1 d (by rw [J_shl hx0 hy0 hy hz]; exact w)
theorem wp_and1 {x : Int} (d : decode (mC μ) pc = .ok (.iand, 1)) (hx0 : 0 ≤ x) (hx : x < 2147483648) (kk : WP G μ Q X k n h N (pc + 1) L (JV (x % 2) :: st)) : WP G μ Q X k n h N pc L (JV 1 :: JV x :: st) :=
  kk.go fun F _ _ _ _ _ _ _ w => lv_iand F.1 F.2.1 d (by rw [J_and1 hx0 hx]; exact w)
theorem wp_iand {x y : Int32} (d : decode (mC μ) pc = .ok (.iand, 1)) (kk : WP G μ Q X k n h N (pc + 1) L (.int (x &&& y) :: st)) : WP G μ Q X k n h N pc L (.int y :: .int x :: st) :=
  kk.go fun F _ _ _ _ _ _ _ w => lv_iand F.1 F.2.1 d w
theorem wp_ior {x y : Nat} (d : decode (mC μ) pc = .ok (.ior, 1)) (kk : WP G μ Q X k n h N (pc + 1) L (JV ((x ||| y : Nat) : Int) :: st)) : WP G μ Q X k n h N pc L (JV (y : Int) :: JV (x : Int) :: st) :=
  kk.go fun F _ _ _ _ _ _ _ w => lv_ior F.1 F.2.1 d (by rw [J_or]; exact w)
theorem wp_i2l {x : Int32} (d : decode (mC μ) pc = .ok (.i2l, 1)) (kk : WP G μ Q X k n h N (pc + 1) L (.long x.toInt64 :: st)) : WP G μ Q X k n h N pc L (.int x :: st) :=
  kk.go fun F _ _ _ _ _ _ _ w => lv_i2l F.1 F.2.1 d rfl w
theorem wp_ladd {x y : Int64} (d : decode (mC μ) pc = .ok (.ladd, 1)) (kk : WP G μ Q X k n h N (pc + 1) L (.long (x + y) :: st)) : WP G μ Q X k n h N pc L (.long y :: .long x :: st) :=
  kk.go fun F _ _ _ _ _ _ _ w => lv_ladd F.1 F.2.1 d w
theorem wp_lmul {x y : Int64} (d : decode (mC μ) pc = .ok (.lmul, 1)) (kk : WP G μ Q X k n h N (pc + 1) L (.long (x * y) :: st)) : WP G μ Q X k n h N pc L (.long y :: .long x :: st) :=
  kk.go fun F _ _ _ _ _ _ _ w => lv_lmul F.1 F.2.1 d w
theorem wp_ldc2 {i : Nat} {v : Int64} (d : decode (mC μ) pc = .ok (.ldc2_w i, 3)) (hw : Cond.constantLong (mY μ).cls i v ∈ AW) (kk : WP G μ Q X k n h N (pc + 3) L (.long v :: st)) : WP G μ Q X k n h N pc L st :=
  kk.go fun F _ _ _ _ _ _ _ w => lv_ldc2 F.1 F.2.1 F.2.2.2.2.1 (F.2.2.2.2.2.1 _ hw) d w
theorem wp_ldcw {i : Nat} {v : Int32} (d : decode (mC μ) pc = .ok (.ldc_w i, 3)) (hw : Cond.constant (mY μ).cls i v ∈ AW) (kk : WP G μ Q X k n h N (pc + 3) L (.int v :: st)) : WP G μ Q X k n h N pc L st :=
  kk.go fun F _ _ _ _ _ _ _ w => lv_ldcw F.1 F.2.1 F.2.2.2.2.1 (F.2.2.2.2.2.1 _ hw) d w
theorem wp_i2d {x : Int32} (d : decode (mC μ) pc = .ok (.i2d, 1)) (kk : WP G μ Q X k n h N (pc + 1) L (.double (FP.i2d x) :: st)) : WP G μ Q X k n h N pc L (.int x :: st) :=
  kk.go fun F _ _ _ _ _ _ _ w => lv_i2d F.1 F.2.1 d w
theorem wp_dconst0 (d : decode (mC μ) pc = .ok (.dconst 0, 1)) (kk : WP G μ Q X k n h N (pc + 1) L (.double 0 :: st)) : WP G μ Q X k n h N pc L st :=
  kk.go fun F _ _ _ _ _ _ _ w => lv_dconst0 F.1 F.2.1 d w
theorem wp_ddiv {x y : UInt64} (d : decode (mC μ) pc = .ok (.ddiv, 1)) (hn : vf_n64 (FP.ddiv x y)) (kk : WP G μ Q X k n h N (pc + 1) L (.double (FP.ddiv x y) :: st)) : WP G μ Q X k n h N pc L (.double y :: .double x :: st) :=
  kk.go fun F _ _ _ _ _ _ _ w => lv_ddiv F.1 F.2.1 d hn w
theorem wp_dcmp {x y : UInt64} {op : CmpOp} (d : decode (mC μ) pc = .ok (.dcmp op, 1)) (kk : WP G μ Q X k n h N (pc + 1) L (.int (Op.cmpValue (FP.dcmp x y) op) :: st)) : WP G μ Q X k n h N pc L (.double y :: .double x :: st) :=
  kk.go fun F _ _ _ _ _ _ _ w => lv_dcmp F.1 F.2.1 d w

theorem wp_icmp_eq {x y off : Int} (tgt : Nat) (d : decode (mC μ) pc = .ok (.if_icmp .eq off, 3)) (ht : (pc : Int) + off = (tgt : Int)) (hx : InR x) (hy : InR y) (k1 : x = y → WP G μ Q X k n h N tgt L st) (k2 : ¬ x = y → WP G μ Q X k n h N (pc + 3) L st) : WP G μ Q X k n h N pc L (JV y :: JV x :: st) :=
  WP.br k1 k2 fun F w1 w2 => lv_icmp_eq F.1 F.2.1 d ht (fun q => w1 (by first | (have := (J_eq hx hy).mp q; assumption) | (rw [ne_eq, J_eq hx hy] at q; exact q) | (rw [J_eq hx hy] at q; exact q) | (rw [J_lt hx hy] at q; omega) | (rw [J_le hx hy] at q; omega) | (rw [J_lt hy hx] at q; omega) | (rw [J_le hy hx] at q; omega) | (rw [ge_iff_le, J_le hy hx] at q; omega) | (rw [gt_iff_lt, J_lt hy hx] at q; omega)))
    (fun q => w2 (by first | exact Classical.not_not.mp (fun z => q (fun z2 => z ((J_eq hx hy).mp z2))) | exact (J_eq hx hy).mp q | (rw [J_eq hx hy] at q; exact q) | (rw [ne_eq, J_eq hx hy] at q; exact q) | (rw [J_lt hx hy] at q; omega) | (rw [J_le hx hy] at q; omega) | (rw [J_lt hy hx] at q; omega) | (rw [J_le hy hx] at q; omega) | (rw [ge_iff_le, J_le hy hx] at q; omega) | (rw [gt_iff_lt, J_lt hy hx] at q; omega)))
theorem wp_if_eq {x off : Int} (tgt : Nat) (d : decode (mC μ) pc = .ok (.ifCond .eq off, 3)) (ht : (pc : Int) + off = (tgt : Int)) (hx : InR x) (k1 : x = 0 → WP G μ Q X k n h N tgt L st) (k2 : ¬ x = 0 → WP G μ Q X k n h N (pc + 3) L st) : WP G μ Q X k n h N pc L (JV x :: st) := by
  have hy : InR 0 := ⟨by omega, by omega⟩
  refine WP.br k1 k2 fun F w1 w2 => lv_if_eq F.1 F.2.1 d ht (fun q => w1 ?_) (fun q => w2 ?_)
  · rw [show (0 : Int32) = Int32.ofInt 0 from rfl] at q
    first | (have := (J_eq hx hy).mp q; assumption) | (rw [ne_eq, J_eq hx hy] at q; exact q) | (rw [J_eq hx hy] at q; exact q) | (rw [J_lt hx hy] at q; omega) | (rw [J_le hx hy] at q; omega) | (rw [J_lt hy hx] at q; omega) | (rw [J_le hy hx] at q; omega) | (rw [ge_iff_le, J_le hy hx] at q; omega) | (rw [gt_iff_lt, J_lt hy hx] at q; omega)
  · rw [show (0 : Int32) = Int32.ofInt 0 from rfl] at q
    first | exact Classical.not_not.mp (fun z => q (fun z2 => z ((J_eq hx hy).mp z2))) | exact (J_eq hx hy).mp q | (rw [J_eq hx hy] at q; exact q) | (rw [ne_eq, J_eq hx hy] at q; exact q) | (rw [J_lt hx hy] at q; omega) | (rw [J_le hx hy] at q; omega) | (rw [J_lt hy hx] at q; omega) | (rw [J_le hy hx] at q; omega) | (rw [ge_iff_le, J_le hy hx] at q; omega) | (rw [gt_iff_lt, J_lt hy hx] at q; omega)
theorem wp_icmp_ne {x y off : Int} (tgt : Nat) (d : decode (mC μ) pc = .ok (.if_icmp .ne off, 3)) (ht : (pc : Int) + off = (tgt : Int)) (hx : InR x) (hy : InR y) (k1 : ¬ x = y → WP G μ Q X k n h N tgt L st) (k2 : x = y → WP G μ Q X k n h N (pc + 3) L st) : WP G μ Q X k n h N pc L (JV y :: JV x :: st) :=
  WP.br k1 k2 fun F w1 w2 => lv_icmp_ne F.1 F.2.1 d ht (fun q => w1 (by first | (have := (J_eq hx hy).mp q; assumption) | (rw [ne_eq, J_eq hx hy] at q; exact q) | (rw [J_eq hx hy] at q; exact q) | (rw [J_lt hx hy] at q; omega) | (rw [J_le hx hy] at q; omega) | (rw [J_lt hy hx] at q; omega) | (rw [J_le hy hx] at q; omega) | (rw [ge_iff_le, J_le hy hx] at q; omega) | (rw [gt_iff_lt, J_lt hy hx] at q; omega)))
    (fun q => w2 (by first | exact Classical.not_not.mp (fun z => q (fun z2 => z ((J_eq hx hy).mp z2))) | exact (J_eq hx hy).mp q | (rw [J_eq hx hy] at q; exact q) | (rw [ne_eq, J_eq hx hy] at q; exact q) | (rw [J_lt hx hy] at q; omega) | (rw [J_le hx hy] at q; omega) | (rw [J_lt hy hx] at q; omega) | (rw [J_le hy hx] at q; omega) | (rw [ge_iff_le, J_le hy hx] at q; omega) | (rw [gt_iff_lt, J_lt hy hx] at q; omega)))
theorem wp_if_ne {x off : Int} (tgt : Nat) (d : decode (mC μ) pc = .ok (.ifCond .ne off, 3)) (ht : (pc : Int) + off = (tgt : Int)) (hx : InR x) (k1 : ¬ x = 0 → WP G μ Q X k n h N tgt L st) (k2 : x = 0 → WP G μ Q X k n h N (pc + 3) L st) : WP G μ Q X k n h N pc L (JV x :: st) := by
  have hy : InR 0 := ⟨by omega, by omega⟩
  refine WP.br k1 k2 fun F w1 w2 => lv_if_ne F.1 F.2.1 d ht (fun q => w1 ?_) (fun q => w2 ?_)
  · rw [show (0 : Int32) = Int32.ofInt 0 from rfl] at q
    first | (have := (J_eq hx hy).mp q; assumption) | (rw [ne_eq, J_eq hx hy] at q; exact q) | (rw [J_eq hx hy] at q; exact q) | (rw [J_lt hx hy] at q; omega) | (rw [J_le hx hy] at q; omega) | (rw [J_lt hy hx] at q; omega) | (rw [J_le hy hx] at q; omega) | (rw [ge_iff_le, J_le hy hx] at q; omega) | (rw [gt_iff_lt, J_lt hy hx] at q; omega)
  · rw [show (0 : Int32) = Int32.ofInt 0 from rfl] at q
    first | exact Classical.not_not.mp (fun z => q (fun z2 => z ((J_eq hx hy).mp z2))) | exact (J_eq hx hy).mp q | (rw [J_eq hx hy] at q; exact q) | (rw [ne_eq, J_eq hx hy] at q; exact q) | (rw [J_lt hx hy] at q; omega) | (rw [J_le hx hy] at q; omega) | (rw [J_lt hy hx] at q; omega) | (rw [J_le hy hx] at q; omega) | (rw [ge_iff_le, J_le hy hx] at q; omega) | (rw [gt_iff_lt, J_lt hy hx] at q; omega)
theorem wp_icmp_lt {x y off : Int} (tgt : Nat) (d : decode (mC μ) pc = .ok (.if_icmp .lt off, 3)) (ht : (pc : Int) + off = (tgt : Int)) (hx : InR x) (hy : InR y) (k1 : x < y → WP G μ Q X k n h N tgt L st) (k2 : y ≤ x → WP G μ Q X k n h N (pc + 3) L st) : WP G μ Q X k n h N pc L (JV y :: JV x :: st) :=
  WP.br k1 k2 fun F w1 w2 => lv_icmp_lt F.1 F.2.1 d ht (fun q => w1 (by first | (have := (J_eq hx hy).mp q; assumption) | (rw [ne_eq, J_eq hx hy] at q; exact q) | (rw [J_eq hx hy] at q; exact q) | (rw [J_lt hx hy] at q; omega) | (rw [J_le hx hy] at q; omega) | (rw [J_lt hy hx] at q; omega) | (rw [J_le hy hx] at q; omega) | (rw [ge_iff_le, J_le hy hx] at q; omega) | (rw [gt_iff_lt, J_lt hy hx] at q; omega)))
    (fun q => w2 (by first | exact Classical.not_not.mp (fun z => q (fun z2 => z ((J_eq hx hy).mp z2))) | exact (J_eq hx hy).mp q | (rw [J_eq hx hy] at q; exact q) | (rw [ne_eq, J_eq hx hy] at q; exact q) | (rw [J_lt hx hy] at q; omega) | (rw [J_le hx hy] at q; omega) | (rw [J_lt hy hx] at q; omega) | (rw [J_le hy hx] at q; omega) | (rw [ge_iff_le, J_le hy hx] at q; omega) | (rw [gt_iff_lt, J_lt hy hx] at q; omega)))
theorem wp_if_lt {x off : Int} (tgt : Nat) (d : decode (mC μ) pc = .ok (.ifCond .lt off, 3)) (ht : (pc : Int) + off = (tgt : Int)) (hx : InR x) (k1 : x < 0 → WP G μ Q X k n h N tgt L st) (k2 : 0 ≤ x → WP G μ Q X k n h N (pc + 3) L st) : WP G μ Q X k n h N pc L (JV x :: st) := by
  have hy : InR 0 := ⟨by omega, by omega⟩
  refine WP.br k1 k2 fun F w1 w2 => lv_if_lt F.1 F.2.1 d ht (fun q => w1 ?_) (fun q => w2 ?_)
  · rw [show (0 : Int32) = Int32.ofInt 0 from rfl] at q
    first | (have := (J_eq hx hy).mp q; assumption) | (rw [ne_eq, J_eq hx hy] at q; exact q) | (rw [J_eq hx hy] at q; exact q) | (rw [J_lt hx hy] at q; omega) | (rw [J_le hx hy] at q; omega) | (rw [J_lt hy hx] at q; omega) | (rw [J_le hy hx] at q; omega) | (rw [ge_iff_le, J_le hy hx] at q; omega) | (rw [gt_iff_lt, J_lt hy hx] at q; omega)
  · rw [show (0 : Int32) = Int32.ofInt 0 from rfl] at q
    first | exact Classical.not_not.mp (fun z => q (fun z2 => z ((J_eq hx hy).mp z2))) | exact (J_eq hx hy).mp q | (rw [J_eq hx hy] at q; exact q) | (rw [ne_eq, J_eq hx hy] at q; exact q) | (rw [J_lt hx hy] at q; omega) | (rw [J_le hx hy] at q; omega) | (rw [J_lt hy hx] at q; omega) | (rw [J_le hy hx] at q; omega) | (rw [ge_iff_le, J_le hy hx] at q; omega) | (rw [gt_iff_lt, J_lt hy hx] at q; omega)
theorem wp_icmp_ge {x y off : Int} (tgt : Nat) (d : decode (mC μ) pc = .ok (.if_icmp .ge off, 3)) (ht : (pc : Int) + off = (tgt : Int)) (hx : InR x) (hy : InR y) (k1 : y ≤ x → WP G μ Q X k n h N tgt L st) (k2 : x < y → WP G μ Q X k n h N (pc + 3) L st) : WP G μ Q X k n h N pc L (JV y :: JV x :: st) :=
  WP.br k1 k2 fun F w1 w2 => lv_icmp_ge F.1 F.2.1 d ht (fun q => w1 (by first | (have := (J_eq hx hy).mp q; assumption) | (rw [ne_eq, J_eq hx hy] at q; exact q) | (rw [J_eq hx hy] at q; exact q) | (rw [J_lt hx hy] at q; omega) | (rw [J_le hx hy] at q; omega) | (rw [J_lt hy hx] at q; omega) | (rw [J_le hy hx] at q; omega) | (rw [ge_iff_le, J_le hy hx] at q; omega) | (rw [gt_iff_lt, J_lt hy hx] at q; omega)))
    (fun q => w2 (by first | exact Classical.not_not.mp (fun z => q (fun z2 => z ((J_eq hx hy).mp z2))) | exact (J_eq hx hy).mp q | (rw [J_eq hx hy] at q; exact q) | (rw [ne_eq, J_eq hx hy] at q; exact q) | (rw [J_lt hx hy] at q; omega) | (rw [J_le hx hy] at q; omega) | (rw [J_lt hy hx] at q; omega) | (rw [J_le hy hx] at q; omega) | (rw [ge_iff_le, J_le hy hx] at q; omega) | (rw [gt_iff_lt, J_lt hy hx] at q; omega)))
theorem wp_if_ge {x off : Int} (tgt : Nat) (d : decode (mC μ) pc = .ok (.ifCond .ge off, 3)) (ht : (pc : Int) + off = (tgt : Int)) (hx : InR x) (k1 : 0 ≤ x → WP G μ Q X k n h N tgt L st) (k2 : x < 0 → WP G μ Q X k n h N (pc + 3) L st) : WP G μ Q X k n h N pc L (JV x :: st) := by
  have hy : InR 0 := ⟨by omega, by omega⟩
  refine WP.br k1 k2 fun F w1 w2 => lv_if_ge F.1 F.2.1 d ht (fun q => w1 ?_) (fun q => w2 ?_)
  · rw [show (0 : Int32) = Int32.ofInt 0 from rfl] at q
    first | (have := (J_eq hx hy).mp q; assumption) | (rw [ne_eq, J_eq hx hy] at q; exact q) | (rw [J_eq hx hy] at q; exact q) | (rw [J_lt hx hy] at q; omega) | (rw [J_le hx hy] at q; omega) | (rw [J_lt hy hx] at q; omega) | (rw [J_le hy hx] at q; omega) | (rw [ge_iff_le, J_le hy hx] at q; omega) | (rw [gt_iff_lt, J_lt hy hx] at q; omega)
  · rw [show (0 : Int32) = Int32.ofInt 0 from rfl] at q
    first | exact Classical.not_not.mp (fun z => q (fun z2 => z ((J_eq hx hy).mp z2))) | exact (J_eq hx hy).mp q | (rw [J_eq hx hy] at q; exact q) | (rw [ne_eq, J_eq hx hy] at q; exact q) | (rw [J_lt hx hy] at q; omega) | (rw [J_le hx hy] at q; omega) | (rw [J_lt hy hx] at q; omega) | (rw [J_le hy hx] at q; omega) | (rw [ge_iff_le, J_le hy hx] at q; omega) | (rw [gt_iff_lt, J_lt hy hx] at q; omega)
theorem wp_icmp_gt {x y off : Int} (tgt : Nat) (d : decode (mC μ) pc = .ok (.if_icmp .gt off, 3)) (ht : (pc : Int) + off = (tgt : Int)) (hx : InR x) (hy : InR y) (k1 : y < x → WP G μ Q X k n h N tgt L st) (k2 : x ≤ y → WP G μ Q X k n h N (pc + 3) L st) : WP G μ Q X k n h N pc L (JV y :: JV x :: st) :=
  WP.br k1 k2 fun F w1 w2 => lv_icmp_gt F.1 F.2.1 d ht (fun q => w1 (by first | (have := (J_eq hx hy).mp q; assumption) | (rw [ne_eq, J_eq hx hy] at q; exact q) | (rw [J_eq hx hy] at q; exact q) | (rw [J_lt hx hy] at q; omega) | (rw [J_le hx hy] at q; omega) | (rw [J_lt hy hx] at q; omega) | (rw [J_le hy hx] at q; omega) | (rw [ge_iff_le, J_le hy hx] at q; omega) | (rw [gt_iff_lt, J_lt hy hx] at q; omega)))
    (fun q => w2 (by first | exact Classical.not_not.mp (fun z => q (fun z2 => z ((J_eq hx hy).mp z2))) | exact (J_eq hx hy).mp q | (rw [J_eq hx hy] at q; exact q) | (rw [ne_eq, J_eq hx hy] at q; exact q) | (rw [J_lt hx hy] at q; omega) | (rw [J_le hx hy] at q; omega) | (rw [J_lt hy hx] at q; omega) | (rw [J_le hy hx] at q; omega) | (rw [ge_iff_le, J_le hy hx] at q; omega) | (rw [gt_iff_lt, J_lt hy hx] at q; omega)))
theorem wp_if_gt {x off : Int} (tgt : Nat) (d : decode (mC μ) pc = .ok (.ifCond .gt off, 3)) (ht : (pc : Int) + off = (tgt : Int)) (hx : InR x) (k1 : 0 < x → WP G μ Q X k n h N tgt L st) (k2 : x ≤ 0 → WP G μ Q X k n h N (pc + 3) L st) : WP G μ Q X k n h N pc L (JV x :: st) := by
  have hy : InR 0 := ⟨by omega, by omega⟩
  refine WP.br k1 k2 fun F w1 w2 => lv_if_gt F.1 F.2.1 d ht (fun q => w1 ?_) (fun q => w2 ?_)
  · rw [show (0 : Int32) = Int32.ofInt 0 from rfl] at q
    first | (have := (J_eq hx hy).mp q; assumption) | (rw [ne_eq, J_eq hx hy] at q; exact q) | (rw [J_eq hx hy] at q; exact q) | (rw [J_lt hx hy] at q; omega) | (rw [J_le hx hy] at q; omega) | (rw [J_lt hy hx] at q; omega) | (rw [J_le hy hx] at q; omega) | (rw [ge_iff_le, J_le hy hx] at q; omega) | (rw [gt_iff_lt, J_lt hy hx] at q; omega)
  · rw [show (0 : Int32) = Int32.ofInt 0 from rfl] at q
    first | exact Classical.not_not.mp (fun z => q (fun z2 => z ((J_eq hx hy).mp z2))) | exact (J_eq hx hy).mp q | (rw [J_eq hx hy] at q; exact q) | (rw [ne_eq, J_eq hx hy] at q; exact q) | (rw [J_lt hx hy] at q; omega) | (rw [J_le hx hy] at q; omega) | (rw [J_lt hy hx] at q; omega) | (rw [J_le hy hx] at q; omega) | (rw [ge_iff_le, J_le hy hx] at q; omega) | (rw [gt_iff_lt, J_lt hy hx] at q; omega)
theorem wp_icmp_le {x y off : Int} (tgt : Nat) (d : decode (mC μ) pc = .ok (.if_icmp .le off, 3)) (ht : (pc : Int) + off = (tgt : Int)) (hx : InR x) (hy : InR y) (k1 : x ≤ y → WP G μ Q X k n h N tgt L st) (k2 : y < x → WP G μ Q X k n h N (pc + 3) L st) : WP G μ Q X k n h N pc L (JV y :: JV x :: st) :=
  WP.br k1 k2 fun F w1 w2 => lv_icmp_le F.1 F.2.1 d ht (fun q => w1 (by first | (have := (J_eq hx hy).mp q; assumption) | (rw [ne_eq, J_eq hx hy] at q; exact q) | (rw [J_eq hx hy] at q; exact q) | (rw [J_lt hx hy] at q; omega) | (rw [J_le hx hy] at q; omega) | (rw [J_lt hy hx] at q; omega) | (rw [J_le hy hx] at q; omega) | (rw [ge_iff_le, J_le hy hx] at q; omega) | (rw [gt_iff_lt, J_lt hy hx] at q; omega)))
    (fun q => w2 (by first | exact Classical.not_not.mp (fun z => q (fun z2 => z ((J_eq hx hy).mp z2))) | exact (J_eq hx hy).mp q | (rw [J_eq hx hy] at q; exact q) | (rw [ne_eq, J_eq hx hy] at q; exact q) | (rw [J_lt hx hy] at q; omega) | (rw [J_le hx hy] at q; omega) | (rw [J_lt hy hx] at q; omega) | (rw [J_le hy hx] at q; omega) | (rw [ge_iff_le, J_le hy hx] at q; omega) | (rw [gt_iff_lt, J_lt hy hx] at q; omega)))
theorem wp_if_le {x off : Int} (tgt : Nat) (d : decode (mC μ) pc = .ok (.ifCond .le off, 3)) (ht : (pc : Int) + off = (tgt : Int)) (hx : InR x) (k1 : x ≤ 0 → WP G μ Q X k n h N tgt L st) (k2 : 0 < x → WP G μ Q X k n h N (pc + 3) L st) : WP G μ Q X k n h N pc L (JV x :: st) := by
  have hy : InR 0 := ⟨by omega, by omega⟩
  refine WP.br k1 k2 fun F w1 w2 => lv_if_le F.1 F.2.1 d ht (fun q => w1 ?_) (fun q => w2 ?_)
  · rw [show (0 : Int32) = Int32.ofInt 0 from rfl] at q
    first | (have := (J_eq hx hy).mp q; assumption) | (rw [ne_eq, J_eq hx hy] at q; exact q) | (rw [J_eq hx hy] at q; exact q) | (rw [J_lt hx hy] at q; omega) | (rw [J_le hx hy] at q; omega) | (rw [J_lt hy hx] at q; omega) | (rw [J_le hy hx] at q; omega) | (rw [ge_iff_le, J_le hy hx] at q; omega) | (rw [gt_iff_lt, J_lt hy hx] at q; omega)
  · rw [show (0 : Int32) = Int32.ofInt 0 from rfl] at q
    first | exact Classical.not_not.mp (fun z => q (fun z2 => z ((J_eq hx hy).mp z2))) | exact (J_eq hx hy).mp q | (rw [J_eq hx hy] at q; exact q) | (rw [ne_eq, J_eq hx hy] at q; exact q) | (rw [J_lt hx hy] at q; omega) | (rw [J_le hx hy] at q; omega) | (rw [J_lt hy hx] at q; omega) | (rw [J_le hy hx] at q; omega) | (rw [ge_iff_le, J_le hy hx] at q; omega) | (rw [gt_iff_lt, J_lt hy hx] at q; omega)
end Rules2
end
section
/-! ===== fields, arrays, new cells, ends ===== -/
abbrev eO (ci : Nat) (fs : List Value) : va_E := .inr (ci, fs)
abbrev eI (G : Ctx) (n : Nat) (f : Nat → Int) : va_E := .inl (cA G 0, n, .inl (fun j => Int32.ofInt (f j)))
abbrev eZ (G : Ctx) (n : Nat) (f : Nat → Int) : va_E := .inl (cA G 1, n, .inl (fun j => Int32.ofInt (f j)))
abbrev eQ (G : Ctx) (t n : Nat) (f : Nat → Option Nat) : va_E := .inl (cA G t, n, .inr (.inr (.inr (.inr f))))
def fup {α : Type} (f : Nat → α) (k : Nat) (x : α) : Nat → α := fun j => if j = k then x else f j
theorem fup_self {α : Type} (f : Nat → α) (k : Nat) (x : α) : fup f k x k = x := if_pos rfl
theorem fup_ne {α : Type} {f : Nat → α} {k j : Nat} {x : α} (hn : j ≠ k) : fup f k x j = f j := if_neg hn
/-- a class of ours, as the tables have it -/
def CK (ci : Nat) (r : vw_C) (ty0 : Nat → FieldType) : Prop := swCl[ci]? = some r ∧ (∀ w ∈ u_ws r.1 r.2.1 r.2.2, w ∈ AW) ∧ (∀ k, k < r.2.2 → parseFieldDescriptor (r.2.1 k).2.2.1 = some (ty0 k)) ∧ (∀ a, a < r.2.2 → ∀ b, b < r.2.2 → a ≠ b → (r.2.1 a).2.1 ≠ (r.2.1 b).2.1)
/-- the field k of class ci by the constant idx of the class own, its type -/
def FK (own : String) (idx ci k : Nat) (ty : FieldType) (fin : Bool) : Prop := ∃ (r : vw_C) (ty0 : Nat → FieldType), CK ci r ty0 ∧ k < r.2.2 ∧ Cond.fieldLink own idx (r.2.1 k).1 (r.2.1 k).2.1 (r.2.1 k).2.2.1 ∈ AW ∧ parseFieldDescriptor (r.2.1 k).2.2.1 = some ty ∧ (r.2.1 k).2.2.2 = fin
theorem hB_of {G : Ctx} {s : State} {H : Heap} {locs : List Loc} {h : AH} {N : Nat} (hK : KN G s) (hS : va_S (cF G) s.heap H locs) (hR : Rep G h N H) : cB G ≤ N := by
  obtain ⟨-, -, -, -, -, -, -, -, -, -, -, hz⟩ := hK
  have h1 := hS.1
  rw [hR.1] at h1
  exact Nat.le_trans hz h1
theorem hA_of {G : Ctx} {s : State} (hK : KN G s) : ∀ q : Nat, s.heap.size ≤ q → cF G q := by
  obtain ⟨-, -, -, -, -, -, -, -, -, -, -, hz⟩ := hK
  exact fun q hq => Nat.le_trans hz hq
theorem va_S.new {A : Nat → Prop} {H0 H H1 : Heap} {locs : List Loc} (h : va_S A H0 H locs) (z : H.size ≤ H1.size) (oq : ∀ q : Nat, q < H.size → H1[q]? = H[q]?) : va_S A H0 H1 locs :=
  ⟨Nat.le_trans h.1 z, fun q h1 h2 => (oq q (Nat.lt_of_lt_of_le h1 h.1)).trans (h.2.1 q h1 h2), h.2.2⟩
theorem swTys_at {a : Nat → ClassId} {t : Nat} {ty : FieldType} (ht : swTY[t]? = some ty) : (swTys a)[t]? = some (a t, ty) := by
  have hlt : t < 9 := (List.getElem?_eq_some_iff.mp ht).1
  rcases t with _ | _ | _ | _ | _ | _ | _ | _ | _ | t <;> first | (cases ht; rfl) | omega
theorem assign_row {vm : Vm} {a0 c5 : ClassId} {k0 : Class} (g0 : vm.classes[a0]? = some k0) (g6 : k0.kind = .array c5 .int) : vm.assignable a0 a0 = true := by
  show vm.assignableAux (255 + 1) a0 a0 = true
  rw [Vm.assignableAux]
  simp [g0, g6]
section Rules3
variable {G : Ctx} {μ : MI} {Q : PQ} {X : PX} {k n : Nat} {h : AH} {N : Nat} {pc : Nat} {L : List (Option Value)} {st : List Value}
theorem wp_get {idx ci i : Nat} {ty : FieldType} {fin : Bool} {a : Nat} {fs : List Value} {v : Value} (fk : FK (mY μ).cls idx ci i ty fin) (d : decode (mC μ) pc = .ok (.getfield idx, 3)) (hc : h a = some (eO ci fs)) (hv : fs[i]? = some v) (kk : WP G μ Q X k n h N (pc + 3) L (v :: st)) : WP G μ Q X k n h N pc L (.ref a :: st) := by
  obtain ⟨r, ty0, ck, hi, hl, -, -⟩ := fk
  refine kk.go fun F hR hS _ _ _ _ _ w => ?_
  exact va_get F.1 F.2.1 F.2.2.2.2.2.1 ck.2.1 F.2.2.2.2.1 F.2.2.2.2.2.2.2.2.2.2.1 (hR.P hc) 0 rfl ck.1 i hi (F.2.2.2.2.2.1 _ hl) (fun _ h9 => h9) hv d w
/-- a step that changes the cell at a -/
theorem WP.goH {pc' : Nat} {st' : List Value} {a : Nat} {e : va_E} (kk : WP G μ Q X k n (hup h a e) N pc' L st')
    (hs : ∀ {p : Program} {e1 : Env} {R : Room} {s : State} {m : MethodId} {args : Array Value} {below : List Frame} {meth : Method} {c : Code} {H : Heap} {locs : List Loc} {cells slots : Nat} {ls : Array Slot} {Z : State → Prop},
      FX G μ p s m args meth c → Rep G h N H → va_S (cF G) s.heap H locs → (∀ (H1 : Heap) (locs1 : List Loc), Rep G (hup h a e) N H1 → va_S (cF G) s.heap H1 locs1 → W p (cL G) e1 R s m args below meth c H1 locs1 cells slots Z (F0 m pc' ls st')) → W p (cL G) e1 R s m args below meth c H locs cells slots Z (F0 m pc ls st)) : WP G μ Q X k n h N pc L st := by
  intro p e R s m args below meth c H locs cells slots mc ms ls F a1 a2 a3 a4 a5 a6 hR hS hL
  exact hs F hR hS fun H1 locs1 hR1 hS1 => kk p e R s m args below meth c H1 locs1 cells slots mc ms ls F a1 a2 a3 a4 a5 a6 hR1 hS1 hL
theorem wp_put {idx ci i : Nat} {ty : FieldType} {a : Nat} {fs : List Value} {v : Value} (fk : FK (mY μ).cls idx ci i ty false) (d : decode (mC μ) pc = .ok (.putfield idx, 3)) (hc : h a = some (eO ci fs)) (hn : narrow ty v = v) (hf : fits ty v = true) (hl : i < fs.length) (kk : WP G μ Q X k n (hup h a (eO ci (fs.set i v))) N (pc + 3) L st) : WP G μ Q X k n h N pc L (v :: .ref a :: st) := by
  obtain ⟨r, ty0, ck, hi, hlk, hty, hfin⟩ := fk
  refine kk.goH fun F hR hS w => ?_
  have hK : va_K (cD G) swCl (swTys (cA G)) _ := F.2.2.2.2.2.2.2.2.2.2.1
  have hts := F.2.2.2.2.2.1
  have hap := va_apart (own := (mY μ).cls) hts ck.2.1 ty0 ck.2.2.1 ck.2.2.2 hK ck.1
  obtain ⟨r', h1, cell, q1, q2, q3, q4⟩ := hR.P hc 0 _ rfl
  have hr : r' = r := Option.some.inj (h1.symm.trans ck.1)
  subst hr
  obtain ⟨hS2, hfc, kC, hkC, hkind⟩ := hK.1 ci _ ck.1
  obtain ⟨cf, kf, fi, f, hif, hsl⟩ := hS2 i hi
  have hlay := hts _ (ck.2.1 _ (u_in_lay hi))
  unfold u_lay at hlay
  rw [if_neg (by rw [hfin]; decide)] at hlay
  have hst := (u_facts hfc hkC (u_lays hts ck.2.1 hi) hif).1
  have h6 := u_store hfc hkC hkind hlay hif hty hn hf
  refine W.putK F.1 F.2.1 (f := f) ⟨F.2.2.2.2.1, F.2.2.2.2.2.1 _ hlk, ⟨_, _, _, hif⟩, hst⟩ (by rw [q2]; exact h6) q1 q3 (by rw [hsl]; exact k2_hasslot (q4 i hi)) rfl rfl d fun H' e1 e2 e3 => ?_
  rw [hsl] at e1 ⊢
  exact w H' _ (hR.set hc e2 ⟨_, ck.1, t_OB.to (V := updV (vp_V fs) i v) ⟨_, e1, q2, q3, t_set q4 hap hi v⟩ (fun j _ => vp_updV_set hl v j)⟩ e3) (hS.put e2 e3 (hR.2 _ _ hc).1)
theorem wp_putF {idx ci i : Nat} {ty : FieldType} {a : Nat} {fs : List Value} {v : Value} (fk : FK (mY μ).cls idx ci i ty true) (d : decode (mC μ) pc = .ok (.putfield idx, 3)) (hin : (mY μ).name = "<init>") (hdecl : ∀ r, swCl[ci]? = some r → (r.2.1 i).1 = (mY μ).cls) (hc : h a = some (eO ci fs)) (hn : narrow ty v = v) (hf : fits ty v = true) (hl : i < fs.length) (kk : WP G μ Q X k n (hup h a (eO ci (fs.set i v))) N (pc + 3) L st) : WP G μ Q X k n h N pc L (v :: .ref a :: st) := by
  obtain ⟨r, ty0, ck, hi, hlk, hty, hfin⟩ := fk
  refine kk.goH (fun {p e1 R s m args below meth c H locs cells slots ls Z} F hR hS w => ?_)
  have hK : va_K (cD G) swCl (swTys (cA G)) _ := F.2.2.2.2.2.2.2.2.2.2.1
  have hts := F.2.2.2.2.2.1
  have hap := va_apart (own := (mY μ).cls) hts ck.2.1 ty0 ck.2.2.1 ck.2.2.2 hK ck.1
  obtain ⟨r', h1, cell, q1, q2, q3, q4⟩ := hR.P hc 0 _ rfl
  have hr : r' = r := Option.some.inj (h1.symm.trans ck.1)
  subst hr
  obtain ⟨hS2, hfc, kC, hkC, hkind⟩ := hK.1 ci _ ck.1
  obtain ⟨cf, kf, fi, f, hif, hsl⟩ := hS2 i hi
  have hlay := hts _ (ck.2.1 _ (u_in_lay hi))
  unfold u_lay at hlay
  rw [if_pos hfin] at hlay
  have hst := (u_facts hfc hkC (u_lays hts ck.2.1 hi) hif).1
  have hcf : m.cls = cf := by
    obtain ⟨_, _, c', _, _, _, -, -, hf', -, -, -, hown2, -⟩ := Cond.laysFinal_spec hlay
    have e1 : c' = cf := by have := hif.symm.trans hf'; simp at this; exact this.1.symm
    rw [hdecl _ ck.1] at hown2
    rw [← e1]; exact Option.some.inj (F.2.2.2.2.1.symm.trans hown2)
  have h6 := u_fits hfc hkC hkind (Or.inr hlay) hif hty hn hf
  refine W.putFinK F.1 F.2.1 F.2.2.2.2.1 (F.2.2.2.2.2.1 _ hlk) hif hst hcf (F.2.2.2.2.2.2.2.1.trans hin) (by rw [q2]; exact h6) q1 q3 (by rw [hsl]; exact k2_hasslot (q4 i hi)) rfl rfl d fun H' e1 e2 e3 => ?_
  rw [hsl] at e1 ⊢
  exact w H' _ (hR.set hc e2 ⟨_, ck.1, t_OB.to (V := updV (vp_V fs) i v) ⟨_, e1, q2, q3, t_set q4 hap hi v⟩ (fun j _ => vp_updV_set hl v j)⟩ e3) (hS.put e2 e3 (hR.2 _ _ hc).1)
/-! arrays -/
theorem wp_iaload {a m : Nat} {f : Nat → Int} {i : Int} (d : decode (mC μ) pc = .ok (.iaload, 1)) (hc : h a = some (eI G m f)) (h0 : 0 ≤ i) (h1 : i < (m : Int)) (hm : m < 2147483648) (kk : WP G μ Q X k n h N (pc + 1) L (JV (f i.toNat) :: st)) : WP G μ Q X k n h N pc L (JV i :: .ref a :: st) :=
  kk.go fun F hR _ _ _ _ _ _ w => va_iald F.1 F.2.1 F.2.2.2.2.2.2.2.2.2.2.1 (hR.P hc) 0 0 rfl rfl (J_in h0 h1 hm) d (by rw [J_clamp h0 (by omega)]; exact w)
theorem wp_zaload {a m : Nat} {f : Nat → Int} {i : Int} (d : decode (mC μ) pc = .ok (.baload, 1)) (hc : h a = some (eZ G m f)) (h0 : 0 ≤ i) (h1 : i < (m : Int)) (hm : m < 2147483648) (kk : WP G μ Q X k n h N (pc + 1) L (JV (f i.toNat) :: st)) : WP G μ Q X k n h N pc L (JV i :: .ref a :: st) :=
  kk.go fun F hR _ _ _ _ _ _ w => va_zald F.1 F.2.1 F.2.2.2.2.2.2.2.2.2.2.1 (hR.P hc) 0 1 rfl rfl (J_in h0 h1 hm) d (by rw [J_clamp h0 (by omega)]; exact w)
theorem wp_aaload {a m t b : Nat} {ty : FieldType} {f : Nat → Option Nat} {i : Int} (d : decode (mC μ) pc = .ok (.aaload, 1)) (hc : h a = some (eQ G t m f)) (ht : swTY[t]? = some ty) (hr : ty.isReference = true) (h0 : 0 ≤ i) (h1 : i < (m : Int)) (hm : m < 2147483648) (hb : f i.toNat = some b) (kk : WP G μ Q X k n h N (pc + 1) L (.ref b :: st)) : WP G μ Q X k n h N pc L (JV i :: .ref a :: st) := by
  refine kk.go fun F hR _ _ _ _ _ _ w => ?_
  have hK : va_K (cD G) swCl (swTys (cA G)) _ := F.2.2.2.2.2.2.2.2.2.2.1
  have ht2 := swTys_at (a := cA G) ht
  have hlt : (Int32.ofInt i).toNatClampNeg < m := by rw [J_clamp h0 (by omega)]; omega
  refine W.aald (v := va_rf (f (Int32.ofInt i).toNatClampNeg)) (ty := ty) F.1 F.2.1 (hR.P hc 0 _ rfl) ((hK.2 t _ ht2).1 m (fun j => va_rf (f j))) hr (fun q => by cases q) (by show ¬ (Int32.ofInt i < 0 ∨ (arrV _ _ _).slots.size ≤ _); rw [arrV_size]; exact J_in h0 h1 hm) (by show (arrV _ _ _).slots[_]? = _; rw [arrV_read _ _ hlt]) rfl rfl d ?_
  rw [J_clamp h0 (by omega), hb]
  exact w
theorem wp_alenI {a m : Nat} {f : Nat → Int} (d : decode (mC μ) pc = .ok (.arraylength, 1)) (hc : h a = some (eI G m f)) (kk : WP G μ Q X k n h N (pc + 1) L (JV (m : Int) :: st)) : WP G μ Q X k n h N pc L (.ref a :: st) :=
  kk.go fun F hR _ _ _ _ _ _ w => va_alen F.1 F.2.1 F.2.2.2.2.2.2.2.2.2.2.1 (hR.P hc) 0 0 rfl rfl (J_nat m).symm d w
theorem wp_alenII {a m : Nat} {f : Nat → Option Nat} (d : decode (mC μ) pc = .ok (.arraylength, 1)) (hc : h a = some (eQ G 4 m f)) (kk : WP G μ Q X k n h N (pc + 1) L (JV (m : Int) :: st)) : WP G μ Q X k n h N pc L (.ref a :: st) :=
  kk.go fun F hR _ _ _ _ _ _ w => va_alen F.1 F.2.1 F.2.2.2.2.2.2.2.2.2.2.1 (hR.P hc) 0 4 rfl rfl (J_nat m).symm d w
theorem arrV_up {c : ClassId} {m i : Nat} {f : Nat → Value} {v : Value} {g : Nat → Value} (hg : ∀ j, g j = if j = i then v else f j) : (arrV c m f).setSlot i v = arrV c m g := by
  rw [arrV_store]
  congr 1
  funext j
  rw [hg j]
  by_cases hj : j = i
  · subst hj; simp [updV]
  · simp [updV, hj]
theorem wp_iastore {a m : Nat} {f : Nat → Int} {i x : Int} (d : decode (mC μ) pc = .ok (.iastore, 1)) (hc : h a = some (eI G m f)) (h0 : 0 ≤ i) (h1 : i < (m : Int)) (hm : m < 2147483648) (kk : WP G μ Q X k n (hup h a (eI G m (fup f i.toNat x))) N (pc + 1) L st) : WP G μ Q X k n h N pc L (JV x :: JV i :: .ref a :: st) := by
  refine kk.goH fun F hR hS w => ?_
  have hK : va_K (cD G) swCl (swTys (cA G)) _ := F.2.2.2.2.2.2.2.2.2.2.1
  refine W.iast F.1 F.2.1 (hR.P hc 0 _ rfl) ((hK.2 0 _ rfl).1 m (fun j => .int (Int32.ofInt (f j)))) (fun q => by cases q) (by show ¬ (Int32.ofInt i < 0 ∨ (arrV _ _ _).slots.size ≤ _); rw [arrV_size]; exact J_in h0 h1 hm) rfl rfl d fun H1 e z oq => ?_
  refine w H1 _ (hR.set hc z ?_ oq) (hS.put z oq (hR.2 _ _ hc).1)
  show H1[a]? = some (vp_cell _ _)
  rw [e, J_clamp h0 (by omega)]
  rw [vp_cell_i, vp_cell_i]
  refine congrArg some (arrV_up fun j => ?_)
  simp only [fup]
  split <;> rfl
theorem wp_zastore {a m : Nat} {f : Nat → Int} {i x : Int} (d : decode (mC μ) pc = .ok (.bastore, 1)) (hc : h a = some (eZ G m f)) (h0 : 0 ≤ i) (h1 : i < (m : Int)) (hm : m < 2147483648) (hx : x = 0 ∨ x = 1) (kk : WP G μ Q X k n (hup h a (eZ G m (fup f i.toNat x))) N (pc + 1) L st) : WP G μ Q X k n h N pc L (JV x :: JV i :: .ref a :: st) := by
  refine kk.goH fun F hR hS w => ?_
  have hK : va_K (cD G) swCl (swTys (cA G)) _ := F.2.2.2.2.2.2.2.2.2.2.1
  refine W.zast F.1 F.2.1 (hR.P hc 0 _ rfl) ((hK.2 1 _ rfl).1 m (fun j => .int (Int32.ofInt (f j)))) (fun q => by cases q) (by show ¬ (Int32.ofInt i < 0 ∨ (arrV _ _ _).slots.size ≤ _); rw [arrV_size]; exact J_in h0 h1 hm) rfl rfl d fun H1 e z oq => ?_
  refine w H1 _ (hR.set hc z ?_ oq) (hS.put z oq (hR.2 _ _ hc).1)
  show H1[a]? = some (vp_cell _ _)
  rw [e, J_clamp h0 (by omega)]
  rw [vp_cell_i, vp_cell_i]
  have hnx : narrow .boolean (.int (Int32.ofInt x)) = .int (Int32.ofInt x) := by rcases hx with rfl | rfl <;> rfl
  rw [hnx]
  refine congrArg some (arrV_up fun j => ?_)
  simp only [fup]
  split <;> rfl
theorem wp_aastore {a m t b ci : Nat} {C : String} {T : u_T} {sz : Nat} {vs : List Value} {f : Nat → Option Nat} {i : Int} (d : decode (mC μ) pc = .ok (.aastore, 1)) (hc : h a = some (eQ G t m f)) (hb : h b = some (eO ci vs)) (hcl : swCl[ci]? = some (C, T, sz)) (ht : swTY[t]? = some (.object C)) (h0 : 0 ≤ i) (h1 : i < (m : Int)) (hm : m < 2147483648) (kk : WP G μ Q X k n (hup h a (eQ G t m (fup f i.toNat (some b)))) N (pc + 1) L st) : WP G μ Q X k n h N pc L (.ref b :: JV i :: .ref a :: st) := by
  refine kk.goH fun F hR hS w => ?_
  have hK : va_K (cD G) swCl (swTys (cA G)) _ := F.2.2.2.2.2.2.2.2.2.2.1
  have ht2 := swTys_at (a := cA G) ht
  have hlt : (Int32.ofInt i).toNatClampNeg < m := by rw [J_clamp h0 (by omega)]; omega
  obtain ⟨r', hr', cellV, g1, g2, g3, -⟩ := hR.P hb 0 _ rfl
  have hcls := (hK.1 ci _ hcl).2
  obtain ⟨kA, comp, k1, k2, k3, -⟩ := (hK.2 t _ ht2).2
  have hcomp : comp = (cD G).1 ci := Option.some.inj (k3.symm.trans hcls.1)
  subst hcomp
  obtain ⟨kC, hkC, -⟩ := hcls.2
  refine W.aast F.1 F.2.1 (hR.P hc 0 _ rfl) (fun q h => by cases h) (fun h => by cases h) k1 k2 rfl hkC ⟨fun q => (J_in h0 h1 hm) (Or.inl q), by show _ < (arrV _ _ _).slots.size; rw [arrV_size]; exact hlt⟩ g1 (fun q h => by rw [g3] at h; cases h) (by rw [g2]; exact hkC) (by rw [g2]; exact va_assign hcls) rfl rfl d fun H1 e z oq => ?_
  refine w H1 _ (hR.set hc z ?_ oq) (hS.put z oq (hR.2 _ _ hc).1)
  show H1[a]? = some (vp_cell _ _)
  rw [e, J_clamp h0 (by omega)]
  rw [vp_cell_q, vp_cell_q]
  refine congrArg some (arrV_up fun j => ?_)
  simp only [fup]
  split <;> rfl
/-- a row of ints into an int[][] -/
theorem wp_aastoreI {a m b m2 : Nat} {g : Nat → Int} {f : Nat → Option Nat} {i : Int} (d : decode (mC μ) pc = .ok (.aastore, 1)) (hc : h a = some (eQ G 4 m f)) (hb : h b = some (eI G m2 g)) (h0 : 0 ≤ i) (h1 : i < (m : Int)) (hm : m < 2147483648) (kk : WP G μ Q X k n (hup h a (eQ G 4 m (fup f i.toNat (some b)))) N (pc + 1) L st) : WP G μ Q X k n h N pc L (.ref b :: JV i :: .ref a :: st) := by
  refine kk.goH fun F hR hS w => ?_
  have hlt : (Int32.ofInt i).toNatClampNeg < m := by rw [J_clamp h0 (by omega)]; omega
  obtain ⟨k0, k4, g0, g4, g5, ⟨c5, g6⟩, -⟩ := F.2.2.2.2.2.2.2.2.2.2.2.2.2.2.2.2.2.1
  refine W.aast F.1 F.2.1 (hR.P hc 0 _ rfl) (fun q h => by cases h) (fun h => by cases h) g4 g5 rfl g0 ⟨fun q => (J_in h0 h1 hm) (Or.inl q), by show _ < (arrV _ _ _).slots.size; rw [arrV_size]; exact hlt⟩ (hR.P hb 0 _ rfl) (fun q h => by cases h) g0 (assign_row g0 g6) rfl rfl d fun H1 e z oq => ?_
  refine w H1 _ (hR.set hc z ?_ oq) (hS.put z oq (hR.2 _ _ hc).1)
  show H1[a]? = some (vp_cell _ _)
  rw [e, J_clamp h0 (by omega)]
  rw [vp_cell_q, vp_cell_q]
  refine congrArg some (arrV_up fun j => ?_)
  simp only [fup]
  split <;> rfl
end Rules3
end
section
/-! ===== new cells, ends, contracts, calls ===== -/
section Rules4
variable {G : Ctx} {μ : MI} {Q : PQ} {X : PX} {k n : Nat} {h : AH} {N : Nat} {pc : Nat} {L : List (Option Value)} {st : List Value}
/-- a step that makes k1 cells of n1 slots, the heap then being h' of N' cells -/
theorem WP.goN {pc' N' k1 n1 k2 n2 : Nat} {st' : List Value} {h' : AH} (hk : k1 + k2 ≤ k) (hn : n1 + n2 ≤ n) (kk : WP G μ Q X k2 n2 h' N' pc' L st')
    (hs : ∀ {p : Program} {e1 : Env} {R : Room} {s : State} {m : MethodId} {args : Array Value} {below : List Frame} {meth : Method} {c : Code} {H : Heap} {locs : List Loc} {cells slots : Nat} {ls : Array Slot} {Z : State → Prop},
      FX G μ p s m args meth c → cells + k1 ≤ R.cells → slots + n1 ≤ R.slots → Rep G h N H → va_S (cF G) s.heap H locs → (∀ (H1 : Heap), Rep G h' N' H1 → va_S (cF G) s.heap H1 locs → W p (cL G) e1 R s m args below meth c H1 locs (cells + k1) (slots + n1) Z (F0 m pc' ls st')) → W p (cL G) e1 R s m args below meth c H locs cells slots Z (F0 m pc ls st)) : WP G μ Q X k n h N pc L st := by
  intro p e R s m args below meth c H locs cells slots mc ms ls F a1 a2 a3 a4 a5 a6 hR hS hL
  exact hs F (by omega) (by omega) hR hS fun H1 hR1 hS1 => kk p e R s m args below meth c H1 locs _ _ mc ms ls F a1 a2 (by omega) (by omega) a5 a6 hR1 hS1 hL
theorem wp_new {ci idx sz k2 n2 : Nat} {C : String} {T : u_T} {ty0 : Nat → FieldType} {fs : List Value} (ck : CK ci (C, T, sz) ty0) (hl : Cond.classLink (mY μ).cls idx C ∈ AW) (hi : Cond.instantiable C sz ∈ AW) (hini : Cond.initialized C ∈ AW) (d : decode (mC μ) pc = .ok (.new idx, 3)) (hfs : ∀ j, j < sz → defaultValue (ty0 j) = vp_V fs j) (hk : 1 + k2 ≤ k) (hn : sz + n2 ≤ n)
    (kk : WP G μ Q X k2 n2 (hup h N (eO ci fs)) (N + 1) (pc + 3) L (.ref N :: st)) : WP G μ Q X k n h N pc L st := by
  refine kk.goN hk hn fun F c1 c2 hR hS w => ?_
  have hK := F.2.2.2.2.2.2.2.2.2
  have hts := F.2.2.2.2.2.1
  have hKn := hK.2.1.1 ci _ ck.1
  have hB := hB_of hK hS hR
  refine W.newcK F.1 F.2.1 F.2.2.2.2.1 (hts _ hl) (hts _ hi) (hts _ hini) rfl d c1 c2 hKn.2.1 hR.1 fun H1 kC hkC e1 z1 o1 => ?_
  refine w H1 (hR.new hB z1 ⟨_, ck.1, (u_born ty0 hts ck.2.1 hKn hkC e1 ck.2.2.1).to hfs⟩ o1) (hS.new (by rw [hR.1, z1]; omega) (by rw [hR.1]; exact o1))
theorem wp_newI {i : Int} {m k2 n2 : Nat} (d : decode (mC μ) pc = .ok (.newarray .int, 2)) (hw : Cond.arrayClass .int ∈ AW) (h0 : i = (m : Int)) (hm : m ≤ 100000) (hk : 1 + k2 ≤ k) (hn : m + n2 ≤ n)
    (kk : WP G μ Q X k2 n2 (hup h N (eI G m (fun _ => 0))) (N + 1) (pc + 2) L (.ref N :: st)) : WP G μ Q X k n h N pc L (JV i :: st) := by
  subst h0
  refine kk.goN hk hn fun F c1 c2 hR hS w => ?_
  have hK := F.2.2.2.2.2.2.2.2.2
  have hB := hB_of hK hS hR
  refine va_newaK (atype := .int) F.1 F.2.1 (F.2.2.2.2.2.1 _ hw) rfl d rfl (fun q => (J_in (x := (m : Int)) (n := m + 1) (by omega) (by omega) (by omega)) (Or.inl q)) ((J_clamp (by omega) (by omega)).trans (Int.toNat_natCast m)) (by show m * 4 ≤ _; omega) c1 c2 hR.1 fun H1 cA1 e1 z1 o1 hAr hNm => ?_
  have hc : cA1 = cA G 0 := Option.some.inj (hNm.symm.trans (hK.2.1.2 0 _ rfl).2)
  subst hc
  refine w H1 (hR.new hB z1 ?_ o1) (hS.new (by rw [hR.1, z1]; omega) (by rw [hR.1]; exact o1))
  exact e1
theorem wp_newZ {i : Int} {m k2 n2 : Nat} (d : decode (mC μ) pc = .ok (.newarray .boolean, 2)) (hw : Cond.arrayClass .boolean ∈ AW) (h0 : i = (m : Int)) (hm : m ≤ 100000) (hk : 1 + k2 ≤ k) (hn : m + n2 ≤ n)
    (kk : WP G μ Q X k2 n2 (hup h N (eZ G m (fun _ => 0))) (N + 1) (pc + 2) L (.ref N :: st)) : WP G μ Q X k n h N pc L (JV i :: st) := by
  subst h0
  refine kk.goN hk hn fun F c1 c2 hR hS w => ?_
  have hK := F.2.2.2.2.2.2.2.2.2
  have hB := hB_of hK hS hR
  refine va_newaK (atype := .boolean) F.1 F.2.1 (F.2.2.2.2.2.1 _ hw) rfl d rfl (fun q => (J_in (x := (m : Int)) (n := m + 1) (by omega) (by omega) (by omega)) (Or.inl q)) ((J_clamp (by omega) (by omega)).trans (Int.toNat_natCast m)) (by show m * 1 ≤ _; omega) c1 c2 hR.1 fun H1 cA1 e1 z1 o1 hAr hNm => ?_
  have hc : cA1 = cA G 1 := Option.some.inj (hNm.symm.trans (hK.2.1.2 1 _ rfl).2)
  subst hc
  refine w H1 (hR.new hB z1 ?_ o1) (hS.new (by rw [hR.1, z1]; omega) (by rw [hR.1]; exact o1))
  exact e1
theorem wp_newQ {C : String} {t idx : Nat} {i : Int} {m k2 n2 : Nat} (d : decode (mC μ) pc = .ok (.anewarray idx, 3)) (hl : Cond.classLink (mY μ).cls idx C ∈ AW) (hC : C ∈ [RX0, RX1, RX9, RX4]) (ht : swTY[t]? = some (.object C)) (h0 : i = (m : Int)) (hm : m ≤ 100000) (hk : 1 + k2 ≤ k) (hn : m + n2 ≤ n)
    (kk : WP G μ Q X k2 n2 (hup h N (eQ G t m (fun _ => none))) (N + 1) (pc + 3) L (.ref N :: st)) : WP G μ Q X k n h N pc L (JV i :: st) := by
  subst h0
  refine kk.goN hk hn (fun {p e1 R s m9 args below meth c H locs cells slots ls Z} F c1 c2 hR hS w => ?_)
  have hK := F.2.2.2.2.2.2.2.2.2
  have hB := hB_of hK hS hR
  have ht2 := swTys_at (a := cA G) ht
  have hcl : (Int32.ofInt (m : Int)).toNatClampNeg = m := (J_clamp (by omega) (by omega)).trans (Int.toNat_natCast m)
  refine W.anew F.1 F.2.1 F.2.2.2.2.1 (F.2.2.2.2.2.1 _ hl) (va_AO.use (hK.2.2.2.2.2.2.1 C hC)) rfl d rfl (fun q => (J_in (x := (m : Int)) (n := m + 1) (by omega) (by omega) (by omega)) (Or.inl q)) (by rw [hcl]; omega) c1 (by rw [hcl]; exact c2) fun cA1 kA comp f1 f2 f3 f4 => ?_
  obtain ⟨kA9, comp9, k1, k2, k3, k4⟩ := (hK.2.1.2 t _ ht2).2
  have hc : cA1 = cA G t := by first | exact Option.some.inj (f1.symm.trans k4) | exact Option.some.inj (f4.symm.trans k4)
  subst hc
  rw [hcl, hR.1]
  refine w _ (hR.new hB (by rw [Array.size_push, hR.1]) ?_ fun q hq => by rw [Array.getElem?_push, if_neg (by rw [hR.1]; omega)]) (hS.new (by rw [Array.size_push]; omega) fun q hq => by rw [Array.getElem?_push, if_neg (by omega)])
  show (H.push _)[N]? = some (vp_cell _ _)
  rw [vp_cell_q, ← hR.1, Array.getElem?_push_size, arrV_new]
  rfl
/-! ends -/
theorem WP.goR {v : Option Value} (q : Q v h N)
    (hs : ∀ {p : Program} {e : Env} {R : Room} {s : State} {m : MethodId} {args : Array Value} {below : List Frame} {meth : Method} {c : Code} {H : Heap} {locs : List Loc} {cells slots : Nat} {ls : Array Slot},
      FX G μ p s m args meth c → (∀ t : State, t.heap = H → s.WarmedH t.vm → SQ G Q args s (.returned v) t) → (∀ q ∈ locs, cF G q.base) → W p (cL G) e R s m args below meth c H locs cells slots (MQ below (SQ G Q) args s cells slots (cF G)) (F0 m pc ls st)) : WP G μ Q X k n h N pc L st := by
  intro p e R s m args below meth c H locs cells slots mc ms ls F a1 a2 a3 a4 a5 a6 hR hS hL
  refine W.widen (k := mc) (n := ms) (by omega) (by omega) (vx_ret (hs F (fun t ht hW => ?_) hS.2.2))
  refine ⟨⟨v, h, rfl, ?_, ?_⟩, hS.F ht⟩
  · rw [ht, hR.1]; exact q
  · rw [ht, hR.1]; exact hR
theorem wp_iret {v : Int32} (d : decode (mC μ) pc = .ok (.ireturn, 1)) (hr : mR μ = some .int) (q : Q (some (.int v)) h N) : WP G μ Q X k n h N pc L [.int v] :=
  WP.goR q fun F w hl => W.iret F.1 F.2.1 (F.2.2.2.1.trans hr) w hl d F.2.2.2.2.2.2.1
theorem wp_zret {v : Int} (d : decode (mC μ) pc = .ok (.ireturn, 1)) (hr : mR μ = some .boolean) (hv : v = 0 ∨ v = 1) (q : Q (some (JV v)) h N) : WP G μ Q X k n h N pc L [JV v] :=
  WP.goR q fun F w hl => W.zret F.1 F.2.1 (F.2.2.2.1.trans hr) (by rcases hv with rfl | rfl <;> rfl) w hl d F.2.2.2.2.2.2.1
theorem wp_vret (d : decode (mC μ) pc = .ok (.return_, 1)) (hr : mR μ = none) (q : Q none h N) : WP G μ Q X k n h N pc L [] :=
  WP.goR q fun F w hl => W.vret F.1 F.2.1 (F.2.2.2.1.trans hr) w hl d F.2.2.2.2.2.2.1
theorem wp_lret {v : Int64} (d : decode (mC μ) pc = .ok (.lreturn, 1)) (hr : mR μ = some .long) (q : Q (some (.long v)) h N) : WP G μ Q X k n h N pc L [.long v] :=
  WP.goR q fun F w hl => W.lret F.1 F.2.1 (F.2.2.2.1.trans hr) w hl d F.2.2.2.2.2.2.1
theorem wp_dret {v : UInt64} (d : decode (mC μ) pc = .ok (.dreturn, 1)) (hr : mR μ = some .double) (q : Q (some (.double v)) h N) : WP G μ Q X k n h N pc L [.double v] :=
  WP.goR q fun F w hl => W.dret F.1 F.2.1 (F.2.2.2.1.trans hr) w hl d F.2.2.2.2.2.2.1
theorem wp_aret {a : Nat} {C : String} (d : decode (mC μ) pc = .ok (.areturn, 1)) (hr : mR μ = some (.object C)) (q : Q (some (.ref a)) h N) : WP G μ Q X k n h N pc L [.ref a] :=
  WP.goR q fun F w hl => W.aret F.1 F.2.1 (F.2.2.2.1.trans hr) (Or.inl ⟨C, rfl⟩) (Or.inr ⟨a, rfl⟩) w hl d F.2.2.2.2.2.2.1
/-! max, min -/
theorem wp_max {x y : Int} {idx : Nat} (d : decode (mC μ) pc = .ok (.invokestatic idx, 3)) (hl : Cond.methodLink (mY μ).cls idx Lib.Math.max.name ∈ AW) (hw : (Cond.static Lib.Math.max.name ∈ AW ∧ Cond.initialized "java/lang/Math" ∈ AW) ∧ Cond.code Lib.Math.max.name Lib.Math.max.code 2 (some .int) ∈ AW) (hf : 1 ≤ mF μ) (ho : (st.map fun v => v.category).sum + 13 ≤ mO μ) (hx : InR x) (hy : InR y) (kk : WP G μ Q X k n h N (pc + 3) L (JV (max x y) :: st)) : WP G μ Q X k n h N pc L (JV y :: JV x :: st) :=
  kk.go fun F _ _ hL a1 a2 a3 a4 w => va_mmax F.1 F.2.1 (F.2.2.1.trans hL.1.symm) F.2.2.2.2.1 (F.2.2.2.2.2.1 _ hl) (F.2.2.2.2.2.1 _ hw.1.1) (F.2.2.2.2.2.1 _ hw.1.2) (F.2.2.2.2.2.1 _ hw.2) (by omega) (by omega) a3 a4 d (by
    have e : (if Int32.ofInt x < Int32.ofInt y then Int32.ofInt y else Int32.ofInt x) = Int32.ofInt (max x y) := by
      by_cases hc : x < y
      · rw [if_pos ((J_lt hx hy).mpr hc)]; congr 1; omega
      · rw [if_neg (fun z => hc ((J_lt hx hy).mp z))]; congr 1; omega
    rw [e]; exact w)
theorem wp_min {x y : Int} {idx : Nat} (d : decode (mC μ) pc = .ok (.invokestatic idx, 3)) (hl : Cond.methodLink (mY μ).cls idx Lib.Math.min.name ∈ AW) (hw : (Cond.static Lib.Math.min.name ∈ AW ∧ Cond.initialized "java/lang/Math" ∈ AW) ∧ Cond.code Lib.Math.min.name Lib.Math.min.code 2 (some .int) ∈ AW) (hf : 1 ≤ mF μ) (ho : (st.map fun v => v.category).sum + 13 ≤ mO μ) (hx : InR x) (hy : InR y) (kk : WP G μ Q X k n h N (pc + 3) L (JV (min x y) :: st)) : WP G μ Q X k n h N pc L (JV y :: JV x :: st) :=
  kk.go fun F _ _ hL a1 a2 a3 a4 w => va_mmin F.1 F.2.1 (F.2.2.1.trans hL.1.symm) F.2.2.2.2.1 (F.2.2.2.2.2.1 _ hl) (F.2.2.2.2.2.1 _ hw.1.1) (F.2.2.2.2.2.1 _ hw.1.2) (F.2.2.2.2.2.1 _ hw.2) (by omega) (by omega) a3 a4 d (by
    have e : (if Int32.ofInt x < Int32.ofInt y then Int32.ofInt x else Int32.ofInt y) = Int32.ofInt (min x y) := by
      by_cases hc : x < y
      · rw [if_pos ((J_lt hx hy).mpr hc)]; congr 1; omega
      · rw [if_neg (fun z => hc ((J_lt hx hy).mp z))]; congr 1; omega
    have e2 : (if Int32.ofInt y < Int32.ofInt x then Int32.ofInt y else Int32.ofInt x) = Int32.ofInt (min x y) := by
      by_cases hc : y < x
      · rw [if_pos ((J_lt hy hx).mpr hc)]; congr 1; omega
      · rw [if_neg (fun z => hc ((J_lt hy hx).mp z))]; congr 1; omega
    first | (rw [e]; exact w) | (rw [e2]; exact w))
end Rules4
end
section
/-! ===== contracts and calls ===== -/
def CPc (G : Ctx) (args : List Value) (h : AH) (N : Nat) : Array Value → State → Prop := va_Pc args (fun U => Rep G h N U.heap ∧ KN G U)
/-- the method μ, called with args over the heap h of N cells, comes to its end with Q; it makes at most k cells of n slots -/
def CT (G : Ctx) (μ : MI) (args : List Value) (h : AH) (N k n : Nat) (Q : PQ) : Prop := Met (cL G) (mY μ) (mW μ) (mRm μ k n) (CPc G args h N) (SQ G Q) k n (cF G)
/-- or throws with X -/
def CX (G : Ctx) (μ : MI) (args : List Value) (h : AH) (N k n : Nat) (Q : PQ) (X : PX) : Prop := vx_Met (cL G) (mY μ) (mW μ) (mRm μ k n) (CPc G args h N) (SQ G Q) (SX G X) k n (cF G)
/-- a method with handlers -/
def CH (G : Ctx) (μ : MI) (args : List Value) (h : AH) (N k n : Nat) (Q : PQ) : Prop := Met (cL G) (mY μ) (mWh μ) (mRm μ k n) (CPc G args h N) (SQ G Q) k n (cF G)
def L0 (args : List Value) (nL : Nat) : List (Option Value) := args.map some ++ List.replicate (nL - args.length) none
theorem cat1_sl : ∀ (vs : List Value), (∀ v ∈ vs, v.category = 1) → (lg_sl vs).length = vs.length
  | [], _ => rfl
  | v :: vs, hc => by
    have h1 := hc v List.mem_cons_self
    have h2 := cat1_sl vs fun w hw => hc w (List.mem_cons_of_mem _ hw)
    unfold lg_sl at h2 ⊢
    rw [List.flatMap_cons, List.length_append, h2, if_neg (by omega)]
    simp [Nat.add_comm]
theorem args_at : ∀ (vs : List Value) (j i : Nat) (v : Value), (∀ w ∈ vs, w.category = 1) → vs[i]? = some v → (j + i, v) ∈ lv_args j vs
  | [], j, i, v, _, hi => by simp at hi
  | w :: vs, j, i, v, hc, hi => by
    have h1 := hc w List.mem_cons_self
    cases i with
    | zero =>
      rw [List.getElem?_cons_zero] at hi
      cases hi
      exact List.mem_cons_self
    | succ i =>
      rw [List.getElem?_cons_succ] at hi
      refine List.mem_cons_of_mem _ ?_
      rw [if_neg (by omega)]
      have := args_at vs (j + 1) i v (fun x hx => hc x (List.mem_cons_of_mem _ hx)) hi
      rw [show j + (i + 1) = j + 1 + i by omega]
      exact this
theorem LR_entry {vs : List Value} {nL : Nat} (hc : ∀ v ∈ vs, v.category = 1) (hl : vs.length ≤ nL) : LR nL (L0 vs nL) ((lg_sl vs ++ List.replicate (nL - (lg_sl vs).length) Slot.unset).toArray) := by
  refine lv_mono (lv_entry vs (n := nL) (by rw [cat1_sl vs hc]; exact hl)) fun q hq => ?_
  obtain ⟨i, v⟩ := q
  have h1 := mem_LA.mp hq
  unfold L0 at h1
  by_cases hi : i < vs.length
  · rw [List.getElem?_append_left (by simpa using hi), List.getElem?_map] at h1
    have h2 : vs[i]? = some v := by
      cases h3 : vs[i]? with
      | none => rw [h3] at h1; cases h1
      | some w => rw [h3] at h1; cases h1; rfl
    have := args_at vs 0 i v hc h2
    rw [Nat.zero_add] at this
    exact this
  · rw [List.getElem?_append_right (by simpa using hi)] at h1
    have h2 := List.mem_of_getElem? h1
    rw [List.mem_replicate] at h2
    cases h2.2
theorem FX_of {G : Ctx} {μ : MI} {p : Program} {ws : List Cond} {k n : Nat} {e : Env} {s s₁ : State} {m : MethodId} {args : Array Value} {below : List Frame} {meth : Method} {c : Code}
    (B : BodyLoose p (cL G) (mY μ) (headSpec ws (mRm μ k n)) (mC μ) (mL μ) (mR μ) e s m args below meth c s₁) (hml : c.maxLocals = mL μ) (hws : ∀ w ∈ AW, w ∈ ws) (ht : c.exceptionTable.toList = tableOf (mH μ)) (hK : KN G s) : FX G μ p s m args meth c :=
  ⟨B.exec, B.bytes, hml, B.returns, findClass_of_methodNamed B.named, fun w hw => atoms_spec (ws := ws) B.pre w (hws w hw), B.notSynchronized, (name_of_methodNamed B.named B.method).1, ht, hK⟩
theorem CX_of {G : Ctx} {μ : MI} {args : List Value} {h : AH} {N k n : Nat} {Q : PQ} {X : PX} (hp : plainName (mY μ).cls = true) (hH : mH μ = []) (hc : ∀ v ∈ args, v.category = 1) (hl : args.length ≤ mL μ) (w : WP G μ Q X k n h N 0 (L0 args (mL μ)) []) : CX G μ args h N k n Q X := by
  refine vx_ofW (cc := mC μ) (maxL := mL μ) (ret := mR μ) hp rfl ?_
  intro p e s m args' below meth c s₁ B hml ht hv
  obtain ⟨rfl, hR, hK⟩ := hv
  have ht2 : c.exceptionTable.toList = tableOf (mH μ) := by
    rw [hH]
    exact List.eq_nil_iff_forall_not_mem.mpr fun x hx => ht x hx
  have F := FX_of B hml (fun w hw => List.mem_cons_of_mem _ hw) ht2 hK
  have hL := LR_entry hc hl
  rw [lg_entry_eq]
  exact w p e _ s m _ below meth c s.heap [] 0 0 k n _ F (Nat.le_refl _) (Nat.le_refl _) (by omega) (by omega) (Nat.le_refl _) (Nat.le_refl _) hR va_S.rf hL
theorem CT_of {G : Ctx} {μ : MI} {args : List Value} {h : AH} {N k n : Nat} {Q : PQ} (hp : plainName (mY μ).cls = true) (hH : mH μ = []) (hc : ∀ v ∈ args, v.category = 1) (hl : args.length ≤ mL μ) (w : WP G μ Q noX k n h N 0 (L0 args (mL μ)) []) : CT G μ args h N k n Q := by
  unfold CT Met
  refine MetFree.mono (CX_of hp hH hc hl w) (fun _ _ q => q) (fun _ _ _ _ _ q => q) fun a s o s' _ q => ?_
  rcases q with q | ⟨q, -, E, ce, L9, ⟨⟨h', q1, -⟩, -⟩, -⟩
  · exact q
  · exact q1.elim
theorem CH_of {G : Ctx} {μ : MI} {args : List Value} {h : AH} {N k n : Nat} {Q : PQ} (hp : plainName (mY μ).cls = true) (hc : ∀ v ∈ args, v.category = 1) (hl : args.length ≤ mL μ) (w : WP G μ Q noX k n h N 0 (L0 args (mL μ)) []) : CH G μ args h N k n Q := by
  have hx : vx_Met (cL G) (mY μ) (mWh μ) (mRm μ k n) (CPc G args h N) (SQ G Q) (SX G noX) k n (cF G) := by
    refine vx_ofWH (cc := mC μ) (maxL := mL μ) (ret := mR μ) (hh := mH μ) hp rfl ?_
    intro p e s m args' below meth c s₁ B hml hv
    obtain ⟨rfl, hR, hK⟩ := hv
    have F := FX_of B hml (fun w hw => List.mem_cons_of_mem _ hw) (vx_table (x := mY μ) B (atoms_spec (ws := mWh μ) B.pre _ List.mem_cons_self)) hK
    have hL := LR_entry hc hl
    rw [lg_entry_eq]
    exact w p e _ s m _ below meth c s.heap [] 0 0 k n _ F (Nat.le_refl _) (Nat.le_refl _) (by omega) (by omega) (Nat.le_refl _) (Nat.le_refl _) hR va_S.rf hL
  unfold CH Met
  refine MetFree.mono hx (fun _ _ q => q) (fun _ _ _ _ _ q => q) fun a s o s' _ q => ?_
  rcases q with q | ⟨q, -, E, ce, L9, ⟨⟨h', q1, -⟩, -⟩, -⟩
  · exact q
  · exact q1.elim
theorem CT.weak {G : Ctx} {μ : MI} {args : List Value} {h : AH} {N k n : Nat} {Q Q' : PQ} (c : CT G μ args h N k n Q) (i : ∀ r h' N', Q r h' N' → Q' r h' N') : CT G μ args h N k n Q' := by
  unfold CT Met at c ⊢
  refine MetFree.mono c (fun _ _ q => q) (fun _ _ _ _ _ q => q) fun a s o s' _ q => ?_
  obtain ⟨⟨⟨r, h', q1, q2, q3⟩, q4⟩, q5⟩ := q
  exact ⟨⟨⟨r, h', q1, i _ _ _ q2, q3⟩, q4⟩, q5⟩
/-- the heap stays, the answer is v -/
abbrev PV (v : Value) (h : AH) (N : Nat) : PQ := fun r h' N' => r = some v ∧ h' = h ∧ N' = N
/-! words of a call -/
def CW (μ' : MI) (na : Nat) : Prop := Cond.code (mY μ') (mC μ') (mL μ') (mR μ') ∈ AW ∧ Cond.initialized (mY μ').cls ∈ AW ∧ (mY μ').cls ≠ "java/lang/invoke/MethodHandle" ∧ (mY μ').cls ≠ "java/lang/invoke/VarHandle" ∧ (parseMethodDescriptor (mY μ').desc).map (fun d => d.parameters.length) = some na
def CV (own : String) (idx : Nat) (μ' : MI) (na : Nat) : Prop := CW μ' na ∧ Cond.methodLink own idx (mY μ') ∈ AW ∧ Cond.instanceMethod (mY μ') ∈ AW ∧ Cond.selects (mY μ').cls (mY μ') (mY μ') ∈ AW
def CS (own : String) (idx : Nat) (μ' : MI) (na : Nat) : Prop := CW μ' na ∧ Cond.methodLink own idx (mY μ') ∈ AW ∧ Cond.static (mY μ') ∈ AW
def CI (own : String) (idx : Nat) (μ' : MI) (na : Nat) : Prop := CW μ' na ∧ Cond.methodLink own idx (mY μ') ∈ AW ∧ Cond.instanceMethod (mY μ') ∈ AW ∧ (mY μ').name = "<init>" ∧ mR μ' = none
def CIN (own : String) (idx : Nat) (μ' : MI) (na : Nat) : Prop := CW μ' na ∧ (∃ host, Cond.methodLinkNest own idx (mY μ') host ∈ swNW) ∧ Cond.instanceMethod (mY μ') ∈ AW ∧ (mY μ').name = "<init>" ∧ mR μ' = none
def CSN (own : String) (idx : Nat) (μ' : MI) (na : Nat) : Prop := CW μ' na ∧ (∃ host, Cond.methodLinkNest own idx (mY μ') host ∈ swNW) ∧ Cond.static (mY μ') ∈ AW
def CSH (own : String) (idx : Nat) (μ' : MI) (na : Nat) : Prop := (Cond.codeWith (mY μ') (mC μ') (mL μ') (mR μ') (mH μ') ∈ AW ∧ Cond.initialized (mY μ').cls ∈ AW ∧ (mY μ').cls ≠ "java/lang/invoke/MethodHandle" ∧ (mY μ').cls ≠ "java/lang/invoke/VarHandle" ∧ (parseMethodDescriptor (mY μ').desc).map (fun d => d.parameters.length) = some na) ∧ Cond.methodLink own idx (mY μ') ∈ AW ∧ Cond.static (mY μ') ∈ AW
theorem mW_in {μ' : MI} {na : Nat} (c : CW μ' na) : ∀ w ∈ mW μ', w ∈ AW := fun w hw => (List.mem_cons.mp hw).elim (fun e => by rw [e]; exact c.1) id
/-- room for the callee -/
def RM (μ μ' : MI) : Prop := mF μ' + 1 ≤ mF μ ∧ 8 + (mL μ' + 11) + mO μ' ≤ mO μ
section Rules5
variable {G : Ctx} {μ μ' : MI} {Q Q1 : PQ} {X : PX} {k n k1 n1 k2 n2 : Nat} {h : AH} {N : Nat} {pc : Nat} {L : List (Option Value)} {st st0 : List Value}
theorem CPc.pre {args : List Value} {s : State} {H : Heap} {locs : List Loc} (hK : KN G s) (hS : va_S (cF G) s.heap H locs) (hR : Rep G h N H) : ∀ U : State, U.heap = H → s.WarmedH U.vm → CPc G args h N args.toArray U := by
  intro U hU hW
  exact ⟨rfl, by rw [hU]; exact hR, hK.moved hW (by rw [hU]; exact hS.1) (by rw [hU]; exact hS.2.1)⟩
theorem CPc.blind {args : List Value} : FrameBlind (CPc G args h N) := fun a U g mk q => ⟨q.1, q.2.1, q.2.2.blind g mk a⟩
/-- behind a call that returns -/
theorem WP.goC (hk : k1 + k2 ≤ k) (hn : n1 + n2 ≤ n) (kk : ∀ (r : Option Value) (h' : AH) (N' : Nat), Q1 r h' N' → WP G μ Q X k2 n2 h' N' (pc + 3) L (r.toList ++ st))
    (hs : ∀ {p : Program} {e : Env} {R : Room} {s : State} {m : MethodId} {args : Array Value} {below : List Frame} {meth : Method} {c : Code} {H : Heap} {locs : List Loc} {cells slots : Nat} {ls : Array Slot},
      FX G μ p s m args meth c → mF μ ≤ R.frames → mO μ ≤ R.locals → cells + k1 ≤ R.cells → slots + n1 ≤ R.slots → Rep G h N H → va_S (cF G) s.heap H locs → LR (mL μ) L ls →
      ∃ a : Array Value, va_Run p (cL G) e R s m args below meth c H locs cells slots k1 n1 (F0 m pc ls st0) st (SQ G Q1 a) (cF G)) : WP G μ Q X k n h N pc L st0 := by
  intro p e R s m args below meth c H locs cells slots mc ms ls F a1 a2 a3 a4 a5 a6 hR hS hL
  obtain ⟨a, hrun⟩ := hs (e := e) (below := below) (cells := cells) (slots := slots) (R := R) F a1 a2 (by omega) (by omega) hR hS hL
  intro T hT Y
  obtain ⟨v, st₀, t, T', L9, e0, Y', hL9, e1, e2, ⟨⟨r, h', c1, c2, c3⟩, c4, c5⟩, sp⟩ := hrun T hT Y
  cases c1
  rw [e0] at c4 c5
  have hS1 : va_S (cF G) s.heap T'.heap (locs ++ L9) := ⟨Nat.le_trans hS.1 (by rw [e1]; exact c4), fun q h1 h2 => by rw [e1, c5 q (Nat.lt_of_lt_of_le h1 hS.1) h2]; exact hS.2.1 q h1 h2, fun q hq => by
      rcases List.mem_append.mp hq with z | z
      · exact hS.2.2 q z
      · exact hL9 q z⟩
  rw [← e1] at c2 c3
  obtain ⟨t2, b1, b2⟩ := kk v h' _ c2 p e R s m args below meth c T'.heap (locs ++ L9) (cells + k1) (slots + n1) mc ms ls F a1 a2 (by omega) (by omega) a5 a6 c3 hS1 hL T' rfl Y'
  exact ⟨t2, sp t2 b1, b2⟩
theorem wp_callV {idx na a ci sz : Nat} {C : String} {T : u_T} {fs As : List Value} (ct : CT G μ' (.ref a :: As) h N k1 n1 Q1) (cv : CV (mY μ).cls idx μ' na) (d : decode (mC μ) pc = .ok (.invokevirtual idx, 3)) (rm : RM μ μ') (hst : (st.map fun v => v.category).sum ≤ 8) (hc : h a = some (eO ci fs)) (hcl : swCl[ci]? = some (C, T, sz)) (hC : C = (mY μ').cls) (hna : As.length = na) (h0 : st0 = As.reverse ++ .ref a :: st) (hk : k1 + k2 ≤ k) (hn : n1 + n2 ≤ n)
    (kk : ∀ (r : Option Value) (h' : AH) (N' : Nat), Q1 r h' N' → WP G μ Q X k2 n2 h' N' (pc + 3) L (r.toList ++ st)) : WP G μ Q X k n h N pc L st0 := by
  obtain ⟨c0, c1, c2, c3⟩ := cv
  subst hC
  refine WP.goC hk hn kk fun F a1 a2 a3 a4 hR hS hL => ⟨(Value.ref a :: As).toArray, ?_⟩
  have hK := F.2.2.2.2.2.2.2.2.2
  have hts := F.2.2.2.2.2.1
  refine va_runV (nL := mL μ) ⟨F.1, F.2.1, F.2.2.1, F.2.2.2.2.1, hts⟩ ct (cwV (Ts := AW) na hts (aw_goodIn ?_) rfl rfl rfl ⟨rfl, c0.2.2.1, c0.2.2.2.1, c0.2.2.2.2⟩ ⟨Nat.le_trans rm.1 a1, Nat.le_trans rm.2 a2⟩) ⟨CPc.blind, va_recv hK.2.1 (hR.P hc) hcl (q0 := 0) rfl, CPc.pre hK hS hR⟩ rfl hna hL.1 h0 (lv_room hst) d ⟨a3, a4⟩
  intro w hw
  rcases List.mem_append.mp hw with hw | hw
  · simp only [List.mem_cons, List.not_mem_nil, or_false] at hw
    rcases hw with rfl | rfl | rfl | rfl <;> first | exact c1 | exact c2 | exact c3 | exact c0.2.1
  · exact mW_in c0 w hw
theorem wp_callS {idx na : Nat} {As : List Value} (ct : CT G μ' As h N k1 n1 Q1) (cs : CS (mY μ).cls idx μ' na) (d : decode (mC μ) pc = .ok (.invokestatic idx, 3)) (rm : RM μ μ') (hst : (st.map fun v => v.category).sum ≤ 8) (hna : As.length = na) (h0 : st0 = As.reverse ++ st) (hk : k1 + k2 ≤ k) (hn : n1 + n2 ≤ n)
    (kk : ∀ (r : Option Value) (h' : AH) (N' : Nat), Q1 r h' N' → WP G μ Q X k2 n2 h' N' (pc + 3) L (r.toList ++ st)) : WP G μ Q X k n h N pc L st0 := by
  obtain ⟨c0, c1, c2⟩ := cs
  refine WP.goC hk hn kk fun F a1 a2 a3 a4 hR hS hL => ⟨As.toArray, ?_⟩
  have hK := F.2.2.2.2.2.2.2.2.2
  have hts := F.2.2.2.2.2.1
  refine va_runS (nL := mL μ) ⟨F.1, F.2.1, F.2.2.1, F.2.2.2.2.1, hts⟩ ct (va_cwS (Ts := AW) na hts (aw_goodIn ?_) rfl rfl rfl ⟨c0.2.2.1, c0.2.2.2.1, c0.2.2.2.2⟩ ⟨Nat.le_trans rm.1 a1, Nat.le_trans rm.2 a2⟩) ⟨CPc.blind, CPc.pre hK hS hR⟩ rfl hna hL.1 h0 (lv_room hst) d ⟨a3, a4⟩
  intro w hw
  rcases List.mem_append.mp hw with hw | hw
  · simp only [List.mem_cons, List.not_mem_nil, or_false] at hw
    rcases hw with rfl | rfl | rfl <;> first | exact c1 | exact c2 | exact c0.2.1
  · exact mW_in c0 w hw
theorem wp_callI {idx na a : Nat} {As : List Value} (ct : CT G μ' (.ref a :: As) h N k1 n1 Q1) (ci : CI (mY μ).cls idx μ' na) (d : decode (mC μ) pc = .ok (.invokespecial idx, 3)) (rm : RM μ μ') (hst : (st.map fun v => v.category).sum ≤ 8) (hna : As.length = na) (h0 : st0 = As.reverse ++ .ref a :: st) (hk : k1 + k2 ≤ k) (hn : n1 + n2 ≤ n)
    (kk : ∀ (r : Option Value) (h' : AH) (N' : Nat), Q1 r h' N' → WP G μ Q X k2 n2 h' N' (pc + 3) L (r.toList ++ st)) : WP G μ Q X k n h N pc L st0 := by
  obtain ⟨c0, c1, c2, c3, c4⟩ := ci
  refine WP.goC hk hn kk fun F a1 a2 a3 a4 hR hS hL => ⟨(Value.ref a :: As).toArray, ?_⟩
  have hK := F.2.2.2.2.2.2.2.2.2
  have hts := F.2.2.2.2.2.1
  refine va_runI (nL := mL μ) (bytes := mC μ') (maxL := mL μ') ⟨F.1, F.2.1, F.2.2.1, F.2.2.2.2.1, hts⟩ ct (cwI (Ts := AW) na hts (aw_goodIn (mW_in c0)) (ws' := AW) (by unfold mW; rw [c4]) rfl rfl (hts _ c0.2.1) (hts _ c1) (hts _ c2) c3 ⟨c0.2.2.1, c0.2.2.2.1, c0.2.2.2.2⟩ ⟨Nat.le_trans rm.1 a1, Nat.le_trans rm.2 a2⟩) ⟨CPc.blind, CPc.pre hK hS hR⟩ rfl hna hL.1 h0 (lv_room hst) d ⟨a3, a4⟩
theorem wp_callIN {idx na a : Nat} {As : List Value} (ct : CT G μ' (.ref a :: As) h N k1 n1 Q1) (ci : CIN (mY μ).cls idx μ' na) (d : decode (mC μ) pc = .ok (.invokespecial idx, 3)) (rm : RM μ μ') (hst : (st.map fun v => v.category).sum ≤ 8) (hna : As.length = na) (h0 : st0 = As.reverse ++ .ref a :: st) (hk : k1 + k2 ≤ k) (hn : n1 + n2 ≤ n)
    (kk : ∀ (r : Option Value) (h' : AH) (N' : Nat), Q1 r h' N' → WP G μ Q X k2 n2 h' N' (pc + 3) L (r.toList ++ st)) : WP G μ Q X k n h N pc L st0 := by
  obtain ⟨c0, ⟨host, c1⟩, c2, c3, c4⟩ := ci
  refine WP.goC hk hn kk fun F a1 a2 a3 a4 hR hS hL => ⟨(Value.ref a :: As).toArray, ?_⟩
  have hK := F.2.2.2.2.2.2.2.2.2
  have hts := F.2.2.2.2.2.1
  refine va_runIN (nL := mL μ) (bytes := mC μ') (maxL := mL μ') ⟨F.1, F.2.1, F.2.2.1, F.2.2.2.2.1, hts⟩ ct ⟨va_cnB (Ts := AW) na hts (aw_goodIn (mW_in c0)) (ws' := AW) (by unfold mW; rw [c4]) rfl rfl (hK.2.2.1 _ c1) (hts _ c0.2.1) ⟨c0.2.2.1, c0.2.2.2.1, c0.2.2.2.2⟩ ⟨Nat.le_trans rm.1 a1, Nat.le_trans rm.2 a2⟩, c3, hts _ c2⟩ ⟨CPc.blind, CPc.pre hK hS hR⟩ rfl hna hL.1 h0 (lv_room hst) d ⟨a3, a4⟩
theorem wp_callSN {idx na : Nat} {As : List Value} (ct : CT G μ' As h N k1 n1 Q1) (ci : CSN (mY μ).cls idx μ' na) (d : decode (mC μ) pc = .ok (.invokestatic idx, 3)) (rm : RM μ μ') (hst : (st.map fun v => v.category).sum ≤ 8) (hna : As.length = na) (h0 : st0 = As.reverse ++ st) (hk : k1 + k2 ≤ k) (hn : n1 + n2 ≤ n)
    (kk : ∀ (r : Option Value) (h' : AH) (N' : Nat), Q1 r h' N' → WP G μ Q X k2 n2 h' N' (pc + 3) L (r.toList ++ st)) : WP G μ Q X k n h N pc L st0 := by
  obtain ⟨c0, ⟨host, c1⟩, c2⟩ := ci
  refine WP.goC hk hn kk fun F a1 a2 a3 a4 hR hS hL => ⟨As.toArray, ?_⟩
  have hK := F.2.2.2.2.2.2.2.2.2
  have hts := F.2.2.2.2.2.1
  refine va_runSN (nL := mL μ) (bytes := mC μ') (maxL := mL μ') ⟨F.1, F.2.1, F.2.2.1, F.2.2.2.2.1, hts⟩ ct ⟨va_cnB (Ts := AW) na hts (aw_goodIn (mW_in c0)) (ws' := AW) rfl rfl rfl (hK.2.2.1 _ c1) (hts _ c0.2.1) ⟨c0.2.2.1, c0.2.2.2.1, c0.2.2.2.2⟩ ⟨Nat.le_trans rm.1 a1, Nat.le_trans rm.2 a2⟩, hts _ c2, trivial⟩ ⟨CPc.blind, CPc.pre hK hS hR⟩ rfl hna hL.1 h0 (lv_room hst) d ⟨a3, a4⟩
theorem wp_callSH {idx na : Nat} {As : List Value} (ct : CH G μ' As h N k1 n1 Q1) (cs : CSH (mY μ).cls idx μ' na) (d : decode (mC μ) pc = .ok (.invokestatic idx, 3)) (rm : RM μ μ') (hst : (st.map fun v => v.category).sum ≤ 8) (hna : As.length = na) (h0 : st0 = As.reverse ++ st) (hk : k1 + k2 ≤ k) (hn : n1 + n2 ≤ n)
    (kk : ∀ (r : Option Value) (h' : AH) (N' : Nat), Q1 r h' N' → WP G μ Q X k2 n2 h' N' (pc + 3) L (r.toList ++ st)) : WP G μ Q X k n h N pc L st0 := by
  obtain ⟨c0, c1, c2⟩ := cs
  refine WP.goC hk hn kk fun F a1 a2 a3 a4 hR hS hL => ⟨As.toArray, ?_⟩
  have hK := F.2.2.2.2.2.2.2.2.2
  have hts := F.2.2.2.2.2.1
  refine vx_runSW (nL := mL μ) ⟨F.1, F.2.1, F.2.2.1, F.2.2.2.2.1, hts⟩ ct (vx_cwSW (Ts := AW) na hts (aw_goodIn ?_) rfl rfl rfl ⟨c0.2.2.1, c0.2.2.2.1, c0.2.2.2.2⟩ ⟨Nat.le_trans rm.1 a1, Nat.le_trans rm.2 a2⟩) ⟨CPc.blind, CPc.pre hK hS hR⟩ rfl hna hL.1 h0 (lv_room hst) d ⟨a3, a4⟩
  intro w hw
  rcases List.mem_append.mp hw with hw | hw
  · simp only [List.mem_cons, List.not_mem_nil, or_false] at hw
    rcases hw with rfl | rfl | rfl <;> first | exact c1 | exact c2 | exact c0.2.1
  · rcases List.mem_cons.mp hw with rfl | hw
    · exact c0.1
    · exact hw
/-- Object() -/
theorem wp_obj {idx a : Nat} (d : decode (mC μ) pc = .ok (.invokespecial idx, 3)) (hl : Cond.methodLink (mY μ).cls idx Lib.objectInit ∈ AW) (hw : Cond.instanceMethod Lib.objectInit ∈ AW ∧ Cond.code Lib.objectInit ⟨#[0xb1]⟩ 1 none ∈ AW) (hf : 1 ≤ mF μ) (ho : (st.map fun v => v.category).sum + 12 ≤ mO μ) (kk : WP G μ Q X k n h N (pc + 3) L st) : WP G μ Q X k n h N pc L (.ref a :: st) :=
  kk.go fun {p e R s m args below meth c H locs cells slots ls Z} F _ _ hL a1 a2 _ _ w => W.objInit F.1 F.2.1 F.2.2.2.2.1 (F.2.2.2.2.2.1 _ hl) (F.2.2.2.2.2.1 _ hw.1) (F.2.2.2.2.2.1 _ hw.2) rfl (by show ls.size = c.maxLocals; rw [F.2.2.1]; exact hL.1) rfl d (Nat.le_trans hf a1) (by show 2 * 0 + _ + 12 ≤ _; omega) w
end Rules5
end
section
/-! ===== throws and handlers ===== -/
/-- with the exception E on its way, from pc -/
def VX (G : Ctx) (μ : MI) (Q : PQ) (X : PX) (k n : Nat) (h : AH) (N : Nat) (pc : Nat) (L : List (Option Value)) (E : String) : Prop :=
  ∀ (p : Program) (e : Env) (R : Room) (s : State) (m : MethodId) (args : Array Value) (below : List Frame) (meth : Method) (c : Code) (H : Heap) (locs : List Loc) (cells slots mc ms : Nat) (ls : Array Slot) (q : Addr) (ce : Cell) (rest : List Value),
    FX G μ p s m args meth c → mF μ ≤ R.frames → mO μ ≤ R.locals → cells + k ≤ mc → slots + n ≤ ms → mc ≤ R.cells → ms ≤ R.slots → Rep G h N H → va_S (cF G) s.heap H locs → LR (mL μ) L ls → H[q]? = some ce → ce.vm = .none → s.vm.findClass E = some ce.cls →
    vx_W p (cL G) e R s m args below meth c H locs cells slots (vx_MQ below (SQ G Q) (SX G X) args s mc ms (cF G)) (F0 m pc ls rest) q
/-- words of 'throw new E(text)' -/
def TW (own cls text : String) (ik is ic : Nat) (names : List String) : Prop :=
  own = RX10 ∧ Cond.classLink own ik cls ∈ AW ∧ Cond.initialized cls ∈ AW ∧ (is, text) ∈ swST ∧ (∀ w ∈ vx_atS own ic cls names, (goodWord w = true ∧ w ∈ lw_tbl) ∨ w ∈ swDE.map Cond.declares ∨ w ∈ swCA.map (fun q => Cond.castable q.1 q.2)) ∧ Bundle.fit cls = true ∧ (∀ n ∈ names, Bundle.fit n = true) ∧ (∀ w ∈ Cond.classLink own ik cls :: Cond.initialized cls :: vx_atS own ic cls names, vx_ot w = true)
section Rules6
variable {G : Ctx} {μ μ' : MI} {Q Q1 : PQ} {X X1 : PX} {k n k1 n1 k2 n2 : Nat} {h : AH} {N : Nat} {pc : Nat} {L : List (Option Value)} {st st0 : List Value}
theorem VX_out {E : String} (hH : mH μ = []) (hx : X E h N) : VX G μ Q X k n h N pc L E := by
  intro p e R s m args below meth c H locs cells slots mc ms ls q ce rest F a1 a2 a3 a4 a5 a6 hR hS hL hq hv hc
  have ht : c.exceptionTable.toList = tableOf (mH μ) := F.2.2.2.2.2.2.2.2.1
  refine vx_out (fun x hx => by rw [ht, hH] at hx; cases hx) F.2.2.2.2.2.2.1 hq hv hc (fun t hT hA => ⟨⟨h, by rw [hT, hR.1]; exact hx, by rw [hT, hR.1]; exact hR⟩, hS.F hT⟩) hS.2.2 (by omega) (by omega)
theorem VX_catch {E nm : String} (pre : List ExceptionTableEntry) (x : ExceptionTableEntry) (suf : List ExceptionTableEntry) (hH : tableOf (mH μ) = pre ++ x :: suf) (hpass : ∀ z ∈ pre, z.catchType ≠ 0 ∧ ∃ nm : String, Cond.classLink (mY μ).cls z.catchType nm ∈ AW ∧ (E, nm) ∈ swNC) (hx : covers x pc = true) (h0 : x.catchType ≠ 0) (hl : Cond.classLink (mY μ).cls x.catchType nm ∈ AW) (hcast : (E, nm) ∈ swCA)
    (kk : ∀ q : Nat, WP G μ Q X k n h N x.handlerPc L [.ref q]) : VX G μ Q X k n h N pc L E := by
  intro p e R s m args below meth c H locs cells slots mc ms ls q ce rest F a1 a2 a3 a4 a5 a6 hR hS hL hq hv hc
  have hK := F.2.2.2.2.2.2.2.2.2
  have hts := F.2.2.2.2.2.1
  have ht : c.exceptionTable.toList = tableOf (mH μ) := F.2.2.2.2.2.2.2.2.1
  refine vx_catch F.2.2.2.2.1 pre x suf (ht.trans hH) (fun z hz => ?_) hx h0 (hts _ hl) (va_Nw.use rfl (hK.2.2.2.1 _ hcast)) hq hv hc (kk q p e R s m args below meth c H locs cells slots mc ms ls F a1 a2 a3 a4 a5 a6 hR hS hL)
  obtain ⟨hz0, nm2, c1, c2⟩ := hpass z hz
  exact Or.inr ⟨hz0, nm2, hts _ c1, hK.2.2.2.2.2.1 _ c2⟩
theorem wp_throw {cls text : String} {ik is ic : Nat} {names : List String} (tw : TW (mY μ).cls cls text ik is ic names)
    (d0 : decode (mC μ) pc = .ok (.new ik, 3)) (d3 : decode (mC μ) (pc + 3) = .ok (.dup, 1)) (d4 : decode (mC μ) (pc + 4) = .ok (.ldc_w is, 3)) (d7 : decode (mC μ) (pc + 7) = .ok (.invokespecial ic, 3)) (d10 : decode (mC μ) (pc + 10) = .ok (.athrow, 1)) (hH : mH μ = [])
    (hf : names.length + 4 ≤ mF μ) (ho : (st.map fun v => v.category).sum + (13 * (names.length + 1) + 43) ≤ mO μ) (hk : 1 ≤ k) (hn : 6 ≤ n) (hx : ∀ N', N ≤ N' → X cls h N') : WP G μ Q X k n h N pc L st := by
  intro p e R s m args below meth c H locs cells slots mc ms ls F a1 a2 a3 a4 a5 a6 hR hS hL
  obtain ⟨t0, t1, t2, t3, t4, t5, t6, t7⟩ := tw
  have hK := F.2.2.2.2.2.2.2.2.2
  have hts := F.2.2.2.2.2.1
  have ht : c.exceptionTable.toList = tableOf (mH μ) := F.2.2.2.2.2.2.2.2.1
  have hstr := hK.2.2.2.2.2.2.2.1 _ t3
  rw [← t0] at hstr
  refine vx_throwSW F.1 F.2.1 hK.1 F.2.2.2.2.1 t5 t6 (hts _ t1) (hts _ t2) hstr (fun w hw => ?_) t7 hK.2.2.2.2.2.2.2.2.2.1 hK.2.2.2.2.2.2.2.2.2.2.1 hS (by rw [F.2.2.1]; exact hL.1) d0 d3 d4 d7 d10 (fun x hx => by rw [ht, hH] at hx; cases hx) (by omega) (by omega) (by omega) (by omega) F.2.2.2.2.2.2.1 (fun t hA hz hk9 => ?_) hS.2.2 (by omega) (by omega)
  · rcases t4 w hw with ⟨g1, g2⟩ | g | g
    · exact hts _ (List.mem_filter.mpr ⟨g2, g1⟩)
    · obtain ⟨x, hx1, rfl⟩ := List.mem_map.mp g
      exact va_Nw.use rfl (hK.2.2.2.2.1 _ hx1)
    · obtain ⟨x, hx1, rfl⟩ := List.mem_map.mp g
      exact va_Nw.use rfl (hK.2.2.2.1 _ hx1)
  · rw [hR.1] at hz hk9
    refine ⟨⟨h, hx _ hz, hR.grow rfl hk9⟩, Nat.le_trans hS.1 (by rw [hR.1]; exact hz), fun q h1 h2 => ?_⟩
    have hq : q < N := by
      have := hS.1
      rw [hR.1] at this
      omega
    rw [hk9 q hq]
    exact hS.2.1 q h1 h2
/-- behind a call that returns or throws -/
theorem WP.goX (hk : k1 + k2 ≤ k) (hn : n1 + n2 ≤ n) (kk : ∀ (r : Option Value) (h' : AH) (N' : Nat), Q1 r h' N' → WP G μ Q X k2 n2 h' N' (pc + 3) L (r.toList ++ st)) (kx : ∀ (E : String) (h' : AH) (N' : Nat), X1 E h' N' → VX G μ Q X k2 n2 h' N' pc L E)
    (hs : ∀ {p : Program} {e : Env} {R : Room} {s : State} {m : MethodId} {args : Array Value} {below : List Frame} {meth : Method} {c : Code} {H : Heap} {locs : List Loc} {cells slots : Nat} {ls : Array Slot},
      FX G μ p s m args meth c → mF μ ≤ R.frames → mO μ ≤ R.locals → cells + k1 ≤ R.cells → slots + n1 ≤ R.slots → Rep G h N H → va_S (cF G) s.heap H locs → LR (mL μ) L ls →
      ∃ a : Array Value, vx_Run p (cL G) e R s m args below meth c H locs cells slots k1 n1 (F0 m pc ls st0) st (SQ G Q1 a) (SX G X1) (cF G)) : WP G μ Q X k n h N pc L st0 := by
  intro p e R s m args below meth c H locs cells slots mc ms ls F a1 a2 a3 a4 a5 a6 hR hS hL
  obtain ⟨a, hrun⟩ := hs (e := e) (below := below) (cells := cells) (slots := slots) (R := R) F a1 a2 (by omega) (by omega) hR hS hL
  intro T hT Y
  have hSof : ∀ (t T' : State) (L9 : List Loc), T'.heap = t.heap → (∀ q ∈ L9, cF G q.base) → H.size ≤ t.heap.size → (∀ q : Nat, q < H.size → ¬ cF G q → t.heap[q]? = H[q]?) → va_S (cF G) s.heap T'.heap (locs ++ L9) := fun t T' L9 e1 hL9 c4 c5 =>
    ⟨Nat.le_trans hS.1 (by rw [e1]; exact c4), fun q h1 h2 => by rw [e1, c5 q (Nat.lt_of_lt_of_le h1 hS.1) h2]; exact hS.2.1 q h1 h2, fun q hq => by
      rcases List.mem_append.mp hq with z | z
      · exact hS.2.2 q z
      · exact hL9 q z⟩
  rcases hrun T hT Y with ⟨v, st₀, t, T', L9, e0, Y', hL9, e1, e2, ⟨⟨r, h', c1, c2, c3⟩, c4, c5⟩, sp⟩ | ⟨q, st₀, t, T', L9, E, ce, e0, Y', hL9, e1, e2, ⟨⟨h', c2, c3⟩, c4, c5⟩, hce, hcv, hcl, sp⟩
  · cases c1
    rw [e0] at c4 c5
    have hS1 := hSof t T' L9 e1 hL9 c4 c5
    rw [← e1] at c2 c3
    obtain ⟨t2, b1, b2⟩ := kk v h' _ c2 p e R s m args below meth c T'.heap (locs ++ L9) (cells + k1) (slots + n1) mc ms ls F a1 a2 (by omega) (by omega) a5 a6 c3 hS1 hL T' rfl Y'
    exact ⟨t2, sp t2 b1, b2⟩
  · rw [e0] at c4 c5
    have hS1 := hSof t T' L9 e1 hL9 c4 c5
    rw [← e1] at c2 c3 hce
    obtain ⟨t2, b1, b2⟩ := kx E h' _ c2 p e R s m args below meth c T'.heap (locs ++ L9) (cells + k1) (slots + n1) mc ms ls q ce st F a1 a2 (by omega) (by omega) a5 a6 c3 hS1 hL hce hcv hcl T' rfl Y'
    exact ⟨t2, sp.trans b1, b2⟩
theorem wp_callVx {idx na a ci sz : Nat} {C : String} {T : u_T} {fs As : List Value} (ct : CX G μ' (.ref a :: As) h N k1 n1 Q1 X1) (cv : CV (mY μ).cls idx μ' na) (d : decode (mC μ) pc = .ok (.invokevirtual idx, 3)) (rm : RM μ μ') (hst : (st.map fun v => v.category).sum ≤ 8) (hc : h a = some (eO ci fs)) (hcl : swCl[ci]? = some (C, T, sz)) (hC : C = (mY μ').cls) (hna : As.length = na) (h0 : st0 = As.reverse ++ .ref a :: st) (hk : k1 + k2 ≤ k) (hn : n1 + n2 ≤ n)
    (kk : ∀ (r : Option Value) (h' : AH) (N' : Nat), Q1 r h' N' → WP G μ Q X k2 n2 h' N' (pc + 3) L (r.toList ++ st)) (kx : ∀ (E : String) (h' : AH) (N' : Nat), X1 E h' N' → VX G μ Q X k2 n2 h' N' pc L E) : WP G μ Q X k n h N pc L st0 := by
  obtain ⟨c0, c1, c2, c3⟩ := cv
  subst hC
  refine WP.goX hk hn kk kx fun F a1 a2 a3 a4 hR hS hL => ⟨(Value.ref a :: As).toArray, ?_⟩
  have hK := F.2.2.2.2.2.2.2.2.2
  have hts := F.2.2.2.2.2.1
  refine vx_runV (nL := mL μ) ⟨F.1, F.2.1, F.2.2.1, F.2.2.2.2.1, hts⟩ ct (cwV (Ts := AW) na hts (aw_goodIn ?_) rfl rfl rfl ⟨rfl, c0.2.2.1, c0.2.2.2.1, c0.2.2.2.2⟩ ⟨Nat.le_trans rm.1 a1, Nat.le_trans rm.2 a2⟩) ⟨CPc.blind, va_recv hK.2.1 (hR.P hc) hcl (q0 := 0) rfl, CPc.pre hK hS hR⟩ rfl hna hL.1 h0 (lv_room hst) d ⟨a3, a4⟩
  intro w hw
  rcases List.mem_append.mp hw with hw | hw
  · simp only [List.mem_cons, List.not_mem_nil, or_false] at hw
    rcases hw with rfl | rfl | rfl | rfl <;> first | exact c1 | exact c2 | exact c3 | exact c0.2.1
  · exact mW_in c0 w hw
theorem wp_callSx {idx na : Nat} {As : List Value} (ct : CX G μ' As h N k1 n1 Q1 X1) (cs : CS (mY μ).cls idx μ' na) (d : decode (mC μ) pc = .ok (.invokestatic idx, 3)) (rm : RM μ μ') (hst : (st.map fun v => v.category).sum ≤ 8) (hna : As.length = na) (h0 : st0 = As.reverse ++ st) (hk : k1 + k2 ≤ k) (hn : n1 + n2 ≤ n)
    (kk : ∀ (r : Option Value) (h' : AH) (N' : Nat), Q1 r h' N' → WP G μ Q X k2 n2 h' N' (pc + 3) L (r.toList ++ st)) (kx : ∀ (E : String) (h' : AH) (N' : Nat), X1 E h' N' → VX G μ Q X k2 n2 h' N' pc L E) : WP G μ Q X k n h N pc L st0 := by
  obtain ⟨c0, c1, c2⟩ := cs
  refine WP.goX hk hn kk kx fun F a1 a2 a3 a4 hR hS hL => ⟨As.toArray, ?_⟩
  have hK := F.2.2.2.2.2.2.2.2.2
  have hts := F.2.2.2.2.2.1
  refine vx_runS (nL := mL μ) ⟨F.1, F.2.1, F.2.2.1, F.2.2.2.2.1, hts⟩ ct (va_cwS (Ts := AW) na hts (aw_goodIn ?_) rfl rfl rfl ⟨c0.2.2.1, c0.2.2.2.1, c0.2.2.2.2⟩ ⟨Nat.le_trans rm.1 a1, Nat.le_trans rm.2 a2⟩) ⟨CPc.blind, CPc.pre hK hS hR⟩ rfl hna hL.1 h0 (lv_room hst) d ⟨a3, a4⟩
  intro w hw
  rcases List.mem_append.mp hw with hw | hw
  · simp only [List.mem_cons, List.not_mem_nil, or_false] at hw
    rcases hw with rfl | rfl | rfl <;> first | exact c1 | exact c2 | exact c0.2.1
  · exact mW_in c0 w hw
end Rules6
end
section
/-! ===== new int[n][m] ===== -/
/-- rows of m zeros at N + 1 .. N + r, and the array of them at N -/
def hrows (G : Ctx) (h : AH) (N r m : Nat) : AH := fun q => if q = N then some (eQ G 4 r (fun i => if i < r then some (N + 1 + i) else none)) else if N < q ∧ q ≤ N + r then some (eI G m (fun _ => 0)) else h q
section Rules7
variable {G : Ctx} {μ : MI} {Q : PQ} {X : PX} {k n k2 n2 : Nat} {h : AH} {N : Nat} {pc : Nat} {L : List (Option Value)} {st : List Value}
theorem outer_eq (c : ClassId) (N h0 : Nat) : ∀ i : Nat, Jvm.Free.Multi.outerC c N h0 i = arrV c N (fun j => va_rf (if j < i then some (h0 + 1 + j) else none))
  | 0 => by
    show ({ cls := c, slots := Array.replicate N .null, vm := .none } : Cell) = _
    rw [arrV_new]
    refine congrArg (arrV c N) (funext fun j => ?_)
    simp [va_rf]
  | i + 1 => by
    show (Jvm.Free.Multi.outerC c N h0 i).setSlot i (.ref (h0 + 1 + i)) = _
    rw [outer_eq c N h0 i, arrV_store]
    refine congrArg (arrV c N) (funext fun j => ?_)
    by_cases e : j = i
    · subst e
      simp [updV, va_rf]
    · by_cases h : j < i
      · simp [updV, e, h, Nat.lt_succ_of_lt h]
      · simp [updV, e, h, show ¬ j < i + 1 by omega]
theorem swII.over {a0 a4 : ClassId} {U : State} {A : Array Value} (h : swII a0 a4 U) : (Cond.arrayOver (.array .int)).before A U = true := by
  obtain ⟨-, -, -, -, -, -, h3⟩ := h
  exact h3
theorem wp_multi {idx r m : Nat} (d : decode (mC μ) pc = .ok (.multianewarray idx 2, 4)) (hl : Cond.classLink (mY μ).cls idx ("[" ++ (FieldType.array .int).toString) ∈ AW) (hw : Cond.arrayClass .int ∈ AW) (hr : r ≤ 1000) (hm : m ≤ 100000) (hk : 1 + r + k2 ≤ k) (hn : r + r * m + n2 ≤ n)
    (kk : WP G μ Q X k2 n2 (hrows G h N r m) (N + 1 + r) (pc + 4) L (.ref N :: st)) : WP G μ Q X k n h N pc L (JV (m : Int) :: JV (r : Int) :: st) := by
  intro p e R s m9 args below meth c H locs cells slots mc ms ls F a1 a2 a3 a4 a5 a6 hR hS hL
  have hK := F.2.2.2.2.2.2.2.2.2
  have hts := F.2.2.2.2.2.1
  have hB := hB_of hK hS hR
  have hrc : (Int32.ofInt (r : Int)).toNatClampNeg = r := (J_clamp (by omega) (by omega)).trans (Int.toNat_natCast r)
  have hmc : (Int32.ofInt (m : Int)).toNatClampNeg = m := (J_clamp (by omega) (by omega)).trans (Int.toNat_natCast m)
  intro T hT Y
  obtain ⟨vm₁, c4, comp, -, fA, fC, hO, -, Y', step⟩ := Y.multianewarray2F F.1 F.2.2.2.2.1 (hts _ hl) hK.2.2.2.2.2.2.2.2.1.over (hts _ hw) (g := F0 m9 pc ls (JV (m : Int) :: JV (r : Int) :: st)) rfl (by rw [F.2.1]; exact d) rfl
    (fun q => (J_in (x := (r : Int)) (n := r + 1) (by omega) (by omega) (by omega)) (Or.inl q)) (fun q => (J_in (x := (m : Int)) (n := m + 1) (by omega) (by omega) (by omega)) (Or.inl q)) (by rw [hrc]; omega) (by rw [hmc]; show m * 4 ≤ _; omega) (by rw [hmc]; omega) rfl rfl (by rw [hrc]; omega) (by rw [hrc, hmc]; omega)
  rw [hrc, hmc] at Y' step
  have h4 : c4 = cA G 4 := Option.some.inj (fA.symm.trans (hK.2.1.2 4 _ rfl).2)
  subst h4
  have h0 : comp = cA G 0 := Option.some.inj (fC.symm.trans (hK.2.1.2 0 _ rfl).2)
  subst h0
  generalize hF : Jvm.Free.Multi.fill (T.setVm vm₁) (cA G 4) (cA G 0) r m (defaultValue .int) r = F9 at Y' step
  have hTh : (T.setVm vm₁).heap = H := hT
  obtain ⟨f1, f2, -, -⟩ := Jvm.Free.Multi.fill_facts (T.setVm vm₁) (cA G 4) (cA G 0) r m (defaultValue .int) r
  rw [hF, hTh] at f1 f2
  have hold : ∀ x : Nat, x < H.size → F9.heap[x]? = H[x]? := fun x hx => by
    have := Jvm.Free.Multi.fill_old (T.setVm vm₁) (cA G 4) (cA G 0) r m (defaultValue .int) (a := x) (by rw [hTh]; exact hx) r
    rw [hF, hTh] at this
    exact this
  have hrow : ∀ j : Nat, j < r → F9.heap[H.size + 1 + j]? = some (vp_cell (cA G 0) (m, .inl (fun _ => 0))) := fun j hj => by
    have := Jvm.Free.Multi.fill_inner (T.setVm vm₁) (cA G 4) (cA G 0) r m (defaultValue .int) r j hj
    rw [hF, hTh] at this
    rw [this]
    show some ({ cls := cA G 0, slots := Array.replicate m (defaultValue .int), vm := .none } : Cell) = _
    rw [arrV_new]
    rfl
  rw [outer_eq, hR.1] at f2
  rw [hR.1] at f1 hold hrow
  have hz : F9.heap.size = N + 1 + r := by omega
  have hR1 : Rep G (hrows G h N r m) (N + 1 + r) F9.heap := by
    refine ⟨hz, fun b e2 hb => ?_⟩
    unfold hrows at hb
    by_cases hb1 : b = N
    · rw [if_pos hb1] at hb
      cases hb
      subst hb1
      exact ⟨hB, f2⟩
    · rw [if_neg hb1] at hb
      by_cases hb2 : N < b ∧ b ≤ N + r
      · rw [if_pos hb2] at hb
        cases hb
        refine ⟨by show cB G ≤ b; omega, ?_⟩
        have := hrow (b - N - 1) (by omega)
        rw [show N + 1 + (b - N - 1) = b by omega] at this
        exact this
      · rw [if_neg hb2] at hb
        exact ⟨(hR.2 _ _ hb).1, (hR.2 _ _ hb).2.kept (hold b (hR.lt hb))⟩
  have hS1 : va_S (cF G) s.heap F9.heap locs := hS.new (by rw [hR.1]; omega) (by rw [hR.1]; exact hold)
  obtain ⟨t2, b1, b2⟩ := kk p e R s m9 args below meth c F9.heap locs (cells + 1 + r) (slots + r + r * m) mc ms ls F a1 a2 (by omega) (by omega) a5 a6 hR1 hS1 hL F9 rfl Y'
  refine ⟨t2, step t2 ?_, b2⟩
  rw [show T.heap.size = N by rw [hT]; exact hR.1]
  exact b1
end Rules7
end
section
/-! ===== System.arraycopy ===== -/
abbrev wArr : Prop := (Cond.native arraycopyName ∈ AW ∧ Cond.static arraycopyName ∈ AW) ∧ Cond.initialized "java/lang/System" ∈ AW
section Rules8
variable {G : Ctx} {μ : MI} {Q : PQ} {X : PX} {k n : Nat} {h : AH} {N : Nat} {pc : Nat} {L : List (Option Value)} {st : List Value}
theorem nn_of {z : Int32} (hz : ¬ z < 0) : z.toInt = (z.toNatClampNeg : Int) := by
  have hz0 : (0 : Int) ≤ z.toInt := by
    have := Int32.not_lt.mp hz
    simpa using Int32.le_iff_toInt_le.mp this
  show z.toInt = ((z.toInt.toNat : Nat) : Int)
  omega
theorem copy_set {G : Ctx} {h : AH} {N a : Nat} {e0 e : va_E} {c1 : ClassId} {x : vp_A} {H : Heap} (he : e = .inl (c1, x)) (hR : Rep G h N H) (h0 : h a = some e0) : Rep G (hup h a e) N (H.setIfInBounds a (vp_cell c1 x)) := by
  subst he
  refine hR.set h0 (by simp) ?_ fun q hq => by simp [Array.getElem?_setIfInBounds, Ne.symm hq]
  show (H.setIfInBounds a _)[a]? = some _
  have hl : a < H.size := by rw [hR.1]; exact hR.lt h0
  simp [Array.getElem?_setIfInBounds, hl]
theorem copy_S {A : Nat → Prop} {H0 H : Heap} {locs : List Loc} {a : Nat} {x : Cell} {zs : List (Value × Nat)} {dp : Nat} (hS : va_S A H0 H locs) (hA : A a) : va_S A H0 (H.setIfInBounds a x) (locs ++ zs.map fun q => (⟨a, dp + q.2⟩ : Loc)) := by
  refine ⟨by simp; exact hS.1, fun q g1 g2 => ?_, fun q hq => ?_⟩
  · have : q ≠ a := fun e => g2 (by rw [e]; exact hA)
    rw [show (H.setIfInBounds a x)[q]? = H[q]? by simp [Array.getElem?_setIfInBounds, Ne.symm this]]
    exact hS.2.1 q g1 g2
  · rcases List.mem_append.mp hq with h | h
    · exact hS.2.2 q h
    · obtain ⟨z, -, hz⟩ := List.mem_map.mp h
      rw [← hz]
      exact hA
theorem WP.goH2 {pc' : Nat} {st' : List Value} {a : Nat} {e : va_E} (kk : WP G μ Q X k n (hup h a e) N pc' L st')
    (hs : ∀ {p : Program} {e1 : Env} {R : Room} {s : State} {m : MethodId} {args : Array Value} {below : List Frame} {meth : Method} {c : Code} {H : Heap} {locs : List Loc} {cells slots : Nat} {ls : Array Slot} {Z : State → Prop},
      FX G μ p s m args meth c → mF μ ≤ R.frames → mO μ ≤ R.locals → LR (mL μ) L ls → Rep G h N H → va_S (cF G) s.heap H locs → (∀ (H1 : Heap) (locs1 : List Loc), Rep G (hup h a e) N H1 → va_S (cF G) s.heap H1 locs1 → W p (cL G) e1 R s m args below meth c H1 locs1 cells slots Z (F0 m pc' ls st')) → W p (cL G) e1 R s m args below meth c H locs cells slots Z (F0 m pc ls st)) : WP G μ Q X k n h N pc L st := by
  intro p e R s m args below meth c H locs cells slots mc ms ls F a1 a2 a3 a4 a5 a6 hR hS hL
  exact hs F a1 a2 hL hR hS fun H1 locs1 hR1 hS1 => kk p e R s m args below meth c H1 locs1 cells slots mc ms ls F a1 a2 a3 a4 a5 a6 hR1 hS1 hL
theorem wp_copyI {idx a a0 n0 n1 : Nat} {f g : Nat → Int} {sp dp len : Int} (d : decode (mC μ) pc = .ok (.invokestatic idx, 3)) (hl : Cond.methodLink (mY μ).cls idx arraycopyName ∈ AW) (hw : wArr) (hf : 1 ≤ mF μ) (ho : (st.map fun v => v.category).sum + (nativeFrameWords "java/lang/System" "arraycopy" 5 + 11) ≤ mO μ)
    (t : Nat) (ty : FieldType) (ht : swTY[t]? = some ty) (hty : ty = .int ∨ (ty = .boolean ∧ ∀ i, i < len.toNat → f (sp.toNat + i) = 0 ∨ f (sp.toNat + i) = 1))
    (hc0 : h a0 = some (.inl (cA G t, n0, .inl (fun j => Int32.ofInt (f j))))) (hc1 : h a = some (.inl (cA G t, n1, .inl (fun j => Int32.ofInt (g j))))) (h1 : 0 ≤ sp) (h2 : 0 ≤ dp) (h3 : 0 ≤ len) (h4 : sp + len ≤ (n0 : Int)) (h5 : dp + len ≤ (n1 : Int)) (h6 : n0 < 100000) (h7 : n1 < 100000)
    (kk : WP G μ Q X k n (hup h a (.inl (cA G t, n1, .inl (fun j => Int32.ofInt (va_cpy f g sp.toNat dp.toNat len.toNat j))))) N (pc + 3) L st) : WP G μ Q X k n h N pc L (JV len :: JV dp :: .ref a :: JV sp :: .ref a0 :: st) := by
  refine kk.goH2 (fun {p e1 R s m args below meth c H locs cells slots ls Z} F a1 a2 hL hR hS w => ?_)
  have hK := F.2.2.2.2.2.2.2.2.2
  have hts := F.2.2.2.2.2.1
  have ht2 := swTys_at (a := cA G) ht
  have e1 : (Int32.ofInt sp).toNatClampNeg = sp.toNat := J_clamp h1 (by omega)
  have e2 : (Int32.ofInt dp).toNatClampNeg = dp.toNat := J_clamp h2 (by omega)
  have e3 : (Int32.ofInt len).toNatClampNeg = len.toNat := J_clamp h3 (by omega)
  have g1 : ¬ Int32.ofInt sp < 0 := fun q => (J_in (x := sp) (n := sp.toNat + 1) h1 (by omega) (by omega)) (Or.inl q)
  have g2 : ¬ Int32.ofInt dp < 0 := fun q => (J_in (x := dp) (n := dp.toNat + 1) h2 (by omega) (by omega)) (Or.inl q)
  have g3 : ¬ Int32.ofInt len < 0 := fun q => (J_in (x := len) (n := len.toNat + 1) h3 (by omega) (by omega)) (Or.inl q)
  intro T hT Y
  have hq0 : H[a0]? = some (vp_cell (cA G t) (n0, .inl (fun j => Int32.ofInt (f j)))) := hR.P hc0 0 _ rfl
  have hq1 : H[a]? = some (vp_cell (cA G t) (n1, .inl (fun j => Int32.ofInt (g j)))) := hR.P hc1 0 _ rfl
  obtain ⟨-, k0, hk0, cm0, hkk0⟩ := (hK.2.1.2 t _ ht2).1 n0 (fun j => .int (Int32.ofInt (f j)))
  obtain ⟨-, k1, hk1, cm1, hkk1⟩ := (hK.2.1.2 t _ ht2).1 n1 (fun j => .int (Int32.ofInt (g j)))
  obtain ⟨vm', Y', step⟩ := Y.arraycopy F.1 F.2.2.2.2.1 (hts _ hl) (hts _ hw.1.1) (hts _ hw.1.2) (hts _ hw.2) (src := a0) (dst := a) (cs := vp_cell (cA G t) (n0, .inl (fun j => Int32.ofInt (f j)))) (cd := vp_cell (cA G t) (n1, .inl (fun j => Int32.ofInt (g j)))) (sType := ty) (dType := ty) (srcPos := Int32.ofInt sp) (destPos := Int32.ofInt dp) (n := Int32.ofInt len) (by rw [hT]; exact hq0) (by rw [hT]; exact hq1)
    (fun _ h => by cases h) (fun _ h => by cases h) (fun h => by cases h) (fun h => by cases h) hk0 hk1 hkk0 hkk1 (by rcases hty with rfl | ⟨rfl, -⟩ <;> rfl) g1 g2 g3
    (by rw [nn_of g1, nn_of g3, e1, e3]; show ¬ _ > ((arrV (cA G t) n0 (fun j => .int (Int32.ofInt (f j)))).slots.size : Int); rw [arrV_size]; omega)
    (by rw [nn_of g2, nn_of g3, e2, e3]; show ¬ _ > ((arrV (cA G t) n1 (fun j => .int (Int32.ofInt (g j)))).slots.size : Int); rw [arrV_size]; omega)
    (fun vm₁ _ i hi => by
      rw [e3] at hi
      have e : (vp_cell (cA G t) (n0, .inl (fun j => Int32.ofInt (f j)))).slots.getD ((Int32.ofInt sp).toNatClampNeg + i) .null = .int (Int32.ofInt (f (sp.toNat + i))) := by
        show (arrV (cA G t) n0 (fun j => .int (Int32.ofInt (f j)))).slots.getD _ _ = _
        rw [e1, Array.getD_eq_getD_getElem?, arrV_read _ _ (by omega)]
        rfl
      refine ⟨?_, ?_⟩
      · rw [e]
        rcases hty with rfl | ⟨rfl, hb⟩
        · rfl
        · rcases hb i hi with hz | hz <;> rw [hz] <;> rfl
      · rw [e]
        exact trivial)
    (g := F0 m pc ls (JV len :: JV dp :: .ref a :: JV sp :: .ref a0 :: st)) rfl (by show ls.size = c.maxLocals; rw [F.2.2.1]; exact hL.1) (rest := st) rfl (by rw [F.2.1]; exact d) (Nat.le_trans hf a1) (by show 2 * 0 + _ + _ ≤ _; omega)
  have ec : copied (vp_cell (cA G t) (n0, .inl (fun j => Int32.ofInt (f j)))) (vp_cell (cA G t) (n1, .inl (fun j => Int32.ofInt (g j)))) (Int32.ofInt sp) (Int32.ofInt dp) (Int32.ofInt len) = vp_cell (cA G t) (n1, .inl (fun j => Int32.ofInt (va_cpy f g sp.toNat dp.toNat len.toNat j))) := by
    have := va_copied (fun z : Int => Value.int (Int32.ofInt z)) (cA G t) (cA G t) (n0 := n0) (n1 := n1) (sp := sp.toNat) (dp := dp.toNat) (n := len.toNat) f g (by omega)
    rw [← e1, ← e2, ← e3] at this
    rw [e1, e2, e3] at this
    unfold copied
    rw [e1, e2, e3]
    exact this
  rw [ec] at Y' step
  obtain ⟨t9, b1, b2⟩ := w _ _ (copy_set rfl hR hc1) (copy_S hS (hR.2 _ _ hc1).1) _ (by rw [← hT]; rfl) Y'
  exact ⟨t9, step t9 b1, b2⟩
theorem wp_copyII {idx a a0 n0 n1 : Nat} {f g : Nat → Option Nat} {sp dp len : Int} (d : decode (mC μ) pc = .ok (.invokestatic idx, 3)) (hl : Cond.methodLink (mY μ).cls idx arraycopyName ∈ AW) (hw : wArr) (hf : 1 ≤ mF μ) (ho : (st.map fun v => v.category).sum + (nativeFrameWords "java/lang/System" "arraycopy" 5 + 11) ≤ mO μ)
    (hc0 : h a0 = some (eQ G 4 n0 f)) (hc1 : h a = some (eQ G 4 n1 g)) (h1 : 0 ≤ sp) (h2 : 0 ≤ dp) (h3 : 0 ≤ len) (h4 : sp + len ≤ (n0 : Int)) (h5 : dp + len ≤ (n1 : Int)) (h6 : n0 < 100000) (h7 : n1 < 100000)
    (hel : ∀ i, i < len.toNat → ∀ b, f (sp.toNat + i) = some b → ∃ (m2 : Nat) (z : Nat → Int), h b = some (eI G m2 z))
    (kk : WP G μ Q X k n (hup h a (eQ G 4 n1 (va_cpy f g sp.toNat dp.toNat len.toNat))) N (pc + 3) L st) : WP G μ Q X k n h N pc L (JV len :: JV dp :: .ref a :: JV sp :: .ref a0 :: st) := by
  refine kk.goH2 (fun {p e1 R s m args below meth c H locs cells slots ls Z} F a1 a2 hL hR hS w => ?_)
  have hK := F.2.2.2.2.2.2.2.2.2
  have hts := F.2.2.2.2.2.1
  have ht2 : (swTys (cA G))[4]? = some (cA G 4, .array .int) := rfl
  have e1 : (Int32.ofInt sp).toNatClampNeg = sp.toNat := J_clamp h1 (by omega)
  have e2 : (Int32.ofInt dp).toNatClampNeg = dp.toNat := J_clamp h2 (by omega)
  have e3 : (Int32.ofInt len).toNatClampNeg = len.toNat := J_clamp h3 (by omega)
  have g1 : ¬ Int32.ofInt sp < 0 := fun q => (J_in (x := sp) (n := sp.toNat + 1) h1 (by omega) (by omega)) (Or.inl q)
  have g2 : ¬ Int32.ofInt dp < 0 := fun q => (J_in (x := dp) (n := dp.toNat + 1) h2 (by omega) (by omega)) (Or.inl q)
  have g3 : ¬ Int32.ofInt len < 0 := fun q => (J_in (x := len) (n := len.toNat + 1) h3 (by omega) (by omega)) (Or.inl q)
  intro T hT Y
  have hq0 : H[a0]? = some (vp_cell (cA G 4) (n0, .inr (.inr (.inr (.inr f))))) := hR.P hc0 0 _ rfl
  have hq1 : H[a]? = some (vp_cell (cA G 4) (n1, .inr (.inr (.inr (.inr g))))) := hR.P hc1 0 _ rfl
  obtain ⟨-, k0, hk0, cm0, hkk0⟩ := (hK.2.1.2 4 _ ht2).1 n0 (fun j => va_rf (f j))
  obtain ⟨-, k1, hk1, cm1, hkk1⟩ := (hK.2.1.2 4 _ ht2).1 n1 (fun j => va_rf (g j))
  obtain ⟨q0, q4, p0, p4, p5, ⟨c5, p6⟩, -⟩ := hK.2.2.2.2.2.2.2.2.1
  obtain ⟨vm', Y', step⟩ := Y.arraycopy F.1 F.2.2.2.2.1 (hts _ hl) (hts _ hw.1.1) (hts _ hw.1.2) (hts _ hw.2) (src := a0) (dst := a) (cs := vp_cell (cA G 4) (n0, .inr (.inr (.inr (.inr f))))) (cd := vp_cell (cA G 4) (n1, .inr (.inr (.inr (.inr g))))) (sType := .array .int) (dType := .array .int) (srcPos := Int32.ofInt sp) (destPos := Int32.ofInt dp) (n := Int32.ofInt len) (by rw [hT]; exact hq0) (by rw [hT]; exact hq1)
    (fun _ h => by cases h) (fun _ h => by cases h) (fun h => by cases h) (fun h => by cases h) hk0 hk1 hkk0 hkk1 rfl g1 g2 g3
    (by rw [nn_of g1, nn_of g3, e1, e3]; show ¬ _ > ((arrV (cA G 4) n0 (fun j => va_rf (f j))).slots.size : Int); rw [arrV_size]; omega)
    (by rw [nn_of g2, nn_of g3, e2, e3]; show ¬ _ > ((arrV (cA G 4) n1 (fun j => va_rf (g j))).slots.size : Int); rw [arrV_size]; omega)
    (fun vm₁ hal i hi => by
      rw [e3] at hi
      have e : (vp_cell (cA G 4) (n0, .inr (.inr (.inr (.inr f))))).slots.getD ((Int32.ofInt sp).toNatClampNeg + i) .null = va_rf (f (sp.toNat + i)) := by
        show (arrV (cA G 4) n0 (fun j => va_rf (f j))).slots.getD _ _ = _
        rw [e1, Array.getD_eq_getD_getElem?, arrV_read _ _ (by omega)]
        rfl
      rw [e]
      cases hy : f (sp.toNat + i) with
      | none => exact ⟨rfl, trivial⟩
      | some y =>
        obtain ⟨m2, z, hz⟩ := hel i hi y hy
        have hcy : H[y]? = some (vp_cell (cA G 0) (m2, .inl (fun j => Int32.ofInt (z j)))) := hR.P hz 0 _ rfl
        cases hk1.symm.trans p4
        have hcm : cm1 = cA G 0 := by rw [hkk1] at p5; injection p5
        subst hcm
        obtain ⟨kC', hkC', -⟩ := hal.2.2 _ _ p0
        refine ⟨rfl, _, (show T.heap[y]? = some _ by rw [hT]; exact hcy), (fun q h => by cases h), ⟨kC', hkC'⟩, ?_, ?_⟩
        · exact ⟨kC', hkC'⟩
        · show vm₁.assignable _ _ = true
          rw [hal.assignable]
          exact assign_row p0 p6)
    (g := F0 m pc ls (JV len :: JV dp :: .ref a :: JV sp :: .ref a0 :: st)) rfl (by show ls.size = c.maxLocals; rw [F.2.2.1]; exact hL.1) (rest := st) rfl (by rw [F.2.1]; exact d) (Nat.le_trans hf a1) (by show 2 * 0 + _ + _ ≤ _; omega)
  have ec : copied (vp_cell (cA G 4) (n0, .inr (.inr (.inr (.inr f))))) (vp_cell (cA G 4) (n1, .inr (.inr (.inr (.inr g))))) (Int32.ofInt sp) (Int32.ofInt dp) (Int32.ofInt len) = vp_cell (cA G 4) (n1, .inr (.inr (.inr (.inr (va_cpy f g sp.toNat dp.toNat len.toNat))))) := by
    have := va_copied (fun z : Option Nat => va_rf z) (cA G 4) (cA G 4) (n0 := n0) (n1 := n1) (sp := sp.toNat) (dp := dp.toNat) (n := len.toNat) f g (by omega)
    unfold copied
    rw [e1, e2, e3]
    exact this
  rw [ec] at Y' step
  obtain ⟨t9, b1, b2⟩ := w _ _ (copy_set rfl hR hc1) (copy_S hS (hR.2 _ _ hc1).1) _ (by rw [← hT]; rfl) Y'
  exact ⟨t9, step t9 b1, b2⟩
end Rules8
end
section
/-! ===== the tables' words, one by one: classes, fields, methods, calls (laid by a program of mine out of the tables) ===== -/
def RJ7 : String := "java/util/Arrays"
def RJ6 : String := "java/lang/Integer"
abbrev cJ6_bitCount_0f7a4 : ByteArray := prog_21_method_49_code
def yJ6_bitCount_0f7a4 : MethodName := ⟨RJ6, "bitCount", "(I)I"⟩
abbrev cJ7_rangeCheck_23922 : ByteArray := prog_31_method_30_code
def yJ7_rangeCheck_23922 : MethodName := ⟨RJ7, "rangeCheck", "(III)V"⟩
abbrev cJ7_fill_fda19 : ByteArray := prog_31_method_104_code
def yJ7_fill_fda19 : MethodName := ⟨RJ7, "fill", "([IIII)V"⟩
theorem dJ6_bitCount_0f7a4_0 : decode cJ6_bitCount_0f7a4 0 = .ok (.iload_n 0, 1) := by decide +kernel
theorem dJ6_bitCount_0f7a4_1 : decode cJ6_bitCount_0f7a4 1 = .ok (.iload_n 0, 1) := by decide +kernel
theorem dJ6_bitCount_0f7a4_2 : decode cJ6_bitCount_0f7a4 2 = .ok (.iconst 1, 1) := by decide +kernel
theorem dJ6_bitCount_0f7a4_3 : decode cJ6_bitCount_0f7a4 3 = .ok (.iushr, 1) := by decide +kernel
theorem dJ6_bitCount_0f7a4_4 : decode cJ6_bitCount_0f7a4 4 = .ok (.ldc_w 265, 3) := by decide +kernel
theorem dJ6_bitCount_0f7a4_7 : decode cJ6_bitCount_0f7a4 7 = .ok (.iand, 1) := by decide +kernel
theorem dJ6_bitCount_0f7a4_8 : decode cJ6_bitCount_0f7a4 8 = .ok (.isub, 1) := by decide +kernel
theorem dJ6_bitCount_0f7a4_9 : decode cJ6_bitCount_0f7a4 9 = .ok (.istore_n 0, 1) := by decide +kernel
theorem dJ6_bitCount_0f7a4_10 : decode cJ6_bitCount_0f7a4 10 = .ok (.iload_n 0, 1) := by decide +kernel
theorem dJ6_bitCount_0f7a4_11 : decode cJ6_bitCount_0f7a4 11 = .ok (.ldc_w 266, 3) := by decide +kernel
theorem dJ6_bitCount_0f7a4_14 : decode cJ6_bitCount_0f7a4 14 = .ok (.iand, 1) := by decide +kernel
theorem dJ6_bitCount_0f7a4_15 : decode cJ6_bitCount_0f7a4 15 = .ok (.iload_n 0, 1) := by decide +kernel
theorem dJ6_bitCount_0f7a4_16 : decode cJ6_bitCount_0f7a4 16 = .ok (.iconst 2, 1) := by decide +kernel
theorem dJ6_bitCount_0f7a4_17 : decode cJ6_bitCount_0f7a4 17 = .ok (.iushr, 1) := by decide +kernel
theorem dJ6_bitCount_0f7a4_18 : decode cJ6_bitCount_0f7a4 18 = .ok (.ldc_w 266, 3) := by decide +kernel
theorem dJ6_bitCount_0f7a4_21 : decode cJ6_bitCount_0f7a4 21 = .ok (.iand, 1) := by decide +kernel
theorem dJ6_bitCount_0f7a4_22 : decode cJ6_bitCount_0f7a4 22 = .ok (.iadd, 1) := by decide +kernel
theorem dJ6_bitCount_0f7a4_23 : decode cJ6_bitCount_0f7a4 23 = .ok (.istore_n 0, 1) := by decide +kernel
theorem dJ6_bitCount_0f7a4_24 : decode cJ6_bitCount_0f7a4 24 = .ok (.iload_n 0, 1) := by decide +kernel
theorem dJ6_bitCount_0f7a4_25 : decode cJ6_bitCount_0f7a4 25 = .ok (.iload_n 0, 1) := by decide +kernel
theorem dJ6_bitCount_0f7a4_26 : decode cJ6_bitCount_0f7a4 26 = .ok (.iconst 4, 1) := by decide +kernel
theorem dJ6_bitCount_0f7a4_27 : decode cJ6_bitCount_0f7a4 27 = .ok (.iushr, 1) := by decide +kernel
theorem dJ6_bitCount_0f7a4_28 : decode cJ6_bitCount_0f7a4 28 = .ok (.iadd, 1) := by decide +kernel
theorem dJ6_bitCount_0f7a4_29 : decode cJ6_bitCount_0f7a4 29 = .ok (.ldc_w 267, 3) := by decide +kernel
theorem dJ6_bitCount_0f7a4_32 : decode cJ6_bitCount_0f7a4 32 = .ok (.iand, 1) := by decide +kernel
theorem dJ6_bitCount_0f7a4_33 : decode cJ6_bitCount_0f7a4 33 = .ok (.istore_n 0, 1) := by decide +kernel
theorem dJ6_bitCount_0f7a4_34 : decode cJ6_bitCount_0f7a4 34 = .ok (.iload_n 0, 1) := by decide +kernel
theorem dJ6_bitCount_0f7a4_35 : decode cJ6_bitCount_0f7a4 35 = .ok (.iload_n 0, 1) := by decide +kernel
theorem dJ6_bitCount_0f7a4_36 : decode cJ6_bitCount_0f7a4 36 = .ok (.bipush 8, 2) := by decide +kernel
theorem dJ6_bitCount_0f7a4_38 : decode cJ6_bitCount_0f7a4 38 = .ok (.iushr, 1) := by decide +kernel
theorem dJ6_bitCount_0f7a4_39 : decode cJ6_bitCount_0f7a4 39 = .ok (.iadd, 1) := by decide +kernel
theorem dJ6_bitCount_0f7a4_40 : decode cJ6_bitCount_0f7a4 40 = .ok (.istore_n 0, 1) := by decide +kernel
theorem dJ6_bitCount_0f7a4_41 : decode cJ6_bitCount_0f7a4 41 = .ok (.iload_n 0, 1) := by decide +kernel
theorem dJ6_bitCount_0f7a4_42 : decode cJ6_bitCount_0f7a4 42 = .ok (.iload_n 0, 1) := by decide +kernel
theorem dJ6_bitCount_0f7a4_43 : decode cJ6_bitCount_0f7a4 43 = .ok (.bipush 16, 2) := by decide +kernel
theorem dJ6_bitCount_0f7a4_45 : decode cJ6_bitCount_0f7a4 45 = .ok (.iushr, 1) := by decide +kernel
theorem dJ6_bitCount_0f7a4_46 : decode cJ6_bitCount_0f7a4 46 = .ok (.iadd, 1) := by decide +kernel
theorem dJ6_bitCount_0f7a4_47 : decode cJ6_bitCount_0f7a4 47 = .ok (.istore_n 0, 1) := by decide +kernel
theorem dJ6_bitCount_0f7a4_48 : decode cJ6_bitCount_0f7a4 48 = .ok (.iload_n 0, 1) := by decide +kernel
theorem dJ6_bitCount_0f7a4_49 : decode cJ6_bitCount_0f7a4 49 = .ok (.bipush 63, 2) := by decide +kernel
theorem dJ6_bitCount_0f7a4_51 : decode cJ6_bitCount_0f7a4 51 = .ok (.iand, 1) := by decide +kernel
theorem dJ6_bitCount_0f7a4_52 : decode cJ6_bitCount_0f7a4 52 = .ok (.ireturn, 1) := by decide +kernel
theorem dJ7_rangeCheck_23922_0 : decode cJ7_rangeCheck_23922 0 = .ok (.iload_n 1, 1) := by decide +kernel
theorem dJ7_rangeCheck_23922_1 : decode cJ7_rangeCheck_23922 1 = .ok (.iload_n 2, 1) := by decide +kernel
theorem dJ7_rangeCheck_23922_2 : decode cJ7_rangeCheck_23922 2 = .ok (.if_icmp .le 44, 3) := by decide +kernel
theorem dJ7_rangeCheck_23922_5 : decode cJ7_rangeCheck_23922 5 = .ok (.new 43, 3) := by decide +kernel
theorem dJ7_rangeCheck_23922_8 : decode cJ7_rangeCheck_23922 8 = .ok (.dup, 1) := by decide +kernel
theorem dJ7_rangeCheck_23922_9 : decode cJ7_rangeCheck_23922 9 = .ok (.new 45, 3) := by decide +kernel
theorem dJ7_rangeCheck_23922_12 : decode cJ7_rangeCheck_23922 12 = .ok (.dup, 1) := by decide +kernel
theorem dJ7_rangeCheck_23922_13 : decode cJ7_rangeCheck_23922 13 = .ok (.invokespecial 47, 3) := by decide +kernel
theorem dJ7_rangeCheck_23922_16 : decode cJ7_rangeCheck_23922 16 = .ok (.ldc 48, 2) := by decide +kernel
theorem dJ7_rangeCheck_23922_18 : decode cJ7_rangeCheck_23922 18 = .ok (.invokevirtual 50, 3) := by decide +kernel
theorem dJ7_rangeCheck_23922_21 : decode cJ7_rangeCheck_23922 21 = .ok (.iload_n 1, 1) := by decide +kernel
theorem dJ7_rangeCheck_23922_22 : decode cJ7_rangeCheck_23922 22 = .ok (.invokevirtual 54, 3) := by decide +kernel
theorem dJ7_rangeCheck_23922_25 : decode cJ7_rangeCheck_23922 25 = .ok (.ldc 57, 2) := by decide +kernel
theorem dJ7_rangeCheck_23922_27 : decode cJ7_rangeCheck_23922 27 = .ok (.invokevirtual 50, 3) := by decide +kernel
theorem dJ7_rangeCheck_23922_30 : decode cJ7_rangeCheck_23922 30 = .ok (.iload_n 2, 1) := by decide +kernel
theorem dJ7_rangeCheck_23922_31 : decode cJ7_rangeCheck_23922 31 = .ok (.invokevirtual 54, 3) := by decide +kernel
theorem dJ7_rangeCheck_23922_34 : decode cJ7_rangeCheck_23922 34 = .ok (.ldc 59, 2) := by decide +kernel
theorem dJ7_rangeCheck_23922_36 : decode cJ7_rangeCheck_23922 36 = .ok (.invokevirtual 50, 3) := by decide +kernel
theorem dJ7_rangeCheck_23922_39 : decode cJ7_rangeCheck_23922 39 = .ok (.invokevirtual 61, 3) := by decide +kernel
theorem dJ7_rangeCheck_23922_42 : decode cJ7_rangeCheck_23922 42 = .ok (.invokespecial 65, 3) := by decide +kernel
theorem dJ7_rangeCheck_23922_45 : decode cJ7_rangeCheck_23922 45 = .ok (.athrow, 1) := by decide +kernel
theorem dJ7_rangeCheck_23922_46 : decode cJ7_rangeCheck_23922 46 = .ok (.iload_n 1, 1) := by decide +kernel
theorem dJ7_rangeCheck_23922_47 : decode cJ7_rangeCheck_23922 47 = .ok (.ifCond .ge 12, 3) := by decide +kernel
theorem dJ7_rangeCheck_23922_50 : decode cJ7_rangeCheck_23922 50 = .ok (.new 68, 3) := by decide +kernel
theorem dJ7_rangeCheck_23922_53 : decode cJ7_rangeCheck_23922 53 = .ok (.dup, 1) := by decide +kernel
theorem dJ7_rangeCheck_23922_54 : decode cJ7_rangeCheck_23922 54 = .ok (.iload_n 1, 1) := by decide +kernel
theorem dJ7_rangeCheck_23922_55 : decode cJ7_rangeCheck_23922 55 = .ok (.invokespecial 70, 3) := by decide +kernel
theorem dJ7_rangeCheck_23922_58 : decode cJ7_rangeCheck_23922 58 = .ok (.athrow, 1) := by decide +kernel
theorem dJ7_rangeCheck_23922_59 : decode cJ7_rangeCheck_23922 59 = .ok (.iload_n 2, 1) := by decide +kernel
theorem dJ7_rangeCheck_23922_60 : decode cJ7_rangeCheck_23922 60 = .ok (.iload_n 0, 1) := by decide +kernel
theorem dJ7_rangeCheck_23922_61 : decode cJ7_rangeCheck_23922 61 = .ok (.if_icmp .le 12, 3) := by decide +kernel
theorem dJ7_rangeCheck_23922_64 : decode cJ7_rangeCheck_23922 64 = .ok (.new 68, 3) := by decide +kernel
theorem dJ7_rangeCheck_23922_67 : decode cJ7_rangeCheck_23922 67 = .ok (.dup, 1) := by decide +kernel
theorem dJ7_rangeCheck_23922_68 : decode cJ7_rangeCheck_23922 68 = .ok (.iload_n 2, 1) := by decide +kernel
theorem dJ7_rangeCheck_23922_69 : decode cJ7_rangeCheck_23922 69 = .ok (.invokespecial 70, 3) := by decide +kernel
theorem dJ7_rangeCheck_23922_72 : decode cJ7_rangeCheck_23922 72 = .ok (.athrow, 1) := by decide +kernel
theorem dJ7_rangeCheck_23922_73 : decode cJ7_rangeCheck_23922 73 = .ok (.return_, 1) := by decide +kernel
theorem dJ7_fill_fda19_0 : decode cJ7_fill_fda19 0 = .ok (.aload_n 0, 1) := by decide +kernel
theorem dJ7_fill_fda19_1 : decode cJ7_fill_fda19 1 = .ok (.arraylength, 1) := by decide +kernel
theorem dJ7_fill_fda19_2 : decode cJ7_fill_fda19 2 = .ok (.iload_n 1, 1) := by decide +kernel
theorem dJ7_fill_fda19_3 : decode cJ7_fill_fda19 3 = .ok (.iload_n 2, 1) := by decide +kernel
theorem dJ7_fill_fda19_4 : decode cJ7_fill_fda19 4 = .ok (.invokestatic 13, 3) := by decide +kernel
theorem dJ7_fill_fda19_7 : decode cJ7_fill_fda19 7 = .ok (.iload_n 1, 1) := by decide +kernel
theorem dJ7_fill_fda19_8 : decode cJ7_fill_fda19 8 = .ok (.istore 4, 2) := by decide +kernel
theorem dJ7_fill_fda19_10 : decode cJ7_fill_fda19 10 = .ok (.iload 4, 2) := by decide +kernel
theorem dJ7_fill_fda19_12 : decode cJ7_fill_fda19 12 = .ok (.iload_n 2, 1) := by decide +kernel
theorem dJ7_fill_fda19_13 : decode cJ7_fill_fda19 13 = .ok (.if_icmp .ge 14, 3) := by decide +kernel
theorem dJ7_fill_fda19_16 : decode cJ7_fill_fda19 16 = .ok (.aload_n 0, 1) := by decide +kernel
theorem dJ7_fill_fda19_17 : decode cJ7_fill_fda19 17 = .ok (.iload 4, 2) := by decide +kernel
theorem dJ7_fill_fda19_19 : decode cJ7_fill_fda19 19 = .ok (.iload_n 3, 1) := by decide +kernel
theorem dJ7_fill_fda19_20 : decode cJ7_fill_fda19 20 = .ok (.iastore, 1) := by decide +kernel
theorem dJ7_fill_fda19_21 : decode cJ7_fill_fda19 21 = .ok (.iinc 4 1, 3) := by decide +kernel
theorem dJ7_fill_fda19_24 : decode cJ7_fill_fda19 24 = .ok (.goto (-14), 3) := by decide +kernel
theorem dJ7_fill_fda19_27 : decode cJ7_fill_fda19 27 = .ok (.return_, 1) := by decide +kernel
theorem aw_list {ws : List Cond} (ps : List Nat) (h : ws = ps.filterMap (fun i => tables_1[i]?)) (hg : ws.all goodWord = true) : ∀ w ∈ ws, w ∈ AW := by
  intro w hw
  have h1 := List.all_eq_true.mp hg w hw
  rw [h] at hw
  obtain ⟨i, -, hi⟩ := List.mem_filterMap.mp hw
  exact aw_t i hi h1
theorem ckX0 : CK 0 (RX0, TX0, 3) tyX0 := ⟨rfl, aw_list [62, 64, 66] (by decide +kernel) (by decide +kernel), tyX0_ok, nmX0⟩
theorem ckX1 : CK 1 (RX1, TX1, 2) tyX1 := ⟨rfl, aw_list [81, 83] (by decide +kernel) (by decide +kernel), tyX1_ok, nmX1⟩
theorem ckX2 : CK 2 (RX2, TX2, 5) tyX2 := ⟨rfl, aw_list [323, 325, 327, 329, 331] (by decide +kernel) (by decide +kernel), tyX2_ok, nmX2⟩
theorem ckX3 : CK 3 (RX3, TX3, 7) tyX3 := ⟨rfl, aw_list [291, 293, 295, 297, 299, 301, 303] (by decide +kernel) (by decide +kernel), tyX3_ok, nmX3⟩
theorem ckX4 : CK 4 (RX4, TX4, 4) tyX4 := ⟨rfl, aw_list [151, 153, 155, 157] (by decide +kernel) (by decide +kernel), tyX4_ok, nmX4⟩
theorem ckX5 : CK 5 (RX5, TX5, 2) tyX5 := ⟨rfl, aw_list [272, 274] (by decide +kernel) (by decide +kernel), tyX5_ok, nmX5⟩
theorem ckX6 : CK 6 (RX6, TX6, 5) tyX6 := ⟨rfl, aw_list [243, 245, 247, 249, 251] (by decide +kernel) (by decide +kernel), tyX6_ok, nmX6⟩
theorem ckX7 : CK 7 (RX7, TX7, 2) tyX7 := ⟨rfl, aw_list [227, 229] (by decide +kernel) (by decide +kernel), tyX7_ok, nmX7⟩
theorem ckX8 : CK 8 (RX8, TX8, 9) tyX8 := ⟨rfl, aw_list [187, 189, 191, 193, 195, 197, 199, 201, 203] (by decide +kernel) (by decide +kernel), tyX8_ok, nmX8⟩
theorem ckX9 : CK 9 (RX9, TX9, 8) tyX9 := ⟨rfl, aw_list [117, 119, 121, 123, 125, 127, 129, 131] (by decide +kernel) (by decide +kernel), tyX9_ok, nmX9⟩
theorem ckX10 : CK 10 (RX10, TX10, 8) tyX10 := ⟨rfl, aw_list [342, 344, 346, 348, 350, 352, 354, 356] (by decide +kernel) (by decide +kernel), tyX10_ok, nmX10⟩
theorem fkX10_10 : FK RX10 10 10 0 (.object "SlipwayPlan$Project") true := ⟨_, _, ckX10, by decide, aw_t 334 (by decide +kernel) rfl, tyX10_ok 0 (by decide), rfl⟩
theorem fkX10_21 : FK RX10 21 10 1 (.object "SlipwayPlan$Network") true := ⟨_, _, ckX10, by decide, aw_t 335 (by decide +kernel) rfl, tyX10_ok 1 (by decide), rfl⟩
theorem fkX10_28 : FK RX10 28 10 2 (.object "SlipwayPlan$Levelling") true := ⟨_, _, ckX10, by decide, aw_t 336 (by decide +kernel) rfl, tyX10_ok 2 (by decide), rfl⟩
theorem fkX10_35 : FK RX10 35 10 3 (.object "SlipwayPlan$Load") true := ⟨_, _, ckX10, by decide, aw_t 337 (by decide +kernel) rfl, tyX10_ok 3 (by decide), rfl⟩
theorem fkX10_39 : FK RX10 39 10 4 (.object "SlipwayPlan$Network") true := ⟨_, _, ckX10, by decide, aw_t 338 (by decide +kernel) rfl, tyX10_ok 4 (by decide), rfl⟩
theorem fkX10_42 : FK RX10 42 10 5 (.object "SlipwayPlan$Levelling") true := ⟨_, _, ckX10, by decide, aw_t 339 (by decide +kernel) rfl, tyX10_ok 5 (by decide), rfl⟩
theorem fkX10_48 : FK RX10 48 10 6 (.object "SlipwayPlan$Kept") true := ⟨_, _, ckX10, by decide, aw_t 340 (by decide +kernel) rfl, tyX10_ok 6 (by decide), rfl⟩
theorem fkX10_52 : FK RX10 52 10 7 (.boolean) false := ⟨_, _, ckX10, by decide, aw_t 341 (by decide +kernel) rfl, tyX10_ok 7 (by decide), rfl⟩
theorem fkX10_64 : FK RX10 64 8 0 (.array (.object "SlipwayPlan$Calendar")) true := ⟨_, _, ckX8, by decide, aw_t 161 (by decide +kernel) rfl, tyX8_ok 0 (by decide), rfl⟩
theorem fkX10_68 : FK RX10 68 0 0 (.int) false := ⟨_, _, ckX0, by decide, aw_t 59 (by decide +kernel) rfl, tyX0_ok 0 (by decide), rfl⟩
theorem fkX10_95 : FK RX10 95 8 1 (.array (.object "SlipwayPlan$Crew")) true := ⟨_, _, ckX8, by decide, aw_t 164 (by decide +kernel) rfl, tyX8_ok 1 (by decide), rfl⟩
theorem fkX10_99 : FK RX10 99 1 0 (.int) false := ⟨_, _, ckX1, by decide, aw_t 77 (by decide +kernel) rfl, tyX1_ok 0 (by decide), rfl⟩
theorem fkX10_104 : FK RX10 104 1 1 (.int) false := ⟨_, _, ckX1, by decide, aw_t 80 (by decide +kernel) rfl, tyX1_ok 1 (by decide), rfl⟩
theorem fkX10_107 : FK RX10 107 8 4 (.int) false := ⟨_, _, ckX8, by decide, aw_t 178 (by decide +kernel) rfl, tyX8_ok 4 (by decide), rfl⟩
theorem fkX10_117 : FK RX10 117 8 2 (.array (.object "SlipwayPlan$Task")) true := ⟨_, _, ckX8, by decide, aw_t 170 (by decide +kernel) rfl, tyX8_ok 2 (by decide), rfl⟩
theorem fkX10_121 : FK RX10 121 9 0 (.int) false := ⟨_, _, ckX9, by decide, aw_t 94 (by decide +kernel) rfl, tyX9_ok 0 (by decide), rfl⟩
theorem fkX10_126 : FK RX10 126 9 3 (.int) false := ⟨_, _, ckX9, by decide, aw_t 99 (by decide +kernel) rfl, tyX9_ok 3 (by decide), rfl⟩
theorem fkX10_129 : FK RX10 129 9 2 (.int) false := ⟨_, _, ckX9, by decide, aw_t 98 (by decide +kernel) rfl, tyX9_ok 2 (by decide), rfl⟩
theorem fkX10_132 : FK RX10 132 9 7 (.array .int) true := ⟨_, _, ckX9, by decide, aw_t 116 (by decide +kernel) rfl, tyX9_ok 7 (by decide), rfl⟩
theorem fkX10_136 : FK RX10 136 8 5 (.int) false := ⟨_, _, ckX8, by decide, aw_t 181 (by decide +kernel) rfl, tyX8_ok 5 (by decide), rfl⟩
theorem fkX10_152 : FK RX10 152 9 4 (.boolean) false := ⟨_, _, ckX9, by decide, aw_t 105 (by decide +kernel) rfl, tyX9_ok 4 (by decide), rfl⟩
theorem fkX10_155 : FK RX10 155 9 5 (.int) false := ⟨_, _, ckX9, by decide, aw_t 108 (by decide +kernel) rfl, tyX9_ok 5 (by decide), rfl⟩
theorem fkX10_158 : FK RX10 158 9 6 (.int) false := ⟨_, _, ckX9, by decide, aw_t 111 (by decide +kernel) rfl, tyX9_ok 6 (by decide), rfl⟩
theorem fkX10_161 : FK RX10 161 8 6 (.int) false := ⟨_, _, ckX8, by decide, aw_t 183 (by decide +kernel) rfl, tyX8_ok 6 (by decide), rfl⟩
theorem fkX10_174 : FK RX10 174 6 1 (.object "SlipwayPlan$Plan") true := ⟨_, _, ckX6, by decide, aw_t 234 (by decide +kernel) rfl, tyX6_ok 1 (by decide), rfl⟩
theorem fkX10_178 : FK RX10 178 7 0 (.array .int) true := ⟨_, _, ckX7, by decide, aw_t 222 (by decide +kernel) rfl, tyX7_ok 0 (by decide), rfl⟩
theorem fkX10_183 : FK RX10 183 7 1 (.array .int) true := ⟨_, _, ckX7, by decide, aw_t 226 (by decide +kernel) rfl, tyX7_ok 1 (by decide), rfl⟩
theorem fkX10_186 : FK RX10 186 6 2 (.object "SlipwayPlan$Plan") true := ⟨_, _, ckX6, by decide, aw_t 237 (by decide +kernel) rfl, tyX6_ok 2 (by decide), rfl⟩
theorem fkX10_189 : FK RX10 189 6 3 (.array .int) true := ⟨_, _, ckX6, by decide, aw_t 240 (by decide +kernel) rfl, tyX6_ok 3 (by decide), rfl⟩
theorem fkX10_192 : FK RX10 192 6 4 (.int) false := ⟨_, _, ckX6, by decide, aw_t 242 (by decide +kernel) rfl, tyX6_ok 4 (by decide), rfl⟩
theorem fkX10_205 : FK RX10 205 3 1 (.object "SlipwayPlan$Plan") true := ⟨_, _, ckX3, by decide, aw_t 280 (by decide +kernel) rfl, tyX3_ok 1 (by decide), rfl⟩
theorem fkX10_208 : FK RX10 208 3 6 (.int) false := ⟨_, _, ckX3, by decide, aw_t 290 (by decide +kernel) rfl, tyX3_ok 6 (by decide), rfl⟩
theorem fkX10_209 : FK RX10 209 3 5 (.int) false := ⟨_, _, ckX3, by decide, aw_t 288 (by decide +kernel) rfl, tyX3_ok 5 (by decide), rfl⟩
theorem fkX10_216 : FK RX10 216 3 4 (.array .int) true := ⟨_, _, ckX3, by decide, aw_t 286 (by decide +kernel) rfl, tyX3_ok 4 (by decide), rfl⟩
theorem fkX10_219 : FK RX10 219 3 2 (.object "SlipwayPlan$Load") true := ⟨_, _, ckX3, by decide, aw_t 282 (by decide +kernel) rfl, tyX3_ok 2 (by decide), rfl⟩
theorem fkX0_9 : FK RX0 9 0 0 (.int) false := ⟨_, _, ckX0, by decide, aw_t 58 (by decide +kernel) rfl, tyX0_ok 0 (by decide), rfl⟩
theorem fkX0_15 : FK RX0 15 0 2 (.array .boolean) true := ⟨_, _, ckX0, by decide, aw_t 61 (by decide +kernel) rfl, tyX0_ok 2 (by decide), rfl⟩
theorem fkX0_19 : FK RX0 19 0 1 (.int) false := ⟨_, _, ckX0, by decide, aw_t 60 (by decide +kernel) rfl, tyX0_ok 1 (by decide), rfl⟩
theorem fkX1_9 : FK RX1 9 1 0 (.int) false := ⟨_, _, ckX1, by decide, aw_t 76 (by decide +kernel) rfl, tyX1_ok 0 (by decide), rfl⟩
theorem fkX2_12 : FK RX2 12 2 1 (.object "SlipwayPlan$Plan") true := ⟨_, _, ckX2, by decide, aw_t 319 (by decide +kernel) rfl, tyX2_ok 1 (by decide), rfl⟩
theorem fkX2_18 : FK RX2 18 2 2 (.array .boolean) true := ⟨_, _, ckX2, by decide, aw_t 320 (by decide +kernel) rfl, tyX2_ok 2 (by decide), rfl⟩
theorem fkX2_22 : FK RX2 22 2 3 (.array .int) true := ⟨_, _, ckX2, by decide, aw_t 321 (by decide +kernel) rfl, tyX2_ok 3 (by decide), rfl⟩
theorem fkX2_28 : FK RX2 28 2 4 (.array (.object "SlipwayPlan$Calendar")) true := ⟨_, _, ckX2, by decide, aw_t 322 (by decide +kernel) rfl, tyX2_ok 4 (by decide), rfl⟩
theorem fkX2_32 : FK RX2 32 2 0 (.object "SlipwayPlan$Project") true := ⟨_, _, ckX2, by decide, aw_t 318 (by decide +kernel) rfl, tyX2_ok 0 (by decide), rfl⟩
theorem fkX2_37 : FK RX2 37 8 4 (.int) false := ⟨_, _, ckX8, by decide, aw_t 174 (by decide +kernel) rfl, tyX8_ok 4 (by decide), rfl⟩
theorem fkX2_43 : FK RX2 43 3 3 (.array .boolean) true := ⟨_, _, ckX3, by decide, aw_t 284 (by decide +kernel) rfl, tyX3_ok 3 (by decide), rfl⟩
theorem fkX2_46 : FK RX2 46 3 1 (.object "SlipwayPlan$Plan") true := ⟨_, _, ckX3, by decide, aw_t 279 (by decide +kernel) rfl, tyX3_ok 1 (by decide), rfl⟩
theorem fkX2_47 : FK RX2 47 7 0 (.array .int) true := ⟨_, _, ckX7, by decide, aw_t 219 (by decide +kernel) rfl, tyX7_ok 0 (by decide), rfl⟩
theorem fkX2_50 : FK RX2 50 7 1 (.array .int) true := ⟨_, _, ckX7, by decide, aw_t 224 (by decide +kernel) rfl, tyX7_ok 1 (by decide), rfl⟩
theorem fkX2_61 : FK RX2 61 8 0 (.array (.object "SlipwayPlan$Calendar")) true := ⟨_, _, ckX8, by decide, aw_t 162 (by decide +kernel) rfl, tyX8_ok 0 (by decide), rfl⟩
theorem fkX2_70 : FK RX2 70 8 2 (.array (.object "SlipwayPlan$Task")) true := ⟨_, _, ckX8, by decide, aw_t 169 (by decide +kernel) rfl, tyX8_ok 2 (by decide), rfl⟩
theorem fkX2_74 : FK RX2 74 9 1 (.int) false := ⟨_, _, ckX9, by decide, aw_t 96 (by decide +kernel) rfl, tyX9_ok 1 (by decide), rfl⟩
theorem fkX2_87 : FK RX2 87 9 4 (.boolean) false := ⟨_, _, ckX9, by decide, aw_t 104 (by decide +kernel) rfl, tyX9_ok 4 (by decide), rfl⟩
theorem fkX3_12 : FK RX3 12 3 1 (.object "SlipwayPlan$Plan") true := ⟨_, _, ckX3, by decide, aw_t 278 (by decide +kernel) rfl, tyX3_ok 1 (by decide), rfl⟩
theorem fkX3_21 : FK RX3 21 3 2 (.object "SlipwayPlan$Load") true := ⟨_, _, ckX3, by decide, aw_t 281 (by decide +kernel) rfl, tyX3_ok 2 (by decide), rfl⟩
theorem fkX3_25 : FK RX3 25 3 3 (.array .boolean) true := ⟨_, _, ckX3, by decide, aw_t 283 (by decide +kernel) rfl, tyX3_ok 3 (by decide), rfl⟩
theorem fkX3_29 : FK RX3 29 3 4 (.array .int) true := ⟨_, _, ckX3, by decide, aw_t 285 (by decide +kernel) rfl, tyX3_ok 4 (by decide), rfl⟩
theorem fkX3_33 : FK RX3 33 3 0 (.object "SlipwayPlan$Project") true := ⟨_, _, ckX3, by decide, aw_t 277 (by decide +kernel) rfl, tyX3_ok 0 (by decide), rfl⟩
theorem fkX3_40 : FK RX3 40 8 4 (.int) false := ⟨_, _, ckX8, by decide, aw_t 175 (by decide +kernel) rfl, tyX8_ok 4 (by decide), rfl⟩
theorem fkX3_46 : FK RX3 46 8 2 (.array (.object "SlipwayPlan$Task")) true := ⟨_, _, ckX8, by decide, aw_t 167 (by decide +kernel) rfl, tyX8_ok 2 (by decide), rfl⟩
theorem fkX3_50 : FK RX3 50 9 4 (.boolean) false := ⟨_, _, ckX9, by decide, aw_t 102 (by decide +kernel) rfl, tyX9_ok 4 (by decide), rfl⟩
theorem fkX3_56 : FK RX3 56 9 5 (.int) false := ⟨_, _, ckX9, by decide, aw_t 106 (by decide +kernel) rfl, tyX9_ok 5 (by decide), rfl⟩
theorem fkX3_59 : FK RX3 59 9 6 (.int) false := ⟨_, _, ckX9, by decide, aw_t 109 (by decide +kernel) rfl, tyX9_ok 6 (by decide), rfl⟩
theorem fkX3_82 : FK RX3 82 9 0 (.int) false := ⟨_, _, ckX9, by decide, aw_t 92 (by decide +kernel) rfl, tyX9_ok 0 (by decide), rfl⟩
theorem fkX3_91 : FK RX3 91 3 5 (.int) false := ⟨_, _, ckX3, by decide, aw_t 287 (by decide +kernel) rfl, tyX3_ok 5 (by decide), rfl⟩
theorem fkX3_94 : FK RX3 94 3 6 (.int) false := ⟨_, _, ckX3, by decide, aw_t 289 (by decide +kernel) rfl, tyX3_ok 6 (by decide), rfl⟩
theorem fkX3_121 : FK RX3 121 6 2 (.object "SlipwayPlan$Plan") true := ⟨_, _, ckX6, by decide, aw_t 236 (by decide +kernel) rfl, tyX6_ok 2 (by decide), rfl⟩
theorem fkX3_126 : FK RX3 126 7 0 (.array .int) true := ⟨_, _, ckX7, by decide, aw_t 221 (by decide +kernel) rfl, tyX7_ok 0 (by decide), rfl⟩
theorem fkX3_129 : FK RX3 129 6 3 (.array .int) true := ⟨_, _, ckX6, by decide, aw_t 239 (by decide +kernel) rfl, tyX6_ok 3 (by decide), rfl⟩
theorem fkX3_132 : FK RX3 132 9 2 (.int) false := ⟨_, _, ckX9, by decide, aw_t 97 (by decide +kernel) rfl, tyX9_ok 2 (by decide), rfl⟩
theorem fkX3_135 : FK RX3 135 9 7 (.array .int) true := ⟨_, _, ckX9, by decide, aw_t 115 (by decide +kernel) rfl, tyX9_ok 7 (by decide), rfl⟩
theorem fkX3_138 : FK RX3 138 8 1 (.array (.object "SlipwayPlan$Crew")) true := ⟨_, _, ckX8, by decide, aw_t 165 (by decide +kernel) rfl, tyX8_ok 1 (by decide), rfl⟩
theorem fkX3_142 : FK RX3 142 1 0 (.int) false := ⟨_, _, ckX1, by decide, aw_t 78 (by decide +kernel) rfl, tyX1_ok 0 (by decide), rfl⟩
theorem fkX3_157 : FK RX3 157 9 3 (.int) false := ⟨_, _, ckX9, by decide, aw_t 100 (by decide +kernel) rfl, tyX9_ok 3 (by decide), rfl⟩
theorem fkX3_168 : FK RX3 168 8 5 (.int) false := ⟨_, _, ckX8, by decide, aw_t 182 (by decide +kernel) rfl, tyX8_ok 5 (by decide), rfl⟩
theorem fkX3_171 : FK RX3 171 8 3 (.array (.object "SlipwayPlan$Link")) true := ⟨_, _, ckX8, by decide, aw_t 173 (by decide +kernel) rfl, tyX8_ok 3 (by decide), rfl⟩
theorem fkX3_175 : FK RX3 175 4 1 (.int) false := ⟨_, _, ckX4, by decide, aw_t 144 (by decide +kernel) rfl, tyX4_ok 1 (by decide), rfl⟩
theorem fkX5_11 : FK RX5 11 5 0 (.array (.array .int)) true := ⟨_, _, ckX5, by decide, aw_t 270 (by decide +kernel) rfl, tyX5_ok 0 (by decide), rfl⟩
theorem fkX5_16 : FK RX5 16 5 1 (.int) false := ⟨_, _, ckX5, by decide, aw_t 271 (by decide +kernel) rfl, tyX5_ok 1 (by decide), rfl⟩
theorem fkX5_41 : FK RX5 41 9 7 (.array .int) true := ⟨_, _, ckX9, by decide, aw_t 114 (by decide +kernel) rfl, tyX9_ok 7 (by decide), rfl⟩
theorem fkX6_12 : FK RX6 12 6 1 (.object "SlipwayPlan$Plan") true := ⟨_, _, ckX6, by decide, aw_t 233 (by decide +kernel) rfl, tyX6_ok 1 (by decide), rfl⟩
theorem fkX6_18 : FK RX6 18 6 2 (.object "SlipwayPlan$Plan") true := ⟨_, _, ckX6, by decide, aw_t 235 (by decide +kernel) rfl, tyX6_ok 2 (by decide), rfl⟩
theorem fkX6_21 : FK RX6 21 6 3 (.array .int) true := ⟨_, _, ckX6, by decide, aw_t 238 (by decide +kernel) rfl, tyX6_ok 3 (by decide), rfl⟩
theorem fkX6_25 : FK RX6 25 6 0 (.object "SlipwayPlan$Project") true := ⟨_, _, ckX6, by decide, aw_t 232 (by decide +kernel) rfl, tyX6_ok 0 (by decide), rfl⟩
theorem fkX6_29 : FK RX6 29 6 4 (.int) false := ⟨_, _, ckX6, by decide, aw_t 241 (by decide +kernel) rfl, tyX6_ok 4 (by decide), rfl⟩
theorem fkX6_33 : FK RX6 33 8 4 (.int) false := ⟨_, _, ckX8, by decide, aw_t 176 (by decide +kernel) rfl, tyX8_ok 4 (by decide), rfl⟩
theorem fkX6_38 : FK RX6 38 8 7 (.array .int) true := ⟨_, _, ckX8, by decide, aw_t 185 (by decide +kernel) rfl, tyX8_ok 7 (by decide), rfl⟩
theorem fkX6_41 : FK RX6 41 8 2 (.array (.object "SlipwayPlan$Task")) true := ⟨_, _, ckX8, by decide, aw_t 168 (by decide +kernel) rfl, tyX8_ok 2 (by decide), rfl⟩
theorem fkX6_45 : FK RX6 45 9 4 (.boolean) false := ⟨_, _, ckX9, by decide, aw_t 103 (by decide +kernel) rfl, tyX9_ok 4 (by decide), rfl⟩
theorem fkX6_51 : FK RX6 51 9 5 (.int) false := ⟨_, _, ckX9, by decide, aw_t 107 (by decide +kernel) rfl, tyX9_ok 5 (by decide), rfl⟩
theorem fkX6_54 : FK RX6 54 9 6 (.int) false := ⟨_, _, ckX9, by decide, aw_t 110 (by decide +kernel) rfl, tyX9_ok 6 (by decide), rfl⟩
theorem fkX6_69 : FK RX6 69 9 0 (.int) false := ⟨_, _, ckX9, by decide, aw_t 91 (by decide +kernel) rfl, tyX9_ok 0 (by decide), rfl⟩
theorem fkX6_78 : FK RX6 78 7 1 (.array .int) true := ⟨_, _, ckX7, by decide, aw_t 225 (by decide +kernel) rfl, tyX7_ok 1 (by decide), rfl⟩
theorem fkX6_93 : FK RX6 93 8 5 (.int) false := ⟨_, _, ckX8, by decide, aw_t 179 (by decide +kernel) rfl, tyX8_ok 5 (by decide), rfl⟩
theorem fkX6_96 : FK RX6 96 8 3 (.array (.object "SlipwayPlan$Link")) true := ⟨_, _, ckX8, by decide, aw_t 172 (by decide +kernel) rfl, tyX8_ok 3 (by decide), rfl⟩
theorem fkX6_100 : FK RX6 100 4 0 (.int) false := ⟨_, _, ckX4, by decide, aw_t 140 (by decide +kernel) rfl, tyX4_ok 0 (by decide), rfl⟩
theorem fkX6_105 : FK RX6 105 4 1 (.int) false := ⟨_, _, ckX4, by decide, aw_t 142 (by decide +kernel) rfl, tyX4_ok 1 (by decide), rfl⟩
theorem fkX6_108 : FK RX6 108 4 2 (.int) false := ⟨_, _, ckX4, by decide, aw_t 146 (by decide +kernel) rfl, tyX4_ok 2 (by decide), rfl⟩
theorem fkX6_111 : FK RX6 111 7 0 (.array .int) true := ⟨_, _, ckX7, by decide, aw_t 220 (by decide +kernel) rfl, tyX7_ok 0 (by decide), rfl⟩
theorem fkX6_114 : FK RX6 114 4 3 (.int) false := ⟨_, _, ckX4, by decide, aw_t 149 (by decide +kernel) rfl, tyX4_ok 3 (by decide), rfl⟩
theorem fkX7_9 : FK RX7 9 7 0 (.array .int) true := ⟨_, _, ckX7, by decide, aw_t 218 (by decide +kernel) rfl, tyX7_ok 0 (by decide), rfl⟩
theorem fkX7_15 : FK RX7 15 7 1 (.array .int) true := ⟨_, _, ckX7, by decide, aw_t 223 (by decide +kernel) rfl, tyX7_ok 1 (by decide), rfl⟩
theorem fkX7_18 : FK RX7 18 4 2 (.int) false := ⟨_, _, ckX4, by decide, aw_t 145 (by decide +kernel) rfl, tyX4_ok 2 (by decide), rfl⟩
theorem fkX7_24 : FK RX7 24 4 0 (.int) false := ⟨_, _, ckX4, by decide, aw_t 139 (by decide +kernel) rfl, tyX4_ok 0 (by decide), rfl⟩
theorem fkX7_27 : FK RX7 27 4 3 (.int) false := ⟨_, _, ckX4, by decide, aw_t 148 (by decide +kernel) rfl, tyX4_ok 3 (by decide), rfl⟩
theorem fkX8_11 : FK RX8 11 8 0 (.array (.object "SlipwayPlan$Calendar")) true := ⟨_, _, ckX8, by decide, aw_t 160 (by decide +kernel) rfl, tyX8_ok 0 (by decide), rfl⟩
theorem fkX8_19 : FK RX8 19 8 1 (.array (.object "SlipwayPlan$Crew")) true := ⟨_, _, ckX8, by decide, aw_t 163 (by decide +kernel) rfl, tyX8_ok 1 (by decide), rfl⟩
theorem fkX8_25 : FK RX8 25 8 2 (.array (.object "SlipwayPlan$Task")) true := ⟨_, _, ckX8, by decide, aw_t 166 (by decide +kernel) rfl, tyX8_ok 2 (by decide), rfl⟩
theorem fkX8_31 : FK RX8 31 8 3 (.array (.object "SlipwayPlan$Link")) true := ⟨_, _, ckX8, by decide, aw_t 171 (by decide +kernel) rfl, tyX8_ok 3 (by decide), rfl⟩
theorem fkX8_35 : FK RX8 35 8 7 (.array .int) true := ⟨_, _, ckX8, by decide, aw_t 184 (by decide +kernel) rfl, tyX8_ok 7 (by decide), rfl⟩
theorem fkX8_39 : FK RX8 39 8 8 (.array .boolean) true := ⟨_, _, ckX8, by decide, aw_t 186 (by decide +kernel) rfl, tyX8_ok 8 (by decide), rfl⟩
theorem fkX8_47 : FK RX8 47 9 1 (.int) false := ⟨_, _, ckX9, by decide, aw_t 95 (by decide +kernel) rfl, tyX9_ok 1 (by decide), rfl⟩
theorem fkX8_51 : FK RX8 51 9 7 (.array .int) true := ⟨_, _, ckX9, by decide, aw_t 113 (by decide +kernel) rfl, tyX9_ok 7 (by decide), rfl⟩
theorem fkX8_54 : FK RX8 54 1 1 (.int) false := ⟨_, _, ckX1, by decide, aw_t 79 (by decide +kernel) rfl, tyX1_ok 1 (by decide), rfl⟩
theorem fkX8_57 : FK RX8 57 9 0 (.int) false := ⟨_, _, ckX9, by decide, aw_t 93 (by decide +kernel) rfl, tyX9_ok 0 (by decide), rfl⟩
theorem fkX8_60 : FK RX8 60 8 4 (.int) false := ⟨_, _, ckX8, by decide, aw_t 177 (by decide +kernel) rfl, tyX8_ok 4 (by decide), rfl⟩
theorem fkX8_63 : FK RX8 63 8 5 (.int) false := ⟨_, _, ckX8, by decide, aw_t 180 (by decide +kernel) rfl, tyX8_ok 5 (by decide), rfl⟩
theorem fkX8_66 : FK RX8 66 4 0 (.int) false := ⟨_, _, ckX4, by decide, aw_t 141 (by decide +kernel) rfl, tyX4_ok 0 (by decide), rfl⟩
theorem fkX8_69 : FK RX8 69 4 1 (.int) false := ⟨_, _, ckX4, by decide, aw_t 143 (by decide +kernel) rfl, tyX4_ok 1 (by decide), rfl⟩
theorem fkX8_72 : FK RX8 72 4 2 (.int) false := ⟨_, _, ckX4, by decide, aw_t 147 (by decide +kernel) rfl, tyX4_ok 2 (by decide), rfl⟩
theorem fkX8_75 : FK RX8 75 4 3 (.int) false := ⟨_, _, ckX4, by decide, aw_t 150 (by decide +kernel) rfl, tyX4_ok 3 (by decide), rfl⟩
theorem fkX8_96 : FK RX8 96 9 3 (.int) false := ⟨_, _, ckX9, by decide, aw_t 101 (by decide +kernel) rfl, tyX9_ok 3 (by decide), rfl⟩
theorem fkX9_9 : FK RX9 9 9 7 (.array .int) true := ⟨_, _, ckX9, by decide, aw_t 112 (by decide +kernel) rfl, tyX9_ok 7 (by decide), rfl⟩
abbrev mX0_init : MI := (yX0_init, cX0_init, 1, none, 8, 120, [])
theorem cwX0_init : CW mX0_init 0 := ⟨aw_t 56 (by decide +kernel) rfl, aw_t 3 (by decide +kernel) rfl, by decide +kernel, by decide +kernel, by decide +kernel⟩
abbrev mX0_copyFrom : MI := (yX0_copyFrom, cX0_copyFrom, 2, none, 8, 120, [])
theorem cwX0_copyFrom : CW mX0_copyFrom 1 := ⟨aw_t 1060 (by decide +kernel) rfl, aw_t 3 (by decide +kernel) rfl, by decide +kernel, by decide +kernel, by decide +kernel⟩
abbrev mX0_worksOn : MI := (yX0_worksOn, cX0_worksOn, 2, (some FieldType.boolean), 8, 120, [])
theorem cwX0_worksOn : CW mX0_worksOn 1 := ⟨aw_t 406 (by decide +kernel) rfl, aw_t 3 (by decide +kernel) rfl, by decide +kernel, by decide +kernel, by decide +kernel⟩
abbrev mX0_firstFrom : MI := (yX0_firstFrom, cX0_firstFrom, 3, (some FieldType.int), 9, 141, [])
theorem cwX0_firstFrom : CW mX0_firstFrom 1 := ⟨aw_t 402 (by decide +kernel) rfl, aw_t 3 (by decide +kernel) rfl, by decide +kernel, by decide +kernel, by decide +kernel⟩
abbrev mX0_countBack : MI := (yX0_countBack, cX0_countBack, 5, (some FieldType.int), 9, 141, [])
theorem cwX0_countBack : CW mX0_countBack 2 := ⟨aw_t 410 (by decide +kernel) rfl, aw_t 3 (by decide +kernel) rfl, by decide +kernel, by decide +kernel, by decide +kernel⟩
abbrev mX0_countWithin : MI := (yX0_countWithin, cX0_countWithin, 5, (some FieldType.int), 9, 141, [])
theorem cwX0_countWithin : CW mX0_countWithin 2 := ⟨aw_t 440 (by decide +kernel) rfl, aw_t 3 (by decide +kernel) rfl, by decide +kernel, by decide +kernel, by decide +kernel⟩
abbrev mX0_endOf : MI := (yX0_endOf, cX0_endOf, 5, (some FieldType.int), 9, 141, [])
theorem cwX0_endOf : CW mX0_endOf 2 := ⟨aw_t 415 (by decide +kernel) rfl, aw_t 3 (by decide +kernel) rfl, by decide +kernel, by decide +kernel, by decide +kernel⟩
abbrev mX0_firstBegin : MI := (yX0_firstBegin, cX0_firstBegin, 4, (some FieldType.int), 10, 165, [])
theorem cwX0_firstBegin : CW mX0_firstBegin 3 := ⟨aw_t 397 (by decide +kernel) rfl, aw_t 3 (by decide +kernel) rfl, by decide +kernel, by decide +kernel, by decide +kernel⟩
abbrev mX0_latestBegin : MI := (yX0_latestBegin, cX0_latestBegin, 4, (some FieldType.int), 10, 165, [])
theorem cwX0_latestBegin : CW mX0_latestBegin 3 := ⟨aw_t 431 (by decide +kernel) rfl, aw_t 3 (by decide +kernel) rfl, by decide +kernel, by decide +kernel, by decide +kernel⟩
abbrev mX1_init : MI := (yX1_init, cX1_init, 1, none, 8, 120, [])
theorem cwX1_init : CW mX1_init 0 := ⟨aw_t 74 (by decide +kernel) rfl, aw_t 4 (by decide +kernel) rfl, by decide +kernel, by decide +kernel, by decide +kernel⟩
abbrev mX2_init : MI := (yX2_init, cX2_init, 3, none, 9, 140, [])
theorem cwX2_init : CW mX2_init 1 := ⟨aw_t 312 (by decide +kernel) rfl, aw_t 11 (by decide +kernel) rfl, by decide +kernel, by decide +kernel, by decide +kernel⟩
abbrev mX2_take : MI := (yX2_take, cX2_take, 3, none, 9, 143, [])
theorem cwX2_take : CW mX2_take 1 := ⟨aw_t 1054 (by decide +kernel) rfl, aw_t 11 (by decide +kernel) rfl, by decide +kernel, by decide +kernel, by decide +kernel⟩
abbrev mX2_delayOf : MI := (yX2_delayOf, cX2_delayOf, 3, (some FieldType.int), 8, 120, [])
theorem cwX2_delayOf : CW mX2_delayOf 2 := ⟨aw_t 839 (by decide +kernel) rfl, aw_t 11 (by decide +kernel) rfl, by decide +kernel, by decide +kernel, by decide +kernel⟩
abbrev mX2_plannedUpTo : MI := (yX2_plannedUpTo, cX2_plannedUpTo, 4, (some FieldType.int), 11, 190, [])
theorem cwX2_plannedUpTo : CW mX2_plannedUpTo 1 := ⟨aw_t 868 (by decide +kernel) rfl, aw_t 11 (by decide +kernel) rfl, by decide +kernel, by decide +kernel, by decide +kernel⟩
abbrev mX2_partUpTo : MI := (yX2_partUpTo, cX2_partUpTo, 6, (some FieldType.int), 10, 165, [])
theorem cwX2_partUpTo : CW mX2_partUpTo 2 := ⟨aw_t 872 (by decide +kernel) rfl, aw_t 11 (by decide +kernel) rfl, by decide +kernel, by decide +kernel, by decide +kernel⟩
abbrev mX2_earnedNow : MI := (yX2_earnedNow, cX2_earnedNow, 3, (some FieldType.int), 8, 120, [])
theorem cwX2_earnedNow : CW mX2_earnedNow 0 := ⟨aw_t 856 (by decide +kernel) rfl, aw_t 11 (by decide +kernel) rfl, by decide +kernel, by decide +kernel, by decide +kernel⟩
abbrev mX3_init : MI := (yX3_init, cX3_init, 2, none, 9, 140, [])
theorem cwX3_init : CW mX3_init 1 := ⟨aw_t 258 (by decide +kernel) rfl, aw_t 9 (by decide +kernel) rfl, by decide +kernel, by decide +kernel, by decide +kernel⟩
abbrev mX3_reckon : MI := (yX3_reckon, cX3_reckon, 6, none, 12, 216, [])
theorem cwX3_reckon : CW mX3_reckon 2 := ⟨aw_t 768 (by decide +kernel) rfl, aw_t 9 (by decide +kernel) rfl, by decide +kernel, by decide +kernel, by decide +kernel⟩
abbrev mX3_clear : MI := (yX3_clear, cX3_clear, 2, none, 11, 195, [])
theorem cwX3_clear : CW mX3_clear 0 := ⟨aw_t 772 (by decide +kernel) rfl, aw_t 9 (by decide +kernel) rfl, by decide +kernel, by decide +kernel, by decide +kernel⟩
abbrev mX3_putIn : MI := (yX3_putIn, cX3_putIn, 4, none, 10, 168, [])
theorem cwX3_putIn : CW mX3_putIn 3 := ⟨aw_t 778 (by decide +kernel) rfl, aw_t 9 (by decide +kernel) rfl, by decide +kernel, by decide +kernel, by decide +kernel⟩
abbrev mX3_choose : MI := (yX3_choose, cX3_choose, 7, (some FieldType.int), 9, 143, [])
theorem cwX3_choose : CW mX3_choose 2 := ⟨aw_t 785 (by decide +kernel) rfl, aw_t 9 (by decide +kernel) rfl, by decide +kernel, by decide +kernel, by decide +kernel⟩
abbrev mX3_keyOf : MI := (yX3_keyOf, cX3_keyOf, 4, (some FieldType.int), 8, 120, [])
theorem cwX3_keyOf : CW mX3_keyOf 3 := ⟨aw_t 797 (by decide +kernel) rfl, aw_t 9 (by decide +kernel) rfl, by decide +kernel, by decide +kernel, by decide +kernel⟩
abbrev mX3_isTooLarge : MI := (yX3_isTooLarge, cX3_isTooLarge, 4, (some FieldType.boolean), 8, 120, [])
theorem cwX3_isTooLarge : CW mX3_isTooLarge 1 := ⟨aw_t 789 (by decide +kernel) rfl, aw_t 9 (by decide +kernel) rfl, by decide +kernel, by decide +kernel, by decide +kernel⟩
abbrev mX3_firstWithCrews : MI := (yX3_firstWithCrews, cX3_firstWithCrews, 8, (some FieldType.int), 11, 187, [])
theorem cwX3_firstWithCrews : CW mX3_firstWithCrews 2 := ⟨aw_t 802 (by decide +kernel) rfl, aw_t 9 (by decide +kernel) rfl, by decide +kernel, by decide +kernel, by decide +kernel⟩
abbrev mX3_crewsSuffice : MI := (yX3_crewsSuffice, cX3_crewsSuffice, 5, (some FieldType.boolean), 10, 163, [])
theorem cwX3_crewsSuffice : CW mX3_crewsSuffice 2 := ⟨aw_t 807 (by decide +kernel) rfl, aw_t 9 (by decide +kernel) rfl, by decide +kernel, by decide +kernel, by decide +kernel⟩
abbrev mX3_holdOf : MI := (yX3_holdOf, cX3_holdOf, 5, (some FieldType.int), 12, 213, [])
theorem cwX3_holdOf : CW mX3_holdOf 1 := ⟨aw_t 825 (by decide +kernel) rfl, aw_t 9 (by decide +kernel) rfl, by decide +kernel, by decide +kernel, by decide +kernel⟩
abbrev mX3_linkThatHolds : MI := (yX3_linkThatHolds, cX3_linkThatHolds, 4, (some FieldType.int), 13, 237, [])
theorem cwX3_linkThatHolds : CW mX3_linkThatHolds 1 := ⟨aw_t 830 (by decide +kernel) rfl, aw_t 9 (by decide +kernel) rfl, by decide +kernel, by decide +kernel, by decide +kernel⟩
abbrev mX4_init : MI := (yX4_init, cX4_init, 1, none, 8, 120, [])
theorem cwX4_init : CW mX4_init 0 := ⟨aw_t 137 (by decide +kernel) rfl, aw_t 6 (by decide +kernel) rfl, by decide +kernel, by decide +kernel, by decide +kernel⟩
abbrev mX5_init : MI := (yX5_init, cX5_init, 1, none, 8, 120, [])
theorem cwX5_init : CW mX5_init 0 := ⟨aw_t 266 (by decide +kernel) rfl, aw_t 10 (by decide +kernel) rfl, by decide +kernel, by decide +kernel, by decide +kernel⟩
abbrev mX5_clear : MI := (yX5_clear, cX5_clear, 2, none, 10, 174, [])
theorem cwX5_clear : CW mX5_clear 0 := ⟨aw_t 444 (by decide +kernel) rfl, aw_t 10 (by decide +kernel) rfl, by decide +kernel, by decide +kernel, by decide +kernel⟩
abbrev mX5_add : MI := (yX5_add, cX5_add, 8, none, 9, 141, [])
theorem cwX5_add : CW mX5_add 4 := ⟨aw_t 761 (by decide +kernel) rfl, aw_t 10 (by decide +kernel) rfl, by decide +kernel, by decide +kernel, by decide +kernel⟩
abbrev mX5_on : MI := (yX5_on, cX5_on, 3, (some FieldType.int), 9, 141, [])
theorem cwX5_on : CW mX5_on 2 := ⟨aw_t 811 (by decide +kernel) rfl, aw_t 10 (by decide +kernel) rfl, by decide +kernel, by decide +kernel, by decide +kernel⟩
abbrev mX5_daysAbove : MI := (yX5_daysAbove, cX5_daysAbove, 5, (some FieldType.int), 8, 120, [])
theorem cwX5_daysAbove : CW mX5_daysAbove 2 := ⟨aw_t 843 (by decide +kernel) rfl, aw_t 10 (by decide +kernel) rfl, by decide +kernel, by decide +kernel, by decide +kernel⟩
abbrev mX5_greatest : MI := (yX5_greatest, cX5_greatest, 4, (some FieldType.int), 8, 120, [])
theorem cwX5_greatest : CW mX5_greatest 1 := ⟨aw_t 847 (by decide +kernel) rfl, aw_t 10 (by decide +kernel) rfl, by decide +kernel, by decide +kernel, by decide +kernel⟩
abbrev mX5_leftOver : MI := (yX5_leftOver, cX5_leftOver, 6, (some FieldType.int), 10, 163, [])
theorem cwX5_leftOver : CW mX5_leftOver 3 := ⟨aw_t 851 (by decide +kernel) rfl, aw_t 10 (by decide +kernel) rfl, by decide +kernel, by decide +kernel, by decide +kernel⟩
abbrev mX6_init : MI := (yX6_init, cX6_init, 2, none, 9, 140, [])
theorem cwX6_init : CW mX6_init 1 := ⟨aw_t 210 (by decide +kernel) rfl, aw_t 7 (by decide +kernel) rfl, by decide +kernel, by decide +kernel, by decide +kernel⟩
abbrev mX6_reckonEarly : MI := (yX6_reckonEarly, cX6_reckonEarly, 5, none, 12, 213, [])
theorem cwX6_reckonEarly : CW mX6_reckonEarly 0 := ⟨aw_t 370 (by decide +kernel) rfl, aw_t 7 (by decide +kernel) rfl, by decide +kernel, by decide +kernel, by decide +kernel⟩
abbrev mX6_reckonLate : MI := (yX6_reckonLate, cX6_reckonLate, 5, none, 12, 214, [])
theorem cwX6_reckonLate : CW mX6_reckonLate 0 := ⟨aw_t 420 (by decide +kernel) rfl, aw_t 7 (by decide +kernel) rfl, by decide +kernel, by decide +kernel, by decide +kernel⟩
abbrev mX6_latestDay : MI := (yX6_latestDay, cX6_latestDay, 7, (some FieldType.int), 11, 188, [])
theorem cwX6_latestDay : CW mX6_latestDay 1 := ⟨aw_t 424 (by decide +kernel) rfl, aw_t 7 (by decide +kernel) rfl, by decide +kernel, by decide +kernel, by decide +kernel⟩
abbrev mX6_roomUpTo : MI := (yX6_roomUpTo, cX6_roomUpTo, 4, (some FieldType.int), 10, 165, [])
theorem cwX6_roomUpTo : CW mX6_roomUpTo 2 := ⟨aw_t 436 (by decide +kernel) rfl, aw_t 7 (by decide +kernel) rfl, by decide +kernel, by decide +kernel, by decide +kernel⟩
abbrev mX6_countTight : MI := (yX6_countTight, cX6_countTight, 3, (some FieldType.int), 8, 120, [])
theorem cwX6_countTight : CW mX6_countTight 0 := ⟨aw_t 821 (by decide +kernel) rfl, aw_t 7 (by decide +kernel) rfl, by decide +kernel, by decide +kernel, by decide +kernel⟩
abbrev mX7_init : MI := (yX7_init, cX7_init, 1, none, 8, 120, [])
theorem cwX7_init : CW mX7_init 0 := ⟨aw_t 216 (by decide +kernel) rfl, aw_t 8 (by decide +kernel) rfl, by decide +kernel, by decide +kernel, by decide +kernel⟩
abbrev mX7_set : MI := (yX7_set, cX7_set, 4, none, 8, 120, [])
theorem cwX7_set : CW mX7_set 3 := ⟨aw_t 374 (by decide +kernel) rfl, aw_t 8 (by decide +kernel) rfl, by decide +kernel, by decide +kernel, by decide +kernel⟩
abbrev mX7_beginAsked : MI := (yX7_beginAsked, cX7_beginAsked, 2, (some FieldType.int), 8, 120, [])
theorem cwX7_beginAsked : CW mX7_beginAsked 1 := ⟨aw_t 382 (by decide +kernel) rfl, aw_t 8 (by decide +kernel) rfl, by decide +kernel, by decide +kernel, by decide +kernel⟩
abbrev mX7_endAsked : MI := (yX7_endAsked, cX7_endAsked, 2, (some FieldType.int), 8, 120, [])
theorem cwX7_endAsked : CW mX7_endAsked 1 := ⟨aw_t 389 (by decide +kernel) rfl, aw_t 8 (by decide +kernel) rfl, by decide +kernel, by decide +kernel, by decide +kernel⟩
abbrev mX8_init : MI := (yX8_init, cX8_init, 2, none, 9, 140, [])
theorem cwX8_init : CW mX8_init 0 := ⟨aw_t 43 (by decide +kernel) rfl, aw_t 2 (by decide +kernel) rfl, by decide +kernel, by decide +kernel, by decide +kernel⟩
abbrev mX8_calendarOf : MI := (yX8_calendarOf, cX8_calendarOf, 2, (some (FieldType.object "SlipwayPlan$Calendar")), 8, 120, [])
theorem cwX8_calendarOf : CW mX8_calendarOf 1 := ⟨aw_t 393 (by decide +kernel) rfl, aw_t 2 (by decide +kernel) rfl, by decide +kernel, by decide +kernel, by decide +kernel⟩
abbrev mX8_worthOf : MI := (yX8_worthOf, cX8_worthOf, 4, (some FieldType.int), 8, 120, [])
theorem cwX8_worthOf : CW mX8_worthOf 1 := ⟨aw_t 864 (by decide +kernel) rfl, aw_t 2 (by decide +kernel) rfl, by decide +kernel, by decide +kernel, by decide +kernel⟩
abbrev mX8_appendTask : MI := (yX8_appendTask, cX8_appendTask, 4, (some FieldType.int), 8, 120, [])
theorem cwX8_appendTask : CW mX8_appendTask 2 := ⟨aw_t 958 (by decide +kernel) rfl, aw_t 2 (by decide +kernel) rfl, by decide +kernel, by decide +kernel, by decide +kernel⟩
abbrev mX8_appendLink : MI := (yX8_appendLink, cX8_appendLink, 6, (some FieldType.int), 11, 186, [])
theorem cwX8_appendLink : CW mX8_appendLink 4 := ⟨aw_t 982 (by decide +kernel) rfl, aw_t 2 (by decide +kernel) rfl, by decide +kernel, by decide +kernel, by decide +kernel⟩
abbrev mX8_takeOut : MI := (yX8_takeOut, cX8_takeOut, 4, none, 8, 120, [])
theorem cwX8_takeOut : CW mX8_takeOut 1 := ⟨aw_t 1007 (by decide +kernel) rfl, aw_t 2 (by decide +kernel) rfl, by decide +kernel, by decide +kernel, by decide +kernel⟩
abbrev mX8_reaches : MI := (yX8_reaches, cX8_reaches, 4, (some FieldType.boolean), 9, 142, [])
theorem cwX8_reaches : CW mX8_reaches 2 := ⟨aw_t 970 (by decide +kernel) rfl, aw_t 2 (by decide +kernel) rfl, by decide +kernel, by decide +kernel, by decide +kernel⟩
abbrev mX8_markBehind : MI := (yX8_markBehind, cX8_markBehind, 3, none, 8, 120, [])
theorem cwX8_markBehind : CW mX8_markBehind 1 := ⟨aw_t 978 (by decide +kernel) rfl, aw_t 2 (by decide +kernel) rfl, by decide +kernel, by decide +kernel, by decide +kernel⟩
abbrev mX8_sortTasks : MI := (yX8_sortTasks, cX8_sortTasks, 3, none, 10, 164, [])
theorem cwX8_sortTasks : CW mX8_sortTasks 0 := ⟨aw_t 986 (by decide +kernel) rfl, aw_t 2 (by decide +kernel) rfl, by decide +kernel, by decide +kernel, by decide +kernel⟩
abbrev mX8_firstOpen : MI := (yX8_firstOpen, cX8_firstOpen, 2, (some FieldType.int), 9, 143, [])
theorem cwX8_firstOpen : CW mX8_firstOpen 0 := ⟨aw_t 990 (by decide +kernel) rfl, aw_t 2 (by decide +kernel) rfl, by decide +kernel, by decide +kernel, by decide +kernel⟩
abbrev mX8_clearMarks : MI := (yX8_clearMarks, cX8_clearMarks, 2, none, 8, 120, [])
theorem cwX8_clearMarks : CW mX8_clearMarks 0 := ⟨aw_t 974 (by decide +kernel) rfl, aw_t 2 (by decide +kernel) rfl, by decide +kernel, by decide +kernel, by decide +kernel⟩
abbrev mX8_isOpen : MI := (yX8_isOpen, cX8_isOpen, 4, (some FieldType.boolean), 8, 120, [])
theorem cwX8_isOpen : CW mX8_isOpen 2 := ⟨aw_t 793 (by decide +kernel) rfl, aw_t 2 (by decide +kernel) rfl, by decide +kernel, by decide +kernel, by decide +kernel⟩
abbrev mX8_firstDay : MI := (yX8_firstDay, cX8_firstDay, 6, (some FieldType.int), 11, 188, [])
theorem cwX8_firstDay : CW mX8_firstDay 2 := ⟨aw_t 378 (by decide +kernel) rfl, aw_t 2 (by decide +kernel) rfl, by decide +kernel, by decide +kernel, by decide +kernel⟩
abbrev mX8_firstDayBy : MI := (yX8_firstDayBy, cX8_firstDayBy, 5, (some FieldType.int), 11, 188, [])
theorem cwX8_firstDayBy : CW mX8_firstDayBy 2 := ⟨aw_t 835 (by decide +kernel) rfl, aw_t 2 (by decide +kernel) rfl, by decide +kernel, by decide +kernel, by decide +kernel⟩
abbrev mX9_init : MI := (yX9_init, cX9_init, 1, none, 8, 120, [])
theorem cwX9_init : CW mX9_init 0 := ⟨aw_t 89 (by decide +kernel) rfl, aw_t 5 (by decide +kernel) rfl, by decide +kernel, by decide +kernel, by decide +kernel⟩
abbrev mX10_init : MI := (yX10_init, cX10_init, 1, none, 10, 162, [])
theorem cwX10_init : CW mX10_init 0 := ⟨aw_t 35 (by decide +kernel) rfl, aw_t 1 (by decide +kernel) rfl, by decide +kernel, by decide +kernel, by decide +kernel⟩
abbrev mX10_setWeek : MI := (yX10_setWeek, cX10_setWeek, 5, (some FieldType.int), 10, 161, [])
theorem cwX10_setWeek : CW mX10_setWeek 2 := ⟨aw_t 1042 (by decide +kernel) rfl, aw_t 1 (by decide +kernel) rfl, by decide +kernel, by decide +kernel, by decide +kernel⟩
abbrev mX10_setCrew : MI := (yX10_setCrew, cX10_setCrew, 6, (some FieldType.int), 10, 161, [])
theorem cwX10_setCrew : CW mX10_setCrew 3 := ⟨aw_t 1038 (by decide +kernel) rfl, aw_t 1 (by decide +kernel) rfl, by decide +kernel, by decide +kernel, by decide +kernel⟩
abbrev mX10_addTask : MI := (yX10_addTask, cX10_addTask, 3, (some FieldType.int), 10, 161, [])
theorem cwX10_addTask : CW mX10_addTask 2 := ⟨aw_t 896 (by decide +kernel) rfl, aw_t 1 (by decide +kernel) rfl, by decide +kernel, by decide +kernel, by decide +kernel⟩
abbrev mX10_setLength : MI := (yX10_setLength, cX10_setLength, 5, (some FieldType.int), 10, 162, [])
theorem cwX10_setLength : CW mX10_setLength 2 := ⟨aw_t 1034 (by decide +kernel) rfl, aw_t 1 (by decide +kernel) rfl, by decide +kernel, by decide +kernel, by decide +kernel⟩
abbrev mX10_setTerms : MI := (yX10_setTerms, cX10_setTerms, 6, (some FieldType.int), 10, 162, [])
theorem cwX10_setTerms : CW mX10_setTerms 3 := ⟨aw_t 1026 (by decide +kernel) rfl, aw_t 1 (by decide +kernel) rfl, by decide +kernel, by decide +kernel, by decide +kernel⟩
abbrev mX10_setNeed : MI := (yX10_setNeed, cX10_setNeed, 6, (some FieldType.int), 10, 162, [])
theorem cwX10_setNeed : CW mX10_setNeed 3 := ⟨aw_t 1019 (by decide +kernel) rfl, aw_t 1 (by decide +kernel) rfl, by decide +kernel, by decide +kernel, by decide +kernel⟩
abbrev mX10_link : MI := (yX10_link, cX10_link, 5, (some FieldType.int), 12, 211, [])
theorem cwX10_link : CW mX10_link 4 := ⟨aw_t 962 (by decide +kernel) rfl, aw_t 1 (by decide +kernel) rfl, by decide +kernel, by decide +kernel, by decide +kernel⟩
abbrev mX10_drop : MI := (yX10_drop, cX10_drop, 2, (some FieldType.int), 10, 162, [])
theorem cwX10_drop : CW mX10_drop 1 := ⟨aw_t 999 (by decide +kernel) rfl, aw_t 1 (by decide +kernel) rfl, by decide +kernel, by decide +kernel, by decide +kernel⟩
abbrev mX10_finish : MI := (yX10_finish, cX10_finish, 6, (some FieldType.boolean), 10, 162, [])
theorem cwX10_finish : CW mX10_finish 3 := ⟨aw_t 1030 (by decide +kernel) rfl, aw_t 1 (by decide +kernel) rfl, by decide +kernel, by decide +kernel, by decide +kernel⟩
abbrev mX10_reopen : MI := (yX10_reopen, cX10_reopen, 4, (some FieldType.boolean), 10, 162, [])
theorem cwX10_reopen : CW mX10_reopen 1 := ⟨aw_t 1011 (by decide +kernel) rfl, aw_t 1 (by decide +kernel) rfl, by decide +kernel, by decide +kernel, by decide +kernel⟩
abbrev mX10_setRule : MI := (yX10_setRule, cX10_setRule, 3, (some FieldType.int), 9, 141, [])
theorem cwX10_setRule : CW mX10_setRule 1 := ⟨aw_t 1046 (by decide +kernel) rfl, aw_t 1 (by decide +kernel) rfl, by decide +kernel, by decide +kernel, by decide +kernel⟩
abbrev mX10_tasks : MI := (yX10_tasks, cX10_tasks, 1, (some FieldType.int), 8, 120, [])
theorem cwX10_tasks : CW mX10_tasks 0 := ⟨aw_t 887 (by decide +kernel) rfl, aw_t 1 (by decide +kernel) rfl, by decide +kernel, by decide +kernel, by decide +kernel⟩
abbrev mX10_links : MI := (yX10_links, cX10_links, 1, (some FieldType.int), 8, 120, [])
theorem cwX10_links : CW mX10_links 0 := ⟨aw_t 995 (by decide +kernel) rfl, aw_t 1 (by decide +kernel) rfl, by decide +kernel, by decide +kernel, by decide +kernel⟩
abbrev mX10_earlyBegin : MI := (yX10_earlyBegin, cX10_earlyBegin, 2, (some FieldType.int), 14, 262, [])
theorem cwX10_earlyBegin : CW mX10_earlyBegin 1 := ⟨aw_t 1095 (by decide +kernel) rfl, aw_t 1 (by decide +kernel) rfl, by decide +kernel, by decide +kernel, by decide +kernel⟩
abbrev mX10_earlyEnd : MI := (yX10_earlyEnd, cX10_earlyEnd, 2, (some FieldType.int), 14, 262, [])
theorem cwX10_earlyEnd : CW mX10_earlyEnd 1 := ⟨aw_t 1091 (by decide +kernel) rfl, aw_t 1 (by decide +kernel) rfl, by decide +kernel, by decide +kernel, by decide +kernel⟩
abbrev mX10_lateBegin : MI := (yX10_lateBegin, cX10_lateBegin, 2, (some FieldType.int), 14, 262, [])
theorem cwX10_lateBegin : CW mX10_lateBegin 1 := ⟨aw_t 1099 (by decide +kernel) rfl, aw_t 1 (by decide +kernel) rfl, by decide +kernel, by decide +kernel, by decide +kernel⟩
abbrev mX10_lateEnd : MI := (yX10_lateEnd, cX10_lateEnd, 2, (some FieldType.int), 14, 262, [])
theorem cwX10_lateEnd : CW mX10_lateEnd 1 := ⟨aw_t 1119 (by decide +kernel) rfl, aw_t 1 (by decide +kernel) rfl, by decide +kernel, by decide +kernel, by decide +kernel⟩
abbrev mX10_room : MI := (yX10_room, cX10_room, 2, (some FieldType.int), 14, 262, [])
theorem cwX10_room : CW mX10_room 1 := ⟨aw_t 1107 (by decide +kernel) rfl, aw_t 1 (by decide +kernel) rfl, by decide +kernel, by decide +kernel, by decide +kernel⟩
abbrev mX10_last : MI := (yX10_last, cX10_last, 1, (some FieldType.int), 14, 262, [])
theorem cwX10_last : CW mX10_last 0 := ⟨aw_t 1103 (by decide +kernel) rfl, aw_t 1 (by decide +kernel) rfl, by decide +kernel, by decide +kernel, by decide +kernel⟩
abbrev mX10_tight : MI := (yX10_tight, cX10_tight, 1, (some FieldType.int), 14, 262, [])
theorem cwX10_tight : CW mX10_tight 0 := ⟨aw_t 1127 (by decide +kernel) rfl, aw_t 1 (by decide +kernel) rfl, by decide +kernel, by decide +kernel, by decide +kernel⟩
abbrev mX10_overloaded : MI := (yX10_overloaded, cX10_overloaded, 2, (some FieldType.int), 14, 262, [])
theorem cwX10_overloaded : CW mX10_overloaded 1 := ⟨aw_t 1161 (by decide +kernel) rfl, aw_t 1 (by decide +kernel) rfl, by decide +kernel, by decide +kernel, by decide +kernel⟩
abbrev mX10_begin : MI := (yX10_begin, cX10_begin, 2, (some FieldType.int), 14, 262, [])
theorem cwX10_begin : CW mX10_begin 1 := ⟨aw_t 1087 (by decide +kernel) rfl, aw_t 1 (by decide +kernel) rfl, by decide +kernel, by decide +kernel, by decide +kernel⟩
abbrev mX10_end : MI := (yX10_end, cX10_end, 2, (some FieldType.int), 14, 262, [])
theorem cwX10_end : CW mX10_end 1 := ⟨aw_t 1111 (by decide +kernel) rfl, aw_t 1 (by decide +kernel) rfl, by decide +kernel, by decide +kernel, by decide +kernel⟩
abbrev mX10_levelledLast : MI := (yX10_levelledLast, cX10_levelledLast, 1, (some FieldType.int), 14, 262, [])
theorem cwX10_levelledLast : CW mX10_levelledLast 0 := ⟨aw_t 1115 (by decide +kernel) rfl, aw_t 1 (by decide +kernel) rfl, by decide +kernel, by decide +kernel, by decide +kernel⟩
abbrev mX10_stuck : MI := (yX10_stuck, cX10_stuck, 1, (some FieldType.int), 14, 262, [])
theorem cwX10_stuck : CW mX10_stuck 0 := ⟨aw_t 1065 (by decide +kernel) rfl, aw_t 1 (by decide +kernel) rfl, by decide +kernel, by decide +kernel, by decide +kernel⟩
abbrev mX10_orderAt : MI := (yX10_orderAt, cX10_orderAt, 2, (some FieldType.int), 14, 262, [])
theorem cwX10_orderAt : CW mX10_orderAt 1 := ⟨aw_t 1131 (by decide +kernel) rfl, aw_t 1 (by decide +kernel) rfl, by decide +kernel, by decide +kernel, by decide +kernel⟩
abbrev mX10_used : MI := (yX10_used, cX10_used, 3, (some FieldType.int), 14, 262, [])
theorem cwX10_used : CW mX10_used 2 := ⟨aw_t 1148 (by decide +kernel) rfl, aw_t 1 (by decide +kernel) rfl, by decide +kernel, by decide +kernel, by decide +kernel⟩
abbrev mX10_peak : MI := (yX10_peak, cX10_peak, 2, (some FieldType.int), 14, 262, [])
theorem cwX10_peak : CW mX10_peak 1 := ⟨aw_t 1153 (by decide +kernel) rfl, aw_t 1 (by decide +kernel) rfl, by decide +kernel, by decide +kernel, by decide +kernel⟩
abbrev mX10_holds : MI := (yX10_holds, cX10_holds, 2, (some FieldType.int), 14, 262, [])
theorem cwX10_holds : CW mX10_holds 1 := ⟨aw_t 1015 (by decide +kernel) rfl, aw_t 1 (by decide +kernel) rfl, by decide +kernel, by decide +kernel, by decide +kernel⟩
abbrev mX10_heldBy : MI := (yX10_heldBy, cX10_heldBy, 2, (some FieldType.int), 14, 262, [])
theorem cwX10_heldBy : CW mX10_heldBy 1 := ⟨aw_t 1123 (by decide +kernel) rfl, aw_t 1 (by decide +kernel) rfl, by decide +kernel, by decide +kernel, by decide +kernel⟩
abbrev mX10_idle : MI := (yX10_idle, cX10_idle, 2, (some FieldType.int), 14, 262, [])
theorem cwX10_idle : CW mX10_idle 1 := ⟨aw_t 1157 (by decide +kernel) rfl, aw_t 1 (by decide +kernel) rfl, by decide +kernel, by decide +kernel, by decide +kernel⟩
abbrev mX10_keep : MI := (yX10_keep, cX10_keep, 1, (some FieldType.int), 14, 262, [])
theorem cwX10_keep : CW mX10_keep 0 := ⟨aw_t 1050 (by decide +kernel) rfl, aw_t 1 (by decide +kernel) rfl, by decide +kernel, by decide +kernel, by decide +kernel⟩
abbrev mX10_planned : MI := (yX10_planned, cX10_planned, 2, (some FieldType.int), 12, 213, [])
theorem cwX10_planned : CW mX10_planned 1 := ⟨aw_t 1069 (by decide +kernel) rfl, aw_t 1 (by decide +kernel) rfl, by decide +kernel, by decide +kernel, by decide +kernel⟩
abbrev mX10_earned : MI := (yX10_earned, cX10_earned, 1, (some FieldType.int), 9, 142, [])
theorem cwX10_earned : CW mX10_earned 0 := ⟨aw_t 1076 (by decide +kernel) rfl, aw_t 1 (by decide +kernel) rfl, by decide +kernel, by decide +kernel, by decide +kernel⟩
abbrev mX10_worth : MI := (yX10_worth, cX10_worth, 3, (some FieldType.int), 9, 143, [])
theorem cwX10_worth : CW mX10_worth 0 := ⟨aw_t 860 (by decide +kernel) rfl, aw_t 1 (by decide +kernel) rfl, by decide +kernel, by decide +kernel, by decide +kernel⟩
abbrev mX10_digest : MI := (yX10_digest, cX10_digest, 5, (some FieldType.long), 14, 262, [])
theorem cwX10_digest : CW mX10_digest 0 := ⟨aw_t 362 (by decide +kernel) rfl, aw_t 1 (by decide +kernel) rfl, by decide +kernel, by decide +kernel, by decide +kernel⟩
abbrev mX10_isWithin : MI := (yX10_isWithin, cX10_isWithin, 2, (some FieldType.boolean), 8, 120, [])
theorem cwX10_isWithin : CW mX10_isWithin 2 := ⟨aw_t 814 (by decide +kernel) rfl, aw_t 1 (by decide +kernel) rfl, by decide +kernel, by decide +kernel, by decide +kernel⟩
abbrev mX10_checkIndex : MI := (yX10_checkIndex, cX10_checkIndex, 2, none, 8, 120, [])
theorem cwX10_checkIndex : CW mX10_checkIndex 2 := ⟨aw_t 902 (by decide +kernel) rfl, aw_t 1 (by decide +kernel) rfl, by decide +kernel, by decide +kernel, by decide +kernel⟩
abbrev mX10_checkArgument : MI := (yX10_checkArgument, cX10_checkArgument, 1, none, 8, 120, [])
theorem cwX10_checkArgument : CW mX10_checkArgument 1 := ⟨aw_t 919 (by decide +kernel) rfl, aw_t 1 (by decide +kernel) rfl, by decide +kernel, by decide +kernel, by decide +kernel⟩
abbrev mX10_checkState : MI := (yX10_checkState, cX10_checkState, 1, none, 8, 120, [])
theorem cwX10_checkState : CW mX10_checkState 1 := ⟨aw_t 938 (by decide +kernel) rfl, aw_t 1 (by decide +kernel) rfl, by decide +kernel, by decide +kernel, by decide +kernel⟩
abbrev mX10_checkCalendar : MI := (yX10_checkCalendar, cX10_checkCalendar, 1, none, 9, 141, [])
theorem cwX10_checkCalendar : CW mX10_checkCalendar 1 := ⟨aw_t 899 (by decide +kernel) rfl, aw_t 1 (by decide +kernel) rfl, by decide +kernel, by decide +kernel, by decide +kernel⟩
abbrev mX10_checkCrew : MI := (yX10_checkCrew, cX10_checkCrew, 1, none, 9, 141, [])
theorem cwX10_checkCrew : CW mX10_checkCrew 1 := ⟨aw_t 1022 (by decide +kernel) rfl, aw_t 1 (by decide +kernel) rfl, by decide +kernel, by decide +kernel, by decide +kernel⟩
abbrev mX10_checkAskedDay : MI := (yX10_checkAskedDay, cX10_checkAskedDay, 1, none, 9, 141, [])
theorem cwX10_checkAskedDay : CW mX10_checkAskedDay 1 := ⟨aw_t 1072 (by decide +kernel) rfl, aw_t 1 (by decide +kernel) rfl, by decide +kernel, by decide +kernel, by decide +kernel⟩
abbrev mX10_checkTask : MI := (yX10_checkTask, cX10_checkTask, 2, none, 9, 141, [])
theorem cwX10_checkTask : CW mX10_checkTask 1 := ⟨aw_t 966 (by decide +kernel) rfl, aw_t 1 (by decide +kernel) rfl, by decide +kernel, by decide +kernel, by decide +kernel⟩
abbrev mX10_checkLink : MI := (yX10_checkLink, cX10_checkLink, 2, none, 9, 141, [])
theorem cwX10_checkLink : CW mX10_checkLink 1 := ⟨aw_t 1003 (by decide +kernel) rfl, aw_t 1 (by decide +kernel) rfl, by decide +kernel, by decide +kernel, by decide +kernel⟩
abbrev mX10_refresh : MI := (yX10_refresh, cX10_refresh, 2, none, 13, 241, [])
theorem cwX10_refresh : CW mX10_refresh 0 := ⟨aw_t 366 (by decide +kernel) rfl, aw_t 1 (by decide +kernel) rfl, by decide +kernel, by decide +kernel, by decide +kernel⟩
abbrev mL_below : MI := (yL_below, cL_below, 2, (some FieldType.int), 8, 120, [])
theorem cwL_below : CW mL_below 2 := ⟨aw_t 891 (by decide +kernel) rfl, aw_t 0 (by decide +kernel) rfl, by decide +kernel, by decide +kernel, by decide +kernel⟩
abbrev mL_cell : MI := (yL_cell, cL_cell, 2, (some FieldType.int), 8, 120, [])
theorem cwL_cell : CW mL_cell 2 := ⟨aw_t 877 (by decide +kernel) rfl, aw_t 0 (by decide +kernel) rfl, by decide +kernel, by decide +kernel, by decide +kernel⟩
abbrev mL_law : MI := (yL_law, cL_law, 8, (some .boolean), 17, 331, [])
abbrev mL_act : MI := (yL_act, cL_act, 12, (some FieldType.boolean), 15, 283, [((20), (127), (622), (111)), ((128), (226), (622), (111)), ((227), (318), (622), (111)), ((319), (379), (622), (111)), ((380), (527), (622), (111)), ((528), (618), (622), (111)), ((20), (127), (639), (113)), ((128), (226), (639), (113)), ((227), (318), (639), (113)), ((319), (379), (639), (113)), ((380), (527), (639), (113)), ((528), (618), (639), (113))])
abbrev mL_isDone : MI := (yL_isDone, cL_isDone, 2, (some FieldType.boolean), 15, 283, [])
theorem cwL_isDone : CW mL_isDone 2 := ⟨aw_t 1083 (by decide +kernel) rfl, aw_t 0 (by decide +kernel) rfl, by decide +kernel, by decide +kernel, by decide +kernel⟩
abbrev mL_arePlansRight : MI := (yL_arePlansRight, cL_arePlansRight, 6, (some FieldType.boolean), 16, 304, [])
theorem cwL_arePlansRight : CW mL_arePlansRight 2 := ⟨aw_t 1080 (by decide +kernel) rfl, aw_t 0 (by decide +kernel) rfl, by decide +kernel, by decide +kernel, by decide +kernel⟩
abbrev mL_areLinksRight : MI := (yL_areLinksRight, cL_areLinksRight, 8, (some FieldType.boolean), 16, 304, [])
theorem cwL_areLinksRight : CW mL_areLinksRight 2 := ⟨aw_t 1140 (by decide +kernel) rfl, aw_t 0 (by decide +kernel) rfl, by decide +kernel, by decide +kernel, by decide +kernel⟩
abbrev mL_areCrewsRight : MI := (yL_areCrewsRight, cL_areCrewsRight, 6, (some FieldType.boolean), 16, 304, [])
theorem cwL_areCrewsRight : CW mL_areCrewsRight 2 := ⟨aw_t 1143 (by decide +kernel) rfl, aw_t 0 (by decide +kernel) rfl, by decide +kernel, by decide +kernel, by decide +kernel⟩
abbrev mJ6_bitCount_0f7a4 : MI := (yJ6_bitCount_0f7a4, cJ6_bitCount_0f7a4, 1, (some FieldType.int), 8, 120, [])
theorem cwJ6_bitCount_0f7a4 : CW mJ6_bitCount_0f7a4 1 := ⟨aw_t 1134 (by decide +kernel) rfl, aw_t 30 (by decide +kernel) rfl, by decide +kernel, by decide +kernel, by decide +kernel⟩
abbrev mJ7_rangeCheck_23922 : MI := (yJ7_rangeCheck_23922, cJ7_rangeCheck_23922, 3, none, 8, 120, [])
theorem cwJ7_rangeCheck_23922 : CW mJ7_rangeCheck_23922 3 := ⟨aw_t 450 (by decide +kernel) rfl, aw_t 19 (by decide +kernel) rfl, by decide +kernel, by decide +kernel, by decide +kernel⟩
abbrev mJ7_fill_fda19 : MI := (yJ7_fill_fda19, cJ7_fill_fda19, 5, none, 9, 150, [])
theorem cwJ7_fill_fda19 : CW mJ7_fill_fda19 4 := ⟨aw_t 447 (by decide +kernel) rfl, aw_t 19 (by decide +kernel) rfl, by decide +kernel, by decide +kernel, by decide +kernel⟩
theorem obX0_3 : Cond.methodLink RX0 3 Lib.objectInit ∈ AW := aw_t 57 (by decide +kernel) rfl
theorem acX0_22 : Cond.methodLink RX0 22 arraycopyName ∈ AW := aw_t 1061 (by decide +kernel) rfl
theorem maX0_28 : Cond.methodLink RX0 28 Lib.Math.max.name ∈ AW := aw_t 398 (by decide +kernel) rfl
theorem cvX0_34 : CV RX0 34 mX0_worksOn 1 := ⟨cwX0_worksOn, aw_t 403 (by decide +kernel) rfl, aw_t 404 (by decide +kernel) rfl, aw_t 405 (by decide +kernel) rfl⟩
theorem cvX0_38 : CV RX0 38 mX0_firstFrom 1 := ⟨cwX0_firstFrom, aw_t 399 (by decide +kernel) rfl, aw_t 400 (by decide +kernel) rfl, aw_t 401 (by decide +kernel) rfl⟩
theorem cvX0_42 : CV RX0 42 mX0_countBack 2 := ⟨cwX0_countBack, aw_t 407 (by decide +kernel) rfl, aw_t 408 (by decide +kernel) rfl, aw_t 409 (by decide +kernel) rfl⟩
theorem maX0_45 : Cond.methodLink RX0 45 Lib.Math.min.name ∈ AW := aw_t 432 (by decide +kernel) rfl
theorem obX1_3 : Cond.methodLink RX1 3 Lib.objectInit ∈ AW := aw_t 75 (by decide +kernel) rfl
theorem obX2_3 : Cond.methodLink RX2 3 Lib.objectInit ∈ AW := aw_t 313 (by decide +kernel) rfl
theorem ciX2_11 : CIN RX2 11 mX7_init 0 := ⟨cwX7_init, ⟨RX10, by decide +kernel⟩, aw_t 215 (by decide +kernel) rfl, rfl, rfl⟩
theorem ciX2_36 : CIN RX2 36 mX0_init 0 := ⟨cwX0_init, ⟨RX10, by decide +kernel⟩, aw_t 55 (by decide +kernel) rfl, rfl, rfl⟩
theorem cvX2_53 : CV RX2 53 mX7_set 3 := ⟨cwX7_set, aw_t 1055 (by decide +kernel) rfl, aw_t 372 (by decide +kernel) rfl, aw_t 373 (by decide +kernel) rfl⟩
theorem cvX2_57 : CV RX2 57 mX8_worthOf 1 := ⟨cwX8_worthOf, aw_t 1056 (by decide +kernel) rfl, aw_t 862 (by decide +kernel) rfl, aw_t 863 (by decide +kernel) rfl⟩
theorem cvX2_62 : CV RX2 62 mX0_copyFrom 1 := ⟨cwX0_copyFrom, aw_t 1057 (by decide +kernel) rfl, aw_t 1058 (by decide +kernel) rfl, aw_t 1059 (by decide +kernel) rfl⟩
theorem cvX2_66 : CV RX2 66 mX2_partUpTo 2 := ⟨cwX2_partUpTo, aw_t 869 (by decide +kernel) rfl, aw_t 871 (by decide +kernel) rfl, aw_s 11 (by decide +kernel) rfl⟩
theorem cvX2_79 : CV RX2 79 mX0_countWithin 2 := ⟨cwX0_countWithin, aw_t 873 (by decide +kernel) rfl, aw_t 438 (by decide +kernel) rfl, aw_t 439 (by decide +kernel) rfl⟩
theorem maX2_82 : Cond.methodLink RX2 82 Lib.Math.min.name ∈ AW := aw_t 874 (by decide +kernel) rfl
theorem obX3_3 : Cond.methodLink RX3 3 Lib.objectInit ∈ AW := aw_t 259 (by decide +kernel) rfl
theorem ciX3_11 : CIN RX3 11 mX7_init 0 := ⟨cwX7_init, ⟨RX10, by decide +kernel⟩, aw_t 215 (by decide +kernel) rfl, rfl, rfl⟩
theorem ciX3_20 : CIN RX3 20 mX5_init 0 := ⟨cwX5_init, ⟨RX10, by decide +kernel⟩, aw_t 265 (by decide +kernel) rfl, rfl, rfl⟩
theorem cvX3_37 : CV RX3 37 mX3_clear 0 := ⟨cwX3_clear, aw_t 769 (by decide +kernel) rfl, aw_t 771 (by decide +kernel) rfl, aw_s 4 (by decide +kernel) rfl⟩
theorem cvX3_62 : CV RX3 62 mX3_putIn 3 := ⟨cwX3_putIn, aw_t 775 (by decide +kernel) rfl, aw_t 777 (by decide +kernel) rfl, aw_s 5 (by decide +kernel) rfl⟩
theorem cvX3_66 : CV RX3 66 mX3_choose 2 := ⟨cwX3_choose, aw_t 782 (by decide +kernel) rfl, aw_t 784 (by decide +kernel) rfl, aw_s 6 (by decide +kernel) rfl⟩
theorem cvX3_70 : CV RX3 70 mX8_firstDay 2 := ⟨cwX8_firstDay, aw_t 798 (by decide +kernel) rfl, aw_t 376 (by decide +kernel) rfl, aw_t 377 (by decide +kernel) rfl⟩
theorem cvX3_74 : CV RX3 74 mX3_firstWithCrews 2 := ⟨cwX3_firstWithCrews, aw_t 799 (by decide +kernel) rfl, aw_t 801 (by decide +kernel) rfl, aw_s 9 (by decide +kernel) rfl⟩
theorem cvX3_78 : CV RX3 78 mX8_calendarOf 1 := ⟨cwX8_calendarOf, aw_t 779 (by decide +kernel) rfl, aw_t 391 (by decide +kernel) rfl, aw_t 392 (by decide +kernel) rfl⟩
theorem cvX3_85 : CV RX3 85 mX0_endOf 2 := ⟨cwX0_endOf, aw_t 815 (by decide +kernel) rfl, aw_t 413 (by decide +kernel) rfl, aw_t 414 (by decide +kernel) rfl⟩
theorem cvX3_90 : CV RX3 90 mX5_clear 0 := ⟨cwX5_clear, aw_t 773 (by decide +kernel) rfl, aw_t 442 (by decide +kernel) rfl, aw_t 443 (by decide +kernel) rfl⟩
theorem cvX3_97 : CV RX3 97 mX7_set 3 := ⟨cwX7_set, aw_t 774 (by decide +kernel) rfl, aw_t 372 (by decide +kernel) rfl, aw_t 373 (by decide +kernel) rfl⟩
theorem cvX3_100 : CV RX3 100 mX5_add 4 := ⟨cwX5_add, aw_t 780 (by decide +kernel) rfl, aw_t 759 (by decide +kernel) rfl, aw_t 760 (by decide +kernel) rfl⟩
theorem maX3_104 : Cond.methodLink RX3 104 Lib.Math.max.name ∈ AW := aw_t 781 (by decide +kernel) rfl
theorem cvX3_109 : CV RX3 109 mX3_isTooLarge 1 := ⟨cwX3_isTooLarge, aw_t 786 (by decide +kernel) rfl, aw_t 788 (by decide +kernel) rfl, aw_s 7 (by decide +kernel) rfl⟩
theorem cvX3_113 : CV RX3 113 mX8_isOpen 2 := ⟨cwX8_isOpen, aw_t 790 (by decide +kernel) rfl, aw_t 791 (by decide +kernel) rfl, aw_t 792 (by decide +kernel) rfl⟩
theorem cvX3_117 : CV RX3 117 mX3_keyOf 3 := ⟨cwX3_keyOf, aw_t 794 (by decide +kernel) rfl, aw_t 796 (by decide +kernel) rfl, aw_s 8 (by decide +kernel) rfl⟩
theorem cvX3_147 : CV RX3 147 mX0_worksOn 1 := ⟨cwX0_worksOn, aw_t 803 (by decide +kernel) rfl, aw_t 404 (by decide +kernel) rfl, aw_t 405 (by decide +kernel) rfl⟩
theorem cvX3_150 : CV RX3 150 mX3_crewsSuffice 2 := ⟨cwX3_crewsSuffice, aw_t 804 (by decide +kernel) rfl, aw_t 806 (by decide +kernel) rfl, aw_s 10 (by decide +kernel) rfl⟩
theorem cvX3_154 : CV RX3 154 mX5_on 2 := ⟨cwX5_on, aw_t 808 (by decide +kernel) rfl, aw_t 809 (by decide +kernel) rfl, aw_t 810 (by decide +kernel) rfl⟩
theorem cvX3_160 : CV RX3 160 mX0_firstBegin 3 := ⟨cwX0_firstBegin, aw_t 826 (by decide +kernel) rfl, aw_t 395 (by decide +kernel) rfl, aw_t 396 (by decide +kernel) rfl⟩
theorem cvX3_164 : CV RX3 164 mX3_holdOf 1 := ⟨cwX3_holdOf, aw_t 831 (by decide +kernel) rfl, aw_t 823 (by decide +kernel) rfl, aw_t 824 (by decide +kernel) rfl⟩
theorem cvX3_180 : CV RX3 180 mX8_firstDayBy 2 := ⟨cwX8_firstDayBy, aw_t 832 (by decide +kernel) rfl, aw_t 833 (by decide +kernel) rfl, aw_t 834 (by decide +kernel) rfl⟩
theorem obX4_1 : Cond.methodLink RX4 1 Lib.objectInit ∈ AW := aw_t 138 (by decide +kernel) rfl
theorem obX5_3 : Cond.methodLink RX5 3 Lib.objectInit ∈ AW := aw_t 267 (by decide +kernel) rfl
theorem csX5_20 : CS RX5 20 mJ7_fill_fda19 4 := ⟨cwJ7_fill_fda19, aw_t 445 (by decide +kernel) rfl, aw_t 446 (by decide +kernel) rfl⟩
theorem maX5_26 : Cond.methodLink RX5 26 Lib.Math.min.name ∈ AW := aw_t 762 (by decide +kernel) rfl
theorem maX5_32 : Cond.methodLink RX5 32 Lib.Math.max.name ∈ AW := aw_t 763 (by decide +kernel) rfl
theorem cvX5_35 : CV RX5 35 mX0_worksOn 1 := ⟨cwX0_worksOn, aw_t 764 (by decide +kernel) rfl, aw_t 404 (by decide +kernel) rfl, aw_t 405 (by decide +kernel) rfl⟩
theorem csX5_47 : CSN RX5 47 mX10_isWithin 2 := ⟨cwX10_isWithin, ⟨RX10, by decide +kernel⟩, aw_t 813 (by decide +kernel) rfl⟩
theorem cvX5_51 : CV RX5 51 mX5_on 2 := ⟨cwX5_on, aw_t 852 (by decide +kernel) rfl, aw_t 809 (by decide +kernel) rfl, aw_t 810 (by decide +kernel) rfl⟩
theorem obX6_3 : Cond.methodLink RX6 3 Lib.objectInit ∈ AW := aw_t 211 (by decide +kernel) rfl
theorem ciX6_11 : CIN RX6 11 mX7_init 0 := ⟨cwX7_init, ⟨RX10, by decide +kernel⟩, aw_t 215 (by decide +kernel) rfl, rfl, rfl⟩
theorem cvX6_57 : CV RX6 57 mX7_set 3 := ⟨cwX7_set, aw_t 371 (by decide +kernel) rfl, aw_t 372 (by decide +kernel) rfl, aw_t 373 (by decide +kernel) rfl⟩
theorem cvX6_61 : CV RX6 61 mX8_firstDay 2 := ⟨cwX8_firstDay, aw_t 375 (by decide +kernel) rfl, aw_t 376 (by decide +kernel) rfl, aw_t 377 (by decide +kernel) rfl⟩
theorem cvX6_65 : CV RX6 65 mX8_calendarOf 1 := ⟨cwX8_calendarOf, aw_t 411 (by decide +kernel) rfl, aw_t 391 (by decide +kernel) rfl, aw_t 392 (by decide +kernel) rfl⟩
theorem cvX6_72 : CV RX6 72 mX0_endOf 2 := ⟨cwX0_endOf, aw_t 412 (by decide +kernel) rfl, aw_t 413 (by decide +kernel) rfl, aw_t 414 (by decide +kernel) rfl⟩
theorem maX6_81 : Cond.methodLink RX6 81 Lib.Math.max.name ∈ AW := aw_t 416 (by decide +kernel) rfl
theorem cvX6_86 : CV RX6 86 mX6_latestDay 1 := ⟨cwX6_latestDay, aw_t 421 (by decide +kernel) rfl, aw_t 423 (by decide +kernel) rfl, aw_s 1 (by decide +kernel) rfl⟩
theorem cvX6_90 : CV RX6 90 mX6_roomUpTo 2 := ⟨cwX6_roomUpTo, aw_t 433 (by decide +kernel) rfl, aw_t 435 (by decide +kernel) rfl, aw_s 2 (by decide +kernel) rfl⟩
theorem maX6_117 : Cond.methodLink RX6 117 Lib.Math.min.name ∈ AW := aw_t 425 (by decide +kernel) rfl
theorem cvX6_120 : CV RX6 120 mX0_latestBegin 3 := ⟨cwX0_latestBegin, aw_t 428 (by decide +kernel) rfl, aw_t 429 (by decide +kernel) rfl, aw_t 430 (by decide +kernel) rfl⟩
theorem cvX6_124 : CV RX6 124 mX0_countWithin 2 := ⟨cwX0_countWithin, aw_t 437 (by decide +kernel) rfl, aw_t 438 (by decide +kernel) rfl, aw_t 439 (by decide +kernel) rfl⟩
theorem obX7_3 : Cond.methodLink RX7 3 Lib.objectInit ∈ AW := aw_t 217 (by decide +kernel) rfl
theorem obX8_3 : Cond.methodLink RX8 3 Lib.objectInit ∈ AW := aw_t 44 (by decide +kernel) rfl
theorem ciX8_43 : CIN RX8 43 mX0_init 0 := ⟨cwX0_init, ⟨RX10, by decide +kernel⟩, aw_t 55 (by decide +kernel) rfl, rfl, rfl⟩
theorem ciX8_44 : CIN RX8 44 mX1_init 0 := ⟨cwX1_init, ⟨RX10, by decide +kernel⟩, aw_t 73 (by decide +kernel) rfl, rfl, rfl⟩
theorem ciX8_45 : CIN RX8 45 mX9_init 0 := ⟨cwX9_init, ⟨RX10, by decide +kernel⟩, aw_t 88 (by decide +kernel) rfl, rfl, rfl⟩
theorem ciX8_46 : CIN RX8 46 mX4_init 0 := ⟨cwX4_init, ⟨RX10, by decide +kernel⟩, aw_t 136 (by decide +kernel) rfl, rfl, rfl⟩
theorem cvX8_78 : CV RX8 78 mX8_sortTasks 0 := ⟨cwX8_sortTasks, aw_t 983 (by decide +kernel) rfl, aw_t 984 (by decide +kernel) rfl, aw_t 985 (by decide +kernel) rfl⟩
theorem cvX8_81 : CV RX8 81 mX8_clearMarks 0 := ⟨cwX8_clearMarks, aw_t 971 (by decide +kernel) rfl, aw_t 972 (by decide +kernel) rfl, aw_t 973 (by decide +kernel) rfl⟩
theorem cvX8_84 : CV RX8 84 mX8_markBehind 1 := ⟨cwX8_markBehind, aw_t 975 (by decide +kernel) rfl, aw_t 976 (by decide +kernel) rfl, aw_t 977 (by decide +kernel) rfl⟩
theorem cvX8_88 : CV RX8 88 mX8_firstOpen 0 := ⟨cwX8_firstOpen, aw_t 987 (by decide +kernel) rfl, aw_t 988 (by decide +kernel) rfl, aw_t 989 (by decide +kernel) rfl⟩
theorem cvX8_92 : CV RX8 92 mX8_isOpen 2 := ⟨cwX8_isOpen, aw_t 991 (by decide +kernel) rfl, aw_t 791 (by decide +kernel) rfl, aw_t 792 (by decide +kernel) rfl⟩
theorem cvX8_99 : CV RX8 99 mX7_beginAsked 1 := ⟨cwX7_beginAsked, aw_t 379 (by decide +kernel) rfl, aw_t 380 (by decide +kernel) rfl, aw_t 381 (by decide +kernel) rfl⟩
theorem maX8_105 : Cond.methodLink RX8 105 Lib.Math.max.name ∈ AW := aw_t 383 (by decide +kernel) rfl
theorem cvX8_111 : CV RX8 111 mX7_endAsked 1 := ⟨cwX7_endAsked, aw_t 386 (by decide +kernel) rfl, aw_t 387 (by decide +kernel) rfl, aw_t 388 (by decide +kernel) rfl⟩
theorem cvX8_114 : CV RX8 114 mX8_calendarOf 1 := ⟨cwX8_calendarOf, aw_t 390 (by decide +kernel) rfl, aw_t 391 (by decide +kernel) rfl, aw_t 392 (by decide +kernel) rfl⟩
theorem cvX8_118 : CV RX8 118 mX0_firstBegin 3 := ⟨cwX0_firstBegin, aw_t 394 (by decide +kernel) rfl, aw_t 395 (by decide +kernel) rfl, aw_t 396 (by decide +kernel) rfl⟩
theorem obX9_3 : Cond.methodLink RX9 3 Lib.objectInit ∈ AW := aw_t 90 (by decide +kernel) rfl
theorem obX10_1 : Cond.methodLink RX10 1 Lib.objectInit ∈ AW := aw_t 36 (by decide +kernel) rfl
theorem ciX10_9 : CI RX10 9 mX8_init 0 := ⟨cwX8_init, aw_t 41 (by decide +kernel) rfl, aw_t 42 (by decide +kernel) rfl, rfl, rfl⟩
theorem ciX10_18 : CI RX10 18 mX6_init 1 := ⟨cwX6_init, aw_t 208 (by decide +kernel) rfl, aw_t 209 (by decide +kernel) rfl, rfl, rfl⟩
theorem ciX10_27 : CI RX10 27 mX3_init 1 := ⟨cwX3_init, aw_t 256 (by decide +kernel) rfl, aw_t 257 (by decide +kernel) rfl, rfl, rfl⟩
theorem ciX10_34 : CIN RX10 34 mX5_init 0 := ⟨cwX5_init, ⟨RX10, by decide +kernel⟩, aw_t 265 (by decide +kernel) rfl, rfl, rfl⟩
theorem ciX10_47 : CI RX10 47 mX2_init 1 := ⟨cwX2_init, aw_t 310 (by decide +kernel) rfl, aw_t 311 (by decide +kernel) rfl, rfl, rfl⟩
theorem csX10_56 : CS RX10 56 mX10_checkCalendar 1 := ⟨cwX10_checkCalendar, aw_t 897 (by decide +kernel) rfl, aw_t 898 (by decide +kernel) rfl⟩
theorem csX10_60 : CS RX10 60 mX10_checkArgument 1 := ⟨cwX10_checkArgument, aw_t 917 (by decide +kernel) rfl, aw_t 918 (by decide +kernel) rfl⟩
theorem csX10_92 : CS RX10 92 mX10_checkCrew 1 := ⟨cwX10_checkCrew, aw_t 1020 (by decide +kernel) rfl, aw_t 1021 (by decide +kernel) rfl⟩
theorem csX10_74 : CS RX10 74 mX10_isWithin 2 := ⟨cwX10_isWithin, aw_t 916 (by decide +kernel) rfl, aw_t 813 (by decide +kernel) rfl⟩
theorem csX10_85 : CS RX10 85 mX10_checkState 1 := ⟨cwX10_checkState, aw_t 936 (by decide +kernel) rfl, aw_t 937 (by decide +kernel) rfl⟩
theorem cvX10_110 : CV RX10 110 mX8_appendTask 2 := ⟨cwX8_appendTask, aw_t 955 (by decide +kernel) rfl, aw_t 956 (by decide +kernel) rfl, aw_t 957 (by decide +kernel) rfl⟩
theorem cvX10_114 : CV RX10 114 mX10_checkTask 1 := ⟨cwX10_checkTask, aw_t 963 (by decide +kernel) rfl, aw_t 965 (by decide +kernel) rfl, aw_s 12 (by decide +kernel) rfl⟩
theorem cvX10_139 : CV RX10 139 mX8_reaches 2 := ⟨cwX8_reaches, aw_t 967 (by decide +kernel) rfl, aw_t 968 (by decide +kernel) rfl, aw_t 969 (by decide +kernel) rfl⟩
theorem cvX10_142 : CV RX10 142 mX8_appendLink 4 := ⟨cwX8_appendLink, aw_t 979 (by decide +kernel) rfl, aw_t 980 (by decide +kernel) rfl, aw_t 981 (by decide +kernel) rfl⟩
theorem cvX10_146 : CV RX10 146 mX10_checkLink 1 := ⟨cwX10_checkLink, aw_t 1000 (by decide +kernel) rfl, aw_t 1002 (by decide +kernel) rfl, aw_s 13 (by decide +kernel) rfl⟩
theorem cvX10_149 : CV RX10 149 mX8_takeOut 1 := ⟨cwX8_takeOut, aw_t 1004 (by decide +kernel) rfl, aw_t 1005 (by decide +kernel) rfl, aw_t 1006 (by decide +kernel) rfl⟩
theorem cvX10_171 : CV RX10 171 mX10_refresh 0 := ⟨cwX10_refresh, aw_t 363 (by decide +kernel) rfl, aw_t 365 (by decide +kernel) rfl, aw_s 0 (by decide +kernel) rfl⟩
theorem cvX10_195 : CV RX10 195 mX6_countTight 0 := ⟨cwX6_countTight, aw_t 818 (by decide +kernel) rfl, aw_t 819 (by decide +kernel) rfl, aw_t 820 (by decide +kernel) rfl⟩
theorem cvX10_202 : CV RX10 202 mX5_daysAbove 2 := ⟨cwX5_daysAbove, aw_t 840 (by decide +kernel) rfl, aw_t 841 (by decide +kernel) rfl, aw_t 842 (by decide +kernel) rfl⟩
theorem csX10_212 : CS RX10 212 mX10_checkIndex 2 := ⟨cwX10_checkIndex, aw_t 900 (by decide +kernel) rfl, aw_t 901 (by decide +kernel) rfl⟩
theorem csX10_164 : CS RX10 164 mX10_checkAskedDay 1 := ⟨cwX10_checkAskedDay, aw_t 1070 (by decide +kernel) rfl, aw_t 1071 (by decide +kernel) rfl⟩
theorem cvX10_199 : CV RX10 199 mX5_on 2 := ⟨cwX5_on, aw_t 1149 (by decide +kernel) rfl, aw_t 809 (by decide +kernel) rfl, aw_t 810 (by decide +kernel) rfl⟩
theorem cvX10_222 : CV RX10 222 mX5_greatest 1 := ⟨cwX5_greatest, aw_t 844 (by decide +kernel) rfl, aw_t 845 (by decide +kernel) rfl, aw_t 846 (by decide +kernel) rfl⟩
theorem cvX10_226 : CV RX10 226 mX3_holdOf 1 := ⟨cwX3_holdOf, aw_t 822 (by decide +kernel) rfl, aw_t 823 (by decide +kernel) rfl, aw_t 824 (by decide +kernel) rfl⟩
theorem cvX10_229 : CV RX10 229 mX3_linkThatHolds 1 := ⟨cwX3_linkThatHolds, aw_t 827 (by decide +kernel) rfl, aw_t 828 (by decide +kernel) rfl, aw_t 829 (by decide +kernel) rfl⟩
theorem cvX10_232 : CV RX10 232 mX5_leftOver 3 := ⟨cwX5_leftOver, aw_t 848 (by decide +kernel) rfl, aw_t 849 (by decide +kernel) rfl, aw_t 850 (by decide +kernel) rfl⟩
theorem cvX10_236 : CV RX10 236 mX2_take 1 := ⟨cwX2_take, aw_t 1051 (by decide +kernel) rfl, aw_t 1052 (by decide +kernel) rfl, aw_t 1053 (by decide +kernel) rfl⟩
theorem cvX10_244 : CV RX10 244 mX2_plannedUpTo 1 := ⟨cwX2_plannedUpTo, aw_t 865 (by decide +kernel) rfl, aw_t 866 (by decide +kernel) rfl, aw_t 867 (by decide +kernel) rfl⟩
theorem cvX10_247 : CV RX10 247 mX2_earnedNow 0 := ⟨cwX2_earnedNow, aw_t 853 (by decide +kernel) rfl, aw_t 854 (by decide +kernel) rfl, aw_t 855 (by decide +kernel) rfl⟩
theorem cvX10_250 : CV RX10 250 mX8_worthOf 1 := ⟨cwX8_worthOf, aw_t 861 (by decide +kernel) rfl, aw_t 862 (by decide +kernel) rfl, aw_t 863 (by decide +kernel) rfl⟩
theorem cvX10_240 : CV RX10 240 mX2_delayOf 2 := ⟨cwX2_delayOf, aw_t 836 (by decide +kernel) rfl, aw_t 837 (by decide +kernel) rfl, aw_t 838 (by decide +kernel) rfl⟩
theorem cvX10_273 : CV RX10 273 mX10_worth 0 := ⟨cwX10_worth, aw_t 857 (by decide +kernel) rfl, aw_t 858 (by decide +kernel) rfl, aw_t 859 (by decide +kernel) rfl⟩
theorem cvX10_260 : CV RX10 260 mX6_reckonEarly 0 := ⟨cwX6_reckonEarly, aw_t 367 (by decide +kernel) rfl, aw_t 368 (by decide +kernel) rfl, aw_t 369 (by decide +kernel) rfl⟩
theorem cvX10_263 : CV RX10 263 mX6_reckonLate 0 := ⟨cwX6_reckonLate, aw_t 417 (by decide +kernel) rfl, aw_t 418 (by decide +kernel) rfl, aw_t 419 (by decide +kernel) rfl⟩
theorem cvX10_293 : CV RX10 293 mX5_clear 0 := ⟨cwX5_clear, aw_t 441 (by decide +kernel) rfl, aw_t 442 (by decide +kernel) rfl, aw_t 443 (by decide +kernel) rfl⟩
theorem cvX10_296 : CV RX10 296 mX8_calendarOf 1 := ⟨cwX8_calendarOf, aw_t 757 (by decide +kernel) rfl, aw_t 391 (by decide +kernel) rfl, aw_t 392 (by decide +kernel) rfl⟩
theorem cvX10_300 : CV RX10 300 mX5_add 4 := ⟨cwX5_add, aw_t 758 (by decide +kernel) rfl, aw_t 759 (by decide +kernel) rfl, aw_t 760 (by decide +kernel) rfl⟩
theorem cvX10_256 : CV RX10 256 mX3_reckon 2 := ⟨cwX3_reckon, aw_t 765 (by decide +kernel) rfl, aw_t 766 (by decide +kernel) rfl, aw_t 767 (by decide +kernel) rfl⟩
theorem ciL_11 : CI RL 11 mX10_init 0 := ⟨cwX10_init, aw_t 33 (by decide +kernel) rfl, aw_t 34 (by decide +kernel) rfl, rfl, rfl⟩
theorem csL_14 : CS RL 14 mL_cell 2 := ⟨cwL_cell, aw_t 875 (by decide +kernel) rfl, aw_t 876 (by decide +kernel) rfl⟩
theorem cvL_24 : CV RL 24 mX10_digest 0 := ⟨cwX10_digest, aw_t 359 (by decide +kernel) rfl, aw_t 360 (by decide +kernel) rfl, aw_t 361 (by decide +kernel) rfl⟩
theorem csL_28 : CS RL 28 mL_arePlansRight 2 := ⟨cwL_arePlansRight, aw_t 1078 (by decide +kernel) rfl, aw_t 1079 (by decide +kernel) rfl⟩
theorem csL_32 : CS RL 32 mL_areLinksRight 2 := ⟨cwL_areLinksRight, aw_t 1138 (by decide +kernel) rfl, aw_t 1139 (by decide +kernel) rfl⟩
theorem csL_36 : CS RL 36 mL_areCrewsRight 2 := ⟨cwL_areCrewsRight, aw_t 1141 (by decide +kernel) rfl, aw_t 1142 (by decide +kernel) rfl⟩
theorem cvL_39 : CV RL 39 mX10_tasks 0 := ⟨cwX10_tasks, aw_t 884 (by decide +kernel) rfl, aw_t 885 (by decide +kernel) rfl, aw_t 886 (by decide +kernel) rfl⟩
theorem maL_43 : Cond.methodLink RL 43 Lib.Math.max.name ∈ AW := aw_t 888 (by decide +kernel) rfl
theorem csL_49 : CS RL 49 mL_below 2 := ⟨cwL_below, aw_t 889 (by decide +kernel) rfl, aw_t 890 (by decide +kernel) rfl⟩
theorem cvL_52 : CV RL 52 mX10_addTask 2 := ⟨cwX10_addTask, aw_t 893 (by decide +kernel) rfl, aw_t 894 (by decide +kernel) rfl, aw_t 895 (by decide +kernel) rfl⟩
theorem cvL_55 : CV RL 55 mX10_link 4 := ⟨cwX10_link, aw_t 959 (by decide +kernel) rfl, aw_t 960 (by decide +kernel) rfl, aw_t 961 (by decide +kernel) rfl⟩
theorem cvL_59 : CV RL 59 mX10_links 0 := ⟨cwX10_links, aw_t 992 (by decide +kernel) rfl, aw_t 993 (by decide +kernel) rfl, aw_t 994 (by decide +kernel) rfl⟩
theorem cvL_62 : CV RL 62 mX10_drop 1 := ⟨cwX10_drop, aw_t 996 (by decide +kernel) rfl, aw_t 997 (by decide +kernel) rfl, aw_t 998 (by decide +kernel) rfl⟩
theorem cvL_66 : CV RL 66 mX10_reopen 1 := ⟨cwX10_reopen, aw_t 1008 (by decide +kernel) rfl, aw_t 1009 (by decide +kernel) rfl, aw_t 1010 (by decide +kernel) rfl⟩
theorem cvL_70 : CV RL 70 mX10_holds 1 := ⟨cwX10_holds, aw_t 1012 (by decide +kernel) rfl, aw_t 1013 (by decide +kernel) rfl, aw_t 1014 (by decide +kernel) rfl⟩
theorem cvL_73 : CV RL 73 mX10_setNeed 3 := ⟨cwX10_setNeed, aw_t 1016 (by decide +kernel) rfl, aw_t 1017 (by decide +kernel) rfl, aw_t 1018 (by decide +kernel) rfl⟩
theorem cvL_77 : CV RL 77 mX10_setTerms 3 := ⟨cwX10_setTerms, aw_t 1023 (by decide +kernel) rfl, aw_t 1024 (by decide +kernel) rfl, aw_t 1025 (by decide +kernel) rfl⟩
theorem cvL_80 : CV RL 80 mX10_finish 3 := ⟨cwX10_finish, aw_t 1027 (by decide +kernel) rfl, aw_t 1028 (by decide +kernel) rfl, aw_t 1029 (by decide +kernel) rfl⟩
theorem cvL_84 : CV RL 84 mX10_setLength 2 := ⟨cwX10_setLength, aw_t 1031 (by decide +kernel) rfl, aw_t 1032 (by decide +kernel) rfl, aw_t 1033 (by decide +kernel) rfl⟩
theorem cvL_87 : CV RL 87 mX10_setCrew 3 := ⟨cwX10_setCrew, aw_t 1035 (by decide +kernel) rfl, aw_t 1036 (by decide +kernel) rfl, aw_t 1037 (by decide +kernel) rfl⟩
theorem cvL_90 : CV RL 90 mX10_setWeek 2 := ⟨cwX10_setWeek, aw_t 1039 (by decide +kernel) rfl, aw_t 1040 (by decide +kernel) rfl, aw_t 1041 (by decide +kernel) rfl⟩
theorem cvL_93 : CV RL 93 mX10_setRule 1 := ⟨cwX10_setRule, aw_t 1043 (by decide +kernel) rfl, aw_t 1044 (by decide +kernel) rfl, aw_t 1045 (by decide +kernel) rfl⟩
theorem cvL_96 : CV RL 96 mX10_keep 0 := ⟨cwX10_keep, aw_t 1047 (by decide +kernel) rfl, aw_t 1048 (by decide +kernel) rfl, aw_t 1049 (by decide +kernel) rfl⟩
theorem cvL_99 : CV RL 99 mX10_stuck 0 := ⟨cwX10_stuck, aw_t 1062 (by decide +kernel) rfl, aw_t 1063 (by decide +kernel) rfl, aw_t 1064 (by decide +kernel) rfl⟩
theorem cvL_102 : CV RL 102 mX10_planned 1 := ⟨cwX10_planned, aw_t 1066 (by decide +kernel) rfl, aw_t 1067 (by decide +kernel) rfl, aw_t 1068 (by decide +kernel) rfl⟩
theorem cvL_105 : CV RL 105 mX10_earned 0 := ⟨cwX10_earned, aw_t 1073 (by decide +kernel) rfl, aw_t 1074 (by decide +kernel) rfl, aw_t 1075 (by decide +kernel) rfl⟩
theorem cvL_108 : CV RL 108 mX10_worth 0 := ⟨cwX10_worth, aw_t 1077 (by decide +kernel) rfl, aw_t 858 (by decide +kernel) rfl, aw_t 859 (by decide +kernel) rfl⟩
theorem cvL_115 : CV RL 115 mX10_begin 1 := ⟨cwX10_begin, aw_t 1084 (by decide +kernel) rfl, aw_t 1085 (by decide +kernel) rfl, aw_t 1086 (by decide +kernel) rfl⟩
theorem csL_118 : CS RL 118 mL_isDone 2 := ⟨cwL_isDone, aw_t 1081 (by decide +kernel) rfl, aw_t 1082 (by decide +kernel) rfl⟩
theorem cvL_122 : CV RL 122 mX10_earlyEnd 1 := ⟨cwX10_earlyEnd, aw_t 1088 (by decide +kernel) rfl, aw_t 1089 (by decide +kernel) rfl, aw_t 1090 (by decide +kernel) rfl⟩
theorem cvL_125 : CV RL 125 mX10_earlyBegin 1 := ⟨cwX10_earlyBegin, aw_t 1092 (by decide +kernel) rfl, aw_t 1093 (by decide +kernel) rfl, aw_t 1094 (by decide +kernel) rfl⟩
theorem cvL_128 : CV RL 128 mX10_lateBegin 1 := ⟨cwX10_lateBegin, aw_t 1096 (by decide +kernel) rfl, aw_t 1097 (by decide +kernel) rfl, aw_t 1098 (by decide +kernel) rfl⟩
theorem cvL_131 : CV RL 131 mX10_last 0 := ⟨cwX10_last, aw_t 1100 (by decide +kernel) rfl, aw_t 1101 (by decide +kernel) rfl, aw_t 1102 (by decide +kernel) rfl⟩
theorem cvL_134 : CV RL 134 mX10_room 1 := ⟨cwX10_room, aw_t 1104 (by decide +kernel) rfl, aw_t 1105 (by decide +kernel) rfl, aw_t 1106 (by decide +kernel) rfl⟩
theorem cvL_137 : CV RL 137 mX10_end 1 := ⟨cwX10_end, aw_t 1108 (by decide +kernel) rfl, aw_t 1109 (by decide +kernel) rfl, aw_t 1110 (by decide +kernel) rfl⟩
theorem cvL_140 : CV RL 140 mX10_levelledLast 0 := ⟨cwX10_levelledLast, aw_t 1112 (by decide +kernel) rfl, aw_t 1113 (by decide +kernel) rfl, aw_t 1114 (by decide +kernel) rfl⟩
theorem cvL_143 : CV RL 143 mX10_lateEnd 1 := ⟨cwX10_lateEnd, aw_t 1116 (by decide +kernel) rfl, aw_t 1117 (by decide +kernel) rfl, aw_t 1118 (by decide +kernel) rfl⟩
theorem cvL_146 : CV RL 146 mX10_heldBy 1 := ⟨cwX10_heldBy, aw_t 1120 (by decide +kernel) rfl, aw_t 1121 (by decide +kernel) rfl, aw_t 1122 (by decide +kernel) rfl⟩
theorem cvL_149 : CV RL 149 mX10_tight 0 := ⟨cwX10_tight, aw_t 1124 (by decide +kernel) rfl, aw_t 1125 (by decide +kernel) rfl, aw_t 1126 (by decide +kernel) rfl⟩
theorem cvL_152 : CV RL 152 mX10_orderAt 1 := ⟨cwX10_orderAt, aw_t 1128 (by decide +kernel) rfl, aw_t 1129 (by decide +kernel) rfl, aw_t 1130 (by decide +kernel) rfl⟩
theorem csL_155 : CS RL 155 mJ6_bitCount_0f7a4 1 := ⟨cwJ6_bitCount_0f7a4, aw_t 1132 (by decide +kernel) rfl, aw_t 1133 (by decide +kernel) rfl⟩
theorem maL_160 : Cond.methodLink RL 160 Lib.Math.min.name ∈ AW := aw_t 1144 (by decide +kernel) rfl
theorem cvL_163 : CV RL 163 mX10_used 2 := ⟨cwX10_used, aw_t 1145 (by decide +kernel) rfl, aw_t 1146 (by decide +kernel) rfl, aw_t 1147 (by decide +kernel) rfl⟩
theorem cvL_166 : CV RL 166 mX10_peak 1 := ⟨cwX10_peak, aw_t 1150 (by decide +kernel) rfl, aw_t 1151 (by decide +kernel) rfl, aw_t 1152 (by decide +kernel) rfl⟩
theorem cvL_169 : CV RL 169 mX10_idle 1 := ⟨cwX10_idle, aw_t 1154 (by decide +kernel) rfl, aw_t 1155 (by decide +kernel) rfl, aw_t 1156 (by decide +kernel) rfl⟩
theorem cvL_172 : CV RL 172 mX10_overloaded 1 := ⟨cwX10_overloaded, aw_t 1158 (by decide +kernel) rfl, aw_t 1159 (by decide +kernel) rfl, aw_t 1160 (by decide +kernel) rfl⟩
theorem csJ7_13 : CS RJ7 13 mJ7_rangeCheck_23922 3 := ⟨cwJ7_rangeCheck_23922, aw_t 448 (by decide +kernel) rfl, aw_t 449 (by decide +kernel) rfl⟩
theorem clX10_7 : Cond.classLink RX10 7 RX8 ∈ AW := aw_t 39 (by decide +kernel) rfl
theorem clX10_16 : Cond.classLink RX10 16 RX6 ∈ AW := aw_t 206 (by decide +kernel) rfl
theorem clX10_25 : Cond.classLink RX10 25 RX3 ∈ AW := aw_t 254 (by decide +kernel) rfl
theorem clX10_32 : Cond.classLink RX10 32 RX5 ∈ AW := aw_t 306 (by decide +kernel) rfl
theorem clX10_45 : Cond.classLink RX10 45 RX2 ∈ AW := aw_t 308 (by decide +kernel) rfl
theorem clX10_276 : Cond.classLink RX10 276 "java/lang/IndexOutOfBoundsException" ∈ AW := aw_t 903 (by decide +kernel) rfl
theorem clX10_283 : Cond.classLink RX10 283 "java/lang/IllegalArgumentException" ∈ AW := aw_t 920 (by decide +kernel) rfl
theorem clX10_288 : Cond.classLink RX10 288 "java/lang/IllegalStateException" ∈ AW := aw_t 939 (by decide +kernel) rfl
theorem clX2_9 : Cond.classLink RX2 9 RX7 ∈ AW := aw_t 314 (by decide +kernel) rfl
theorem clX2_26 : Cond.classLink RX2 26 RX0 ∈ AW := aw_t 316 (by decide +kernel) rfl
theorem clX3_9 : Cond.classLink RX3 9 RX7 ∈ AW := aw_t 260 (by decide +kernel) rfl
theorem clX3_18 : Cond.classLink RX3 18 RX5 ∈ AW := aw_t 262 (by decide +kernel) rfl
theorem clX5_9 : Cond.classLink RX5 9 "[[I" ∈ AW := aw_t 268 (by decide +kernel) rfl
theorem clX6_9 : Cond.classLink RX6 9 RX7 ∈ AW := aw_t 212 (by decide +kernel) rfl
theorem clX8_9 : Cond.classLink RX8 9 RX0 ∈ AW := aw_t 45 (by decide +kernel) rfl
theorem clX8_17 : Cond.classLink RX8 17 RX1 ∈ AW := aw_t 47 (by decide +kernel) rfl
theorem clX8_23 : Cond.classLink RX8 23 RX9 ∈ AW := aw_t 49 (by decide +kernel) rfl
theorem clX8_29 : Cond.classLink RX8 29 RX4 ∈ AW := aw_t 51 (by decide +kernel) rfl
theorem clL_9 : Cond.classLink RL 9 RX10 ∈ AW := aw_t 31 (by decide +kernel) rfl
theorem clL_12 : Cond.classLink RL 12 "[[I" ∈ AW := aw_t 1162 (by decide +kernel) rfl
theorem clL_111 : Cond.classLink RL 111 "java/lang/IndexOutOfBoundsException" ∈ AW := aw_t 882 (by decide +kernel) rfl
theorem clL_113 : Cond.classLink RL 113 "java/lang/IllegalStateException" ∈ AW := aw_t 883 (by decide +kernel) rfl
theorem clJ7_68 : Cond.classLink RJ7 68 "java/lang/ArrayIndexOutOfBoundsException" ∈ AW := aw_t 451 (by decide +kernel) rfl
theorem clJ7_311 : Cond.classLink RJ7 311 "[B" ∈ AW := aw_t 568 (by decide +kernel) rfl
theorem isX10 : Cond.instantiable RX10 8 ∈ AW := aw_t 32 (by decide +kernel) rfl
theorem isX8 : Cond.instantiable RX8 9 ∈ AW := aw_t 40 (by decide +kernel) rfl
theorem isX0 : Cond.instantiable RX0 3 ∈ AW := aw_t 53 (by decide +kernel) rfl
theorem isX1 : Cond.instantiable RX1 2 ∈ AW := aw_t 71 (by decide +kernel) rfl
theorem isX9 : Cond.instantiable RX9 8 ∈ AW := aw_t 86 (by decide +kernel) rfl
theorem isX4 : Cond.instantiable RX4 4 ∈ AW := aw_t 134 (by decide +kernel) rfl
theorem isX6 : Cond.instantiable RX6 5 ∈ AW := aw_t 207 (by decide +kernel) rfl
theorem isX7 : Cond.instantiable RX7 2 ∈ AW := aw_t 213 (by decide +kernel) rfl
theorem isX3 : Cond.instantiable RX3 7 ∈ AW := aw_t 255 (by decide +kernel) rfl
theorem isX5 : Cond.instantiable RX5 2 ∈ AW := aw_t 263 (by decide +kernel) rfl
theorem isX2 : Cond.instantiable RX2 5 ∈ AW := aw_t 309 (by decide +kernel) rfl
theorem inL : Cond.initialized RL ∈ AW := aw_t 0 (by decide +kernel) rfl
theorem inX10 : Cond.initialized RX10 ∈ AW := aw_t 1 (by decide +kernel) rfl
theorem inX8 : Cond.initialized RX8 ∈ AW := aw_t 2 (by decide +kernel) rfl
theorem inX0 : Cond.initialized RX0 ∈ AW := aw_t 3 (by decide +kernel) rfl
theorem inX1 : Cond.initialized RX1 ∈ AW := aw_t 4 (by decide +kernel) rfl
theorem inX9 : Cond.initialized RX9 ∈ AW := aw_t 5 (by decide +kernel) rfl
theorem inX4 : Cond.initialized RX4 ∈ AW := aw_t 6 (by decide +kernel) rfl
theorem inX6 : Cond.initialized RX6 ∈ AW := aw_t 7 (by decide +kernel) rfl
theorem inX7 : Cond.initialized RX7 ∈ AW := aw_t 8 (by decide +kernel) rfl
theorem inX3 : Cond.initialized RX3 ∈ AW := aw_t 9 (by decide +kernel) rfl
theorem inX5 : Cond.initialized RX5 ∈ AW := aw_t 10 (by decide +kernel) rfl
theorem inX2 : Cond.initialized RX2 ∈ AW := aw_t 11 (by decide +kernel) rfl
theorem inJ7 : Cond.initialized RJ7 ∈ AW := aw_t 19 (by decide +kernel) rfl
theorem inJ6 : Cond.initialized RJ6 ∈ AW := aw_t 30 (by decide +kernel) rfl
theorem ar_int : Cond.arrayClass .int ∈ AW := aw_t 69 (by decide +kernel) rfl
theorem ar_boolean : Cond.arrayClass .boolean ∈ AW := aw_t 70 (by decide +kernel) rfl
theorem ctX10_269 : Cond.constantLong RX10 269 2633 ∈ AW := aw_t 816 (by decide +kernel) rfl
theorem ctX10_271 : Cond.constantLong RX10 271 31 ∈ AW := aw_t 817 (by decide +kernel) rfl
theorem ctL_8 : Cond.constant RL 8 790386105 ∈ AW := aw_t 878 (by decide +kernel) rfl
theorem ctL_7 : Cond.constant RL 7 2147483647 ∈ AW := aw_t 892 (by decide +kernel) rfl
theorem ctJ6_265 : Cond.constant RJ6 265 1431655765 ∈ AW := aw_t 1135 (by decide +kernel) rfl
theorem ctJ6_266 : Cond.constant RJ6 266 858993459 ∈ AW := aw_t 1136 (by decide +kernel) rfl
theorem ctJ6_267 : Cond.constant RJ6 267 252645135 ∈ AW := aw_t 1137 (by decide +kernel) rfl
theorem w_obj : Cond.instanceMethod Lib.objectInit ∈ AW ∧ Cond.code Lib.objectInit ⟨#[0xb1]⟩ 1 none ∈ AW := ⟨aw_t 37 (by decide +kernel) rfl, aw_t 38 (by decide +kernel) rfl⟩
theorem w_max : (Cond.static Lib.Math.max.name ∈ AW ∧ Cond.initialized "java/lang/Math" ∈ AW) ∧ Cond.code Lib.Math.max.name Lib.Math.max.code 2 (some .int) ∈ AW := ⟨⟨aw_t 384 (by decide +kernel) rfl, aw_t 12 (by decide +kernel) rfl⟩, aw_t 385 (by decide +kernel) rfl⟩
theorem w_min : (Cond.static Lib.Math.min.name ∈ AW ∧ Cond.initialized "java/lang/Math" ∈ AW) ∧ Cond.code Lib.Math.min.name Lib.Math.min.code 2 (some .int) ∈ AW := ⟨⟨aw_t 426 (by decide +kernel) rfl, aw_t 12 (by decide +kernel) rfl⟩, aw_t 427 (by decide +kernel) rfl⟩
theorem w_arr : wArr := ⟨⟨aw_t 572 (by decide +kernel) rfl, aw_t 571 (by decide +kernel) rfl⟩, aw_t 26 (by decide +kernel) rfl⟩
end
section
set_option maxRecDepth 100000 in
theorem awL_act1 : tables_1_4[161]? = some (Cond.codeWith yL_act cL_act 12 (some .boolean) [(20, 127, 622, 111), (128, 226, 622, 111), (227, 318, 622, 111), (319, 379, 622, 111), (380, 527, 622, 111), (528, 618, 622, 111), (20, 127, 639, 113), (128, 226, 639, 113), (227, 318, 639, 113), (319, 379, 639, 113), (380, 527, 639, 113), (528, 618, 639, 113)]) := rfl
theorem awL_act2 : Cond.codeWith (mY mL_act) (mC mL_act) (mL mL_act) (mR mL_act) (mH mL_act) ∈ AW :=
  List.mem_filter.mpr ⟨List.mem_append_right _ (List.mem_append_right _ (List.mem_append_right _ (List.mem_append_right _ (List.mem_append_left _ (List.mem_of_getElem? awL_act1))))), rfl⟩
end
