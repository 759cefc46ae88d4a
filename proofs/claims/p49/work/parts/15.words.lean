/-! ===== the tables' words, one by one: classes, fields, methods, calls (laid by a program of mine out of the tables) ===== -/
def RJ7 : String := "java/util/Arrays"
def RJ6 : String := "java/lang/Integer"
abbrev cJ6_bitCount_0f7a4 : ByteArray := prog_21_method_49_code
def yJ6_bitCount_0f7a4 : MethodName := ⟨RJ6, "bitCount", "(I)I"⟩
abbrev cJ7_rangeCheck_23922 : ByteArray := prog_31_method_30_code
def yJ7_rangeCheck_23922 : MethodName := ⟨RJ7, "rangeCheck", "(III)V"⟩
abbrev cJ7_fill_fda19 : ByteArray := prog_31_method_104_code
def yJ7_fill_fda19 : MethodName := ⟨RJ7, "fill", "([IIII)V"⟩
theorem dJ6_bitCount_0f7a4_0 : decode cJ6_bitCount_0f7a4 0 = .ok (.iload_n 0, 1) := by decide +kernel
theorem dJ6_bitCount_0f7a4_1 : decode cJ6_bitCount_0f7a4 1 = .ok (.iload_n 0, 1) := by decide +kernel
theorem dJ6_bitCount_0f7a4_2 : decode cJ6_bitCount_0f7a4 2 = .ok (.iconst 1, 1) := by decide +kernel
theorem dJ6_bitCount_0f7a4_3 : decode cJ6_bitCount_0f7a4 3 = .ok (.iushr, 1) := by decide +kernel
theorem dJ6_bitCount_0f7a4_4 : decode cJ6_bitCount_0f7a4 4 = .ok (.ldc_w 265, 3) := by decide +kernel
theorem dJ6_bitCount_0f7a4_7 : decode cJ6_bitCount_0f7a4 7 = .ok (.iand, 1) := by decide +kernel
theorem dJ6_bitCount_0f7a4_8 : decode cJ6_bitCount_0f7a4 8 = .ok (.isub, 1) := by decide +kernel
theorem dJ6_bitCount_0f7a4_9 : decode cJ6_bitCount_0f7a4 9 = .ok (.istore_n 0, 1) := by decide +kernel
theorem dJ6_bitCount_0f7a4_10 : decode cJ6_bitCount_0f7a4 10 = .ok (.iload_n 0, 1) := by decide +kernel
theorem dJ6_bitCount_0f7a4_11 : decode cJ6_bitCount_0f7a4 11 = .ok (.ldc_w 266, 3) := by decide +kernel
theorem dJ6_bitCount_0f7a4_14 : decode cJ6_bitCount_0f7a4 14 = .ok (.iand, 1) := by decide +kernel
theorem dJ6_bitCount_0f7a4_15 : decode cJ6_bitCount_0f7a4 15 = .ok (.iload_n 0, 1) := by decide +kernel
theorem dJ6_bitCount_0f7a4_16 : decode cJ6_bitCount_0f7a4 16 = .ok (.iconst 2, 1) := by decide +kernel
theorem dJ6_bitCount_0f7a4_17 : decode cJ6_bitCount_0f7a4 17 = .ok (.iushr, 1) := by decide +kernel
theorem dJ6_bitCount_0f7a4_18 : decode cJ6_bitCount_0f7a4 18 = .ok (.ldc_w 266, 3) := by decide +kernel
theorem dJ6_bitCount_0f7a4_21 : decode cJ6_bitCount_0f7a4 21 = .ok (.iand, 1) := by decide +kernel
theorem dJ6_bitCount_0f7a4_22 : decode cJ6_bitCount_0f7a4 22 = .ok (.iadd, 1) := by decide +kernel
theorem dJ6_bitCount_0f7a4_23 : decode cJ6_bitCount_0f7a4 23 = .ok (.istore_n 0, 1) := by decide +kernel
theorem dJ6_bitCount_0f7a4_24 : decode cJ6_bitCount_0f7a4 24 = .ok (.iload_n 0, 1) := by decide +kernel
theorem dJ6_bitCount_0f7a4_25 : decode cJ6_bitCount_0f7a4 25 = .ok (.iload_n 0, 1) := by decide +kernel
theorem dJ6_bitCount_0f7a4_26 : decode cJ6_bitCount_0f7a4 26 = .ok (.iconst 4, 1) := by decide +kernel
theorem dJ6_bitCount_0f7a4_27 : decode cJ6_bitCount_0f7a4 27 = .ok (.iushr, 1) := by decide +kernel
theorem dJ6_bitCount_0f7a4_28 : decode cJ6_bitCount_0f7a4 28 = .ok (.iadd, 1) := by decide +kernel
theorem dJ6_bitCount_0f7a4_29 : decode cJ6_bitCount_0f7a4 29 = .ok (.ldc_w 267, 3) := by decide +kernel
theorem dJ6_bitCount_0f7a4_32 : decode cJ6_bitCount_0f7a4 32 = .ok (.iand, 1) := by decide +kernel
theorem dJ6_bitCount_0f7a4_33 : decode cJ6_bitCount_0f7a4 33 = .ok (.istore_n 0, 1) := by decide +kernel
theorem dJ6_bitCount_0f7a4_34 : decode cJ6_bitCount_0f7a4 34 = .ok (.iload_n 0, 1) := by decide +kernel
theorem dJ6_bitCount_0f7a4_35 : decode cJ6_bitCount_0f7a4 35 = .ok (.iload_n 0, 1) := by decide +kernel
theorem dJ6_bitCount_0f7a4_36 : decode cJ6_bitCount_0f7a4 36 = .ok (.bipush 8, 2) := by decide +kernel
theorem dJ6_bitCount_0f7a4_38 : decode cJ6_bitCount_0f7a4 38 = .ok (.iushr, 1) := by decide +kernel
theorem dJ6_bitCount_0f7a4_39 : decode cJ6_bitCount_0f7a4 39 = .ok (.iadd, 1) := by decide +kernel
theorem dJ6_bitCount_0f7a4_40 : decode cJ6_bitCount_0f7a4 40 = .ok (.istore_n 0, 1) := by decide +kernel
theorem dJ6_bitCount_0f7a4_41 : decode cJ6_bitCount_0f7a4 41 = .ok (.iload_n 0, 1) := by decide +kernel
theorem dJ6_bitCount_0f7a4_42 : decode cJ6_bitCount_0f7a4 42 = .ok (.iload_n 0, 1) := by decide +kernel
theorem dJ6_bitCount_0f7a4_43 : decode cJ6_bitCount_0f7a4 43 = .ok (.bipush 16, 2) := by decide +kernel
theorem dJ6_bitCount_0f7a4_45 : decode cJ6_bitCount_0f7a4 45 = .ok (.iushr, 1) := by decide +kernel
theorem dJ6_bitCount_0f7a4_46 : decode cJ6_bitCount_0f7a4 46 = .ok (.iadd, 1) := by decide +kernel
theorem dJ6_bitCount_0f7a4_47 : decode cJ6_bitCount_0f7a4 47 = .ok (.istore_n 0, 1) := by decide +kernel
theorem dJ6_bitCount_0f7a4_48 : decode cJ6_bitCount_0f7a4 48 = .ok (.iload_n 0, 1) := by decide +kernel
theorem dJ6_bitCount_0f7a4_49 : decode cJ6_bitCount_0f7a4 49 = .ok (.bipush 63, 2) := by decide +kernel
theorem dJ6_bitCount_0f7a4_51 : decode cJ6_bitCount_0f7a4 51 = .ok (.iand, 1) := by decide +kernel
theorem dJ6_bitCount_0f7a4_52 : decode cJ6_bitCount_0f7a4 52 = .ok (.ireturn, 1) := by decide +kernel
theorem dJ7_rangeCheck_23922_0 : decode cJ7_rangeCheck_23922 0 = .ok (.iload_n 1, 1) := by decide +kernel
theorem dJ7_rangeCheck_23922_1 : decode cJ7_rangeCheck_23922 1 = .ok (.iload_n 2, 1) := by decide +kernel
theorem dJ7_rangeCheck_23922_2 : decode cJ7_rangeCheck_23922 2 = .ok (.if_icmp .le 44, 3) := by decide +kernel
theorem dJ7_rangeCheck_23922_5 : decode cJ7_rangeCheck_23922 5 = .ok (.new 43, 3) := by decide +kernel
theorem dJ7_rangeCheck_23922_8 : decode cJ7_rangeCheck_23922 8 = .ok (.dup, 1) := by decide +kernel
theorem dJ7_rangeCheck_23922_9 : decode cJ7_rangeCheck_23922 9 = .ok (.new 45, 3) := by decide +kernel
theorem dJ7_rangeCheck_23922_12 : decode cJ7_rangeCheck_23922 12 = .ok (.dup, 1) := by decide +kernel
theorem dJ7_rangeCheck_23922_13 : decode cJ7_rangeCheck_23922 13 = .ok (.invokespecial 47, 3) := by decide +kernel
theorem dJ7_rangeCheck_23922_16 : decode cJ7_rangeCheck_23922 16 = .ok (.ldc 48, 2) := by decide +kernel
theorem dJ7_rangeCheck_23922_18 : decode cJ7_rangeCheck_23922 18 = .ok (.invokevirtual 50, 3) := by decide +kernel
theorem dJ7_rangeCheck_23922_21 : decode cJ7_rangeCheck_23922 21 = .ok (.iload_n 1, 1) := by decide +kernel
theorem dJ7_rangeCheck_23922_22 : decode cJ7_rangeCheck_23922 22 = .ok (.invokevirtual 54, 3) := by decide +kernel
theorem dJ7_rangeCheck_23922_25 : decode cJ7_rangeCheck_23922 25 = .ok (.ldc 57, 2) := by decide +kernel
theorem dJ7_rangeCheck_23922_27 : decode cJ7_rangeCheck_23922 27 = .ok (.invokevirtual 50, 3) := by decide +kernel
theorem dJ7_rangeCheck_23922_30 : decode cJ7_rangeCheck_23922 30 = .ok (.iload_n 2, 1) := by decide +kernel
theorem dJ7_rangeCheck_23922_31 : decode cJ7_rangeCheck_23922 31 = .ok (.invokevirtual 54, 3) := by decide +kernel
theorem dJ7_rangeCheck_23922_34 : decode cJ7_rangeCheck_23922 34 = .ok (.ldc 59, 2) := by decide +kernel
theorem dJ7_rangeCheck_23922_36 : decode cJ7_rangeCheck_23922 36 = .ok (.invokevirtual 50, 3) := by decide +kernel
theorem dJ7_rangeCheck_23922_39 : decode cJ7_rangeCheck_23922 39 = .ok (.invokevirtual 61, 3) := by decide +kernel
theorem dJ7_rangeCheck_23922_42 : decode cJ7_rangeCheck_23922 42 = .ok (.invokespecial 65, 3) := by decide +kernel
theorem dJ7_rangeCheck_23922_45 : decode cJ7_rangeCheck_23922 45 = .ok (.athrow, 1) := by decide +kernel
theorem dJ7_rangeCheck_23922_46 : decode cJ7_rangeCheck_23922 46 = .ok (.iload_n 1, 1) := by decide +kernel
theorem dJ7_rangeCheck_23922_47 : decode cJ7_rangeCheck_23922 47 = .ok (.ifCond .ge 12, 3) := by decide +kernel
theorem dJ7_rangeCheck_23922_50 : decode cJ7_rangeCheck_23922 50 = .ok (.new 68, 3) := by decide +kernel
theorem dJ7_rangeCheck_23922_53 : decode cJ7_rangeCheck_23922 53 = .ok (.dup, 1) := by decide +kernel
theorem dJ7_rangeCheck_23922_54 : decode cJ7_rangeCheck_23922 54 = .ok (.iload_n 1, 1) := by decide +kernel
theorem dJ7_rangeCheck_23922_55 : decode cJ7_rangeCheck_23922 55 = .ok (.invokespecial 70, 3) := by decide +kernel
theorem dJ7_rangeCheck_23922_58 : decode cJ7_rangeCheck_23922 58 = .ok (.athrow, 1) := by decide +kernel
theorem dJ7_rangeCheck_23922_59 : decode cJ7_rangeCheck_23922 59 = .ok (.iload_n 2, 1) := by decide +kernel
theorem dJ7_rangeCheck_23922_60 : decode cJ7_rangeCheck_23922 60 = .ok (.iload_n 0, 1) := by decide +kernel
theorem dJ7_rangeCheck_23922_61 : decode cJ7_rangeCheck_23922 61 = .ok (.if_icmp .le 12, 3) := by decide +kernel
theorem dJ7_rangeCheck_23922_64 : decode cJ7_rangeCheck_23922 64 = .ok (.new 68, 3) := by decide +kernel
theorem dJ7_rangeCheck_23922_67 : decode cJ7_rangeCheck_23922 67 = .ok (.dup, 1) := by decide +kernel
theorem dJ7_rangeCheck_23922_68 : decode cJ7_rangeCheck_23922 68 = .ok (.iload_n 2, 1) := by decide +kernel
theorem dJ7_rangeCheck_23922_69 : decode cJ7_rangeCheck_23922 69 = .ok (.invokespecial 70, 3) := by decide +kernel
theorem dJ7_rangeCheck_23922_72 : decode cJ7_rangeCheck_23922 72 = .ok (.athrow, 1) := by decide +kernel
theorem dJ7_rangeCheck_23922_73 : decode cJ7_rangeCheck_23922 73 = .ok (.return_, 1) := by decide +kernel
theorem dJ7_fill_fda19_0 : decode cJ7_fill_fda19 0 = .ok (.aload_n 0, 1) := by decide +kernel
theorem dJ7_fill_fda19_1 : decode cJ7_fill_fda19 1 = .ok (.arraylength, 1) := by decide +kernel
theorem dJ7_fill_fda19_2 : decode cJ7_fill_fda19 2 = .ok (.iload_n 1, 1) := by decide +kernel
theorem dJ7_fill_fda19_3 : decode cJ7_fill_fda19 3 = .ok (.iload_n 2, 1) := by decide +kernel
theorem dJ7_fill_fda19_4 : decode cJ7_fill_fda19 4 = .ok (.invokestatic 13, 3) := by decide +kernel
theorem dJ7_fill_fda19_7 : decode cJ7_fill_fda19 7 = .ok (.iload_n 1, 1) := by decide +kernel
theorem dJ7_fill_fda19_8 : decode cJ7_fill_fda19 8 = .ok (.istore 4, 2) := by decide +kernel
theorem dJ7_fill_fda19_10 : decode cJ7_fill_fda19 10 = .ok (.iload 4, 2) := by decide +kernel
theorem dJ7_fill_fda19_12 : decode cJ7_fill_fda19 12 = .ok (.iload_n 2, 1) := by decide +kernel
theorem dJ7_fill_fda19_13 : decode cJ7_fill_fda19 13 = .ok (.if_icmp .ge 14, 3) := by decide +kernel
theorem dJ7_fill_fda19_16 : decode cJ7_fill_fda19 16 = .ok (.aload_n 0, 1) := by decide +kernel
theorem dJ7_fill_fda19_17 : decode cJ7_fill_fda19 17 = .ok (.iload 4, 2) := by decide +kernel
theorem dJ7_fill_fda19_19 : decode cJ7_fill_fda19 19 = .ok (.iload_n 3, 1) := by decide +kernel
theorem dJ7_fill_fda19_20 : decode cJ7_fill_fda19 20 = .ok (.iastore, 1) := by decide +kernel
theorem dJ7_fill_fda19_21 : decode cJ7_fill_fda19 21 = .ok (.iinc 4 1, 3) := by decide +kernel
theorem dJ7_fill_fda19_24 : decode cJ7_fill_fda19 24 = .ok (.goto (-14), 3) := by decide +kernel
theorem dJ7_fill_fda19_27 : decode cJ7_fill_fda19 27 = .ok (.return_, 1) := by decide +kernel
theorem aw_list {ws : List Cond} (ps : List Nat) (h : ws = ps.filterMap (fun i => tables_1[i]?)) (hg : ws.all goodWord = true) : ∀ w ∈ ws, w ∈ AW := by
  intro w hw
  have h1 := List.all_eq_true.mp hg w hw
  rw [h] at hw
  obtain ⟨i, -, hi⟩ := List.mem_filterMap.mp hw
  exact aw_t i hi h1
theorem ckX0 : CK 0 (RX0, TX0, 3) tyX0 := ⟨rfl, aw_list [62, 64, 66] (by decide +kernel) (by decide +kernel), tyX0_ok, nmX0⟩
theorem ckX1 : CK 1 (RX1, TX1, 2) tyX1 := ⟨rfl, aw_list [81, 83] (by decide +kernel) (by decide +kernel), tyX1_ok, nmX1⟩
theorem ckX2 : CK 2 (RX2, TX2, 5) tyX2 := ⟨rfl, aw_list [323, 325, 327, 329, 331] (by decide +kernel) (by decide +kernel), tyX2_ok, nmX2⟩
theorem ckX3 : CK 3 (RX3, TX3, 7) tyX3 := ⟨rfl, aw_list [291, 293, 295, 297, 299, 301, 303] (by decide +kernel) (by decide +kernel), tyX3_ok, nmX3⟩
theorem ckX4 : CK 4 (RX4, TX4, 4) tyX4 := ⟨rfl, aw_list [151, 153, 155, 157] (by decide +kernel) (by decide +kernel), tyX4_ok, nmX4⟩
theorem ckX5 : CK 5 (RX5, TX5, 2) tyX5 := ⟨rfl, aw_list [272, 274] (by decide +kernel) (by decide +kernel), tyX5_ok, nmX5⟩
theorem ckX6 : CK 6 (RX6, TX6, 5) tyX6 := ⟨rfl, aw_list [243, 245, 247, 249, 251] (by decide +kernel) (by decide +kernel), tyX6_ok, nmX6⟩
theorem ckX7 : CK 7 (RX7, TX7, 2) tyX7 := ⟨rfl, aw_list [227, 229] (by decide +kernel) (by decide +kernel), tyX7_ok, nmX7⟩
theorem ckX8 : CK 8 (RX8, TX8, 9) tyX8 := ⟨rfl, aw_list [187, 189, 191, 193, 195, 197, 199, 201, 203] (by decide +kernel) (by decide +kernel), tyX8_ok, nmX8⟩
theorem ckX9 : CK 9 (RX9, TX9, 8) tyX9 := ⟨rfl, aw_list [117, 119, 121, 123, 125, 127, 129, 131] (by decide +kernel) (by decide +kernel), tyX9_ok, nmX9⟩
theorem ckX10 : CK 10 (RX10, TX10, 8) tyX10 := ⟨rfl, aw_list [342, 344, 346, 348, 350, 352, 354, 356] (by decide +kernel) (by decide +kernel), tyX10_ok, nmX10⟩
theorem fkX10_10 : FK RX10 10 10 0 (.object "SlipwayPlan$Project") true := ⟨_, _, ckX10, by decide, aw_t 334 (by decide +kernel) rfl, tyX10_ok 0 (by decide), rfl⟩
theorem fkX10_21 : FK RX10 21 10 1 (.object "SlipwayPlan$Network") true := ⟨_, _, ckX10, by decide, aw_t 335 (by decide +kernel) rfl, tyX10_ok 1 (by decide), rfl⟩
theorem fkX10_28 : FK RX10 28 10 2 (.object "SlipwayPlan$Levelling") true := ⟨_, _, ckX10, by decide, aw_t 336 (by decide +kernel) rfl, tyX10_ok 2 (by decide), rfl⟩
theorem fkX10_35 : FK RX10 35 10 3 (.object "SlipwayPlan$Load") true := ⟨_, _, ckX10, by decide, aw_t 337 (by decide +kernel) rfl, tyX10_ok 3 (by decide), rfl⟩
theorem fkX10_39 : FK RX10 39 10 4 (.object "SlipwayPlan$Network") true := ⟨_, _, ckX10, by decide, aw_t 338 (by decide +kernel) rfl, tyX10_ok 4 (by decide), rfl⟩
theorem fkX10_42 : FK RX10 42 10 5 (.object "SlipwayPlan$Levelling") true := ⟨_, _, ckX10, by decide, aw_t 339 (by decide +kernel) rfl, tyX10_ok 5 (by decide), rfl⟩
theorem fkX10_48 : FK RX10 48 10 6 (.object "SlipwayPlan$Kept") true := ⟨_, _, ckX10, by decide, aw_t 340 (by decide +kernel) rfl, tyX10_ok 6 (by decide), rfl⟩
theorem fkX10_52 : FK RX10 52 10 7 (.boolean) false := ⟨_, _, ckX10, by decide, aw_t 341 (by decide +kernel) rfl, tyX10_ok 7 (by decide), rfl⟩
theorem fkX10_64 : FK RX10 64 8 0 (.array (.object "SlipwayPlan$Calendar")) true := ⟨_, _, ckX8, by decide, aw_t 161 (by decide +kernel) rfl, tyX8_ok 0 (by decide), rfl⟩
theorem fkX10_68 : FK RX10 68 0 0 (.int) false := ⟨_, _, ckX0, by decide, aw_t 59 (by decide +kernel) rfl, tyX0_ok 0 (by decide), rfl⟩
theorem fkX10_95 : FK RX10 95 8 1 (.array (.object "SlipwayPlan$Crew")) true := ⟨_, _, ckX8, by decide, aw_t 164 (by decide +kernel) rfl, tyX8_ok 1 (by decide), rfl⟩
theorem fkX10_99 : FK RX10 99 1 0 (.int) false := ⟨_, _, ckX1, by decide, aw_t 77 (by decide +kernel) rfl, tyX1_ok 0 (by decide), rfl⟩
theorem fkX10_104 : FK RX10 104 1 1 (.int) false := ⟨_, _, ckX1, by decide, aw_t 80 (by decide +kernel) rfl, tyX1_ok 1 (by decide), rfl⟩
theorem fkX10_107 : FK RX10 107 8 4 (.int) false := ⟨_, _, ckX8, by decide, aw_t 178 (by decide +kernel) rfl, tyX8_ok 4 (by decide), rfl⟩
theorem fkX10_117 : FK RX10 117 8 2 (.array (.object "SlipwayPlan$Task")) true := ⟨_, _, ckX8, by decide, aw_t 170 (by decide +kernel) rfl, tyX8_ok 2 (by decide), rfl⟩
theorem fkX10_121 : FK RX10 121 9 0 (.int) false := ⟨_, _, ckX9, by decide, aw_t 94 (by decide +kernel) rfl, tyX9_ok 0 (by decide), rfl⟩
theorem fkX10_126 : FK RX10 126 9 3 (.int) false := ⟨_, _, ckX9, by decide, aw_t 99 (by decide +kernel) rfl, tyX9_ok 3 (by decide), rfl⟩
theorem fkX10_129 : FK RX10 129 9 2 (.int) false := ⟨_, _, ckX9, by decide, aw_t 98 (by decide +kernel) rfl, tyX9_ok 2 (by decide), rfl⟩
theorem fkX10_132 : FK RX10 132 9 7 (.array .int) true := ⟨_, _, ckX9, by decide, aw_t 116 (by decide +kernel) rfl, tyX9_ok 7 (by decide), rfl⟩
theorem fkX10_136 : FK RX10 136 8 5 (.int) false := ⟨_, _, ckX8, by decide, aw_t 181 (by decide +kernel) rfl, tyX8_ok 5 (by decide), rfl⟩
theorem fkX10_152 : FK RX10 152 9 4 (.boolean) false := ⟨_, _, ckX9, by decide, aw_t 105 (by decide +kernel) rfl, tyX9_ok 4 (by decide), rfl⟩
theorem fkX10_155 : FK RX10 155 9 5 (.int) false := ⟨_, _, ckX9, by decide, aw_t 108 (by decide +kernel) rfl, tyX9_ok 5 (by decide), rfl⟩
theorem fkX10_158 : FK RX10 158 9 6 (.int) false := ⟨_, _, ckX9, by decide, aw_t 111 (by decide +kernel) rfl, tyX9_ok 6 (by decide), rfl⟩
theorem fkX10_161 : FK RX10 161 8 6 (.int) false := ⟨_, _, ckX8, by decide, aw_t 183 (by decide +kernel) rfl, tyX8_ok 6 (by decide), rfl⟩
theorem fkX10_174 : FK RX10 174 6 1 (.object "SlipwayPlan$Plan") true := ⟨_, _, ckX6, by decide, aw_t 234 (by decide +kernel) rfl, tyX6_ok 1 (by decide), rfl⟩
theorem fkX10_178 : FK RX10 178 7 0 (.array .int) true := ⟨_, _, ckX7, by decide, aw_t 222 (by decide +kernel) rfl, tyX7_ok 0 (by decide), rfl⟩
theorem fkX10_183 : FK RX10 183 7 1 (.array .int) true := ⟨_, _, ckX7, by decide, aw_t 226 (by decide +kernel) rfl, tyX7_ok 1 (by decide), rfl⟩
theorem fkX10_186 : FK RX10 186 6 2 (.object "SlipwayPlan$Plan") true := ⟨_, _, ckX6, by decide, aw_t 237 (by decide +kernel) rfl, tyX6_ok 2 (by decide), rfl⟩
theorem fkX10_189 : FK RX10 189 6 3 (.array .int) true := ⟨_, _, ckX6, by decide, aw_t 240 (by decide +kernel) rfl, tyX6_ok 3 (by decide), rfl⟩
theorem fkX10_192 : FK RX10 192 6 4 (.int) false := ⟨_, _, ckX6, by decide, aw_t 242 (by decide +kernel) rfl, tyX6_ok 4 (by decide), rfl⟩
theorem fkX10_205 : FK RX10 205 3 1 (.object "SlipwayPlan$Plan") true := ⟨_, _, ckX3, by decide, aw_t 280 (by decide +kernel) rfl, tyX3_ok 1 (by decide), rfl⟩
theorem fkX10_208 : FK RX10 208 3 6 (.int) false := ⟨_, _, ckX3, by decide, aw_t 290 (by decide +kernel) rfl, tyX3_ok 6 (by decide), rfl⟩
theorem fkX10_209 : FK RX10 209 3 5 (.int) false := ⟨_, _, ckX3, by decide, aw_t 288 (by decide +kernel) rfl, tyX3_ok 5 (by decide), rfl⟩
theorem fkX10_216 : FK RX10 216 3 4 (.array .int) true := ⟨_, _, ckX3, by decide, aw_t 286 (by decide +kernel) rfl, tyX3_ok 4 (by decide), rfl⟩
theorem fkX10_219 : FK RX10 219 3 2 (.object "SlipwayPlan$Load") true := ⟨_, _, ckX3, by decide, aw_t 282 (by decide +kernel) rfl, tyX3_ok 2 (by decide), rfl⟩
theorem fkX0_9 : FK RX0 9 0 0 (.int) false := ⟨_, _, ckX0, by decide, aw_t 58 (by decide +kernel) rfl, tyX0_ok 0 (by decide), rfl⟩
theorem fkX0_15 : FK RX0 15 0 2 (.array .boolean) true := ⟨_, _, ckX0, by decide, aw_t 61 (by decide +kernel) rfl, tyX0_ok 2 (by decide), rfl⟩
theorem fkX0_19 : FK RX0 19 0 1 (.int) false := ⟨_, _, ckX0, by decide, aw_t 60 (by decide +kernel) rfl, tyX0_ok 1 (by decide), rfl⟩
theorem fkX1_9 : FK RX1 9 1 0 (.int) false := ⟨_, _, ckX1, by decide, aw_t 76 (by decide +kernel) rfl, tyX1_ok 0 (by decide), rfl⟩
theorem fkX2_12 : FK RX2 12 2 1 (.object "SlipwayPlan$Plan") true := ⟨_, _, ckX2, by decide, aw_t 319 (by decide +kernel) rfl, tyX2_ok 1 (by decide), rfl⟩
theorem fkX2_18 : FK RX2 18 2 2 (.array .boolean) true := ⟨_, _, ckX2, by decide, aw_t 320 (by decide +kernel) rfl, tyX2_ok 2 (by decide), rfl⟩
theorem fkX2_22 : FK RX2 22 2 3 (.array .int) true := ⟨_, _, ckX2, by decide, aw_t 321 (by decide +kernel) rfl, tyX2_ok 3 (by decide), rfl⟩
theorem fkX2_28 : FK RX2 28 2 4 (.array (.object "SlipwayPlan$Calendar")) true := ⟨_, _, ckX2, by decide, aw_t 322 (by decide +kernel) rfl, tyX2_ok 4 (by decide), rfl⟩
theorem fkX2_32 : FK RX2 32 2 0 (.object "SlipwayPlan$Project") true := ⟨_, _, ckX2, by decide, aw_t 318 (by decide +kernel) rfl, tyX2_ok 0 (by decide), rfl⟩
theorem fkX2_37 : FK RX2 37 8 4 (.int) false := ⟨_, _, ckX8, by decide, aw_t 174 (by decide +kernel) rfl, tyX8_ok 4 (by decide), rfl⟩
theorem fkX2_43 : FK RX2 43 3 3 (.array .boolean) true := ⟨_, _, ckX3, by decide, aw_t 284 (by decide +kernel) rfl, tyX3_ok 3 (by decide), rfl⟩
theorem fkX2_46 : FK RX2 46 3 1 (.object "SlipwayPlan$Plan") true := ⟨_, _, ckX3, by decide, aw_t 279 (by decide +kernel) rfl, tyX3_ok 1 (by decide), rfl⟩
theorem fkX2_47 : FK RX2 47 7 0 (.array .int) true := ⟨_, _, ckX7, by decide, aw_t 219 (by decide +kernel) rfl, tyX7_ok 0 (by decide), rfl⟩
theorem fkX2_50 : FK RX2 50 7 1 (.array .int) true := ⟨_, _, ckX7, by decide, aw_t 224 (by decide +kernel) rfl, tyX7_ok 1 (by decide), rfl⟩
theorem fkX2_61 : FK RX2 61 8 0 (.array (.object "SlipwayPlan$Calendar")) true := ⟨_, _, ckX8, by decide, aw_t 162 (by decide +kernel) rfl, tyX8_ok 0 (by decide), rfl⟩
theorem fkX2_70 : FK RX2 70 8 2 (.array (.object "SlipwayPlan$Task")) true := ⟨_, _, ckX8, by decide, aw_t 169 (by decide +kernel) rfl, tyX8_ok 2 (by decide), rfl⟩
theorem fkX2_74 : FK RX2 74 9 1 (.int) false := ⟨_, _, ckX9, by decide, aw_t 96 (by decide +kernel) rfl, tyX9_ok 1 (by decide), rfl⟩
theorem fkX2_87 : FK RX2 87 9 4 (.boolean) false := ⟨_, _, ckX9, by decide, aw_t 104 (by decide +kernel) rfl, tyX9_ok 4 (by decide), rfl⟩
theorem fkX3_12 : FK RX3 12 3 1 (.object "SlipwayPlan$Plan") true := ⟨_, _, ckX3, by decide, aw_t 278 (by decide +kernel) rfl, tyX3_ok 1 (by decide), rfl⟩
theorem fkX3_21 : FK RX3 21 3 2 (.object "SlipwayPlan$Load") true := ⟨_, _, ckX3, by decide, aw_t 281 (by decide +kernel) rfl, tyX3_ok 2 (by decide), rfl⟩
theorem fkX3_25 : FK RX3 25 3 3 (.array .boolean) true := ⟨_, _, ckX3, by decide, aw_t 283 (by decide +kernel) rfl, tyX3_ok 3 (by decide), rfl⟩
theorem fkX3_29 : FK RX3 29 3 4 (.array .int) true := ⟨_, _, ckX3, by decide, aw_t 285 (by decide +kernel) rfl, tyX3_ok 4 (by decide), rfl⟩
theorem fkX3_33 : FK RX3 33 3 0 (.object "SlipwayPlan$Project") true := ⟨_, _, ckX3, by decide, aw_t 277 (by decide +kernel) rfl, tyX3_ok 0 (by decide), rfl⟩
theorem fkX3_40 : FK RX3 40 8 4 (.int) false := ⟨_, _, ckX8, by decide, aw_t 175 (by decide +kernel) rfl, tyX8_ok 4 (by decide), rfl⟩
theorem fkX3_46 : FK RX3 46 8 2 (.array (.object "SlipwayPlan$Task")) true := ⟨_, _, ckX8, by decide, aw_t 167 (by decide +kernel) rfl, tyX8_ok 2 (by decide), rfl⟩
theorem fkX3_50 : FK RX3 50 9 4 (.boolean) false := ⟨_, _, ckX9, by decide, aw_t 102 (by decide +kernel) rfl, tyX9_ok 4 (by decide), rfl⟩
theorem fkX3_56 : FK RX3 56 9 5 (.int) false := ⟨_, _, ckX9, by decide, aw_t 106 (by decide +kernel) rfl, tyX9_ok 5 (by decide), rfl⟩
theorem fkX3_59 : FK RX3 59 9 6 (.int) false := ⟨_, _, ckX9, by decide, aw_t 109 (by decide +kernel) rfl, tyX9_ok 6 (by decide), rfl⟩
theorem fkX3_82 : FK RX3 82 9 0 (.int) false := ⟨_, _, ckX9, by decide, aw_t 92 (by decide +kernel) rfl, tyX9_ok 0 (by decide), rfl⟩
theorem fkX3_91 : FK RX3 91 3 5 (.int) false := ⟨_, _, ckX3, by decide, aw_t 287 (by decide +kernel) rfl, tyX3_ok 5 (by decide), rfl⟩
theorem fkX3_94 : FK RX3 94 3 6 (.int) false := ⟨_, _, ckX3, by decide, aw_t 289 (by decide +kernel) rfl, tyX3_ok 6 (by decide), rfl⟩
theorem fkX3_121 : FK RX3 121 6 2 (.object "SlipwayPlan$Plan") true := ⟨_, _, ckX6, by decide, aw_t 236 (by decide +kernel) rfl, tyX6_ok 2 (by decide), rfl⟩
theorem fkX3_126 : FK RX3 126 7 0 (.array .int) true := ⟨_, _, ckX7, by decide, aw_t 221 (by decide +kernel) rfl, tyX7_ok 0 (by decide), rfl⟩
theorem fkX3_129 : FK RX3 129 6 3 (.array .int) true := ⟨_, _, ckX6, by decide, aw_t 239 (by decide +kernel) rfl, tyX6_ok 3 (by decide), rfl⟩
theorem fkX3_132 : FK RX3 132 9 2 (.int) false := ⟨_, _, ckX9, by decide, aw_t 97 (by decide +kernel) rfl, tyX9_ok 2 (by decide), rfl⟩
theorem fkX3_135 : FK RX3 135 9 7 (.array .int) true := ⟨_, _, ckX9, by decide, aw_t 115 (by decide +kernel) rfl, tyX9_ok 7 (by decide), rfl⟩
theorem fkX3_138 : FK RX3 138 8 1 (.array (.object "SlipwayPlan$Crew")) true := ⟨_, _, ckX8, by decide, aw_t 165 (by decide +kernel) rfl, tyX8_ok 1 (by decide), rfl⟩
theorem fkX3_142 : FK RX3 142 1 0 (.int) false := ⟨_, _, ckX1, by decide, aw_t 78 (by decide +kernel) rfl, tyX1_ok 0 (by decide), rfl⟩
theorem fkX3_157 : FK RX3 157 9 3 (.int) false := ⟨_, _, ckX9, by decide, aw_t 100 (by decide +kernel) rfl, tyX9_ok 3 (by decide), rfl⟩
theorem fkX3_168 : FK RX3 168 8 5 (.int) false := ⟨_, _, ckX8, by decide, aw_t 182 (by decide +kernel) rfl, tyX8_ok 5 (by decide), rfl⟩
theorem fkX3_171 : FK RX3 171 8 3 (.array (.object "SlipwayPlan$Link")) true := ⟨_, _, ckX8, by decide, aw_t 173 (by decide +kernel) rfl, tyX8_ok 3 (by decide), rfl⟩
theorem fkX3_175 : FK RX3 175 4 1 (.int) false := ⟨_, _, ckX4, by decide, aw_t 144 (by decide +kernel) rfl, tyX4_ok 1 (by decide), rfl⟩
theorem fkX5_11 : FK RX5 11 5 0 (.array (.array .int)) true := ⟨_, _, ckX5, by decide, aw_t 270 (by decide +kernel) rfl, tyX5_ok 0 (by decide), rfl⟩
theorem fkX5_16 : FK RX5 16 5 1 (.int) false := ⟨_, _, ckX5, by decide, aw_t 271 (by decide +kernel) rfl, tyX5_ok 1 (by decide), rfl⟩
theorem fkX5_41 : FK RX5 41 9 7 (.array .int) true := ⟨_, _, ckX9, by decide, aw_t 114 (by decide +kernel) rfl, tyX9_ok 7 (by decide), rfl⟩
theorem fkX6_12 : FK RX6 12 6 1 (.object "SlipwayPlan$Plan") true := ⟨_, _, ckX6, by decide, aw_t 233 (by decide +kernel) rfl, tyX6_ok 1 (by decide), rfl⟩
theorem fkX6_18 : FK RX6 18 6 2 (.object "SlipwayPlan$Plan") true := ⟨_, _, ckX6, by decide, aw_t 235 (by decide +kernel) rfl, tyX6_ok 2 (by decide), rfl⟩
theorem fkX6_21 : FK RX6 21 6 3 (.array .int) true := ⟨_, _, ckX6, by decide, aw_t 238 (by decide +kernel) rfl, tyX6_ok 3 (by decide), rfl⟩
theorem fkX6_25 : FK RX6 25 6 0 (.object "SlipwayPlan$Project") true := ⟨_, _, ckX6, by decide, aw_t 232 (by decide +kernel) rfl, tyX6_ok 0 (by decide), rfl⟩
theorem fkX6_29 : FK RX6 29 6 4 (.int) false := ⟨_, _, ckX6, by decide, aw_t 241 (by decide +kernel) rfl, tyX6_ok 4 (by decide), rfl⟩
theorem fkX6_33 : FK RX6 33 8 4 (.int) false := ⟨_, _, ckX8, by decide, aw_t 176 (by decide +kernel) rfl, tyX8_ok 4 (by decide), rfl⟩
theorem fkX6_38 : FK RX6 38 8 7 (.array .int) true := ⟨_, _, ckX8, by decide, aw_t 185 (by decide +kernel) rfl, tyX8_ok 7 (by decide), rfl⟩
theorem fkX6_41 : FK RX6 41 8 2 (.array (.object "SlipwayPlan$Task")) true := ⟨_, _, ckX8, by decide, aw_t 168 (by decide +kernel) rfl, tyX8_ok 2 (by decide), rfl⟩
theorem fkX6_45 : FK RX6 45 9 4 (.boolean) false := ⟨_, _, ckX9, by decide, aw_t 103 (by decide +kernel) rfl, tyX9_ok 4 (by decide), rfl⟩
theorem fkX6_51 : FK RX6 51 9 5 (.int) false := ⟨_, _, ckX9, by decide, aw_t 107 (by decide +kernel) rfl, tyX9_ok 5 (by decide), rfl⟩
theorem fkX6_54 : FK RX6 54 9 6 (.int) false := ⟨_, _, ckX9, by decide, aw_t 110 (by decide +kernel) rfl, tyX9_ok 6 (by decide), rfl⟩
theorem fkX6_69 : FK RX6 69 9 0 (.int) false := ⟨_, _, ckX9, by decide, aw_t 91 (by decide +kernel) rfl, tyX9_ok 0 (by decide), rfl⟩
theorem fkX6_78 : FK RX6 78 7 1 (.array .int) true := ⟨_, _, ckX7, by decide, aw_t 225 (by decide +kernel) rfl, tyX7_ok 1 (by decide), rfl⟩
theorem fkX6_93 : FK RX6 93 8 5 (.int) false := ⟨_, _, ckX8, by decide, aw_t 179 (by decide +kernel) rfl, tyX8_ok 5 (by decide), rfl⟩
theorem fkX6_96 : FK RX6 96 8 3 (.array (.object "SlipwayPlan$Link")) true := ⟨_, _, ckX8, by decide, aw_t 172 (by decide +kernel) rfl, tyX8_ok 3 (by decide), rfl⟩
theorem fkX6_100 : FK RX6 100 4 0 (.int) false := ⟨_, _, ckX4, by decide, aw_t 140 (by decide +kernel) rfl, tyX4_ok 0 (by decide), rfl⟩
theorem fkX6_105 : FK RX6 105 4 1 (.int) false := ⟨_, _, ckX4, by decide, aw_t 142 (by decide +kernel) rfl, tyX4_ok 1 (by decide), rfl⟩
theorem fkX6_108 : FK RX6 108 4 2 (.int) false := ⟨_, _, ckX4, by decide, aw_t 146 (by decide +kernel) rfl, tyX4_ok 2 (by decide), rfl⟩
theorem fkX6_111 : FK RX6 111 7 0 (.array .int) true := ⟨_, _, ckX7, by decide, aw_t 220 (by decide +kernel) rfl, tyX7_ok 0 (by decide), rfl⟩
theorem fkX6_114 : FK RX6 114 4 3 (.int) false := ⟨_, _, ckX4, by decide, aw_t 149 (by decide +kernel) rfl, tyX4_ok 3 (by decide), rfl⟩
theorem fkX7_9 : FK RX7 9 7 0 (.array .int) true := ⟨_, _, ckX7, by decide, aw_t 218 (by decide +kernel) rfl, tyX7_ok 0 (by decide), rfl⟩
theorem fkX7_15 : FK RX7 15 7 1 (.array .int) true := ⟨_, _, ckX7, by decide, aw_t 223 (by decide +kernel) rfl, tyX7_ok 1 (by decide), rfl⟩
theorem fkX7_18 : FK RX7 18 4 2 (.int) false := ⟨_, _, ckX4, by decide, aw_t 145 (by decide +kernel) rfl, tyX4_ok 2 (by decide), rfl⟩
theorem fkX7_24 : FK RX7 24 4 0 (.int) false := ⟨_, _, ckX4, by decide, aw_t 139 (by decide +kernel) rfl, tyX4_ok 0 (by decide), rfl⟩
theorem fkX7_27 : FK RX7 27 4 3 (.int) false := ⟨_, _, ckX4, by decide, aw_t 148 (by decide +kernel) rfl, tyX4_ok 3 (by decide), rfl⟩
theorem fkX8_11 : FK RX8 11 8 0 (.array (.object "SlipwayPlan$Calendar")) true := ⟨_, _, ckX8, by decide, aw_t 160 (by decide +kernel) rfl, tyX8_ok 0 (by decide), rfl⟩
theorem fkX8_19 : FK RX8 19 8 1 (.array (.object "SlipwayPlan$Crew")) true := ⟨_, _, ckX8, by decide, aw_t 163 (by decide +kernel) rfl, tyX8_ok 1 (by decide), rfl⟩
theorem fkX8_25 : FK RX8 25 8 2 (.array (.object "SlipwayPlan$Task")) true := ⟨_, _, ckX8, by decide, aw_t 166 (by decide +kernel) rfl, tyX8_ok 2 (by decide), rfl⟩
theorem fkX8_31 : FK RX8 31 8 3 (.array (.object "SlipwayPlan$Link")) true := ⟨_, _, ckX8, by decide, aw_t 171 (by decide +kernel) rfl, tyX8_ok 3 (by decide), rfl⟩
theorem fkX8_35 : FK RX8 35 8 7 (.array .int) true := ⟨_, _, ckX8, by decide, aw_t 184 (by decide +kernel) rfl, tyX8_ok 7 (by decide), rfl⟩
theorem fkX8_39 : FK RX8 39 8 8 (.array .boolean) true := ⟨_, _, ckX8, by decide, aw_t 186 (by decide +kernel) rfl, tyX8_ok 8 (by decide), rfl⟩
theorem fkX8_47 : FK RX8 47 9 1 (.int) false := ⟨_, _, ckX9, by decide, aw_t 95 (by decide +kernel) rfl, tyX9_ok 1 (by decide), rfl⟩
theorem fkX8_51 : FK RX8 51 9 7 (.array .int) true := ⟨_, _, ckX9, by decide, aw_t 113 (by decide +kernel) rfl, tyX9_ok 7 (by decide), rfl⟩
theorem fkX8_54 : FK RX8 54 1 1 (.int) false := ⟨_, _, ckX1, by decide, aw_t 79 (by decide +kernel) rfl, tyX1_ok 1 (by decide), rfl⟩
theorem fkX8_57 : FK RX8 57 9 0 (.int) false := ⟨_, _, ckX9, by decide, aw_t 93 (by decide +kernel) rfl, tyX9_ok 0 (by decide), rfl⟩
theorem fkX8_60 : FK RX8 60 8 4 (.int) false := ⟨_, _, ckX8, by decide, aw_t 177 (by decide +kernel) rfl, tyX8_ok 4 (by decide), rfl⟩
theorem fkX8_63 : FK RX8 63 8 5 (.int) false := ⟨_, _, ckX8, by decide, aw_t 180 (by decide +kernel) rfl, tyX8_ok 5 (by decide), rfl⟩
theorem fkX8_66 : FK RX8 66 4 0 (.int) false := ⟨_, _, ckX4, by decide, aw_t 141 (by decide +kernel) rfl, tyX4_ok 0 (by decide), rfl⟩
theorem fkX8_69 : FK RX8 69 4 1 (.int) false := ⟨_, _, ckX4, by decide, aw_t 143 (by decide +kernel) rfl, tyX4_ok 1 (by decide), rfl⟩
theorem fkX8_72 : FK RX8 72 4 2 (.int) false := ⟨_, _, ckX4, by decide, aw_t 147 (by decide +kernel) rfl, tyX4_ok 2 (by decide), rfl⟩
theorem fkX8_75 : FK RX8 75 4 3 (.int) false := ⟨_, _, ckX4, by decide, aw_t 150 (by decide +kernel) rfl, tyX4_ok 3 (by decide), rfl⟩
theorem fkX8_96 : FK RX8 96 9 3 (.int) false := ⟨_, _, ckX9, by decide, aw_t 101 (by decide +kernel) rfl, tyX9_ok 3 (by decide), rfl⟩
theorem fkX9_9 : FK RX9 9 9 7 (.array .int) true := ⟨_, _, ckX9, by decide, aw_t 112 (by decide +kernel) rfl, tyX9_ok 7 (by decide), rfl⟩
abbrev mX0_init : MI := (yX0_init, cX0_init, 1, none, 8, 120, [])
theorem cwX0_init : CW mX0_init 0 := ⟨aw_t 56 (by decide +kernel) rfl, aw_t 3 (by decide +kernel) rfl, by decide +kernel, by decide +kernel, by decide +kernel⟩
abbrev mX0_copyFrom : MI := (yX0_copyFrom, cX0_copyFrom, 2, none, 8, 120, [])
theorem cwX0_copyFrom : CW mX0_copyFrom 1 := ⟨aw_t 1060 (by decide +kernel) rfl, aw_t 3 (by decide +kernel) rfl, by decide +kernel, by decide +kernel, by decide +kernel⟩
abbrev mX0_worksOn : MI := (yX0_worksOn, cX0_worksOn, 2, (some FieldType.boolean), 8, 120, [])
theorem cwX0_worksOn : CW mX0_worksOn 1 := ⟨aw_t 406 (by decide +kernel) rfl, aw_t 3 (by decide +kernel) rfl, by decide +kernel, by decide +kernel, by decide +kernel⟩
abbrev mX0_firstFrom : MI := (yX0_firstFrom, cX0_firstFrom, 3, (some FieldType.int), 9, 141, [])
theorem cwX0_firstFrom : CW mX0_firstFrom 1 := ⟨aw_t 402 (by decide +kernel) rfl, aw_t 3 (by decide +kernel) rfl, by decide +kernel, by decide +kernel, by decide +kernel⟩
abbrev mX0_countBack : MI := (yX0_countBack, cX0_countBack, 5, (some FieldType.int), 9, 141, [])
theorem cwX0_countBack : CW mX0_countBack 2 := ⟨aw_t 410 (by decide +kernel) rfl, aw_t 3 (by decide +kernel) rfl, by decide +kernel, by decide +kernel, by decide +kernel⟩
abbrev mX0_countWithin : MI := (yX0_countWithin, cX0_countWithin, 5, (some FieldType.int), 9, 141, [])
theorem cwX0_countWithin : CW mX0_countWithin 2 := ⟨aw_t 440 (by decide +kernel) rfl, aw_t 3 (by decide +kernel) rfl, by decide +kernel, by decide +kernel, by decide +kernel⟩
abbrev mX0_endOf : MI := (yX0_endOf, cX0_endOf, 5, (some FieldType.int), 9, 141, [])
theorem cwX0_endOf : CW mX0_endOf 2 := ⟨aw_t 415 (by decide +kernel) rfl, aw_t 3 (by decide +kernel) rfl, by decide +kernel, by decide +kernel, by decide +kernel⟩
abbrev mX0_firstBegin : MI := (yX0_firstBegin, cX0_firstBegin, 4, (some FieldType.int), 10, 165, [])
theorem cwX0_firstBegin : CW mX0_firstBegin 3 := ⟨aw_t 397 (by decide +kernel) rfl, aw_t 3 (by decide +kernel) rfl, by decide +kernel, by decide +kernel, by decide +kernel⟩
abbrev mX0_latestBegin : MI := (yX0_latestBegin, cX0_latestBegin, 4, (some FieldType.int), 10, 165, [])
theorem cwX0_latestBegin : CW mX0_latestBegin 3 := ⟨aw_t 431 (by decide +kernel) rfl, aw_t 3 (by decide +kernel) rfl, by decide +kernel, by decide +kernel, by decide +kernel⟩
abbrev mX1_init : MI := (yX1_init, cX1_init, 1, none, 8, 120, [])
theorem cwX1_init : CW mX1_init 0 := ⟨aw_t 74 (by decide +kernel) rfl, aw_t 4 (by decide +kernel) rfl, by decide +kernel, by decide +kernel, by decide +kernel⟩
abbrev mX2_init : MI := (yX2_init, cX2_init, 3, none, 9, 140, [])
theorem cwX2_init : CW mX2_init 1 := ⟨aw_t 312 (by decide +kernel) rfl, aw_t 11 (by decide +kernel) rfl, by decide +kernel, by decide +kernel, by decide +kernel⟩
abbrev mX2_take : MI := (yX2_take, cX2_take, 3, none, 9, 143, [])
theorem cwX2_take : CW mX2_take 1 := ⟨aw_t 1054 (by decide +kernel) rfl, aw_t 11 (by decide +kernel) rfl, by decide +kernel, by decide +kernel, by decide +kernel⟩
abbrev mX2_delayOf : MI := (yX2_delayOf, cX2_delayOf, 3, (some FieldType.int), 8, 120, [])
theorem cwX2_delayOf : CW mX2_delayOf 2 := ⟨aw_t 839 (by decide +kernel) rfl, aw_t 11 (by decide +kernel) rfl, by decide +kernel, by decide +kernel, by decide +kernel⟩
abbrev mX2_plannedUpTo : MI := (yX2_plannedUpTo, cX2_plannedUpTo, 4, (some FieldType.int), 11, 190, [])
theorem cwX2_plannedUpTo : CW mX2_plannedUpTo 1 := ⟨aw_t 868 (by decide +kernel) rfl, aw_t 11 (by decide +kernel) rfl, by decide +kernel, by decide +kernel, by decide +kernel⟩
abbrev mX2_partUpTo : MI := (yX2_partUpTo, cX2_partUpTo, 6, (some FieldType.int), 10, 165, [])
theorem cwX2_partUpTo : CW mX2_partUpTo 2 := ⟨aw_t 872 (by decide +kernel) rfl, aw_t 11 (by decide +kernel) rfl, by decide +kernel, by decide +kernel, by decide +kernel⟩
abbrev mX2_earnedNow : MI := (yX2_earnedNow, cX2_earnedNow, 3, (some FieldType.int), 8, 120, [])
theorem cwX2_earnedNow : CW mX2_earnedNow 0 := ⟨aw_t 856 (by decide +kernel) rfl, aw_t 11 (by decide +kernel) rfl, by decide +kernel, by decide +kernel, by decide +kernel⟩
abbrev mX3_init : MI := (yX3_init, cX3_init, 2, none, 9, 140, [])
theorem cwX3_init : CW mX3_init 1 := ⟨aw_t 258 (by decide +kernel) rfl, aw_t 9 (by decide +kernel) rfl, by decide +kernel, by decide +kernel, by decide +kernel⟩
abbrev mX3_reckon : MI := (yX3_reckon, cX3_reckon, 6, none, 12, 216, [])
theorem cwX3_reckon : CW mX3_reckon 2 := ⟨aw_t 768 (by decide +kernel) rfl, aw_t 9 (by decide +kernel) rfl, by decide +kernel, by decide +kernel, by decide +kernel⟩
abbrev mX3_clear : MI := (yX3_clear, cX3_clear, 2, none, 11, 195, [])
theorem cwX3_clear : CW mX3_clear 0 := ⟨aw_t 772 (by decide +kernel) rfl, aw_t 9 (by decide +kernel) rfl, by decide +kernel, by decide +kernel, by decide +kernel⟩
abbrev mX3_putIn : MI := (yX3_putIn, cX3_putIn, 4, none, 10, 168, [])
theorem cwX3_putIn : CW mX3_putIn 3 := ⟨aw_t 778 (by decide +kernel) rfl, aw_t 9 (by decide +kernel) rfl, by decide +kernel, by decide +kernel, by decide +kernel⟩
abbrev mX3_choose : MI := (yX3_choose, cX3_choose, 7, (some FieldType.int), 9, 143, [])
theorem cwX3_choose : CW mX3_choose 2 := ⟨aw_t 785 (by decide +kernel) rfl, aw_t 9 (by decide +kernel) rfl, by decide +kernel, by decide +kernel, by decide +kernel⟩
abbrev mX3_keyOf : MI := (yX3_keyOf, cX3_keyOf, 4, (some FieldType.int), 8, 120, [])
theorem cwX3_keyOf : CW mX3_keyOf 3 := ⟨aw_t 797 (by decide +kernel) rfl, aw_t 9 (by decide +kernel) rfl, by decide +kernel, by decide +kernel, by decide +kernel⟩
abbrev mX3_isTooLarge : MI := (yX3_isTooLarge, cX3_isTooLarge, 4, (some FieldType.boolean), 8, 120, [])
theorem cwX3_isTooLarge : CW mX3_isTooLarge 1 := ⟨aw_t 789 (by decide +kernel) rfl, aw_t 9 (by decide +kernel) rfl, by decide +kernel, by decide +kernel, by decide +kernel⟩
abbrev mX3_firstWithCrews : MI := (yX3_firstWithCrews, cX3_firstWithCrews, 8, (some FieldType.int), 11, 187, [])
theorem cwX3_firstWithCrews : CW mX3_firstWithCrews 2 := ⟨aw_t 802 (by decide +kernel) rfl, aw_t 9 (by decide +kernel) rfl, by decide +kernel, by decide +kernel, by decide +kernel⟩
abbrev mX3_crewsSuffice : MI := (yX3_crewsSuffice, cX3_crewsSuffice, 5, (some FieldType.boolean), 10, 163, [])
theorem cwX3_crewsSuffice : CW mX3_crewsSuffice 2 := ⟨aw_t 807 (by decide +kernel) rfl, aw_t 9 (by decide +kernel) rfl, by decide +kernel, by decide +kernel, by decide +kernel⟩
abbrev mX3_holdOf : MI := (yX3_holdOf, cX3_holdOf, 5, (some FieldType.int), 12, 213, [])
theorem cwX3_holdOf : CW mX3_holdOf 1 := ⟨aw_t 825 (by decide +kernel) rfl, aw_t 9 (by decide +kernel) rfl, by decide +kernel, by decide +kernel, by decide +kernel⟩
abbrev mX3_linkThatHolds : MI := (yX3_linkThatHolds, cX3_linkThatHolds, 4, (some FieldType.int), 13, 237, [])
theorem cwX3_linkThatHolds : CW mX3_linkThatHolds 1 := ⟨aw_t 830 (by decide +kernel) rfl, aw_t 9 (by decide +kernel) rfl, by decide +kernel, by decide +kernel, by decide +kernel⟩
abbrev mX4_init : MI := (yX4_init, cX4_init, 1, none, 8, 120, [])
theorem cwX4_init : CW mX4_init 0 := ⟨aw_t 137 (by decide +kernel) rfl, aw_t 6 (by decide +kernel) rfl, by decide +kernel, by decide +kernel, by decide +kernel⟩
abbrev mX5_init : MI := (yX5_init, cX5_init, 1, none, 8, 120, [])
theorem cwX5_init : CW mX5_init 0 := ⟨aw_t 266 (by decide +kernel) rfl, aw_t 10 (by decide +kernel) rfl, by decide +kernel, by decide +kernel, by decide +kernel⟩
abbrev mX5_clear : MI := (yX5_clear, cX5_clear, 2, none, 10, 174, [])
theorem cwX5_clear : CW mX5_clear 0 := ⟨aw_t 444 (by decide +kernel) rfl, aw_t 10 (by decide +kernel) rfl, by decide +kernel, by decide +kernel, by decide +kernel⟩
abbrev mX5_add : MI := (yX5_add, cX5_add, 8, none, 9, 141, [])
theorem cwX5_add : CW mX5_add 4 := ⟨aw_t 761 (by decide +kernel) rfl, aw_t 10 (by decide +kernel) rfl, by decide +kernel, by decide +kernel, by decide +kernel⟩
abbrev mX5_on : MI := (yX5_on, cX5_on, 3, (some FieldType.int), 9, 141, [])
theorem cwX5_on : CW mX5_on 2 := ⟨aw_t 811 (by decide +kernel) rfl, aw_t 10 (by decide +kernel) rfl, by decide +kernel, by decide +kernel, by decide +kernel⟩
abbrev mX5_daysAbove : MI := (yX5_daysAbove, cX5_daysAbove, 5, (some FieldType.int), 8, 120, [])
theorem cwX5_daysAbove : CW mX5_daysAbove 2 := ⟨aw_t 843 (by decide +kernel) rfl, aw_t 10 (by decide +kernel) rfl, by decide +kernel, by decide +kernel, by decide +kernel⟩
abbrev mX5_greatest : MI := (yX5_greatest, cX5_greatest, 4, (some FieldType.int), 8, 120, [])
theorem cwX5_greatest : CW mX5_greatest 1 := ⟨aw_t 847 (by decide +kernel) rfl, aw_t 10 (by decide +kernel) rfl, by decide +kernel, by decide +kernel, by decide +kernel⟩
abbrev mX5_leftOver : MI := (yX5_leftOver, cX5_leftOver, 6, (some FieldType.int), 10, 163, [])
theorem cwX5_leftOver : CW mX5_leftOver 3 := ⟨aw_t 851 (by decide +kernel) rfl, aw_t 10 (by decide +kernel) rfl, by decide +kernel, by decide +kernel, by decide +kernel⟩
abbrev mX6_init : MI := (yX6_init, cX6_init, 2, none, 9, 140, [])
theorem cwX6_init : CW mX6_init 1 := ⟨aw_t 210 (by decide +kernel) rfl, aw_t 7 (by decide +kernel) rfl, by decide +kernel, by decide +kernel, by decide +kernel⟩
abbrev mX6_reckonEarly : MI := (yX6_reckonEarly, cX6_reckonEarly, 5, none, 12, 213, [])
theorem cwX6_reckonEarly : CW mX6_reckonEarly 0 := ⟨aw_t 370 (by decide +kernel) rfl, aw_t 7 (by decide +kernel) rfl, by decide +kernel, by decide +kernel, by decide +kernel⟩
abbrev mX6_reckonLate : MI := (yX6_reckonLate, cX6_reckonLate, 5, none, 12, 214, [])
theorem cwX6_reckonLate : CW mX6_reckonLate 0 := ⟨aw_t 420 (by decide +kernel) rfl, aw_t 7 (by decide +kernel) rfl, by decide +kernel, by decide +kernel, by decide +kernel⟩
abbrev mX6_latestDay : MI := (yX6_latestDay, cX6_latestDay, 7, (some FieldType.int), 11, 188, [])
theorem cwX6_latestDay : CW mX6_latestDay 1 := ⟨aw_t 424 (by decide +kernel) rfl, aw_t 7 (by decide +kernel) rfl, by decide +kernel, by decide +kernel, by decide +kernel⟩
abbrev mX6_roomUpTo : MI := (yX6_roomUpTo, cX6_roomUpTo, 4, (some FieldType.int), 10, 165, [])
theorem cwX6_roomUpTo : CW mX6_roomUpTo 2 := ⟨aw_t 436 (by decide +kernel) rfl, aw_t 7 (by decide +kernel) rfl, by decide +kernel, by decide +kernel, by decide +kernel⟩
abbrev mX6_countTight : MI := (yX6_countTight, cX6_countTight, 3, (some FieldType.int), 8, 120, [])
theorem cwX6_countTight : CW mX6_countTight 0 := ⟨aw_t 821 (by decide +kernel) rfl, aw_t 7 (by decide +kernel) rfl, by decide +kernel, by decide +kernel, by decide +kernel⟩
abbrev mX7_init : MI := (yX7_init, cX7_init, 1, none, 8, 120, [])
theorem cwX7_init : CW mX7_init 0 := ⟨aw_t 216 (by decide +kernel) rfl, aw_t 8 (by decide +kernel) rfl, by decide +kernel, by decide +kernel, by decide +kernel⟩
abbrev mX7_set : MI := (yX7_set, cX7_set, 4, none, 8, 120, [])
theorem cwX7_set : CW mX7_set 3 := ⟨aw_t 374 (by decide +kernel) rfl, aw_t 8 (by decide +kernel) rfl, by decide +kernel, by decide +kernel, by decide +kernel⟩
abbrev mX7_beginAsked : MI := (yX7_beginAsked, cX7_beginAsked, 2, (some FieldType.int), 8, 120, [])
theorem cwX7_beginAsked : CW mX7_beginAsked 1 := ⟨aw_t 382 (by decide +kernel) rfl, aw_t 8 (by decide +kernel) rfl, by decide +kernel, by decide +kernel, by decide +kernel⟩
abbrev mX7_endAsked : MI := (yX7_endAsked, cX7_endAsked, 2, (some FieldType.int), 8, 120, [])
theorem cwX7_endAsked : CW mX7_endAsked 1 := ⟨aw_t 389 (by decide +kernel) rfl, aw_t 8 (by decide +kernel) rfl, by decide +kernel, by decide +kernel, by decide +kernel⟩
abbrev mX8_init : MI := (yX8_init, cX8_init, 2, none, 9, 140, [])
theorem cwX8_init : CW mX8_init 0 := ⟨aw_t 43 (by decide +kernel) rfl, aw_t 2 (by decide +kernel) rfl, by decide +kernel, by decide +kernel, by decide +kernel⟩
abbrev mX8_calendarOf : MI := (yX8_calendarOf, cX8_calendarOf, 2, (some (FieldType.object "SlipwayPlan$Calendar")), 8, 120, [])
theorem cwX8_calendarOf : CW mX8_calendarOf 1 := ⟨aw_t 393 (by decide +kernel) rfl, aw_t 2 (by decide +kernel) rfl, by decide +kernel, by decide +kernel, by decide +kernel⟩
abbrev mX8_worthOf : MI := (yX8_worthOf, cX8_worthOf, 4, (some FieldType.int), 8, 120, [])
theorem cwX8_worthOf : CW mX8_worthOf 1 := ⟨aw_t 864 (by decide +kernel) rfl, aw_t 2 (by decide +kernel) rfl, by decide +kernel, by decide +kernel, by decide +kernel⟩
abbrev mX8_appendTask : MI := (yX8_appendTask, cX8_appendTask, 4, (some FieldType.int), 8, 120, [])
theorem cwX8_appendTask : CW mX8_appendTask 2 := ⟨aw_t 958 (by decide +kernel) rfl, aw_t 2 (by decide +kernel) rfl, by decide +kernel, by decide +kernel, by decide +kernel⟩
abbrev mX8_appendLink : MI := (yX8_appendLink, cX8_appendLink, 6, (some FieldType.int), 11, 186, [])
theorem cwX8_appendLink : CW mX8_appendLink 4 := ⟨aw_t 982 (by decide +kernel) rfl, aw_t 2 (by decide +kernel) rfl, by decide +kernel, by decide +kernel, by decide +kernel⟩
abbrev mX8_takeOut : MI := (yX8_takeOut, cX8_takeOut, 4, none, 8, 120, [])
theorem cwX8_takeOut : CW mX8_takeOut 1 := ⟨aw_t 1007 (by decide +kernel) rfl, aw_t 2 (by decide +kernel) rfl, by decide +kernel, by decide +kernel, by decide +kernel⟩
abbrev mX8_reaches : MI := (yX8_reaches, cX8_reaches, 4, (some FieldType.boolean), 9, 142, [])
theorem cwX8_reaches : CW mX8_reaches 2 := ⟨aw_t 970 (by decide +kernel) rfl, aw_t 2 (by decide +kernel) rfl, by decide +kernel, by decide +kernel, by decide +kernel⟩
abbrev mX8_markBehind : MI := (yX8_markBehind, cX8_markBehind, 3, none, 8, 120, [])
theorem cwX8_markBehind : CW mX8_markBehind 1 := ⟨aw_t 978 (by decide +kernel) rfl, aw_t 2 (by decide +kernel) rfl, by decide +kernel, by decide +kernel, by decide +kernel⟩
abbrev mX8_sortTasks : MI := (yX8_sortTasks, cX8_sortTasks, 3, none, 10, 164, [])
theorem cwX8_sortTasks : CW mX8_sortTasks 0 := ⟨aw_t 986 (by decide +kernel) rfl, aw_t 2 (by decide +kernel) rfl, by decide +kernel, by decide +kernel, by decide +kernel⟩
abbrev mX8_firstOpen : MI := (yX8_firstOpen, cX8_firstOpen, 2, (some FieldType.int), 9, 143, [])
theorem cwX8_firstOpen : CW mX8_firstOpen 0 := ⟨aw_t 990 (by decide +kernel) rfl, aw_t 2 (by decide +kernel) rfl, by decide +kernel, by decide +kernel, by decide +kernel⟩
abbrev mX8_clearMarks : MI := (yX8_clearMarks, cX8_clearMarks, 2, none, 8, 120, [])
theorem cwX8_clearMarks : CW mX8_clearMarks 0 := ⟨aw_t 974 (by decide +kernel) rfl, aw_t 2 (by decide +kernel) rfl, by decide +kernel, by decide +kernel, by decide +kernel⟩
abbrev mX8_isOpen : MI := (yX8_isOpen, cX8_isOpen, 4, (some FieldType.boolean), 8, 120, [])
theorem cwX8_isOpen : CW mX8_isOpen 2 := ⟨aw_t 793 (by decide +kernel) rfl, aw_t 2 (by decide +kernel) rfl, by decide +kernel, by decide +kernel, by decide +kernel⟩
abbrev mX8_firstDay : MI := (yX8_firstDay, cX8_firstDay, 6, (some FieldType.int), 11, 188, [])
theorem cwX8_firstDay : CW mX8_firstDay 2 := ⟨aw_t 378 (by decide +kernel) rfl, aw_t 2 (by decide +kernel) rfl, by decide +kernel, by decide +kernel, by decide +kernel⟩
abbrev mX8_firstDayBy : MI := (yX8_firstDayBy, cX8_firstDayBy, 5, (some FieldType.int), 11, 188, [])
theorem cwX8_firstDayBy : CW mX8_firstDayBy 2 := ⟨aw_t 835 (by decide +kernel) rfl, aw_t 2 (by decide +kernel) rfl, by decide +kernel, by decide +kernel, by decide +kernel⟩
abbrev mX9_init : MI := (yX9_init, cX9_init, 1, none, 8, 120, [])
theorem cwX9_init : CW mX9_init 0 := ⟨aw_t 89 (by decide +kernel) rfl, aw_t 5 (by decide +kernel) rfl, by decide +kernel, by decide +kernel, by decide +kernel⟩
abbrev mX10_init : MI := (yX10_init, cX10_init, 1, none, 10, 162, [])
theorem cwX10_init : CW mX10_init 0 := ⟨aw_t 35 (by decide +kernel) rfl, aw_t 1 (by decide +kernel) rfl, by decide +kernel, by decide +kernel, by decide +kernel⟩
abbrev mX10_setWeek : MI := (yX10_setWeek, cX10_setWeek, 5, (some FieldType.int), 10, 161, [])
theorem cwX10_setWeek : CW mX10_setWeek 2 := ⟨aw_t 1042 (by decide +kernel) rfl, aw_t 1 (by decide +kernel) rfl, by decide +kernel, by decide +kernel, by decide +kernel⟩
abbrev mX10_setCrew : MI := (yX10_setCrew, cX10_setCrew, 6, (some FieldType.int), 10, 161, [])
theorem cwX10_setCrew : CW mX10_setCrew 3 := ⟨aw_t 1038 (by decide +kernel) rfl, aw_t 1 (by decide +kernel) rfl, by decide +kernel, by decide +kernel, by decide +kernel⟩
abbrev mX10_addTask : MI := (yX10_addTask, cX10_addTask, 3, (some FieldType.int), 10, 161, [])
theorem cwX10_addTask : CW mX10_addTask 2 := ⟨aw_t 896 (by decide +kernel) rfl, aw_t 1 (by decide +kernel) rfl, by decide +kernel, by decide +kernel, by decide +kernel⟩
abbrev mX10_setLength : MI := (yX10_setLength, cX10_setLength, 5, (some FieldType.int), 10, 162, [])
theorem cwX10_setLength : CW mX10_setLength 2 := ⟨aw_t 1034 (by decide +kernel) rfl, aw_t 1 (by decide +kernel) rfl, by decide +kernel, by decide +kernel, by decide +kernel⟩
abbrev mX10_setTerms : MI := (yX10_setTerms, cX10_setTerms, 6, (some FieldType.int), 10, 162, [])
theorem cwX10_setTerms : CW mX10_setTerms 3 := ⟨aw_t 1026 (by decide +kernel) rfl, aw_t 1 (by decide +kernel) rfl, by decide +kernel, by decide +kernel, by decide +kernel⟩
abbrev mX10_setNeed : MI := (yX10_setNeed, cX10_setNeed, 6, (some FieldType.int), 10, 162, [])
theorem cwX10_setNeed : CW mX10_setNeed 3 := ⟨aw_t 1019 (by decide +kernel) rfl, aw_t 1 (by decide +kernel) rfl, by decide +kernel, by decide +kernel, by decide +kernel⟩
abbrev mX10_link : MI := (yX10_link, cX10_link, 5, (some FieldType.int), 12, 211, [])
theorem cwX10_link : CW mX10_link 4 := ⟨aw_t 962 (by decide +kernel) rfl, aw_t 1 (by decide +kernel) rfl, by decide +kernel, by decide +kernel, by decide +kernel⟩
abbrev mX10_drop : MI := (yX10_drop, cX10_drop, 2, (some FieldType.int), 10, 162, [])
theorem cwX10_drop : CW mX10_drop 1 := ⟨aw_t 999 (by decide +kernel) rfl, aw_t 1 (by decide +kernel) rfl, by decide +kernel, by decide +kernel, by decide +kernel⟩
abbrev mX10_finish : MI := (yX10_finish, cX10_finish, 6, (some FieldType.boolean), 10, 162, [])
theorem cwX10_finish : CW mX10_finish 3 := ⟨aw_t 1030 (by decide +kernel) rfl, aw_t 1 (by decide +kernel) rfl, by decide +kernel, by decide +kernel, by decide +kernel⟩
abbrev mX10_reopen : MI := (yX10_reopen, cX10_reopen, 4, (some FieldType.boolean), 10, 162, [])
theorem cwX10_reopen : CW mX10_reopen 1 := ⟨aw_t 1011 (by decide +kernel) rfl, aw_t 1 (by decide +kernel) rfl, by decide +kernel, by decide +kernel, by decide +kernel⟩
abbrev mX10_setRule : MI := (yX10_setRule, cX10_setRule, 3, (some FieldType.int), 9, 141, [])
theorem cwX10_setRule : CW mX10_setRule 1 := ⟨aw_t 1046 (by decide +kernel) rfl, aw_t 1 (by decide +kernel) rfl, by decide +kernel, by decide +kernel, by decide +kernel⟩
abbrev mX10_tasks : MI := (yX10_tasks, cX10_tasks, 1, (some FieldType.int), 8, 120, [])
theorem cwX10_tasks : CW mX10_tasks 0 := ⟨aw_t 887 (by decide +kernel) rfl, aw_t 1 (by decide +kernel) rfl, by decide +kernel, by decide +kernel, by decide +kernel⟩
abbrev mX10_links : MI := (yX10_links, cX10_links, 1, (some FieldType.int), 8, 120, [])
theorem cwX10_links : CW mX10_links 0 := ⟨aw_t 995 (by decide +kernel) rfl, aw_t 1 (by decide +kernel) rfl, by decide +kernel, by decide +kernel, by decide +kernel⟩
abbrev mX10_earlyBegin : MI := (yX10_earlyBegin, cX10_earlyBegin, 2, (some FieldType.int), 14, 262, [])
theorem cwX10_earlyBegin : CW mX10_earlyBegin 1 := ⟨aw_t 1095 (by decide +kernel) rfl, aw_t 1 (by decide +kernel) rfl, by decide +kernel, by decide +kernel, by decide +kernel⟩
abbrev mX10_earlyEnd : MI := (yX10_earlyEnd, cX10_earlyEnd, 2, (some FieldType.int), 14, 262, [])
theorem cwX10_earlyEnd : CW mX10_earlyEnd 1 := ⟨aw_t 1091 (by decide +kernel) rfl, aw_t 1 (by decide +kernel) rfl, by decide +kernel, by decide +kernel, by decide +kernel⟩
abbrev mX10_lateBegin : MI := (yX10_lateBegin, cX10_lateBegin, 2, (some FieldType.int), 14, 262, [])
theorem cwX10_lateBegin : CW mX10_lateBegin 1 := ⟨aw_t 1099 (by decide +kernel) rfl, aw_t 1 (by decide +kernel) rfl, by decide +kernel, by decide +kernel, by decide +kernel⟩
abbrev mX10_lateEnd : MI := (yX10_lateEnd, cX10_lateEnd, 2, (some FieldType.int), 14, 262, [])
theorem cwX10_lateEnd : CW mX10_lateEnd 1 := ⟨aw_t 1119 (by decide +kernel) rfl, aw_t 1 (by decide +kernel) rfl, by decide +kernel, by decide +kernel, by decide +kernel⟩
abbrev mX10_room : MI := (yX10_room, cX10_room, 2, (some FieldType.int), 14, 262, [])
theorem cwX10_room : CW mX10_room 1 := ⟨aw_t 1107 (by decide +kernel) rfl, aw_t 1 (by decide +kernel) rfl, by decide +kernel, by decide +kernel, by decide +kernel⟩
abbrev mX10_last : MI := (yX10_last, cX10_last, 1, (some FieldType.int), 14, 262, [])
theorem cwX10_last : CW mX10_last 0 := ⟨aw_t 1103 (by decide +kernel) rfl, aw_t 1 (by decide +kernel) rfl, by decide +kernel, by decide +kernel, by decide +kernel⟩
abbrev mX10_tight : MI := (yX10_tight, cX10_tight, 1, (some FieldType.int), 14, 262, [])
theorem cwX10_tight : CW mX10_tight 0 := ⟨aw_t 1127 (by decide +kernel) rfl, aw_t 1 (by decide +kernel) rfl, by decide +kernel, by decide +kernel, by decide +kernel⟩
abbrev mX10_overloaded : MI := (yX10_overloaded, cX10_overloaded, 2, (some FieldType.int), 14, 262, [])
theorem cwX10_overloaded : CW mX10_overloaded 1 := ⟨aw_t 1161 (by decide +kernel) rfl, aw_t 1 (by decide +kernel) rfl, by decide +kernel, by decide +kernel, by decide +kernel⟩
abbrev mX10_begin : MI := (yX10_begin, cX10_begin, 2, (some FieldType.int), 14, 262, [])
theorem cwX10_begin : CW mX10_begin 1 := ⟨aw_t 1087 (by decide +kernel) rfl, aw_t 1 (by decide +kernel) rfl, by decide +kernel, by decide +kernel, by decide +kernel⟩
abbrev mX10_end : MI := (yX10_end, cX10_end, 2, (some FieldType.int), 14, 262, [])
theorem cwX10_end : CW mX10_end 1 := ⟨aw_t 1111 (by decide +kernel) rfl, aw_t 1 (by decide +kernel) rfl, by decide +kernel, by decide +kernel, by decide +kernel⟩
abbrev mX10_levelledLast : MI := (yX10_levelledLast, cX10_levelledLast, 1, (some FieldType.int), 14, 262, [])
theorem cwX10_levelledLast : CW mX10_levelledLast 0 := ⟨aw_t 1115 (by decide +kernel) rfl, aw_t 1 (by decide +kernel) rfl, by decide +kernel, by decide +kernel, by decide +kernel⟩
abbrev mX10_stuck : MI := (yX10_stuck, cX10_stuck, 1, (some FieldType.int), 14, 262, [])
theorem cwX10_stuck : CW mX10_stuck 0 := ⟨aw_t 1065 (by decide +kernel) rfl, aw_t 1 (by decide +kernel) rfl, by decide +kernel, by decide +kernel, by decide +kernel⟩
abbrev mX10_orderAt : MI := (yX10_orderAt, cX10_orderAt, 2, (some FieldType.int), 14, 262, [])
theorem cwX10_orderAt : CW mX10_orderAt 1 := ⟨aw_t 1131 (by decide +kernel) rfl, aw_t 1 (by decide +kernel) rfl, by decide +kernel, by decide +kernel, by decide +kernel⟩
abbrev mX10_used : MI := (yX10_used, cX10_used, 3, (some FieldType.int), 14, 262, [])
theorem cwX10_used : CW mX10_used 2 := ⟨aw_t 1148 (by decide +kernel) rfl, aw_t 1 (by decide +kernel) rfl, by decide +kernel, by decide +kernel, by decide +kernel⟩
abbrev mX10_peak : MI := (yX10_peak, cX10_peak, 2, (some FieldType.int), 14, 262, [])
theorem cwX10_peak : CW mX10_peak 1 := ⟨aw_t 1153 (by decide +kernel) rfl, aw_t 1 (by decide +kernel) rfl, by decide +kernel, by decide +kernel, by decide +kernel⟩
abbrev mX10_holds : MI := (yX10_holds, cX10_holds, 2, (some FieldType.int), 14, 262, [])
theorem cwX10_holds : CW mX10_holds 1 := ⟨aw_t 1015 (by decide +kernel) rfl, aw_t 1 (by decide +kernel) rfl, by decide +kernel, by decide +kernel, by decide +kernel⟩
abbrev mX10_heldBy : MI := (yX10_heldBy, cX10_heldBy, 2, (some FieldType.int), 14, 262, [])
theorem cwX10_heldBy : CW mX10_heldBy 1 := ⟨aw_t 1123 (by decide +kernel) rfl, aw_t 1 (by decide +kernel) rfl, by decide +kernel, by decide +kernel, by decide +kernel⟩
abbrev mX10_idle : MI := (yX10_idle, cX10_idle, 2, (some FieldType.int), 14, 262, [])
theorem cwX10_idle : CW mX10_idle 1 := ⟨aw_t 1157 (by decide +kernel) rfl, aw_t 1 (by decide +kernel) rfl, by decide +kernel, by decide +kernel, by decide +kernel⟩
abbrev mX10_keep : MI := (yX10_keep, cX10_keep, 1, (some FieldType.int), 14, 262, [])
theorem cwX10_keep : CW mX10_keep 0 := ⟨aw_t 1050 (by decide +kernel) rfl, aw_t 1 (by decide +kernel) rfl, by decide +kernel, by decide +kernel, by decide +kernel⟩
abbrev mX10_planned : MI := (yX10_planned, cX10_planned, 2, (some FieldType.int), 12, 213, [])
theorem cwX10_planned : CW mX10_planned 1 := ⟨aw_t 1069 (by decide +kernel) rfl, aw_t 1 (by decide +kernel) rfl, by decide +kernel, by decide +kernel, by decide +kernel⟩
abbrev mX10_earned : MI := (yX10_earned, cX10_earned, 1, (some FieldType.int), 9, 142, [])
theorem cwX10_earned : CW mX10_earned 0 := ⟨aw_t 1076 (by decide +kernel) rfl, aw_t 1 (by decide +kernel) rfl, by decide +kernel, by decide +kernel, by decide +kernel⟩
abbrev mX10_worth : MI := (yX10_worth, cX10_worth, 3, (some FieldType.int), 9, 143, [])
theorem cwX10_worth : CW mX10_worth 0 := ⟨aw_t 860 (by decide +kernel) rfl, aw_t 1 (by decide +kernel) rfl, by decide +kernel, by decide +kernel, by decide +kernel⟩
abbrev mX10_digest : MI := (yX10_digest, cX10_digest, 5, (some FieldType.long), 14, 262, [])
theorem cwX10_digest : CW mX10_digest 0 := ⟨aw_t 362 (by decide +kernel) rfl, aw_t 1 (by decide +kernel) rfl, by decide +kernel, by decide +kernel, by decide +kernel⟩
abbrev mX10_isWithin : MI := (yX10_isWithin, cX10_isWithin, 2, (some FieldType.boolean), 8, 120, [])
theorem cwX10_isWithin : CW mX10_isWithin 2 := ⟨aw_t 814 (by decide +kernel) rfl, aw_t 1 (by decide +kernel) rfl, by decide +kernel, by decide +kernel, by decide +kernel⟩
abbrev mX10_checkIndex : MI := (yX10_checkIndex, cX10_checkIndex, 2, none, 8, 120, [])
theorem cwX10_checkIndex : CW mX10_checkIndex 2 := ⟨aw_t 902 (by decide +kernel) rfl, aw_t 1 (by decide +kernel) rfl, by decide +kernel, by decide +kernel, by decide +kernel⟩
abbrev mX10_checkArgument : MI := (yX10_checkArgument, cX10_checkArgument, 1, none, 8, 120, [])
theorem cwX10_checkArgument : CW mX10_checkArgument 1 := ⟨aw_t 919 (by decide +kernel) rfl, aw_t 1 (by decide +kernel) rfl, by decide +kernel, by decide +kernel, by decide +kernel⟩
abbrev mX10_checkState : MI := (yX10_checkState, cX10_checkState, 1, none, 8, 120, [])
theorem cwX10_checkState : CW mX10_checkState 1 := ⟨aw_t 938 (by decide +kernel) rfl, aw_t 1 (by decide +kernel) rfl, by decide +kernel, by decide +kernel, by decide +kernel⟩
abbrev mX10_checkCalendar : MI := (yX10_checkCalendar, cX10_checkCalendar, 1, none, 9, 141, [])
theorem cwX10_checkCalendar : CW mX10_checkCalendar 1 := ⟨aw_t 899 (by decide +kernel) rfl, aw_t 1 (by decide +kernel) rfl, by decide +kernel, by decide +kernel, by decide +kernel⟩
abbrev mX10_checkCrew : MI := (yX10_checkCrew, cX10_checkCrew, 1, none, 9, 141, [])
theorem cwX10_checkCrew : CW mX10_checkCrew 1 := ⟨aw_t 1022 (by decide +kernel) rfl, aw_t 1 (by decide +kernel) rfl, by decide +kernel, by decide +kernel, by decide +kernel⟩
abbrev mX10_checkAskedDay : MI := (yX10_checkAskedDay, cX10_checkAskedDay, 1, none, 9, 141, [])
theorem cwX10_checkAskedDay : CW mX10_checkAskedDay 1 := ⟨aw_t 1072 (by decide +kernel) rfl, aw_t 1 (by decide +kernel) rfl, by decide +kernel, by decide +kernel, by decide +kernel⟩
abbrev mX10_checkTask : MI := (yX10_checkTask, cX10_checkTask, 2, none, 9, 141, [])
theorem cwX10_checkTask : CW mX10_checkTask 1 := ⟨aw_t 966 (by decide +kernel) rfl, aw_t 1 (by decide +kernel) rfl, by decide +kernel, by decide +kernel, by decide +kernel⟩
abbrev mX10_checkLink : MI := (yX10_checkLink, cX10_checkLink, 2, none, 9, 141, [])
theorem cwX10_checkLink : CW mX10_checkLink 1 := ⟨aw_t 1003 (by decide +kernel) rfl, aw_t 1 (by decide +kernel) rfl, by decide +kernel, by decide +kernel, by decide +kernel⟩
abbrev mX10_refresh : MI := (yX10_refresh, cX10_refresh, 2, none, 13, 241, [])
theorem cwX10_refresh : CW mX10_refresh 0 := ⟨aw_t 366 (by decide +kernel) rfl, aw_t 1 (by decide +kernel) rfl, by decide +kernel, by decide +kernel, by decide +kernel⟩
abbrev mL_below : MI := (yL_below, cL_below, 2, (some FieldType.int), 8, 120, [])
theorem cwL_below : CW mL_below 2 := ⟨aw_t 891 (by decide +kernel) rfl, aw_t 0 (by decide +kernel) rfl, by decide +kernel, by decide +kernel, by decide +kernel⟩
abbrev mL_cell : MI := (yL_cell, cL_cell, 2, (some FieldType.int), 8, 120, [])
theorem cwL_cell : CW mL_cell 2 := ⟨aw_t 877 (by decide +kernel) rfl, aw_t 0 (by decide +kernel) rfl, by decide +kernel, by decide +kernel, by decide +kernel⟩
abbrev mL_law : MI := (yL_law, cL_law, 8, (some .boolean), 17, 331, [])
abbrev mL_act : MI := (yL_act, cL_act, 12, (some FieldType.boolean), 15, 283, [((20), (127), (622), (111)), ((128), (226), (622), (111)), ((227), (318), (622), (111)), ((319), (379), (622), (111)), ((380), (527), (622), (111)), ((528), (618), (622), (111)), ((20), (127), (639), (113)), ((128), (226), (639), (113)), ((227), (318), (639), (113)), ((319), (379), (639), (113)), ((380), (527), (639), (113)), ((528), (618), (639), (113))])
abbrev mL_isDone : MI := (yL_isDone, cL_isDone, 2, (some FieldType.boolean), 15, 283, [])
theorem cwL_isDone : CW mL_isDone 2 := ⟨aw_t 1083 (by decide +kernel) rfl, aw_t 0 (by decide +kernel) rfl, by decide +kernel, by decide +kernel, by decide +kernel⟩
abbrev mL_arePlansRight : MI := (yL_arePlansRight, cL_arePlansRight, 6, (some FieldType.boolean), 16, 304, [])
theorem cwL_arePlansRight : CW mL_arePlansRight 2 := ⟨aw_t 1080 (by decide +kernel) rfl, aw_t 0 (by decide +kernel) rfl, by decide +kernel, by decide +kernel, by decide +kernel⟩
abbrev mL_areLinksRight : MI := (yL_areLinksRight, cL_areLinksRight, 8, (some FieldType.boolean), 16, 304, [])
theorem cwL_areLinksRight : CW mL_areLinksRight 2 := ⟨aw_t 1140 (by decide +kernel) rfl, aw_t 0 (by decide +kernel) rfl, by decide +kernel, by decide +kernel, by decide +kernel⟩
abbrev mL_areCrewsRight : MI := (yL_areCrewsRight, cL_areCrewsRight, 6, (some FieldType.boolean), 16, 304, [])
theorem cwL_areCrewsRight : CW mL_areCrewsRight 2 := ⟨aw_t 1143 (by decide +kernel) rfl, aw_t 0 (by decide +kernel) rfl, by decide +kernel, by decide +kernel, by decide +kernel⟩
abbrev mJ6_bitCount_0f7a4 : MI := (yJ6_bitCount_0f7a4, cJ6_bitCount_0f7a4, 1, (some FieldType.int), 8, 120, [])
theorem cwJ6_bitCount_0f7a4 : CW mJ6_bitCount_0f7a4 1 := ⟨aw_t 1134 (by decide +kernel) rfl, aw_t 30 (by decide +kernel) rfl, by decide +kernel, by decide +kernel, by decide +kernel⟩
abbrev mJ7_rangeCheck_23922 : MI := (yJ7_rangeCheck_23922, cJ7_rangeCheck_23922, 3, none, 8, 120, [])
theorem cwJ7_rangeCheck_23922 : CW mJ7_rangeCheck_23922 3 := ⟨aw_t 450 (by decide +kernel) rfl, aw_t 19 (by decide +kernel) rfl, by decide +kernel, by decide +kernel, by decide +kernel⟩
abbrev mJ7_fill_fda19 : MI := (yJ7_fill_fda19, cJ7_fill_fda19, 5, none, 9, 150, [])
theorem cwJ7_fill_fda19 : CW mJ7_fill_fda19 4 := ⟨aw_t 447 (by decide +kernel) rfl, aw_t 19 (by decide +kernel) rfl, by decide +kernel, by decide +kernel, by decide +kernel⟩
theorem obX0_3 : Cond.methodLink RX0 3 Lib.objectInit ∈ AW := aw_t 57 (by decide +kernel) rfl
theorem acX0_22 : Cond.methodLink RX0 22 arraycopyName ∈ AW := aw_t 1061 (by decide +kernel) rfl
theorem maX0_28 : Cond.methodLink RX0 28 Lib.Math.max.name ∈ AW := aw_t 398 (by decide +kernel) rfl
theorem cvX0_34 : CV RX0 34 mX0_worksOn 1 := ⟨cwX0_worksOn, aw_t 403 (by decide +kernel) rfl, aw_t 404 (by decide +kernel) rfl, aw_t 405 (by decide +kernel) rfl⟩
theorem cvX0_38 : CV RX0 38 mX0_firstFrom 1 := ⟨cwX0_firstFrom, aw_t 399 (by decide +kernel) rfl, aw_t 400 (by decide +kernel) rfl, aw_t 401 (by decide +kernel) rfl⟩
theorem cvX0_42 : CV RX0 42 mX0_countBack 2 := ⟨cwX0_countBack, aw_t 407 (by decide +kernel) rfl, aw_t 408 (by decide +kernel) rfl, aw_t 409 (by decide +kernel) rfl⟩
theorem maX0_45 : Cond.methodLink RX0 45 Lib.Math.min.name ∈ AW := aw_t 432 (by decide +kernel) rfl
theorem obX1_3 : Cond.methodLink RX1 3 Lib.objectInit ∈ AW := aw_t 75 (by decide +kernel) rfl
theorem obX2_3 : Cond.methodLink RX2 3 Lib.objectInit ∈ AW := aw_t 313 (by decide +kernel) rfl
theorem ciX2_11 : CIN RX2 11 mX7_init 0 := ⟨cwX7_init, ⟨RX10, by decide +kernel⟩, aw_t 215 (by decide +kernel) rfl, rfl, rfl⟩
theorem ciX2_36 : CIN RX2 36 mX0_init 0 := ⟨cwX0_init, ⟨RX10, by decide +kernel⟩, aw_t 55 (by decide +kernel) rfl, rfl, rfl⟩
theorem cvX2_53 : CV RX2 53 mX7_set 3 := ⟨cwX7_set, aw_t 1055 (by decide +kernel) rfl, aw_t 372 (by decide +kernel) rfl, aw_t 373 (by decide +kernel) rfl⟩
theorem cvX2_57 : CV RX2 57 mX8_worthOf 1 := ⟨cwX8_worthOf, aw_t 1056 (by decide +kernel) rfl, aw_t 862 (by decide +kernel) rfl, aw_t 863 (by decide +kernel) rfl⟩
theorem cvX2_62 : CV RX2 62 mX0_copyFrom 1 := ⟨cwX0_copyFrom, aw_t 1057 (by decide +kernel) rfl, aw_t 1058 (by decide +kernel) rfl, aw_t 1059 (by decide +kernel) rfl⟩
theorem cvX2_66 : CV RX2 66 mX2_partUpTo 2 := ⟨cwX2_partUpTo, aw_t 869 (by decide +kernel) rfl, aw_t 871 (by decide +kernel) rfl, aw_s 11 (by decide +kernel) rfl⟩
theorem cvX2_79 : CV RX2 79 mX0_countWithin 2 := ⟨cwX0_countWithin, aw_t 873 (by decide +kernel) rfl, aw_t 438 (by decide +kernel) rfl, aw_t 439 (by decide +kernel) rfl⟩
theorem maX2_82 : Cond.methodLink RX2 82 Lib.Math.min.name ∈ AW := aw_t 874 (by decide +kernel) rfl
theorem obX3_3 : Cond.methodLink RX3 3 Lib.objectInit ∈ AW := aw_t 259 (by decide +kernel) rfl
theorem ciX3_11 : CIN RX3 11 mX7_init 0 := ⟨cwX7_init, ⟨RX10, by decide +kernel⟩, aw_t 215 (by decide +kernel) rfl, rfl, rfl⟩
theorem ciX3_20 : CIN RX3 20 mX5_init 0 := ⟨cwX5_init, ⟨RX10, by decide +kernel⟩, aw_t 265 (by decide +kernel) rfl, rfl, rfl⟩
theorem cvX3_37 : CV RX3 37 mX3_clear 0 := ⟨cwX3_clear, aw_t 769 (by decide +kernel) rfl, aw_t 771 (by decide +kernel) rfl, aw_s 4 (by decide +kernel) rfl⟩
theorem cvX3_62 : CV RX3 62 mX3_putIn 3 := ⟨cwX3_putIn, aw_t 775 (by decide +kernel) rfl, aw_t 777 (by decide +kernel) rfl, aw_s 5 (by decide +kernel) rfl⟩
theorem cvX3_66 : CV RX3 66 mX3_choose 2 := ⟨cwX3_choose, aw_t 782 (by decide +kernel) rfl, aw_t 784 (by decide +kernel) rfl, aw_s 6 (by decide +kernel) rfl⟩
theorem cvX3_70 : CV RX3 70 mX8_firstDay 2 := ⟨cwX8_firstDay, aw_t 798 (by decide +kernel) rfl, aw_t 376 (by decide +kernel) rfl, aw_t 377 (by decide +kernel) rfl⟩
theorem cvX3_74 : CV RX3 74 mX3_firstWithCrews 2 := ⟨cwX3_firstWithCrews, aw_t 799 (by decide +kernel) rfl, aw_t 801 (by decide +kernel) rfl, aw_s 9 (by decide +kernel) rfl⟩
theorem cvX3_78 : CV RX3 78 mX8_calendarOf 1 := ⟨cwX8_calendarOf, aw_t 779 (by decide +kernel) rfl, aw_t 391 (by decide +kernel) rfl, aw_t 392 (by decide +kernel) rfl⟩
theorem cvX3_85 : CV RX3 85 mX0_endOf 2 := ⟨cwX0_endOf, aw_t 815 (by decide +kernel) rfl, aw_t 413 (by decide +kernel) rfl, aw_t 414 (by decide +kernel) rfl⟩
theorem cvX3_90 : CV RX3 90 mX5_clear 0 := ⟨cwX5_clear, aw_t 773 (by decide +kernel) rfl, aw_t 442 (by decide +kernel) rfl, aw_t 443 (by decide +kernel) rfl⟩
theorem cvX3_97 : CV RX3 97 mX7_set 3 := ⟨cwX7_set, aw_t 774 (by decide +kernel) rfl, aw_t 372 (by decide +kernel) rfl, aw_t 373 (by decide +kernel) rfl⟩
theorem cvX3_100 : CV RX3 100 mX5_add 4 := ⟨cwX5_add, aw_t 780 (by decide +kernel) rfl, aw_t 759 (by decide +kernel) rfl, aw_t 760 (by decide +kernel) rfl⟩
theorem maX3_104 : Cond.methodLink RX3 104 Lib.Math.max.name ∈ AW := aw_t 781 (by decide +kernel) rfl
theorem cvX3_109 : CV RX3 109 mX3_isTooLarge 1 := ⟨cwX3_isTooLarge, aw_t 786 (by decide +kernel) rfl, aw_t 788 (by decide +kernel) rfl, aw_s 7 (by decide +kernel) rfl⟩
theorem cvX3_113 : CV RX3 113 mX8_isOpen 2 := ⟨cwX8_isOpen, aw_t 790 (by decide +kernel) rfl, aw_t 791 (by decide +kernel) rfl, aw_t 792 (by decide +kernel) rfl⟩
theorem cvX3_117 : CV RX3 117 mX3_keyOf 3 := ⟨cwX3_keyOf, aw_t 794 (by decide +kernel) rfl, aw_t 796 (by decide +kernel) rfl, aw_s 8 (by decide +kernel) rfl⟩
theorem cvX3_147 : CV RX3 147 mX0_worksOn 1 := ⟨cwX0_worksOn, aw_t 803 (by decide +kernel) rfl, aw_t 404 (by decide +kernel) rfl, aw_t 405 (by decide +kernel) rfl⟩
theorem cvX3_150 : CV RX3 150 mX3_crewsSuffice 2 := ⟨cwX3_crewsSuffice, aw_t 804 (by decide +kernel) rfl, aw_t 806 (by decide +kernel) rfl, aw_s 10 (by decide +kernel) rfl⟩
theorem cvX3_154 : CV RX3 154 mX5_on 2 := ⟨cwX5_on, aw_t 808 (by decide +kernel) rfl, aw_t 809 (by decide +kernel) rfl, aw_t 810 (by decide +kernel) rfl⟩
theorem cvX3_160 : CV RX3 160 mX0_firstBegin 3 := ⟨cwX0_firstBegin, aw_t 826 (by decide +kernel) rfl, aw_t 395 (by decide +kernel) rfl, aw_t 396 (by decide +kernel) rfl⟩
theorem cvX3_164 : CV RX3 164 mX3_holdOf 1 := ⟨cwX3_holdOf, aw_t 831 (by decide +kernel) rfl, aw_t 823 (by decide +kernel) rfl, aw_t 824 (by decide +kernel) rfl⟩
theorem cvX3_180 : CV RX3 180 mX8_firstDayBy 2 := ⟨cwX8_firstDayBy, aw_t 832 (by decide +kernel) rfl, aw_t 833 (by decide +kernel) rfl, aw_t 834 (by decide +kernel) rfl⟩
theorem obX4_1 : Cond.methodLink RX4 1 Lib.objectInit ∈ AW := aw_t 138 (by decide +kernel) rfl
theorem obX5_3 : Cond.methodLink RX5 3 Lib.objectInit ∈ AW := aw_t 267 (by decide +kernel) rfl
theorem csX5_20 : CS RX5 20 mJ7_fill_fda19 4 := ⟨cwJ7_fill_fda19, aw_t 445 (by decide +kernel) rfl, aw_t 446 (by decide +kernel) rfl⟩
theorem maX5_26 : Cond.methodLink RX5 26 Lib.Math.min.name ∈ AW := aw_t 762 (by decide +kernel) rfl
theorem maX5_32 : Cond.methodLink RX5 32 Lib.Math.max.name ∈ AW := aw_t 763 (by decide +kernel) rfl
theorem cvX5_35 : CV RX5 35 mX0_worksOn 1 := ⟨cwX0_worksOn, aw_t 764 (by decide +kernel) rfl, aw_t 404 (by decide +kernel) rfl, aw_t 405 (by decide +kernel) rfl⟩
theorem csX5_47 : CSN RX5 47 mX10_isWithin 2 := ⟨cwX10_isWithin, ⟨RX10, by decide +kernel⟩, aw_t 813 (by decide +kernel) rfl⟩
theorem cvX5_51 : CV RX5 51 mX5_on 2 := ⟨cwX5_on, aw_t 852 (by decide +kernel) rfl, aw_t 809 (by decide +kernel) rfl, aw_t 810 (by decide +kernel) rfl⟩
theorem obX6_3 : Cond.methodLink RX6 3 Lib.objectInit ∈ AW := aw_t 211 (by decide +kernel) rfl
theorem ciX6_11 : CIN RX6 11 mX7_init 0 := ⟨cwX7_init, ⟨RX10, by decide +kernel⟩, aw_t 215 (by decide +kernel) rfl, rfl, rfl⟩
theorem cvX6_57 : CV RX6 57 mX7_set 3 := ⟨cwX7_set, aw_t 371 (by decide +kernel) rfl, aw_t 372 (by decide +kernel) rfl, aw_t 373 (by decide +kernel) rfl⟩
theorem cvX6_61 : CV RX6 61 mX8_firstDay 2 := ⟨cwX8_firstDay, aw_t 375 (by decide +kernel) rfl, aw_t 376 (by decide +kernel) rfl, aw_t 377 (by decide +kernel) rfl⟩
theorem cvX6_65 : CV RX6 65 mX8_calendarOf 1 := ⟨cwX8_calendarOf, aw_t 411 (by decide +kernel) rfl, aw_t 391 (by decide +kernel) rfl, aw_t 392 (by decide +kernel) rfl⟩
theorem cvX6_72 : CV RX6 72 mX0_endOf 2 := ⟨cwX0_endOf, aw_t 412 (by decide +kernel) rfl, aw_t 413 (by decide +kernel) rfl, aw_t 414 (by decide +kernel) rfl⟩
theorem maX6_81 : Cond.methodLink RX6 81 Lib.Math.max.name ∈ AW := aw_t 416 (by decide +kernel) rfl
theorem cvX6_86 : CV RX6 86 mX6_latestDay 1 := ⟨cwX6_latestDay, aw_t 421 (by decide +kernel) rfl, aw_t 423 (by decide +kernel) rfl, aw_s 1 (by decide +kernel) rfl⟩
theorem cvX6_90 : CV RX6 90 mX6_roomUpTo 2 := ⟨cwX6_roomUpTo, aw_t 433 (by decide +kernel) rfl, aw_t 435 (by decide +kernel) rfl, aw_s 2 (by decide +kernel) rfl⟩
theorem maX6_117 : Cond.methodLink RX6 117 Lib.Math.min.name ∈ AW := aw_t 425 (by decide +kernel) rfl
theorem cvX6_120 : CV RX6 120 mX0_latestBegin 3 := ⟨cwX0_latestBegin, aw_t 428 (by decide +kernel) rfl, aw_t 429 (by decide +kernel) rfl, aw_t 430 (by decide +kernel) rfl⟩
theorem cvX6_124 : CV RX6 124 mX0_countWithin 2 := ⟨cwX0_countWithin, aw_t 437 (by decide +kernel) rfl, aw_t 438 (by decide +kernel) rfl, aw_t 439 (by decide +kernel) rfl⟩
theorem obX7_3 : Cond.methodLink RX7 3 Lib.objectInit ∈ AW := aw_t 217 (by decide +kernel) rfl
theorem obX8_3 : Cond.methodLink RX8 3 Lib.objectInit ∈ AW := aw_t 44 (by decide +kernel) rfl
theorem ciX8_43 : CIN RX8 43 mX0_init 0 := ⟨cwX0_init, ⟨RX10, by decide +kernel⟩, aw_t 55 (by decide +kernel) rfl, rfl, rfl⟩
theorem ciX8_44 : CIN RX8 44 mX1_init 0 := ⟨cwX1_init, ⟨RX10, by decide +kernel⟩, aw_t 73 (by decide +kernel) rfl, rfl, rfl⟩
theorem ciX8_45 : CIN RX8 45 mX9_init 0 := ⟨cwX9_init, ⟨RX10, by decide +kernel⟩, aw_t 88 (by decide +kernel) rfl, rfl, rfl⟩
theorem ciX8_46 : CIN RX8 46 mX4_init 0 := ⟨cwX4_init, ⟨RX10, by decide +kernel⟩, aw_t 136 (by decide +kernel) rfl, rfl, rfl⟩
theorem cvX8_78 : CV RX8 78 mX8_sortTasks 0 := ⟨cwX8_sortTasks, aw_t 983 (by decide +kernel) rfl, aw_t 984 (by decide +kernel) rfl, aw_t 985 (by decide +kernel) rfl⟩
theorem cvX8_81 : CV RX8 81 mX8_clearMarks 0 := ⟨cwX8_clearMarks, aw_t 971 (by decide +kernel) rfl, aw_t 972 (by decide +kernel) rfl, aw_t 973 (by decide +kernel) rfl⟩
theorem cvX8_84 : CV RX8 84 mX8_markBehind 1 := ⟨cwX8_markBehind, aw_t 975 (by decide +kernel) rfl, aw_t 976 (by decide +kernel) rfl, aw_t 977 (by decide +kernel) rfl⟩
theorem cvX8_88 : CV RX8 88 mX8_firstOpen 0 := ⟨cwX8_firstOpen, aw_t 987 (by decide +kernel) rfl, aw_t 988 (by decide +kernel) rfl, aw_t 989 (by decide +kernel) rfl⟩
theorem cvX8_92 : CV RX8 92 mX8_isOpen 2 := ⟨cwX8_isOpen, aw_t 991 (by decide +kernel) rfl, aw_t 791 (by decide +kernel) rfl, aw_t 792 (by decide +kernel) rfl⟩
theorem cvX8_99 : CV RX8 99 mX7_beginAsked 1 := ⟨cwX7_beginAsked, aw_t 379 (by decide +kernel) rfl, aw_t 380 (by decide +kernel) rfl, aw_t 381 (by decide +kernel) rfl⟩
theorem maX8_105 : Cond.methodLink RX8 105 Lib.Math.max.name ∈ AW := aw_t 383 (by decide +kernel) rfl
theorem cvX8_111 : CV RX8 111 mX7_endAsked 1 := ⟨cwX7_endAsked, aw_t 386 (by decide +kernel) rfl, aw_t 387 (by decide +kernel) rfl, aw_t 388 (by decide +kernel) rfl⟩
theorem cvX8_114 : CV RX8 114 mX8_calendarOf 1 := ⟨cwX8_calendarOf, aw_t 390 (by decide +kernel) rfl, aw_t 391 (by decide +kernel) rfl, aw_t 392 (by decide +kernel) rfl⟩
theorem cvX8_118 : CV RX8 118 mX0_firstBegin 3 := ⟨cwX0_firstBegin, aw_t 394 (by decide +kernel) rfl, aw_t 395 (by decide +kernel) rfl, aw_t 396 (by decide +kernel) rfl⟩
theorem obX9_3 : Cond.methodLink RX9 3 Lib.objectInit ∈ AW := aw_t 90 (by decide +kernel) rfl
theorem obX10_1 : Cond.methodLink RX10 1 Lib.objectInit ∈ AW := aw_t 36 (by decide +kernel) rfl
theorem ciX10_9 : CI RX10 9 mX8_init 0 := ⟨cwX8_init, aw_t 41 (by decide +kernel) rfl, aw_t 42 (by decide +kernel) rfl, rfl, rfl⟩
theorem ciX10_18 : CI RX10 18 mX6_init 1 := ⟨cwX6_init, aw_t 208 (by decide +kernel) rfl, aw_t 209 (by decide +kernel) rfl, rfl, rfl⟩
theorem ciX10_27 : CI RX10 27 mX3_init 1 := ⟨cwX3_init, aw_t 256 (by decide +kernel) rfl, aw_t 257 (by decide +kernel) rfl, rfl, rfl⟩
theorem ciX10_34 : CIN RX10 34 mX5_init 0 := ⟨cwX5_init, ⟨RX10, by decide +kernel⟩, aw_t 265 (by decide +kernel) rfl, rfl, rfl⟩
theorem ciX10_47 : CI RX10 47 mX2_init 1 := ⟨cwX2_init, aw_t 310 (by decide +kernel) rfl, aw_t 311 (by decide +kernel) rfl, rfl, rfl⟩
theorem csX10_56 : CS RX10 56 mX10_checkCalendar 1 := ⟨cwX10_checkCalendar, aw_t 897 (by decide +kernel) rfl, aw_t 898 (by decide +kernel) rfl⟩
theorem csX10_60 : CS RX10 60 mX10_checkArgument 1 := ⟨cwX10_checkArgument, aw_t 917 (by decide +kernel) rfl, aw_t 918 (by decide +kernel) rfl⟩
theorem csX10_92 : CS RX10 92 mX10_checkCrew 1 := ⟨cwX10_checkCrew, aw_t 1020 (by decide +kernel) rfl, aw_t 1021 (by decide +kernel) rfl⟩
theorem csX10_74 : CS RX10 74 mX10_isWithin 2 := ⟨cwX10_isWithin, aw_t 916 (by decide +kernel) rfl, aw_t 813 (by decide +kernel) rfl⟩
theorem csX10_85 : CS RX10 85 mX10_checkState 1 := ⟨cwX10_checkState, aw_t 936 (by decide +kernel) rfl, aw_t 937 (by decide +kernel) rfl⟩
theorem cvX10_110 : CV RX10 110 mX8_appendTask 2 := ⟨cwX8_appendTask, aw_t 955 (by decide +kernel) rfl, aw_t 956 (by decide +kernel) rfl, aw_t 957 (by decide +kernel) rfl⟩
theorem cvX10_114 : CV RX10 114 mX10_checkTask 1 := ⟨cwX10_checkTask, aw_t 963 (by decide +kernel) rfl, aw_t 965 (by decide +kernel) rfl, aw_s 12 (by decide +kernel) rfl⟩
theorem cvX10_139 : CV RX10 139 mX8_reaches 2 := ⟨cwX8_reaches, aw_t 967 (by decide +kernel) rfl, aw_t 968 (by decide +kernel) rfl, aw_t 969 (by decide +kernel) rfl⟩
theorem cvX10_142 : CV RX10 142 mX8_appendLink 4 := ⟨cwX8_appendLink, aw_t 979 (by decide +kernel) rfl, aw_t 980 (by decide +kernel) rfl, aw_t 981 (by decide +kernel) rfl⟩
theorem cvX10_146 : CV RX10 146 mX10_checkLink 1 := ⟨cwX10_checkLink, aw_t 1000 (by decide +kernel) rfl, aw_t 1002 (by decide +kernel) rfl, aw_s 13 (by decide +kernel) rfl⟩
theorem cvX10_149 : CV RX10 149 mX8_takeOut 1 := ⟨cwX8_takeOut, aw_t 1004 (by decide +kernel) rfl, aw_t 1005 (by decide +kernel) rfl, aw_t 1006 (by decide +kernel) rfl⟩
theorem cvX10_171 : CV RX10 171 mX10_refresh 0 := ⟨cwX10_refresh, aw_t 363 (by decide +kernel) rfl, aw_t 365 (by decide +kernel) rfl, aw_s 0 (by decide +kernel) rfl⟩
theorem cvX10_195 : CV RX10 195 mX6_countTight 0 := ⟨cwX6_countTight, aw_t 818 (by decide +kernel) rfl, aw_t 819 (by decide +kernel) rfl, aw_t 820 (by decide +kernel) rfl⟩
theorem cvX10_202 : CV RX10 202 mX5_daysAbove 2 := ⟨cwX5_daysAbove, aw_t 840 (by decide +kernel) rfl, aw_t 841 (by decide +kernel) rfl, aw_t 842 (by decide +kernel) rfl⟩
theorem csX10_212 : CS RX10 212 mX10_checkIndex 2 := ⟨cwX10_checkIndex, aw_t 900 (by decide +kernel) rfl, aw_t 901 (by decide +kernel) rfl⟩
theorem csX10_164 : CS RX10 164 mX10_checkAskedDay 1 := ⟨cwX10_checkAskedDay, aw_t 1070 (by decide +kernel) rfl, aw_t 1071 (by decide +kernel) rfl⟩
theorem cvX10_199 : CV RX10 199 mX5_on 2 := ⟨cwX5_on, aw_t 1149 (by decide +kernel) rfl, aw_t 809 (by decide +kernel) rfl, aw_t 810 (by decide +kernel) rfl⟩
theorem cvX10_222 : CV RX10 222 mX5_greatest 1 := ⟨cwX5_greatest, aw_t 844 (by decide +kernel) rfl, aw_t 845 (by decide +kernel) rfl, aw_t 846 (by decide +kernel) rfl⟩
theorem cvX10_226 : CV RX10 226 mX3_holdOf 1 := ⟨cwX3_holdOf, aw_t 822 (by decide +kernel) rfl, aw_t 823 (by decide +kernel) rfl, aw_t 824 (by decide +kernel) rfl⟩
theorem cvX10_229 : CV RX10 229 mX3_linkThatHolds 1 := ⟨cwX3_linkThatHolds, aw_t 827 (by decide +kernel) rfl, aw_t 828 (by decide +kernel) rfl, aw_t 829 (by decide +kernel) rfl⟩
theorem cvX10_232 : CV RX10 232 mX5_leftOver 3 := ⟨cwX5_leftOver, aw_t 848 (by decide +kernel) rfl, aw_t 849 (by decide +kernel) rfl, aw_t 850 (by decide +kernel) rfl⟩
theorem cvX10_236 : CV RX10 236 mX2_take 1 := ⟨cwX2_take, aw_t 1051 (by decide +kernel) rfl, aw_t 1052 (by decide +kernel) rfl, aw_t 1053 (by decide +kernel) rfl⟩
theorem cvX10_244 : CV RX10 244 mX2_plannedUpTo 1 := ⟨cwX2_plannedUpTo, aw_t 865 (by decide +kernel) rfl, aw_t 866 (by decide +kernel) rfl, aw_t 867 (by decide +kernel) rfl⟩
theorem cvX10_247 : CV RX10 247 mX2_earnedNow 0 := ⟨cwX2_earnedNow, aw_t 853 (by decide +kernel) rfl, aw_t 854 (by decide +kernel) rfl, aw_t 855 (by decide +kernel) rfl⟩
theorem cvX10_250 : CV RX10 250 mX8_worthOf 1 := ⟨cwX8_worthOf, aw_t 861 (by decide +kernel) rfl, aw_t 862 (by decide +kernel) rfl, aw_t 863 (by decide +kernel) rfl⟩
theorem cvX10_240 : CV RX10 240 mX2_delayOf 2 := ⟨cwX2_delayOf, aw_t 836 (by decide +kernel) rfl, aw_t 837 (by decide +kernel) rfl, aw_t 838 (by decide +kernel) rfl⟩
theorem cvX10_273 : CV RX10 273 mX10_worth 0 := ⟨cwX10_worth, aw_t 857 (by decide +kernel) rfl, aw_t 858 (by decide +kernel) rfl, aw_t 859 (by decide +kernel) rfl⟩
theorem cvX10_260 : CV RX10 260 mX6_reckonEarly 0 := ⟨cwX6_reckonEarly, aw_t 367 (by decide +kernel) rfl, aw_t 368 (by decide +kernel) rfl, aw_t 369 (by decide +kernel) rfl⟩
theorem cvX10_263 : CV RX10 263 mX6_reckonLate 0 := ⟨cwX6_reckonLate, aw_t 417 (by decide +kernel) rfl, aw_t 418 (by decide +kernel) rfl, aw_t 419 (by decide +kernel) rfl⟩
theorem cvX10_293 : CV RX10 293 mX5_clear 0 := ⟨cwX5_clear, aw_t 441 (by decide +kernel) rfl, aw_t 442 (by decide +kernel) rfl, aw_t 443 (by decide +kernel) rfl⟩
theorem cvX10_296 : CV RX10 296 mX8_calendarOf 1 := ⟨cwX8_calendarOf, aw_t 757 (by decide +kernel) rfl, aw_t 391 (by decide +kernel) rfl, aw_t 392 (by decide +kernel) rfl⟩
theorem cvX10_300 : CV RX10 300 mX5_add 4 := ⟨cwX5_add, aw_t 758 (by decide +kernel) rfl, aw_t 759 (by decide +kernel) rfl, aw_t 760 (by decide +kernel) rfl⟩
theorem cvX10_256 : CV RX10 256 mX3_reckon 2 := ⟨cwX3_reckon, aw_t 765 (by decide +kernel) rfl, aw_t 766 (by decide +kernel) rfl, aw_t 767 (by decide +kernel) rfl⟩
theorem ciL_11 : CI RL 11 mX10_init 0 := ⟨cwX10_init, aw_t 33 (by decide +kernel) rfl, aw_t 34 (by decide +kernel) rfl, rfl, rfl⟩
theorem csL_14 : CS RL 14 mL_cell 2 := ⟨cwL_cell, aw_t 875 (by decide +kernel) rfl, aw_t 876 (by decide +kernel) rfl⟩
theorem cvL_24 : CV RL 24 mX10_digest 0 := ⟨cwX10_digest, aw_t 359 (by decide +kernel) rfl, aw_t 360 (by decide +kernel) rfl, aw_t 361 (by decide +kernel) rfl⟩
theorem csL_28 : CS RL 28 mL_arePlansRight 2 := ⟨cwL_arePlansRight, aw_t 1078 (by decide +kernel) rfl, aw_t 1079 (by decide +kernel) rfl⟩
theorem csL_32 : CS RL 32 mL_areLinksRight 2 := ⟨cwL_areLinksRight, aw_t 1138 (by decide +kernel) rfl, aw_t 1139 (by decide +kernel) rfl⟩
theorem csL_36 : CS RL 36 mL_areCrewsRight 2 := ⟨cwL_areCrewsRight, aw_t 1141 (by decide +kernel) rfl, aw_t 1142 (by decide +kernel) rfl⟩
theorem cvL_39 : CV RL 39 mX10_tasks 0 := ⟨cwX10_tasks, aw_t 884 (by decide +kernel) rfl, aw_t 885 (by decide +kernel) rfl, aw_t 886 (by decide +kernel) rfl⟩
theorem maL_43 : Cond.methodLink RL 43 Lib.Math.max.name ∈ AW := aw_t 888 (by decide +kernel) rfl
theorem csL_49 : CS RL 49 mL_below 2 := ⟨cwL_below, aw_t 889 (by decide +kernel) rfl, aw_t 890 (by decide +kernel) rfl⟩
theorem cvL_52 : CV RL 52 mX10_addTask 2 := ⟨cwX10_addTask, aw_t 893 (by decide +kernel) rfl, aw_t 894 (by decide +kernel) rfl, aw_t 895 (by decide +kernel) rfl⟩
theorem cvL_55 : CV RL 55 mX10_link 4 := ⟨cwX10_link, aw_t 959 (by decide +kernel) rfl, aw_t 960 (by decide +kernel) rfl, aw_t 961 (by decide +kernel) rfl⟩
theorem cvL_59 : CV RL 59 mX10_links 0 := ⟨cwX10_links, aw_t 992 (by decide +kernel) rfl, aw_t 993 (by decide +kernel) rfl, aw_t 994 (by decide +kernel) rfl⟩
theorem cvL_62 : CV RL 62 mX10_drop 1 := ⟨cwX10_drop, aw_t 996 (by decide +kernel) rfl, aw_t 997 (by decide +kernel) rfl, aw_t 998 (by decide +kernel) rfl⟩
theorem cvL_66 : CV RL 66 mX10_reopen 1 := ⟨cwX10_reopen, aw_t 1008 (by decide +kernel) rfl, aw_t 1009 (by decide +kernel) rfl, aw_t 1010 (by decide +kernel) rfl⟩
theorem cvL_70 : CV RL 70 mX10_holds 1 := ⟨cwX10_holds, aw_t 1012 (by decide +kernel) rfl, aw_t 1013 (by decide +kernel) rfl, aw_t 1014 (by decide +kernel) rfl⟩
theorem cvL_73 : CV RL 73 mX10_setNeed 3 := ⟨cwX10_setNeed, aw_t 1016 (by decide +kernel) rfl, aw_t 1017 (by decide +kernel) rfl, aw_t 1018 (by decide +kernel) rfl⟩
theorem cvL_77 : CV RL 77 mX10_setTerms 3 := ⟨cwX10_setTerms, aw_t 1023 (by decide +kernel) rfl, aw_t 1024 (by decide +kernel) rfl, aw_t 1025 (by decide +kernel) rfl⟩
theorem cvL_80 : CV RL 80 mX10_finish 3 := ⟨cwX10_finish, aw_t 1027 (by decide +kernel) rfl, aw_t 1028 (by decide +kernel) rfl, aw_t 1029 (by decide +kernel) rfl⟩
theorem cvL_84 : CV RL 84 mX10_setLength 2 := ⟨cwX10_setLength, aw_t 1031 (by decide +kernel) rfl, aw_t 1032 (by decide +kernel) rfl, aw_t 1033 (by decide +kernel) rfl⟩
theorem cvL_87 : CV RL 87 mX10_setCrew 3 := ⟨cwX10_setCrew, aw_t 1035 (by decide +kernel) rfl, aw_t 1036 (by decide +kernel) rfl, aw_t 1037 (by decide +kernel) rfl⟩
theorem cvL_90 : CV RL 90 mX10_setWeek 2 := ⟨cwX10_setWeek, aw_t 1039 (by decide +kernel) rfl, aw_t 1040 (by decide +kernel) rfl, aw_t 1041 (by decide +kernel) rfl⟩
theorem cvL_93 : CV RL 93 mX10_setRule 1 := ⟨cwX10_setRule, aw_t 1043 (by decide +kernel) rfl, aw_t 1044 (by decide +kernel) rfl, aw_t 1045 (by decide +kernel) rfl⟩
theorem cvL_96 : CV RL 96 mX10_keep 0 := ⟨cwX10_keep, aw_t 1047 (by decide +kernel) rfl, aw_t 1048 (by decide +kernel) rfl, aw_t 1049 (by decide +kernel) rfl⟩
theorem cvL_99 : CV RL 99 mX10_stuck 0 := ⟨cwX10_stuck, aw_t 1062 (by decide +kernel) rfl, aw_t 1063 (by decide +kernel) rfl, aw_t 1064 (by decide +kernel) rfl⟩
theorem cvL_102 : CV RL 102 mX10_planned 1 := ⟨cwX10_planned, aw_t 1066 (by decide +kernel) rfl, aw_t 1067 (by decide +kernel) rfl, aw_t 1068 (by decide +kernel) rfl⟩
theorem cvL_105 : CV RL 105 mX10_earned 0 := ⟨cwX10_earned, aw_t 1073 (by decide +kernel) rfl, aw_t 1074 (by decide +kernel) rfl, aw_t 1075 (by decide +kernel) rfl⟩
theorem cvL_108 : CV RL 108 mX10_worth 0 := ⟨cwX10_worth, aw_t 1077 (by decide +kernel) rfl, aw_t 858 (by decide +kernel) rfl, aw_t 859 (by decide +kernel) rfl⟩
theorem cvL_115 : CV RL 115 mX10_begin 1 := ⟨cwX10_begin, aw_t 1084 (by decide +kernel) rfl, aw_t 1085 (by decide +kernel) rfl, aw_t 1086 (by decide +kernel) rfl⟩
theorem csL_118 : CS RL 118 mL_isDone 2 := ⟨cwL_isDone, aw_t 1081 (by decide +kernel) rfl, aw_t 1082 (by decide +kernel) rfl⟩
theorem cvL_122 : CV RL 122 mX10_earlyEnd 1 := ⟨cwX10_earlyEnd, aw_t 1088 (by decide +kernel) rfl, aw_t 1089 (by decide +kernel) rfl, aw_t 1090 (by decide +kernel) rfl⟩
theorem cvL_125 : CV RL 125 mX10_earlyBegin 1 := ⟨cwX10_earlyBegin, aw_t 1092 (by decide +kernel) rfl, aw_t 1093 (by decide +kernel) rfl, aw_t 1094 (by decide +kernel) rfl⟩
theorem cvL_128 : CV RL 128 mX10_lateBegin 1 := ⟨cwX10_lateBegin, aw_t 1096 (by decide +kernel) rfl, aw_t 1097 (by decide +kernel) rfl, aw_t 1098 (by decide +kernel) rfl⟩
theorem cvL_131 : CV RL 131 mX10_last 0 := ⟨cwX10_last, aw_t 1100 (by decide +kernel) rfl, aw_t 1101 (by decide +kernel) rfl, aw_t 1102 (by decide +kernel) rfl⟩
theorem cvL_134 : CV RL 134 mX10_room 1 := ⟨cwX10_room, aw_t 1104 (by decide +kernel) rfl, aw_t 1105 (by decide +kernel) rfl, aw_t 1106 (by decide +kernel) rfl⟩
theorem cvL_137 : CV RL 137 mX10_end 1 := ⟨cwX10_end, aw_t 1108 (by decide +kernel) rfl, aw_t 1109 (by decide +kernel) rfl, aw_t 1110 (by decide +kernel) rfl⟩
theorem cvL_140 : CV RL 140 mX10_levelledLast 0 := ⟨cwX10_levelledLast, aw_t 1112 (by decide +kernel) rfl, aw_t 1113 (by decide +kernel) rfl, aw_t 1114 (by decide +kernel) rfl⟩
theorem cvL_143 : CV RL 143 mX10_lateEnd 1 := ⟨cwX10_lateEnd, aw_t 1116 (by decide +kernel) rfl, aw_t 1117 (by decide +kernel) rfl, aw_t 1118 (by decide +kernel) rfl⟩
theorem cvL_146 : CV RL 146 mX10_heldBy 1 := ⟨cwX10_heldBy, aw_t 1120 (by decide +kernel) rfl, aw_t 1121 (by decide +kernel) rfl, aw_t 1122 (by decide +kernel) rfl⟩
theorem cvL_149 : CV RL 149 mX10_tight 0 := ⟨cwX10_tight, aw_t 1124 (by decide +kernel) rfl, aw_t 1125 (by decide +kernel) rfl, aw_t 1126 (by decide +kernel) rfl⟩
theorem cvL_152 : CV RL 152 mX10_orderAt 1 := ⟨cwX10_orderAt, aw_t 1128 (by decide +kernel) rfl, aw_t 1129 (by decide +kernel) rfl, aw_t 1130 (by decide +kernel) rfl⟩
theorem csL_155 : CS RL 155 mJ6_bitCount_0f7a4 1 := ⟨cwJ6_bitCount_0f7a4, aw_t 1132 (by decide +kernel) rfl, aw_t 1133 (by decide +kernel) rfl⟩
theorem maL_160 : Cond.methodLink RL 160 Lib.Math.min.name ∈ AW := aw_t 1144 (by decide +kernel) rfl
theorem cvL_163 : CV RL 163 mX10_used 2 := ⟨cwX10_used, aw_t 1145 (by decide +kernel) rfl, aw_t 1146 (by decide +kernel) rfl, aw_t 1147 (by decide +kernel) rfl⟩
theorem cvL_166 : CV RL 166 mX10_peak 1 := ⟨cwX10_peak, aw_t 1150 (by decide +kernel) rfl, aw_t 1151 (by decide +kernel) rfl, aw_t 1152 (by decide +kernel) rfl⟩
theorem cvL_169 : CV RL 169 mX10_idle 1 := ⟨cwX10_idle, aw_t 1154 (by decide +kernel) rfl, aw_t 1155 (by decide +kernel) rfl, aw_t 1156 (by decide +kernel) rfl⟩
theorem cvL_172 : CV RL 172 mX10_overloaded 1 := ⟨cwX10_overloaded, aw_t 1158 (by decide +kernel) rfl, aw_t 1159 (by decide +kernel) rfl, aw_t 1160 (by decide +kernel) rfl⟩
theorem csJ7_13 : CS RJ7 13 mJ7_rangeCheck_23922 3 := ⟨cwJ7_rangeCheck_23922, aw_t 448 (by decide +kernel) rfl, aw_t 449 (by decide +kernel) rfl⟩
theorem clX10_7 : Cond.classLink RX10 7 RX8 ∈ AW := aw_t 39 (by decide +kernel) rfl
theorem clX10_16 : Cond.classLink RX10 16 RX6 ∈ AW := aw_t 206 (by decide +kernel) rfl
theorem clX10_25 : Cond.classLink RX10 25 RX3 ∈ AW := aw_t 254 (by decide +kernel) rfl
theorem clX10_32 : Cond.classLink RX10 32 RX5 ∈ AW := aw_t 306 (by decide +kernel) rfl
theorem clX10_45 : Cond.classLink RX10 45 RX2 ∈ AW := aw_t 308 (by decide +kernel) rfl
theorem clX10_276 : Cond.classLink RX10 276 "java/lang/IndexOutOfBoundsException" ∈ AW := aw_t 903 (by decide +kernel) rfl
theorem clX10_283 : Cond.classLink RX10 283 "java/lang/IllegalArgumentException" ∈ AW := aw_t 920 (by decide +kernel) rfl
theorem clX10_288 : Cond.classLink RX10 288 "java/lang/IllegalStateException" ∈ AW := aw_t 939 (by decide +kernel) rfl
theorem clX2_9 : Cond.classLink RX2 9 RX7 ∈ AW := aw_t 314 (by decide +kernel) rfl
theorem clX2_26 : Cond.classLink RX2 26 RX0 ∈ AW := aw_t 316 (by decide +kernel) rfl
theorem clX3_9 : Cond.classLink RX3 9 RX7 ∈ AW := aw_t 260 (by decide +kernel) rfl
theorem clX3_18 : Cond.classLink RX3 18 RX5 ∈ AW := aw_t 262 (by decide +kernel) rfl
theorem clX5_9 : Cond.classLink RX5 9 "[[I" ∈ AW := aw_t 268 (by decide +kernel) rfl
theorem clX6_9 : Cond.classLink RX6 9 RX7 ∈ AW := aw_t 212 (by decide +kernel) rfl
theorem clX8_9 : Cond.classLink RX8 9 RX0 ∈ AW := aw_t 45 (by decide +kernel) rfl
theorem clX8_17 : Cond.classLink RX8 17 RX1 ∈ AW := aw_t 47 (by decide +kernel) rfl
theorem clX8_23 : Cond.classLink RX8 23 RX9 ∈ AW := aw_t 49 (by decide +kernel) rfl
theorem clX8_29 : Cond.classLink RX8 29 RX4 ∈ AW := aw_t 51 (by decide +kernel) rfl
theorem clL_9 : Cond.classLink RL 9 RX10 ∈ AW := aw_t 31 (by decide +kernel) rfl
theorem clL_12 : Cond.classLink RL 12 "[[I" ∈ AW := aw_t 1162 (by decide +kernel) rfl
theorem clL_111 : Cond.classLink RL 111 "java/lang/IndexOutOfBoundsException" ∈ AW := aw_t 882 (by decide +kernel) rfl
theorem clL_113 : Cond.classLink RL 113 "java/lang/IllegalStateException" ∈ AW := aw_t 883 (by decide +kernel) rfl
theorem clJ7_68 : Cond.classLink RJ7 68 "java/lang/ArrayIndexOutOfBoundsException" ∈ AW := aw_t 451 (by decide +kernel) rfl
theorem clJ7_311 : Cond.classLink RJ7 311 "[B" ∈ AW := aw_t 568 (by decide +kernel) rfl
theorem isX10 : Cond.instantiable RX10 8 ∈ AW := aw_t 32 (by decide +kernel) rfl
theorem isX8 : Cond.instantiable RX8 9 ∈ AW := aw_t 40 (by decide +kernel) rfl
theorem isX0 : Cond.instantiable RX0 3 ∈ AW := aw_t 53 (by decide +kernel) rfl
theorem isX1 : Cond.instantiable RX1 2 ∈ AW := aw_t 71 (by decide +kernel) rfl
theorem isX9 : Cond.instantiable RX9 8 ∈ AW := aw_t 86 (by decide +kernel) rfl
theorem isX4 : Cond.instantiable RX4 4 ∈ AW := aw_t 134 (by decide +kernel) rfl
theorem isX6 : Cond.instantiable RX6 5 ∈ AW := aw_t 207 (by decide +kernel) rfl
theorem isX7 : Cond.instantiable RX7 2 ∈ AW := aw_t 213 (by decide +kernel) rfl
theorem isX3 : Cond.instantiable RX3 7 ∈ AW := aw_t 255 (by decide +kernel) rfl
theorem isX5 : Cond.instantiable RX5 2 ∈ AW := aw_t 263 (by decide +kernel) rfl
theorem isX2 : Cond.instantiable RX2 5 ∈ AW := aw_t 309 (by decide +kernel) rfl
theorem inL : Cond.initialized RL ∈ AW := aw_t 0 (by decide +kernel) rfl
theorem inX10 : Cond.initialized RX10 ∈ AW := aw_t 1 (by decide +kernel) rfl
theorem inX8 : Cond.initialized RX8 ∈ AW := aw_t 2 (by decide +kernel) rfl
theorem inX0 : Cond.initialized RX0 ∈ AW := aw_t 3 (by decide +kernel) rfl
theorem inX1 : Cond.initialized RX1 ∈ AW := aw_t 4 (by decide +kernel) rfl
theorem inX9 : Cond.initialized RX9 ∈ AW := aw_t 5 (by decide +kernel) rfl
theorem inX4 : Cond.initialized RX4 ∈ AW := aw_t 6 (by decide +kernel) rfl
theorem inX6 : Cond.initialized RX6 ∈ AW := aw_t 7 (by decide +kernel) rfl
theorem inX7 : Cond.initialized RX7 ∈ AW := aw_t 8 (by decide +kernel) rfl
theorem inX3 : Cond.initialized RX3 ∈ AW := aw_t 9 (by decide +kernel) rfl
theorem inX5 : Cond.initialized RX5 ∈ AW := aw_t 10 (by decide +kernel) rfl
theorem inX2 : Cond.initialized RX2 ∈ AW := aw_t 11 (by decide +kernel) rfl
theorem inJ7 : Cond.initialized RJ7 ∈ AW := aw_t 19 (by decide +kernel) rfl
theorem inJ6 : Cond.initialized RJ6 ∈ AW := aw_t 30 (by decide +kernel) rfl
theorem ar_int : Cond.arrayClass .int ∈ AW := aw_t 69 (by decide +kernel) rfl
theorem ar_boolean : Cond.arrayClass .boolean ∈ AW := aw_t 70 (by decide +kernel) rfl
theorem ctX10_269 : Cond.constantLong RX10 269 2633 ∈ AW := aw_t 816 (by decide +kernel) rfl
theorem ctX10_271 : Cond.constantLong RX10 271 31 ∈ AW := aw_t 817 (by decide +kernel) rfl
theorem ctL_8 : Cond.constant RL 8 790386105 ∈ AW := aw_t 878 (by decide +kernel) rfl
theorem ctL_7 : Cond.constant RL 7 2147483647 ∈ AW := aw_t 892 (by decide +kernel) rfl
theorem ctJ6_265 : Cond.constant RJ6 265 1431655765 ∈ AW := aw_t 1135 (by decide +kernel) rfl
theorem ctJ6_266 : Cond.constant RJ6 266 858993459 ∈ AW := aw_t 1136 (by decide +kernel) rfl
theorem ctJ6_267 : Cond.constant RJ6 267 252645135 ∈ AW := aw_t 1137 (by decide +kernel) rfl
theorem w_obj : Cond.instanceMethod Lib.objectInit ∈ AW ∧ Cond.code Lib.objectInit ⟨#[0xb1]⟩ 1 none ∈ AW := ⟨aw_t 37 (by decide +kernel) rfl, aw_t 38 (by decide +kernel) rfl⟩
theorem w_max : (Cond.static Lib.Math.max.name ∈ AW ∧ Cond.initialized "java/lang/Math" ∈ AW) ∧ Cond.code Lib.Math.max.name Lib.Math.max.code 2 (some .int) ∈ AW := ⟨⟨aw_t 384 (by decide +kernel) rfl, aw_t 12 (by decide +kernel) rfl⟩, aw_t 385 (by decide +kernel) rfl⟩
theorem w_min : (Cond.static Lib.Math.min.name ∈ AW ∧ Cond.initialized "java/lang/Math" ∈ AW) ∧ Cond.code Lib.Math.min.name Lib.Math.min.code 2 (some .int) ∈ AW := ⟨⟨aw_t 426 (by decide +kernel) rfl, aw_t 12 (by decide +kernel) rfl⟩, aw_t 427 (by decide +kernel) rfl⟩
theorem w_arr : wArr := ⟨⟨aw_t 572 (by decide +kernel) rfl, aw_t 571 (by decide +kernel) rfl⟩, aw_t 26 (by decide +kernel) rfl⟩
