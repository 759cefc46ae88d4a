theorem dX0_init_0 : decode cX0_init 0 = .ok (.aload_n 0, 1) := by decide +kernel
theorem dX0_init_1 : decode cX0_init 1 = .ok (.invokespecial 3, 3) := by decide +kernel
theorem dX0_init_4 : decode cX0_init 4 = .ok (.aload_n 0, 1) := by decide +kernel
theorem dX0_init_5 : decode cX0_init 5 = .ok (.bipush 31, 2) := by decide +kernel
theorem dX0_init_7 : decode cX0_init 7 = .ok (.putfield 9, 3) := by decide +kernel
theorem dX0_init_10 : decode cX0_init 10 = .ok (.aload_n 0, 1) := by decide +kernel
theorem dX0_init_11 : decode cX0_init 11 = .ok (.sipush 1000, 3) := by decide +kernel
theorem dX0_init_14 : decode cX0_init 14 = .ok (.newarray .boolean, 2) := by decide +kernel
theorem dX0_init_16 : decode cX0_init 16 = .ok (.putfield 15, 3) := by decide +kernel
theorem dX0_init_19 : decode cX0_init 19 = .ok (.return_, 1) := by decide +kernel
theorem dX0_copyFrom_0 : decode cX0_copyFrom 0 = .ok (.aload_n 0, 1) := by decide +kernel
theorem dX0_copyFrom_1 : decode cX0_copyFrom 1 = .ok (.aload_n 1, 1) := by decide +kernel
theorem dX0_copyFrom_2 : decode cX0_copyFrom 2 = .ok (.getfield 9, 3) := by decide +kernel
theorem dX0_copyFrom_5 : decode cX0_copyFrom 5 = .ok (.putfield 9, 3) := by decide +kernel
theorem dX0_copyFrom_8 : decode cX0_copyFrom 8 = .ok (.aload_n 0, 1) := by decide +kernel
theorem dX0_copyFrom_9 : decode cX0_copyFrom 9 = .ok (.aload_n 1, 1) := by decide +kernel
theorem dX0_copyFrom_10 : decode cX0_copyFrom 10 = .ok (.getfield 19, 3) := by decide +kernel
theorem dX0_copyFrom_13 : decode cX0_copyFrom 13 = .ok (.putfield 19, 3) := by decide +kernel
theorem dX0_copyFrom_16 : decode cX0_copyFrom 16 = .ok (.aload_n 1, 1) := by decide +kernel
theorem dX0_copyFrom_17 : decode cX0_copyFrom 17 = .ok (.getfield 15, 3) := by decide +kernel
theorem dX0_copyFrom_20 : decode cX0_copyFrom 20 = .ok (.iconst 0, 1) := by decide +kernel
theorem dX0_copyFrom_21 : decode cX0_copyFrom 21 = .ok (.aload_n 0, 1) := by decide +kernel
theorem dX0_copyFrom_22 : decode cX0_copyFrom 22 = .ok (.getfield 15, 3) := by decide +kernel
theorem dX0_copyFrom_25 : decode cX0_copyFrom 25 = .ok (.iconst 0, 1) := by decide +kernel
theorem dX0_copyFrom_26 : decode cX0_copyFrom 26 = .ok (.sipush 1000, 3) := by decide +kernel
theorem dX0_copyFrom_29 : decode cX0_copyFrom 29 = .ok (.invokestatic 22, 3) := by decide +kernel
theorem dX0_copyFrom_32 : decode cX0_copyFrom 32 = .ok (.return_, 1) := by decide +kernel
theorem dX0_worksOn_0 : decode cX0_worksOn 0 = .ok (.iload_n 1, 1) := by decide +kernel
theorem dX0_worksOn_1 : decode cX0_worksOn 1 = .ok (.ifCond .lt 17, 3) := by decide +kernel
theorem dX0_worksOn_4 : decode cX0_worksOn 4 = .ok (.aload_n 0, 1) := by decide +kernel
theorem dX0_worksOn_5 : decode cX0_worksOn 5 = .ok (.getfield 9, 3) := by decide +kernel
theorem dX0_worksOn_8 : decode cX0_worksOn 8 = .ok (.iload_n 1, 1) := by decide +kernel
theorem dX0_worksOn_9 : decode cX0_worksOn 9 = .ok (.bipush 7, 2) := by decide +kernel
theorem dX0_worksOn_11 : decode cX0_worksOn 11 = .ok (.irem, 1) := by decide +kernel
theorem dX0_worksOn_12 : decode cX0_worksOn 12 = .ok (.ishr, 1) := by decide +kernel
theorem dX0_worksOn_13 : decode cX0_worksOn 13 = .ok (.iconst 1, 1) := by decide +kernel
theorem dX0_worksOn_14 : decode cX0_worksOn 14 = .ok (.iand, 1) := by decide +kernel
theorem dX0_worksOn_15 : decode cX0_worksOn 15 = .ok (.ifCond .ne 5, 3) := by decide +kernel
theorem dX0_worksOn_18 : decode cX0_worksOn 18 = .ok (.iconst 0, 1) := by decide +kernel
theorem dX0_worksOn_19 : decode cX0_worksOn 19 = .ok (.ireturn, 1) := by decide +kernel
theorem dX0_worksOn_20 : decode cX0_worksOn 20 = .ok (.iload_n 1, 1) := by decide +kernel
theorem dX0_worksOn_21 : decode cX0_worksOn 21 = .ok (.sipush 1000, 3) := by decide +kernel
theorem dX0_worksOn_24 : decode cX0_worksOn 24 = .ok (.if_icmp .ge 12, 3) := by decide +kernel
theorem dX0_worksOn_27 : decode cX0_worksOn 27 = .ok (.aload_n 0, 1) := by decide +kernel
theorem dX0_worksOn_28 : decode cX0_worksOn 28 = .ok (.getfield 15, 3) := by decide +kernel
theorem dX0_worksOn_31 : decode cX0_worksOn 31 = .ok (.iload_n 1, 1) := by decide +kernel
theorem dX0_worksOn_32 : decode cX0_worksOn 32 = .ok (.baload, 1) := by decide +kernel
theorem dX0_worksOn_33 : decode cX0_worksOn 33 = .ok (.ifCond .ne 7, 3) := by decide +kernel
theorem dX0_worksOn_36 : decode cX0_worksOn 36 = .ok (.iconst 1, 1) := by decide +kernel
theorem dX0_worksOn_37 : decode cX0_worksOn 37 = .ok (.goto 4, 3) := by decide +kernel
theorem dX0_worksOn_40 : decode cX0_worksOn 40 = .ok (.iconst 0, 1) := by decide +kernel
theorem dX0_worksOn_41 : decode cX0_worksOn 41 = .ok (.ireturn, 1) := by decide +kernel
theorem dX0_firstFrom_0 : decode cX0_firstFrom 0 = .ok (.iload_n 1, 1) := by decide +kernel
theorem dX0_firstFrom_1 : decode cX0_firstFrom 1 = .ok (.iconst 0, 1) := by decide +kernel
theorem dX0_firstFrom_2 : decode cX0_firstFrom 2 = .ok (.invokestatic 28, 3) := by decide +kernel
theorem dX0_firstFrom_5 : decode cX0_firstFrom 5 = .ok (.istore_n 2, 1) := by decide +kernel
theorem dX0_firstFrom_6 : decode cX0_firstFrom 6 = .ok (.iload_n 2, 1) := by decide +kernel
theorem dX0_firstFrom_7 : decode cX0_firstFrom 7 = .ok (.sipush 5000, 3) := by decide +kernel
theorem dX0_firstFrom_10 : decode cX0_firstFrom 10 = .ok (.if_icmp .ge 17, 3) := by decide +kernel
theorem dX0_firstFrom_13 : decode cX0_firstFrom 13 = .ok (.aload_n 0, 1) := by decide +kernel
theorem dX0_firstFrom_14 : decode cX0_firstFrom 14 = .ok (.iload_n 2, 1) := by decide +kernel
theorem dX0_firstFrom_15 : decode cX0_firstFrom 15 = .ok (.invokevirtual 34, 3) := by decide +kernel
theorem dX0_firstFrom_18 : decode cX0_firstFrom 18 = .ok (.ifCond .ne 9, 3) := by decide +kernel
theorem dX0_firstFrom_21 : decode cX0_firstFrom 21 = .ok (.iinc 2 1, 3) := by decide +kernel
theorem dX0_firstFrom_24 : decode cX0_firstFrom 24 = .ok (.goto (-18), 3) := by decide +kernel
theorem dX0_firstFrom_27 : decode cX0_firstFrom 27 = .ok (.iload_n 2, 1) := by decide +kernel
theorem dX0_firstFrom_28 : decode cX0_firstFrom 28 = .ok (.ireturn, 1) := by decide +kernel
theorem dX0_countBack_0 : decode cX0_countBack 0 = .ok (.iload_n 2, 1) := by decide +kernel
theorem dX0_countBack_1 : decode cX0_countBack 1 = .ok (.istore_n 3, 1) := by decide +kernel
theorem dX0_countBack_2 : decode cX0_countBack 2 = .ok (.iload_n 1, 1) := by decide +kernel
theorem dX0_countBack_3 : decode cX0_countBack 3 = .ok (.istore 4, 2) := by decide +kernel
theorem dX0_countBack_5 : decode cX0_countBack 5 = .ok (.iload 4, 2) := by decide +kernel
theorem dX0_countBack_7 : decode cX0_countBack 7 = .ok (.ifCond .lt 28, 3) := by decide +kernel
theorem dX0_countBack_10 : decode cX0_countBack 10 = .ok (.aload_n 0, 1) := by decide +kernel
theorem dX0_countBack_11 : decode cX0_countBack 11 = .ok (.iload 4, 2) := by decide +kernel
theorem dX0_countBack_13 : decode cX0_countBack 13 = .ok (.invokevirtual 34, 3) := by decide +kernel
theorem dX0_countBack_16 : decode cX0_countBack 16 = .ok (.ifCond .eq 13, 3) := by decide +kernel
theorem dX0_countBack_19 : decode cX0_countBack 19 = .ok (.iinc 3 (-1), 3) := by decide +kernel
theorem dX0_countBack_22 : decode cX0_countBack 22 = .ok (.iload_n 3, 1) := by decide +kernel
theorem dX0_countBack_23 : decode cX0_countBack 23 = .ok (.ifCond .gt 6, 3) := by decide +kernel
theorem dX0_countBack_26 : decode cX0_countBack 26 = .ok (.iload 4, 2) := by decide +kernel
theorem dX0_countBack_28 : decode cX0_countBack 28 = .ok (.ireturn, 1) := by decide +kernel
theorem dX0_countBack_29 : decode cX0_countBack 29 = .ok (.iinc 4 (-1), 3) := by decide +kernel
theorem dX0_countBack_32 : decode cX0_countBack 32 = .ok (.goto (-27), 3) := by decide +kernel
theorem dX0_countBack_35 : decode cX0_countBack 35 = .ok (.iconst (-1), 1) := by decide +kernel
theorem dX0_countBack_36 : decode cX0_countBack 36 = .ok (.ireturn, 1) := by decide +kernel
theorem dX0_countWithin_0 : decode cX0_countWithin 0 = .ok (.iconst 0, 1) := by decide +kernel
theorem dX0_countWithin_1 : decode cX0_countWithin 1 = .ok (.istore_n 3, 1) := by decide +kernel
theorem dX0_countWithin_2 : decode cX0_countWithin 2 = .ok (.iload_n 1, 1) := by decide +kernel
theorem dX0_countWithin_3 : decode cX0_countWithin 3 = .ok (.istore 4, 2) := by decide +kernel
theorem dX0_countWithin_5 : decode cX0_countWithin 5 = .ok (.iload 4, 2) := by decide +kernel
theorem dX0_countWithin_7 : decode cX0_countWithin 7 = .ok (.iload_n 2, 1) := by decide +kernel
theorem dX0_countWithin_8 : decode cX0_countWithin 8 = .ok (.if_icmp .ge 21, 3) := by decide +kernel
theorem dX0_countWithin_11 : decode cX0_countWithin 11 = .ok (.aload_n 0, 1) := by decide +kernel
theorem dX0_countWithin_12 : decode cX0_countWithin 12 = .ok (.iload 4, 2) := by decide +kernel
theorem dX0_countWithin_14 : decode cX0_countWithin 14 = .ok (.invokevirtual 34, 3) := by decide +kernel
theorem dX0_countWithin_17 : decode cX0_countWithin 17 = .ok (.ifCond .eq 6, 3) := by decide +kernel
theorem dX0_countWithin_20 : decode cX0_countWithin 20 = .ok (.iinc 3 1, 3) := by decide +kernel
theorem dX0_countWithin_23 : decode cX0_countWithin 23 = .ok (.iinc 4 1, 3) := by decide +kernel
theorem dX0_countWithin_26 : decode cX0_countWithin 26 = .ok (.goto (-21), 3) := by decide +kernel
theorem dX0_countWithin_29 : decode cX0_countWithin 29 = .ok (.iload_n 3, 1) := by decide +kernel
theorem dX0_countWithin_30 : decode cX0_countWithin 30 = .ok (.ireturn, 1) := by decide +kernel
theorem dX0_endOf_0 : decode cX0_endOf 0 = .ok (.iload_n 1, 1) := by decide +kernel
theorem dX0_endOf_1 : decode cX0_endOf 1 = .ok (.istore_n 3, 1) := by decide +kernel
theorem dX0_endOf_2 : decode cX0_endOf 2 = .ok (.iload_n 2, 1) := by decide +kernel
theorem dX0_endOf_3 : decode cX0_endOf 3 = .ok (.istore 4, 2) := by decide +kernel
theorem dX0_endOf_5 : decode cX0_endOf 5 = .ok (.iload 4, 2) := by decide +kernel
theorem dX0_endOf_7 : decode cX0_endOf 7 = .ok (.ifCond .le 27, 3) := by decide +kernel
theorem dX0_endOf_10 : decode cX0_endOf 10 = .ok (.iload_n 3, 1) := by decide +kernel
theorem dX0_endOf_11 : decode cX0_endOf 11 = .ok (.sipush 5000, 3) := by decide +kernel
theorem dX0_endOf_14 : decode cX0_endOf 14 = .ok (.if_icmp .ge 20, 3) := by decide +kernel
theorem dX0_endOf_17 : decode cX0_endOf 17 = .ok (.aload_n 0, 1) := by decide +kernel
theorem dX0_endOf_18 : decode cX0_endOf 18 = .ok (.iload_n 3, 1) := by decide +kernel
theorem dX0_endOf_19 : decode cX0_endOf 19 = .ok (.invokevirtual 34, 3) := by decide +kernel
theorem dX0_endOf_22 : decode cX0_endOf 22 = .ok (.ifCond .eq 6, 3) := by decide +kernel
theorem dX0_endOf_25 : decode cX0_endOf 25 = .ok (.iinc 4 (-1), 3) := by decide +kernel
theorem dX0_endOf_28 : decode cX0_endOf 28 = .ok (.iinc 3 1, 3) := by decide +kernel
theorem dX0_endOf_31 : decode cX0_endOf 31 = .ok (.goto (-26), 3) := by decide +kernel
theorem dX0_endOf_34 : decode cX0_endOf 34 = .ok (.iload_n 3, 1) := by decide +kernel
theorem dX0_endOf_35 : decode cX0_endOf 35 = .ok (.ireturn, 1) := by decide +kernel
theorem dX0_firstBegin_0 : decode cX0_firstBegin 0 = .ok (.iload_n 1, 1) := by decide +kernel
theorem dX0_firstBegin_1 : decode cX0_firstBegin 1 = .ok (.ifCond .ne 9, 3) := by decide +kernel
theorem dX0_firstBegin_4 : decode cX0_firstBegin 4 = .ok (.iload_n 2, 1) := by decide +kernel
theorem dX0_firstBegin_5 : decode cX0_firstBegin 5 = .ok (.iload_n 3, 1) := by decide +kernel
theorem dX0_firstBegin_6 : decode cX0_firstBegin 6 = .ok (.invokestatic 28, 3) := by decide +kernel
theorem dX0_firstBegin_9 : decode cX0_firstBegin 9 = .ok (.ireturn, 1) := by decide +kernel
theorem dX0_firstBegin_10 : decode cX0_firstBegin 10 = .ok (.aload_n 0, 1) := by decide +kernel
theorem dX0_firstBegin_11 : decode cX0_firstBegin 11 = .ok (.iload_n 2, 1) := by decide +kernel
theorem dX0_firstBegin_12 : decode cX0_firstBegin 12 = .ok (.invokevirtual 38, 3) := by decide +kernel
theorem dX0_firstBegin_15 : decode cX0_firstBegin 15 = .ok (.aload_n 0, 1) := by decide +kernel
theorem dX0_firstBegin_16 : decode cX0_firstBegin 16 = .ok (.aload_n 0, 1) := by decide +kernel
theorem dX0_firstBegin_17 : decode cX0_firstBegin 17 = .ok (.iload_n 3, 1) := by decide +kernel
theorem dX0_firstBegin_18 : decode cX0_firstBegin 18 = .ok (.iconst 1, 1) := by decide +kernel
theorem dX0_firstBegin_19 : decode cX0_firstBegin 19 = .ok (.isub, 1) := by decide +kernel
theorem dX0_firstBegin_20 : decode cX0_firstBegin 20 = .ok (.invokevirtual 38, 3) := by decide +kernel
theorem dX0_firstBegin_23 : decode cX0_firstBegin 23 = .ok (.iload_n 1, 1) := by decide +kernel
theorem dX0_firstBegin_24 : decode cX0_firstBegin 24 = .ok (.invokevirtual 42, 3) := by decide +kernel
theorem dX0_firstBegin_27 : decode cX0_firstBegin 27 = .ok (.invokestatic 28, 3) := by decide +kernel
theorem dX0_firstBegin_30 : decode cX0_firstBegin 30 = .ok (.ireturn, 1) := by decide +kernel
theorem dX0_latestBegin_0 : decode cX0_latestBegin 0 = .ok (.iload_n 1, 1) := by decide +kernel
theorem dX0_latestBegin_1 : decode cX0_latestBegin 1 = .ok (.ifCond .ne 9, 3) := by decide +kernel
theorem dX0_latestBegin_4 : decode cX0_latestBegin 4 = .ok (.iload_n 2, 1) := by decide +kernel
theorem dX0_latestBegin_5 : decode cX0_latestBegin 5 = .ok (.iload_n 3, 1) := by decide +kernel
theorem dX0_latestBegin_6 : decode cX0_latestBegin 6 = .ok (.invokestatic 45, 3) := by decide +kernel
theorem dX0_latestBegin_9 : decode cX0_latestBegin 9 = .ok (.ireturn, 1) := by decide +kernel
theorem dX0_latestBegin_10 : decode cX0_latestBegin 10 = .ok (.aload_n 0, 1) := by decide +kernel
theorem dX0_latestBegin_11 : decode cX0_latestBegin 11 = .ok (.iload_n 2, 1) := by decide +kernel
theorem dX0_latestBegin_12 : decode cX0_latestBegin 12 = .ok (.iconst 1, 1) := by decide +kernel
theorem dX0_latestBegin_13 : decode cX0_latestBegin 13 = .ok (.invokevirtual 42, 3) := by decide +kernel
theorem dX0_latestBegin_16 : decode cX0_latestBegin 16 = .ok (.aload_n 0, 1) := by decide +kernel
theorem dX0_latestBegin_17 : decode cX0_latestBegin 17 = .ok (.iload_n 3, 1) := by decide +kernel
theorem dX0_latestBegin_18 : decode cX0_latestBegin 18 = .ok (.iconst 1, 1) := by decide +kernel
theorem dX0_latestBegin_19 : decode cX0_latestBegin 19 = .ok (.isub, 1) := by decide +kernel
theorem dX0_latestBegin_20 : decode cX0_latestBegin 20 = .ok (.iload_n 1, 1) := by decide +kernel
theorem dX0_latestBegin_21 : decode cX0_latestBegin 21 = .ok (.invokevirtual 42, 3) := by decide +kernel
theorem dX0_latestBegin_24 : decode cX0_latestBegin 24 = .ok (.invokestatic 45, 3) := by decide +kernel
theorem dX0_latestBegin_27 : decode cX0_latestBegin 27 = .ok (.ireturn, 1) := by decide +kernel
theorem dX1_init_0 : decode cX1_init 0 = .ok (.aload_n 0, 1) := by decide +kernel
theorem dX1_init_1 : decode cX1_init 1 = .ok (.invokespecial 3, 3) := by decide +kernel
theorem dX1_init_4 : decode cX1_init 4 = .ok (.aload_n 0, 1) := by decide +kernel
theorem dX1_init_5 : decode cX1_init 5 = .ok (.bipush 9, 2) := by decide +kernel
theorem dX1_init_7 : decode cX1_init 7 = .ok (.putfield 9, 3) := by decide +kernel
theorem dX1_init_10 : decode cX1_init 10 = .ok (.return_, 1) := by decide +kernel
theorem dX2_init_0 : decode cX2_init 0 = .ok (.aload_n 0, 1) := by decide +kernel
theorem dX2_init_1 : decode cX2_init 1 = .ok (.invokespecial 3, 3) := by decide +kernel
theorem dX2_init_4 : decode cX2_init 4 = .ok (.aload_n 0, 1) := by decide +kernel
theorem dX2_init_5 : decode cX2_init 5 = .ok (.new 9, 3) := by decide +kernel
theorem dX2_init_8 : decode cX2_init 8 = .ok (.dup, 1) := by decide +kernel
theorem dX2_init_9 : decode cX2_init 9 = .ok (.invokespecial 11, 3) := by decide +kernel
theorem dX2_init_12 : decode cX2_init 12 = .ok (.putfield 12, 3) := by decide +kernel
theorem dX2_init_15 : decode cX2_init 15 = .ok (.aload_n 0, 1) := by decide +kernel
theorem dX2_init_16 : decode cX2_init 16 = .ok (.bipush 24, 2) := by decide +kernel
theorem dX2_init_18 : decode cX2_init 18 = .ok (.newarray .boolean, 2) := by decide +kernel
theorem dX2_init_20 : decode cX2_init 20 = .ok (.putfield 18, 3) := by decide +kernel
theorem dX2_init_23 : decode cX2_init 23 = .ok (.aload_n 0, 1) := by decide +kernel
theorem dX2_init_24 : decode cX2_init 24 = .ok (.bipush 24, 2) := by decide +kernel
theorem dX2_init_26 : decode cX2_init 26 = .ok (.newarray .int, 2) := by decide +kernel
theorem dX2_init_28 : decode cX2_init 28 = .ok (.putfield 22, 3) := by decide +kernel
theorem dX2_init_31 : decode cX2_init 31 = .ok (.aload_n 0, 1) := by decide +kernel
theorem dX2_init_32 : decode cX2_init 32 = .ok (.iconst 4, 1) := by decide +kernel
theorem dX2_init_33 : decode cX2_init 33 = .ok (.anewarray 26, 3) := by decide +kernel
theorem dX2_init_36 : decode cX2_init 36 = .ok (.putfield 28, 3) := by decide +kernel
theorem dX2_init_39 : decode cX2_init 39 = .ok (.aload_n 0, 1) := by decide +kernel
theorem dX2_init_40 : decode cX2_init 40 = .ok (.aload_n 1, 1) := by decide +kernel
theorem dX2_init_41 : decode cX2_init 41 = .ok (.putfield 32, 3) := by decide +kernel
theorem dX2_init_44 : decode cX2_init 44 = .ok (.iconst 0, 1) := by decide +kernel
theorem dX2_init_45 : decode cX2_init 45 = .ok (.istore_n 2, 1) := by decide +kernel
theorem dX2_init_46 : decode cX2_init 46 = .ok (.iload_n 2, 1) := by decide +kernel
theorem dX2_init_47 : decode cX2_init 47 = .ok (.iconst 4, 1) := by decide +kernel
theorem dX2_init_48 : decode cX2_init 48 = .ok (.if_icmp .ge 22, 3) := by decide +kernel
theorem dX2_init_51 : decode cX2_init 51 = .ok (.aload_n 0, 1) := by decide +kernel
theorem dX2_init_52 : decode cX2_init 52 = .ok (.getfield 28, 3) := by decide +kernel
theorem dX2_init_55 : decode cX2_init 55 = .ok (.iload_n 2, 1) := by decide +kernel
theorem dX2_init_56 : decode cX2_init 56 = .ok (.new 26, 3) := by decide +kernel
theorem dX2_init_59 : decode cX2_init 59 = .ok (.dup, 1) := by decide +kernel
theorem dX2_init_60 : decode cX2_init 60 = .ok (.invokespecial 36, 3) := by decide +kernel
theorem dX2_init_63 : decode cX2_init 63 = .ok (.aastore, 1) := by decide +kernel
theorem dX2_init_64 : decode cX2_init 64 = .ok (.iinc 2 1, 3) := by decide +kernel
theorem dX2_init_67 : decode cX2_init 67 = .ok (.goto (-21), 3) := by decide +kernel
theorem dX2_init_70 : decode cX2_init 70 = .ok (.return_, 1) := by decide +kernel
theorem dX2_take_0 : decode cX2_take 0 = .ok (.iconst 0, 1) := by decide +kernel
theorem dX2_take_1 : decode cX2_take 1 = .ok (.istore_n 2, 1) := by decide +kernel
theorem dX2_take_2 : decode cX2_take 2 = .ok (.iload_n 2, 1) := by decide +kernel
theorem dX2_take_3 : decode cX2_take 3 = .ok (.aload_n 0, 1) := by decide +kernel
theorem dX2_take_4 : decode cX2_take 4 = .ok (.getfield 32, 3) := by decide +kernel
theorem dX2_take_7 : decode cX2_take 7 = .ok (.getfield 37, 3) := by decide +kernel
theorem dX2_take_10 : decode cX2_take 10 = .ok (.if_icmp .ge 61, 3) := by decide +kernel
theorem dX2_take_13 : decode cX2_take 13 = .ok (.aload_n 0, 1) := by decide +kernel
theorem dX2_take_14 : decode cX2_take 14 = .ok (.getfield 18, 3) := by decide +kernel
theorem dX2_take_17 : decode cX2_take 17 = .ok (.iload_n 2, 1) := by decide +kernel
theorem dX2_take_18 : decode cX2_take 18 = .ok (.aload_n 1, 1) := by decide +kernel
theorem dX2_take_19 : decode cX2_take 19 = .ok (.getfield 43, 3) := by decide +kernel
theorem dX2_take_22 : decode cX2_take 22 = .ok (.iload_n 2, 1) := by decide +kernel
theorem dX2_take_23 : decode cX2_take 23 = .ok (.baload, 1) := by decide +kernel
theorem dX2_take_24 : decode cX2_take 24 = .ok (.bastore, 1) := by decide +kernel
theorem dX2_take_25 : decode cX2_take 25 = .ok (.aload_n 0, 1) := by decide +kernel
theorem dX2_take_26 : decode cX2_take 26 = .ok (.getfield 12, 3) := by decide +kernel
theorem dX2_take_29 : decode cX2_take 29 = .ok (.iload_n 2, 1) := by decide +kernel
theorem dX2_take_30 : decode cX2_take 30 = .ok (.aload_n 1, 1) := by decide +kernel
theorem dX2_take_31 : decode cX2_take 31 = .ok (.getfield 46, 3) := by decide +kernel
theorem dX2_take_34 : decode cX2_take 34 = .ok (.getfield 47, 3) := by decide +kernel
theorem dX2_take_37 : decode cX2_take 37 = .ok (.iload_n 2, 1) := by decide +kernel
theorem dX2_take_38 : decode cX2_take 38 = .ok (.iaload, 1) := by decide +kernel
theorem dX2_take_39 : decode cX2_take 39 = .ok (.aload_n 1, 1) := by decide +kernel
theorem dX2_take_40 : decode cX2_take 40 = .ok (.getfield 46, 3) := by decide +kernel
theorem dX2_take_43 : decode cX2_take 43 = .ok (.getfield 50, 3) := by decide +kernel
theorem dX2_take_46 : decode cX2_take 46 = .ok (.iload_n 2, 1) := by decide +kernel
theorem dX2_take_47 : decode cX2_take 47 = .ok (.iaload, 1) := by decide +kernel
theorem dX2_take_48 : decode cX2_take 48 = .ok (.invokevirtual 53, 3) := by decide +kernel
theorem dX2_take_51 : decode cX2_take 51 = .ok (.aload_n 0, 1) := by decide +kernel
theorem dX2_take_52 : decode cX2_take 52 = .ok (.getfield 22, 3) := by decide +kernel
theorem dX2_take_55 : decode cX2_take 55 = .ok (.iload_n 2, 1) := by decide +kernel
theorem dX2_take_56 : decode cX2_take 56 = .ok (.aload_n 0, 1) := by decide +kernel
theorem dX2_take_57 : decode cX2_take 57 = .ok (.getfield 32, 3) := by decide +kernel
theorem dX2_take_60 : decode cX2_take 60 = .ok (.iload_n 2, 1) := by decide +kernel
theorem dX2_take_61 : decode cX2_take 61 = .ok (.invokevirtual 57, 3) := by decide +kernel
theorem dX2_take_64 : decode cX2_take 64 = .ok (.iastore, 1) := by decide +kernel
theorem dX2_take_65 : decode cX2_take 65 = .ok (.iinc 2 1, 3) := by decide +kernel
theorem dX2_take_68 : decode cX2_take 68 = .ok (.goto (-66), 3) := by decide +kernel
theorem dX2_take_71 : decode cX2_take 71 = .ok (.iconst 0, 1) := by decide +kernel
theorem dX2_take_72 : decode cX2_take 72 = .ok (.istore_n 2, 1) := by decide +kernel
theorem dX2_take_73 : decode cX2_take 73 = .ok (.iload_n 2, 1) := by decide +kernel
theorem dX2_take_74 : decode cX2_take 74 = .ok (.iconst 4, 1) := by decide +kernel
theorem dX2_take_75 : decode cX2_take 75 = .ok (.if_icmp .ge 27, 3) := by decide +kernel
theorem dX2_take_78 : decode cX2_take 78 = .ok (.aload_n 0, 1) := by decide +kernel
theorem dX2_take_79 : decode cX2_take 79 = .ok (.getfield 28, 3) := by decide +kernel
theorem dX2_take_82 : decode cX2_take 82 = .ok (.iload_n 2, 1) := by decide +kernel
theorem dX2_take_83 : decode cX2_take 83 = .ok (.aaload, 1) := by decide +kernel
theorem dX2_take_84 : decode cX2_take 84 = .ok (.aload_n 0, 1) := by decide +kernel
theorem dX2_take_85 : decode cX2_take 85 = .ok (.getfield 32, 3) := by decide +kernel
theorem dX2_take_88 : decode cX2_take 88 = .ok (.getfield 61, 3) := by decide +kernel
theorem dX2_take_91 : decode cX2_take 91 = .ok (.iload_n 2, 1) := by decide +kernel
theorem dX2_take_92 : decode cX2_take 92 = .ok (.aaload, 1) := by decide +kernel
theorem dX2_take_93 : decode cX2_take 93 = .ok (.invokevirtual 62, 3) := by decide +kernel
theorem dX2_take_96 : decode cX2_take 96 = .ok (.iinc 2 1, 3) := by decide +kernel
theorem dX2_take_99 : decode cX2_take 99 = .ok (.goto (-26), 3) := by decide +kernel
theorem dX2_take_102 : decode cX2_take 102 = .ok (.return_, 1) := by decide +kernel
theorem dX2_delayOf_0 : decode cX2_delayOf 0 = .ok (.aload_n 0, 1) := by decide +kernel
theorem dX2_delayOf_1 : decode cX2_delayOf 1 = .ok (.getfield 18, 3) := by decide +kernel
theorem dX2_delayOf_4 : decode cX2_delayOf 4 = .ok (.iload_n 1, 1) := by decide +kernel
theorem dX2_delayOf_5 : decode cX2_delayOf 5 = .ok (.baload, 1) := by decide +kernel
theorem dX2_delayOf_6 : decode cX2_delayOf 6 = .ok (.ifCond .eq 34, 3) := by decide +kernel
theorem dX2_delayOf_9 : decode cX2_delayOf 9 = .ok (.aload_n 2, 1) := by decide +kernel
theorem dX2_delayOf_10 : decode cX2_delayOf 10 = .ok (.getfield 43, 3) := by decide +kernel
theorem dX2_delayOf_13 : decode cX2_delayOf 13 = .ok (.iload_n 1, 1) := by decide +kernel
theorem dX2_delayOf_14 : decode cX2_delayOf 14 = .ok (.baload, 1) := by decide +kernel
theorem dX2_delayOf_15 : decode cX2_delayOf 15 = .ok (.ifCond .eq 25, 3) := by decide +kernel
theorem dX2_delayOf_18 : decode cX2_delayOf 18 = .ok (.aload_n 2, 1) := by decide +kernel
theorem dX2_delayOf_19 : decode cX2_delayOf 19 = .ok (.getfield 46, 3) := by decide +kernel
theorem dX2_delayOf_22 : decode cX2_delayOf 22 = .ok (.getfield 50, 3) := by decide +kernel
theorem dX2_delayOf_25 : decode cX2_delayOf 25 = .ok (.iload_n 1, 1) := by decide +kernel
theorem dX2_delayOf_26 : decode cX2_delayOf 26 = .ok (.iaload, 1) := by decide +kernel
theorem dX2_delayOf_27 : decode cX2_delayOf 27 = .ok (.aload_n 0, 1) := by decide +kernel
theorem dX2_delayOf_28 : decode cX2_delayOf 28 = .ok (.getfield 12, 3) := by decide +kernel
theorem dX2_delayOf_31 : decode cX2_delayOf 31 = .ok (.getfield 50, 3) := by decide +kernel
theorem dX2_delayOf_34 : decode cX2_delayOf 34 = .ok (.iload_n 1, 1) := by decide +kernel
theorem dX2_delayOf_35 : decode cX2_delayOf 35 = .ok (.iaload, 1) := by decide +kernel
theorem dX2_delayOf_36 : decode cX2_delayOf 36 = .ok (.isub, 1) := by decide +kernel
theorem dX2_delayOf_37 : decode cX2_delayOf 37 = .ok (.goto 4, 3) := by decide +kernel
theorem dX2_delayOf_40 : decode cX2_delayOf 40 = .ok (.iconst 0, 1) := by decide +kernel
theorem dX2_delayOf_41 : decode cX2_delayOf 41 = .ok (.ireturn, 1) := by decide +kernel
theorem dX2_plannedUpTo_0 : decode cX2_plannedUpTo 0 = .ok (.iconst 0, 1) := by decide +kernel
theorem dX2_plannedUpTo_1 : decode cX2_plannedUpTo 1 = .ok (.istore_n 2, 1) := by decide +kernel
theorem dX2_plannedUpTo_2 : decode cX2_plannedUpTo 2 = .ok (.iconst 0, 1) := by decide +kernel
theorem dX2_plannedUpTo_3 : decode cX2_plannedUpTo 3 = .ok (.istore_n 3, 1) := by decide +kernel
theorem dX2_plannedUpTo_4 : decode cX2_plannedUpTo 4 = .ok (.iload_n 3, 1) := by decide +kernel
theorem dX2_plannedUpTo_5 : decode cX2_plannedUpTo 5 = .ok (.aload_n 0, 1) := by decide +kernel
theorem dX2_plannedUpTo_6 : decode cX2_plannedUpTo 6 = .ok (.getfield 32, 3) := by decide +kernel
theorem dX2_plannedUpTo_9 : decode cX2_plannedUpTo 9 = .ok (.getfield 37, 3) := by decide +kernel
theorem dX2_plannedUpTo_12 : decode cX2_plannedUpTo 12 = .ok (.if_icmp .ge 27, 3) := by decide +kernel
theorem dX2_plannedUpTo_15 : decode cX2_plannedUpTo 15 = .ok (.aload_n 0, 1) := by decide +kernel
theorem dX2_plannedUpTo_16 : decode cX2_plannedUpTo 16 = .ok (.getfield 18, 3) := by decide +kernel
theorem dX2_plannedUpTo_19 : decode cX2_plannedUpTo 19 = .ok (.iload_n 3, 1) := by decide +kernel
theorem dX2_plannedUpTo_20 : decode cX2_plannedUpTo 20 = .ok (.baload, 1) := by decide +kernel
theorem dX2_plannedUpTo_21 : decode cX2_plannedUpTo 21 = .ok (.ifCond .eq 12, 3) := by decide +kernel
theorem dX2_plannedUpTo_24 : decode cX2_plannedUpTo 24 = .ok (.iload_n 2, 1) := by decide +kernel
theorem dX2_plannedUpTo_25 : decode cX2_plannedUpTo 25 = .ok (.aload_n 0, 1) := by decide +kernel
theorem dX2_plannedUpTo_26 : decode cX2_plannedUpTo 26 = .ok (.iload_n 3, 1) := by decide +kernel
theorem dX2_plannedUpTo_27 : decode cX2_plannedUpTo 27 = .ok (.iload_n 1, 1) := by decide +kernel
theorem dX2_plannedUpTo_28 : decode cX2_plannedUpTo 28 = .ok (.invokevirtual 66, 3) := by decide +kernel
theorem dX2_plannedUpTo_31 : decode cX2_plannedUpTo 31 = .ok (.iadd, 1) := by decide +kernel
theorem dX2_plannedUpTo_32 : decode cX2_plannedUpTo 32 = .ok (.istore_n 2, 1) := by decide +kernel
theorem dX2_plannedUpTo_33 : decode cX2_plannedUpTo 33 = .ok (.iinc 3 1, 3) := by decide +kernel
theorem dX2_plannedUpTo_36 : decode cX2_plannedUpTo 36 = .ok (.goto (-32), 3) := by decide +kernel
theorem dX2_plannedUpTo_39 : decode cX2_plannedUpTo 39 = .ok (.iload_n 2, 1) := by decide +kernel
theorem dX2_plannedUpTo_40 : decode cX2_plannedUpTo 40 = .ok (.ireturn, 1) := by decide +kernel
theorem dX2_partUpTo_0 : decode cX2_partUpTo 0 = .ok (.aload_n 0, 1) := by decide +kernel
theorem dX2_partUpTo_1 : decode cX2_partUpTo 1 = .ok (.getfield 28, 3) := by decide +kernel
theorem dX2_partUpTo_4 : decode cX2_partUpTo 4 = .ok (.aload_n 0, 1) := by decide +kernel
theorem dX2_partUpTo_5 : decode cX2_partUpTo 5 = .ok (.getfield 32, 3) := by decide +kernel
theorem dX2_partUpTo_8 : decode cX2_partUpTo 8 = .ok (.getfield 70, 3) := by decide +kernel
theorem dX2_partUpTo_11 : decode cX2_partUpTo 11 = .ok (.iload_n 1, 1) := by decide +kernel
theorem dX2_partUpTo_12 : decode cX2_partUpTo 12 = .ok (.aaload, 1) := by decide +kernel
theorem dX2_partUpTo_13 : decode cX2_partUpTo 13 = .ok (.getfield 74, 3) := by decide +kernel
theorem dX2_partUpTo_16 : decode cX2_partUpTo 16 = .ok (.aaload, 1) := by decide +kernel
theorem dX2_partUpTo_17 : decode cX2_partUpTo 17 = .ok (.astore_n 3, 1) := by decide +kernel
theorem dX2_partUpTo_18 : decode cX2_partUpTo 18 = .ok (.aload_n 3, 1) := by decide +kernel
theorem dX2_partUpTo_19 : decode cX2_partUpTo 19 = .ok (.aload_n 0, 1) := by decide +kernel
theorem dX2_partUpTo_20 : decode cX2_partUpTo 20 = .ok (.getfield 12, 3) := by decide +kernel
theorem dX2_partUpTo_23 : decode cX2_partUpTo 23 = .ok (.getfield 47, 3) := by decide +kernel
theorem dX2_partUpTo_26 : decode cX2_partUpTo 26 = .ok (.iload_n 1, 1) := by decide +kernel
theorem dX2_partUpTo_27 : decode cX2_partUpTo 27 = .ok (.iaload, 1) := by decide +kernel
theorem dX2_partUpTo_28 : decode cX2_partUpTo 28 = .ok (.aload_n 0, 1) := by decide +kernel
theorem dX2_partUpTo_29 : decode cX2_partUpTo 29 = .ok (.getfield 12, 3) := by decide +kernel
theorem dX2_partUpTo_32 : decode cX2_partUpTo 32 = .ok (.getfield 50, 3) := by decide +kernel
theorem dX2_partUpTo_35 : decode cX2_partUpTo 35 = .ok (.iload_n 1, 1) := by decide +kernel
theorem dX2_partUpTo_36 : decode cX2_partUpTo 36 = .ok (.iaload, 1) := by decide +kernel
theorem dX2_partUpTo_37 : decode cX2_partUpTo 37 = .ok (.invokevirtual 79, 3) := by decide +kernel
theorem dX2_partUpTo_40 : decode cX2_partUpTo 40 = .ok (.istore 4, 2) := by decide +kernel
theorem dX2_partUpTo_42 : decode cX2_partUpTo 42 = .ok (.iload 4, 2) := by decide +kernel
theorem dX2_partUpTo_44 : decode cX2_partUpTo 44 = .ok (.ifCond .ne 5, 3) := by decide +kernel
theorem dX2_partUpTo_47 : decode cX2_partUpTo 47 = .ok (.iconst 0, 1) := by decide +kernel
theorem dX2_partUpTo_48 : decode cX2_partUpTo 48 = .ok (.ireturn, 1) := by decide +kernel
theorem dX2_partUpTo_49 : decode cX2_partUpTo 49 = .ok (.aload_n 3, 1) := by decide +kernel
theorem dX2_partUpTo_50 : decode cX2_partUpTo 50 = .ok (.aload_n 0, 1) := by decide +kernel
theorem dX2_partUpTo_51 : decode cX2_partUpTo 51 = .ok (.getfield 12, 3) := by decide +kernel
theorem dX2_partUpTo_54 : decode cX2_partUpTo 54 = .ok (.getfield 47, 3) := by decide +kernel
theorem dX2_partUpTo_57 : decode cX2_partUpTo 57 = .ok (.iload_n 1, 1) := by decide +kernel
theorem dX2_partUpTo_58 : decode cX2_partUpTo 58 = .ok (.iaload, 1) := by decide +kernel
theorem dX2_partUpTo_59 : decode cX2_partUpTo 59 = .ok (.aload_n 0, 1) := by decide +kernel
theorem dX2_partUpTo_60 : decode cX2_partUpTo 60 = .ok (.getfield 12, 3) := by decide +kernel
theorem dX2_partUpTo_63 : decode cX2_partUpTo 63 = .ok (.getfield 50, 3) := by decide +kernel
theorem dX2_partUpTo_66 : decode cX2_partUpTo 66 = .ok (.iload_n 1, 1) := by decide +kernel
theorem dX2_partUpTo_67 : decode cX2_partUpTo 67 = .ok (.iaload, 1) := by decide +kernel
theorem dX2_partUpTo_68 : decode cX2_partUpTo 68 = .ok (.iload_n 2, 1) := by decide +kernel
theorem dX2_partUpTo_69 : decode cX2_partUpTo 69 = .ok (.invokestatic 82, 3) := by decide +kernel
theorem dX2_partUpTo_72 : decode cX2_partUpTo 72 = .ok (.invokevirtual 79, 3) := by decide +kernel
theorem dX2_partUpTo_75 : decode cX2_partUpTo 75 = .ok (.istore 5, 2) := by decide +kernel
theorem dX2_partUpTo_77 : decode cX2_partUpTo 77 = .ok (.aload_n 0, 1) := by decide +kernel
theorem dX2_partUpTo_78 : decode cX2_partUpTo 78 = .ok (.getfield 22, 3) := by decide +kernel
theorem dX2_partUpTo_81 : decode cX2_partUpTo 81 = .ok (.iload_n 1, 1) := by decide +kernel
theorem dX2_partUpTo_82 : decode cX2_partUpTo 82 = .ok (.iaload, 1) := by decide +kernel
theorem dX2_partUpTo_83 : decode cX2_partUpTo 83 = .ok (.iload 5, 2) := by decide +kernel
theorem dX2_partUpTo_85 : decode cX2_partUpTo 85 = .ok (.imul, 1) := by decide +kernel
theorem dX2_partUpTo_86 : decode cX2_partUpTo 86 = .ok (.iload 4, 2) := by decide +kernel
theorem dX2_partUpTo_88 : decode cX2_partUpTo 88 = .ok (.idiv, 1) := by decide +kernel
theorem dX2_partUpTo_89 : decode cX2_partUpTo 89 = .ok (.ireturn, 1) := by decide +kernel
theorem dX2_earnedNow_0 : decode cX2_earnedNow 0 = .ok (.iconst 0, 1) := by decide +kernel
theorem dX2_earnedNow_1 : decode cX2_earnedNow 1 = .ok (.istore_n 1, 1) := by decide +kernel
theorem dX2_earnedNow_2 : decode cX2_earnedNow 2 = .ok (.iconst 0, 1) := by decide +kernel
theorem dX2_earnedNow_3 : decode cX2_earnedNow 3 = .ok (.istore_n 2, 1) := by decide +kernel
theorem dX2_earnedNow_4 : decode cX2_earnedNow 4 = .ok (.iload_n 2, 1) := by decide +kernel
theorem dX2_earnedNow_5 : decode cX2_earnedNow 5 = .ok (.aload_n 0, 1) := by decide +kernel
theorem dX2_earnedNow_6 : decode cX2_earnedNow 6 = .ok (.getfield 32, 3) := by decide +kernel
theorem dX2_earnedNow_9 : decode cX2_earnedNow 9 = .ok (.getfield 37, 3) := by decide +kernel
theorem dX2_earnedNow_12 : decode cX2_earnedNow 12 = .ok (.if_icmp .ge 42, 3) := by decide +kernel
theorem dX2_earnedNow_15 : decode cX2_earnedNow 15 = .ok (.aload_n 0, 1) := by decide +kernel
theorem dX2_earnedNow_16 : decode cX2_earnedNow 16 = .ok (.getfield 18, 3) := by decide +kernel
theorem dX2_earnedNow_19 : decode cX2_earnedNow 19 = .ok (.iload_n 2, 1) := by decide +kernel
theorem dX2_earnedNow_20 : decode cX2_earnedNow 20 = .ok (.baload, 1) := by decide +kernel
theorem dX2_earnedNow_21 : decode cX2_earnedNow 21 = .ok (.ifCond .eq 27, 3) := by decide +kernel
theorem dX2_earnedNow_24 : decode cX2_earnedNow 24 = .ok (.aload_n 0, 1) := by decide +kernel
theorem dX2_earnedNow_25 : decode cX2_earnedNow 25 = .ok (.getfield 32, 3) := by decide +kernel
theorem dX2_earnedNow_28 : decode cX2_earnedNow 28 = .ok (.getfield 70, 3) := by decide +kernel
theorem dX2_earnedNow_31 : decode cX2_earnedNow 31 = .ok (.iload_n 2, 1) := by decide +kernel
theorem dX2_earnedNow_32 : decode cX2_earnedNow 32 = .ok (.aaload, 1) := by decide +kernel
theorem dX2_earnedNow_33 : decode cX2_earnedNow 33 = .ok (.getfield 87, 3) := by decide +kernel
theorem dX2_earnedNow_36 : decode cX2_earnedNow 36 = .ok (.ifCond .eq 12, 3) := by decide +kernel
theorem dX2_earnedNow_39 : decode cX2_earnedNow 39 = .ok (.iload_n 1, 1) := by decide +kernel
theorem dX2_earnedNow_40 : decode cX2_earnedNow 40 = .ok (.aload_n 0, 1) := by decide +kernel
theorem dX2_earnedNow_41 : decode cX2_earnedNow 41 = .ok (.getfield 22, 3) := by decide +kernel
theorem dX2_earnedNow_44 : decode cX2_earnedNow 44 = .ok (.iload_n 2, 1) := by decide +kernel
theorem dX2_earnedNow_45 : decode cX2_earnedNow 45 = .ok (.iaload, 1) := by decide +kernel
theorem dX2_earnedNow_46 : decode cX2_earnedNow 46 = .ok (.iadd, 1) := by decide +kernel
theorem dX2_earnedNow_47 : decode cX2_earnedNow 47 = .ok (.istore_n 1, 1) := by decide +kernel
theorem dX2_earnedNow_48 : decode cX2_earnedNow 48 = .ok (.iinc 2 1, 3) := by decide +kernel
theorem dX2_earnedNow_51 : decode cX2_earnedNow 51 = .ok (.goto (-47), 3) := by decide +kernel
theorem dX2_earnedNow_54 : decode cX2_earnedNow 54 = .ok (.iload_n 1, 1) := by decide +kernel
theorem dX2_earnedNow_55 : decode cX2_earnedNow 55 = .ok (.ireturn, 1) := by decide +kernel
theorem dX3_init_0 : decode cX3_init 0 = .ok (.aload_n 0, 1) := by decide +kernel
theorem dX3_init_1 : decode cX3_init 1 = .ok (.invokespecial 3, 3) := by decide +kernel
theorem dX3_init_4 : decode cX3_init 4 = .ok (.aload_n 0, 1) := by decide +kernel
theorem dX3_init_5 : decode cX3_init 5 = .ok (.new 9, 3) := by decide +kernel
theorem dX3_init_8 : decode cX3_init 8 = .ok (.dup, 1) := by decide +kernel
theorem dX3_init_9 : decode cX3_init 9 = .ok (.invokespecial 11, 3) := by decide +kernel
theorem dX3_init_12 : decode cX3_init 12 = .ok (.putfield 12, 3) := by decide +kernel
theorem dX3_init_15 : decode cX3_init 15 = .ok (.aload_n 0, 1) := by decide +kernel
theorem dX3_init_16 : decode cX3_init 16 = .ok (.new 18, 3) := by decide +kernel
theorem dX3_init_19 : decode cX3_init 19 = .ok (.dup, 1) := by decide +kernel
theorem dX3_init_20 : decode cX3_init 20 = .ok (.invokespecial 20, 3) := by decide +kernel
theorem dX3_init_23 : decode cX3_init 23 = .ok (.putfield 21, 3) := by decide +kernel
theorem dX3_init_26 : decode cX3_init 26 = .ok (.aload_n 0, 1) := by decide +kernel
theorem dX3_init_27 : decode cX3_init 27 = .ok (.bipush 24, 2) := by decide +kernel
theorem dX3_init_29 : decode cX3_init 29 = .ok (.newarray .boolean, 2) := by decide +kernel
theorem dX3_init_31 : decode cX3_init 31 = .ok (.putfield 25, 3) := by decide +kernel
theorem dX3_init_34 : decode cX3_init 34 = .ok (.aload_n 0, 1) := by decide +kernel
theorem dX3_init_35 : decode cX3_init 35 = .ok (.bipush 24, 2) := by decide +kernel
theorem dX3_init_37 : decode cX3_init 37 = .ok (.newarray .int, 2) := by decide +kernel
theorem dX3_init_39 : decode cX3_init 39 = .ok (.putfield 29, 3) := by decide +kernel
theorem dX3_init_42 : decode cX3_init 42 = .ok (.aload_n 0, 1) := by decide +kernel
theorem dX3_init_43 : decode cX3_init 43 = .ok (.aload_n 1, 1) := by decide +kernel
theorem dX3_init_44 : decode cX3_init 44 = .ok (.putfield 33, 3) := by decide +kernel
theorem dX3_init_47 : decode cX3_init 47 = .ok (.return_, 1) := by decide +kernel
theorem dX3_reckon_0 : decode cX3_reckon 0 = .ok (.aload_n 0, 1) := by decide +kernel
theorem dX3_reckon_1 : decode cX3_reckon 1 = .ok (.invokevirtual 37, 3) := by decide +kernel
theorem dX3_reckon_4 : decode cX3_reckon 4 = .ok (.iconst 0, 1) := by decide +kernel
theorem dX3_reckon_5 : decode cX3_reckon 5 = .ok (.istore_n 3, 1) := by decide +kernel
theorem dX3_reckon_6 : decode cX3_reckon 6 = .ok (.iload_n 3, 1) := by decide +kernel
theorem dX3_reckon_7 : decode cX3_reckon 7 = .ok (.aload_n 0, 1) := by decide +kernel
theorem dX3_reckon_8 : decode cX3_reckon 8 = .ok (.getfield 33, 3) := by decide +kernel
theorem dX3_reckon_11 : decode cX3_reckon 11 = .ok (.getfield 40, 3) := by decide +kernel
theorem dX3_reckon_14 : decode cX3_reckon 14 = .ok (.if_icmp .ge 43, 3) := by decide +kernel
theorem dX3_reckon_17 : decode cX3_reckon 17 = .ok (.aload_n 0, 1) := by decide +kernel
theorem dX3_reckon_18 : decode cX3_reckon 18 = .ok (.getfield 33, 3) := by decide +kernel
theorem dX3_reckon_21 : decode cX3_reckon 21 = .ok (.getfield 46, 3) := by decide +kernel
theorem dX3_reckon_24 : decode cX3_reckon 24 = .ok (.iload_n 3, 1) := by decide +kernel
theorem dX3_reckon_25 : decode cX3_reckon 25 = .ok (.aaload, 1) := by decide +kernel
theorem dX3_reckon_26 : decode cX3_reckon 26 = .ok (.astore 4, 2) := by decide +kernel
theorem dX3_reckon_28 : decode cX3_reckon 28 = .ok (.aload 4, 2) := by decide +kernel
theorem dX3_reckon_30 : decode cX3_reckon 30 = .ok (.getfield 50, 3) := by decide +kernel
theorem dX3_reckon_33 : decode cX3_reckon 33 = .ok (.ifCond .eq 18, 3) := by decide +kernel
theorem dX3_reckon_36 : decode cX3_reckon 36 = .ok (.aload_n 0, 1) := by decide +kernel
theorem dX3_reckon_37 : decode cX3_reckon 37 = .ok (.iload_n 3, 1) := by decide +kernel
theorem dX3_reckon_38 : decode cX3_reckon 38 = .ok (.aload 4, 2) := by decide +kernel
theorem dX3_reckon_40 : decode cX3_reckon 40 = .ok (.getfield 56, 3) := by decide +kernel
theorem dX3_reckon_43 : decode cX3_reckon 43 = .ok (.aload 4, 2) := by decide +kernel
theorem dX3_reckon_45 : decode cX3_reckon 45 = .ok (.getfield 59, 3) := by decide +kernel
theorem dX3_reckon_48 : decode cX3_reckon 48 = .ok (.invokevirtual 62, 3) := by decide +kernel
theorem dX3_reckon_51 : decode cX3_reckon 51 = .ok (.iinc 3 1, 3) := by decide +kernel
theorem dX3_reckon_54 : decode cX3_reckon 54 = .ok (.goto (-48), 3) := by decide +kernel
theorem dX3_reckon_57 : decode cX3_reckon 57 = .ok (.iconst 0, 1) := by decide +kernel
theorem dX3_reckon_58 : decode cX3_reckon 58 = .ok (.istore_n 3, 1) := by decide +kernel
theorem dX3_reckon_59 : decode cX3_reckon 59 = .ok (.iload_n 3, 1) := by decide +kernel
theorem dX3_reckon_60 : decode cX3_reckon 60 = .ok (.aload_n 0, 1) := by decide +kernel
theorem dX3_reckon_61 : decode cX3_reckon 61 = .ok (.getfield 33, 3) := by decide +kernel
theorem dX3_reckon_64 : decode cX3_reckon 64 = .ok (.getfield 40, 3) := by decide +kernel
theorem dX3_reckon_67 : decode cX3_reckon 67 = .ok (.if_icmp .ge 79, 3) := by decide +kernel
theorem dX3_reckon_70 : decode cX3_reckon 70 = .ok (.aload_n 0, 1) := by decide +kernel
theorem dX3_reckon_71 : decode cX3_reckon 71 = .ok (.aload_n 1, 1) := by decide +kernel
theorem dX3_reckon_72 : decode cX3_reckon 72 = .ok (.iload_n 2, 1) := by decide +kernel
theorem dX3_reckon_73 : decode cX3_reckon 73 = .ok (.invokevirtual 66, 3) := by decide +kernel
theorem dX3_reckon_76 : decode cX3_reckon 76 = .ok (.istore 4, 2) := by decide +kernel
theorem dX3_reckon_78 : decode cX3_reckon 78 = .ok (.iload 4, 2) := by decide +kernel
theorem dX3_reckon_80 : decode cX3_reckon 80 = .ok (.ifCond .ge 4, 3) := by decide +kernel
theorem dX3_reckon_83 : decode cX3_reckon 83 = .ok (.return_, 1) := by decide +kernel
theorem dX3_reckon_84 : decode cX3_reckon 84 = .ok (.aload_n 0, 1) := by decide +kernel
theorem dX3_reckon_85 : decode cX3_reckon 85 = .ok (.iload 4, 2) := by decide +kernel
theorem dX3_reckon_87 : decode cX3_reckon 87 = .ok (.aload_n 0, 1) := by decide +kernel
theorem dX3_reckon_88 : decode cX3_reckon 88 = .ok (.getfield 33, 3) := by decide +kernel
theorem dX3_reckon_91 : decode cX3_reckon 91 = .ok (.iload 4, 2) := by decide +kernel
theorem dX3_reckon_93 : decode cX3_reckon 93 = .ok (.aload_n 0, 1) := by decide +kernel
theorem dX3_reckon_94 : decode cX3_reckon 94 = .ok (.getfield 12, 3) := by decide +kernel
theorem dX3_reckon_97 : decode cX3_reckon 97 = .ok (.invokevirtual 70, 3) := by decide +kernel
theorem dX3_reckon_100 : decode cX3_reckon 100 = .ok (.invokevirtual 74, 3) := by decide +kernel
theorem dX3_reckon_103 : decode cX3_reckon 103 = .ok (.istore 5, 2) := by decide +kernel
theorem dX3_reckon_105 : decode cX3_reckon 105 = .ok (.aload_n 0, 1) := by decide +kernel
theorem dX3_reckon_106 : decode cX3_reckon 106 = .ok (.iload 4, 2) := by decide +kernel
theorem dX3_reckon_108 : decode cX3_reckon 108 = .ok (.iload 5, 2) := by decide +kernel
theorem dX3_reckon_110 : decode cX3_reckon 110 = .ok (.aload_n 0, 1) := by decide +kernel
theorem dX3_reckon_111 : decode cX3_reckon 111 = .ok (.getfield 33, 3) := by decide +kernel
theorem dX3_reckon_114 : decode cX3_reckon 114 = .ok (.iload 4, 2) := by decide +kernel
theorem dX3_reckon_116 : decode cX3_reckon 116 = .ok (.invokevirtual 78, 3) := by decide +kernel
theorem dX3_reckon_119 : decode cX3_reckon 119 = .ok (.iload 5, 2) := by decide +kernel
theorem dX3_reckon_121 : decode cX3_reckon 121 = .ok (.aload_n 0, 1) := by decide +kernel
theorem dX3_reckon_122 : decode cX3_reckon 122 = .ok (.getfield 33, 3) := by decide +kernel
theorem dX3_reckon_125 : decode cX3_reckon 125 = .ok (.getfield 46, 3) := by decide +kernel
theorem dX3_reckon_128 : decode cX3_reckon 128 = .ok (.iload 4, 2) := by decide +kernel
theorem dX3_reckon_130 : decode cX3_reckon 130 = .ok (.aaload, 1) := by decide +kernel
theorem dX3_reckon_131 : decode cX3_reckon 131 = .ok (.getfield 82, 3) := by decide +kernel
theorem dX3_reckon_134 : decode cX3_reckon 134 = .ok (.invokevirtual 85, 3) := by decide +kernel
theorem dX3_reckon_137 : decode cX3_reckon 137 = .ok (.invokevirtual 62, 3) := by decide +kernel
theorem dX3_reckon_140 : decode cX3_reckon 140 = .ok (.iinc 3 1, 3) := by decide +kernel
theorem dX3_reckon_143 : decode cX3_reckon 143 = .ok (.goto (-84), 3) := by decide +kernel
theorem dX3_reckon_146 : decode cX3_reckon 146 = .ok (.return_, 1) := by decide +kernel
theorem dX3_clear_0 : decode cX3_clear 0 = .ok (.aload_n 0, 1) := by decide +kernel
theorem dX3_clear_1 : decode cX3_clear 1 = .ok (.getfield 21, 3) := by decide +kernel
theorem dX3_clear_4 : decode cX3_clear 4 = .ok (.invokevirtual 90, 3) := by decide +kernel
theorem dX3_clear_7 : decode cX3_clear 7 = .ok (.aload_n 0, 1) := by decide +kernel
theorem dX3_clear_8 : decode cX3_clear 8 = .ok (.iconst 0, 1) := by decide +kernel
theorem dX3_clear_9 : decode cX3_clear 9 = .ok (.putfield 91, 3) := by decide +kernel
theorem dX3_clear_12 : decode cX3_clear 12 = .ok (.aload_n 0, 1) := by decide +kernel
theorem dX3_clear_13 : decode cX3_clear 13 = .ok (.iconst 0, 1) := by decide +kernel
theorem dX3_clear_14 : decode cX3_clear 14 = .ok (.putfield 94, 3) := by decide +kernel
theorem dX3_clear_17 : decode cX3_clear 17 = .ok (.iconst 0, 1) := by decide +kernel
theorem dX3_clear_18 : decode cX3_clear 18 = .ok (.istore_n 1, 1) := by decide +kernel
theorem dX3_clear_19 : decode cX3_clear 19 = .ok (.iload_n 1, 1) := by decide +kernel
theorem dX3_clear_20 : decode cX3_clear 20 = .ok (.bipush 24, 2) := by decide +kernel
theorem dX3_clear_22 : decode cX3_clear 22 = .ok (.if_icmp .ge 26, 3) := by decide +kernel
theorem dX3_clear_25 : decode cX3_clear 25 = .ok (.aload_n 0, 1) := by decide +kernel
theorem dX3_clear_26 : decode cX3_clear 26 = .ok (.getfield 25, 3) := by decide +kernel
theorem dX3_clear_29 : decode cX3_clear 29 = .ok (.iload_n 1, 1) := by decide +kernel
theorem dX3_clear_30 : decode cX3_clear 30 = .ok (.iconst 0, 1) := by decide +kernel
theorem dX3_clear_31 : decode cX3_clear 31 = .ok (.bastore, 1) := by decide +kernel
theorem dX3_clear_32 : decode cX3_clear 32 = .ok (.aload_n 0, 1) := by decide +kernel
theorem dX3_clear_33 : decode cX3_clear 33 = .ok (.getfield 12, 3) := by decide +kernel
theorem dX3_clear_36 : decode cX3_clear 36 = .ok (.iload_n 1, 1) := by decide +kernel
theorem dX3_clear_37 : decode cX3_clear 37 = .ok (.iconst (-1), 1) := by decide +kernel
theorem dX3_clear_38 : decode cX3_clear 38 = .ok (.iconst (-1), 1) := by decide +kernel
theorem dX3_clear_39 : decode cX3_clear 39 = .ok (.invokevirtual 97, 3) := by decide +kernel
theorem dX3_clear_42 : decode cX3_clear 42 = .ok (.iinc 1 1, 3) := by decide +kernel
theorem dX3_clear_45 : decode cX3_clear 45 = .ok (.goto (-26), 3) := by decide +kernel
theorem dX3_clear_48 : decode cX3_clear 48 = .ok (.return_, 1) := by decide +kernel
theorem dX3_putIn_0 : decode cX3_putIn 0 = .ok (.aload_n 0, 1) := by decide +kernel
theorem dX3_putIn_1 : decode cX3_putIn 1 = .ok (.getfield 12, 3) := by decide +kernel
theorem dX3_putIn_4 : decode cX3_putIn 4 = .ok (.iload_n 1, 1) := by decide +kernel
theorem dX3_putIn_5 : decode cX3_putIn 5 = .ok (.iload_n 2, 1) := by decide +kernel
theorem dX3_putIn_6 : decode cX3_putIn 6 = .ok (.iload_n 3, 1) := by decide +kernel
theorem dX3_putIn_7 : decode cX3_putIn 7 = .ok (.invokevirtual 97, 3) := by decide +kernel
theorem dX3_putIn_10 : decode cX3_putIn 10 = .ok (.aload_n 0, 1) := by decide +kernel
theorem dX3_putIn_11 : decode cX3_putIn 11 = .ok (.getfield 21, 3) := by decide +kernel
theorem dX3_putIn_14 : decode cX3_putIn 14 = .ok (.aload_n 0, 1) := by decide +kernel
theorem dX3_putIn_15 : decode cX3_putIn 15 = .ok (.getfield 33, 3) := by decide +kernel
theorem dX3_putIn_18 : decode cX3_putIn 18 = .ok (.getfield 46, 3) := by decide +kernel
theorem dX3_putIn_21 : decode cX3_putIn 21 = .ok (.iload_n 1, 1) := by decide +kernel
theorem dX3_putIn_22 : decode cX3_putIn 22 = .ok (.aaload, 1) := by decide +kernel
theorem dX3_putIn_23 : decode cX3_putIn 23 = .ok (.aload_n 0, 1) := by decide +kernel
theorem dX3_putIn_24 : decode cX3_putIn 24 = .ok (.getfield 33, 3) := by decide +kernel
theorem dX3_putIn_27 : decode cX3_putIn 27 = .ok (.iload_n 1, 1) := by decide +kernel
theorem dX3_putIn_28 : decode cX3_putIn 28 = .ok (.invokevirtual 78, 3) := by decide +kernel
theorem dX3_putIn_31 : decode cX3_putIn 31 = .ok (.iload_n 2, 1) := by decide +kernel
theorem dX3_putIn_32 : decode cX3_putIn 32 = .ok (.iload_n 3, 1) := by decide +kernel
theorem dX3_putIn_33 : decode cX3_putIn 33 = .ok (.invokevirtual 100, 3) := by decide +kernel
theorem dX3_putIn_36 : decode cX3_putIn 36 = .ok (.aload_n 0, 1) := by decide +kernel
theorem dX3_putIn_37 : decode cX3_putIn 37 = .ok (.getfield 25, 3) := by decide +kernel
theorem dX3_putIn_40 : decode cX3_putIn 40 = .ok (.iload_n 1, 1) := by decide +kernel
theorem dX3_putIn_41 : decode cX3_putIn 41 = .ok (.iconst 1, 1) := by decide +kernel
theorem dX3_putIn_42 : decode cX3_putIn 42 = .ok (.bastore, 1) := by decide +kernel
theorem dX3_putIn_43 : decode cX3_putIn 43 = .ok (.aload_n 0, 1) := by decide +kernel
theorem dX3_putIn_44 : decode cX3_putIn 44 = .ok (.getfield 29, 3) := by decide +kernel
theorem dX3_putIn_47 : decode cX3_putIn 47 = .ok (.aload_n 0, 1) := by decide +kernel
theorem dX3_putIn_48 : decode cX3_putIn 48 = .ok (.getfield 91, 3) := by decide +kernel
theorem dX3_putIn_51 : decode cX3_putIn 51 = .ok (.iload_n 1, 1) := by decide +kernel
theorem dX3_putIn_52 : decode cX3_putIn 52 = .ok (.iastore, 1) := by decide +kernel
theorem dX3_putIn_53 : decode cX3_putIn 53 = .ok (.aload_n 0, 1) := by decide +kernel
theorem dX3_putIn_54 : decode cX3_putIn 54 = .ok (.dup, 1) := by decide +kernel
theorem dX3_putIn_55 : decode cX3_putIn 55 = .ok (.getfield 91, 3) := by decide +kernel
theorem dX3_putIn_58 : decode cX3_putIn 58 = .ok (.iconst 1, 1) := by decide +kernel
theorem dX3_putIn_59 : decode cX3_putIn 59 = .ok (.iadd, 1) := by decide +kernel
theorem dX3_putIn_60 : decode cX3_putIn 60 = .ok (.putfield 91, 3) := by decide +kernel
theorem dX3_putIn_63 : decode cX3_putIn 63 = .ok (.aload_n 0, 1) := by decide +kernel
theorem dX3_putIn_64 : decode cX3_putIn 64 = .ok (.aload_n 0, 1) := by decide +kernel
theorem dX3_putIn_65 : decode cX3_putIn 65 = .ok (.getfield 94, 3) := by decide +kernel
theorem dX3_putIn_68 : decode cX3_putIn 68 = .ok (.iload_n 3, 1) := by decide +kernel
theorem dX3_putIn_69 : decode cX3_putIn 69 = .ok (.invokestatic 104, 3) := by decide +kernel
theorem dX3_putIn_72 : decode cX3_putIn 72 = .ok (.putfield 94, 3) := by decide +kernel
theorem dX3_putIn_75 : decode cX3_putIn 75 = .ok (.return_, 1) := by decide +kernel
theorem dX3_choose_0 : decode cX3_choose 0 = .ok (.iconst (-1), 1) := by decide +kernel
theorem dX3_choose_1 : decode cX3_choose 1 = .ok (.istore_n 3, 1) := by decide +kernel
theorem dX3_choose_2 : decode cX3_choose 2 = .ok (.iconst 0, 1) := by decide +kernel
theorem dX3_choose_3 : decode cX3_choose 3 = .ok (.istore 4, 2) := by decide +kernel
theorem dX3_choose_5 : decode cX3_choose 5 = .ok (.iconst 0, 1) := by decide +kernel
theorem dX3_choose_6 : decode cX3_choose 6 = .ok (.istore 5, 2) := by decide +kernel
theorem dX3_choose_8 : decode cX3_choose 8 = .ok (.iload 5, 2) := by decide +kernel
theorem dX3_choose_10 : decode cX3_choose 10 = .ok (.aload_n 0, 1) := by decide +kernel
theorem dX3_choose_11 : decode cX3_choose 11 = .ok (.getfield 33, 3) := by decide +kernel
theorem dX3_choose_14 : decode cX3_choose 14 = .ok (.getfield 40, 3) := by decide +kernel
theorem dX3_choose_17 : decode cX3_choose 17 = .ok (.if_icmp .ge 75, 3) := by decide +kernel
theorem dX3_choose_20 : decode cX3_choose 20 = .ok (.aload_n 0, 1) := by decide +kernel
theorem dX3_choose_21 : decode cX3_choose 21 = .ok (.getfield 25, 3) := by decide +kernel
theorem dX3_choose_24 : decode cX3_choose 24 = .ok (.iload 5, 2) := by decide +kernel
theorem dX3_choose_26 : decode cX3_choose 26 = .ok (.baload, 1) := by decide +kernel
theorem dX3_choose_27 : decode cX3_choose 27 = .ok (.ifCond .ne 59, 3) := by decide +kernel
theorem dX3_choose_30 : decode cX3_choose 30 = .ok (.aload_n 0, 1) := by decide +kernel
theorem dX3_choose_31 : decode cX3_choose 31 = .ok (.iload 5, 2) := by decide +kernel
theorem dX3_choose_33 : decode cX3_choose 33 = .ok (.invokevirtual 109, 3) := by decide +kernel
theorem dX3_choose_36 : decode cX3_choose 36 = .ok (.ifCond .ne 50, 3) := by decide +kernel
theorem dX3_choose_39 : decode cX3_choose 39 = .ok (.aload_n 0, 1) := by decide +kernel
theorem dX3_choose_40 : decode cX3_choose 40 = .ok (.getfield 33, 3) := by decide +kernel
theorem dX3_choose_43 : decode cX3_choose 43 = .ok (.iload 5, 2) := by decide +kernel
theorem dX3_choose_45 : decode cX3_choose 45 = .ok (.aload_n 0, 1) := by decide +kernel
theorem dX3_choose_46 : decode cX3_choose 46 = .ok (.getfield 25, 3) := by decide +kernel
theorem dX3_choose_49 : decode cX3_choose 49 = .ok (.invokevirtual 113, 3) := by decide +kernel
theorem dX3_choose_52 : decode cX3_choose 52 = .ok (.ifCond .ne 6, 3) := by decide +kernel
theorem dX3_choose_55 : decode cX3_choose 55 = .ok (.goto 31, 3) := by decide +kernel
theorem dX3_choose_58 : decode cX3_choose 58 = .ok (.aload_n 0, 1) := by decide +kernel
theorem dX3_choose_59 : decode cX3_choose 59 = .ok (.iload 5, 2) := by decide +kernel
theorem dX3_choose_61 : decode cX3_choose 61 = .ok (.aload_n 1, 1) := by decide +kernel
theorem dX3_choose_62 : decode cX3_choose 62 = .ok (.iload_n 2, 1) := by decide +kernel
theorem dX3_choose_63 : decode cX3_choose 63 = .ok (.invokevirtual 117, 3) := by decide +kernel
theorem dX3_choose_66 : decode cX3_choose 66 = .ok (.istore 6, 2) := by decide +kernel
theorem dX3_choose_68 : decode cX3_choose 68 = .ok (.iload_n 3, 1) := by decide +kernel
theorem dX3_choose_69 : decode cX3_choose 69 = .ok (.ifCond .lt 10, 3) := by decide +kernel
theorem dX3_choose_72 : decode cX3_choose 72 = .ok (.iload 6, 2) := by decide +kernel
theorem dX3_choose_74 : decode cX3_choose 74 = .ok (.iload 4, 2) := by decide +kernel
theorem dX3_choose_76 : decode cX3_choose 76 = .ok (.if_icmp .ge 10, 3) := by decide +kernel
theorem dX3_choose_79 : decode cX3_choose 79 = .ok (.iload 5, 2) := by decide +kernel
theorem dX3_choose_81 : decode cX3_choose 81 = .ok (.istore_n 3, 1) := by decide +kernel
theorem dX3_choose_82 : decode cX3_choose 82 = .ok (.iload 6, 2) := by decide +kernel
theorem dX3_choose_84 : decode cX3_choose 84 = .ok (.istore 4, 2) := by decide +kernel
theorem dX3_choose_86 : decode cX3_choose 86 = .ok (.iinc 5 1, 3) := by decide +kernel
theorem dX3_choose_89 : decode cX3_choose 89 = .ok (.goto (-81), 3) := by decide +kernel
theorem dX3_choose_92 : decode cX3_choose 92 = .ok (.iload_n 3, 1) := by decide +kernel
theorem dX3_choose_93 : decode cX3_choose 93 = .ok (.ireturn, 1) := by decide +kernel
theorem dX3_keyOf_0 : decode cX3_keyOf 0 = .ok (.iload_n 3, 1) := by decide +kernel
theorem dX3_keyOf_1 : decode cX3_keyOf 1 = .ok (.ifCond .ne 13, 3) := by decide +kernel
theorem dX3_keyOf_4 : decode cX3_keyOf 4 = .ok (.aload_n 2, 1) := by decide +kernel
theorem dX3_keyOf_5 : decode cX3_keyOf 5 = .ok (.getfield 121, 3) := by decide +kernel
theorem dX3_keyOf_8 : decode cX3_keyOf 8 = .ok (.getfield 126, 3) := by decide +kernel
theorem dX3_keyOf_11 : decode cX3_keyOf 11 = .ok (.iload_n 1, 1) := by decide +kernel
theorem dX3_keyOf_12 : decode cX3_keyOf 12 = .ok (.iaload, 1) := by decide +kernel
theorem dX3_keyOf_13 : decode cX3_keyOf 13 = .ok (.ireturn, 1) := by decide +kernel
theorem dX3_keyOf_14 : decode cX3_keyOf 14 = .ok (.iload_n 3, 1) := by decide +kernel
theorem dX3_keyOf_15 : decode cX3_keyOf 15 = .ok (.iconst 1, 1) := by decide +kernel
theorem dX3_keyOf_16 : decode cX3_keyOf 16 = .ok (.if_icmp .ne 10, 3) := by decide +kernel
theorem dX3_keyOf_19 : decode cX3_keyOf 19 = .ok (.aload_n 2, 1) := by decide +kernel
theorem dX3_keyOf_20 : decode cX3_keyOf 20 = .ok (.getfield 129, 3) := by decide +kernel
theorem dX3_keyOf_23 : decode cX3_keyOf 23 = .ok (.iload_n 1, 1) := by decide +kernel
theorem dX3_keyOf_24 : decode cX3_keyOf 24 = .ok (.iaload, 1) := by decide +kernel
theorem dX3_keyOf_25 : decode cX3_keyOf 25 = .ok (.ireturn, 1) := by decide +kernel
theorem dX3_keyOf_26 : decode cX3_keyOf 26 = .ok (.iload_n 3, 1) := by decide +kernel
theorem dX3_keyOf_27 : decode cX3_keyOf 27 = .ok (.iconst 2, 1) := by decide +kernel
theorem dX3_keyOf_28 : decode cX3_keyOf 28 = .ok (.if_icmp .ne 19, 3) := by decide +kernel
theorem dX3_keyOf_31 : decode cX3_keyOf 31 = .ok (.aload_n 0, 1) := by decide +kernel
theorem dX3_keyOf_32 : decode cX3_keyOf 32 = .ok (.getfield 33, 3) := by decide +kernel
theorem dX3_keyOf_35 : decode cX3_keyOf 35 = .ok (.getfield 46, 3) := by decide +kernel
theorem dX3_keyOf_38 : decode cX3_keyOf 38 = .ok (.iload_n 1, 1) := by decide +kernel
theorem dX3_keyOf_39 : decode cX3_keyOf 39 = .ok (.aaload, 1) := by decide +kernel
theorem dX3_keyOf_40 : decode cX3_keyOf 40 = .ok (.getfield 132, 3) := by decide +kernel
theorem dX3_keyOf_43 : decode cX3_keyOf 43 = .ok (.ineg, 1) := by decide +kernel
theorem dX3_keyOf_44 : decode cX3_keyOf 44 = .ok (.goto 16, 3) := by decide +kernel
theorem dX3_keyOf_47 : decode cX3_keyOf 47 = .ok (.aload_n 0, 1) := by decide +kernel
theorem dX3_keyOf_48 : decode cX3_keyOf 48 = .ok (.getfield 33, 3) := by decide +kernel
theorem dX3_keyOf_51 : decode cX3_keyOf 51 = .ok (.getfield 46, 3) := by decide +kernel
theorem dX3_keyOf_54 : decode cX3_keyOf 54 = .ok (.iload_n 1, 1) := by decide +kernel
theorem dX3_keyOf_55 : decode cX3_keyOf 55 = .ok (.aaload, 1) := by decide +kernel
theorem dX3_keyOf_56 : decode cX3_keyOf 56 = .ok (.getfield 82, 3) := by decide +kernel
theorem dX3_keyOf_59 : decode cX3_keyOf 59 = .ok (.ineg, 1) := by decide +kernel
theorem dX3_keyOf_60 : decode cX3_keyOf 60 = .ok (.ireturn, 1) := by decide +kernel
theorem dX3_isTooLarge_0 : decode cX3_isTooLarge 0 = .ok (.aload_n 0, 1) := by decide +kernel
theorem dX3_isTooLarge_1 : decode cX3_isTooLarge 1 = .ok (.getfield 33, 3) := by decide +kernel
theorem dX3_isTooLarge_4 : decode cX3_isTooLarge 4 = .ok (.getfield 46, 3) := by decide +kernel
theorem dX3_isTooLarge_7 : decode cX3_isTooLarge 7 = .ok (.iload_n 1, 1) := by decide +kernel
theorem dX3_isTooLarge_8 : decode cX3_isTooLarge 8 = .ok (.aaload, 1) := by decide +kernel
theorem dX3_isTooLarge_9 : decode cX3_isTooLarge 9 = .ok (.astore_n 2, 1) := by decide +kernel
theorem dX3_isTooLarge_10 : decode cX3_isTooLarge 10 = .ok (.aload_n 2, 1) := by decide +kernel
theorem dX3_isTooLarge_11 : decode cX3_isTooLarge 11 = .ok (.getfield 82, 3) := by decide +kernel
theorem dX3_isTooLarge_14 : decode cX3_isTooLarge 14 = .ok (.ifCond .ne 5, 3) := by decide +kernel
theorem dX3_isTooLarge_17 : decode cX3_isTooLarge 17 = .ok (.iconst 0, 1) := by decide +kernel
theorem dX3_isTooLarge_18 : decode cX3_isTooLarge 18 = .ok (.ireturn, 1) := by decide +kernel
theorem dX3_isTooLarge_19 : decode cX3_isTooLarge 19 = .ok (.iconst 0, 1) := by decide +kernel
theorem dX3_isTooLarge_20 : decode cX3_isTooLarge 20 = .ok (.istore_n 3, 1) := by decide +kernel
theorem dX3_isTooLarge_21 : decode cX3_isTooLarge 21 = .ok (.iload_n 3, 1) := by decide +kernel
theorem dX3_isTooLarge_22 : decode cX3_isTooLarge 22 = .ok (.iconst 4, 1) := by decide +kernel
theorem dX3_isTooLarge_23 : decode cX3_isTooLarge 23 = .ok (.if_icmp .ge 32, 3) := by decide +kernel
theorem dX3_isTooLarge_26 : decode cX3_isTooLarge 26 = .ok (.aload_n 2, 1) := by decide +kernel
theorem dX3_isTooLarge_27 : decode cX3_isTooLarge 27 = .ok (.getfield 135, 3) := by decide +kernel
theorem dX3_isTooLarge_30 : decode cX3_isTooLarge 30 = .ok (.iload_n 3, 1) := by decide +kernel
theorem dX3_isTooLarge_31 : decode cX3_isTooLarge 31 = .ok (.iaload, 1) := by decide +kernel
theorem dX3_isTooLarge_32 : decode cX3_isTooLarge 32 = .ok (.aload_n 0, 1) := by decide +kernel
theorem dX3_isTooLarge_33 : decode cX3_isTooLarge 33 = .ok (.getfield 33, 3) := by decide +kernel
theorem dX3_isTooLarge_36 : decode cX3_isTooLarge 36 = .ok (.getfield 138, 3) := by decide +kernel
theorem dX3_isTooLarge_39 : decode cX3_isTooLarge 39 = .ok (.iload_n 3, 1) := by decide +kernel
theorem dX3_isTooLarge_40 : decode cX3_isTooLarge 40 = .ok (.aaload, 1) := by decide +kernel
theorem dX3_isTooLarge_41 : decode cX3_isTooLarge 41 = .ok (.getfield 142, 3) := by decide +kernel
theorem dX3_isTooLarge_44 : decode cX3_isTooLarge 44 = .ok (.if_icmp .le 5, 3) := by decide +kernel
theorem dX3_isTooLarge_47 : decode cX3_isTooLarge 47 = .ok (.iconst 1, 1) := by decide +kernel
theorem dX3_isTooLarge_48 : decode cX3_isTooLarge 48 = .ok (.ireturn, 1) := by decide +kernel
theorem dX3_isTooLarge_49 : decode cX3_isTooLarge 49 = .ok (.iinc 3 1, 3) := by decide +kernel
theorem dX3_isTooLarge_52 : decode cX3_isTooLarge 52 = .ok (.goto (-31), 3) := by decide +kernel
theorem dX3_isTooLarge_55 : decode cX3_isTooLarge 55 = .ok (.iconst 0, 1) := by decide +kernel
theorem dX3_isTooLarge_56 : decode cX3_isTooLarge 56 = .ok (.ireturn, 1) := by decide +kernel
theorem dX3_firstWithCrews_0 : decode cX3_firstWithCrews 0 = .ok (.aload_n 0, 1) := by decide +kernel
theorem dX3_firstWithCrews_1 : decode cX3_firstWithCrews 1 = .ok (.getfield 33, 3) := by decide +kernel
theorem dX3_firstWithCrews_4 : decode cX3_firstWithCrews 4 = .ok (.getfield 46, 3) := by decide +kernel
theorem dX3_firstWithCrews_7 : decode cX3_firstWithCrews 7 = .ok (.iload_n 1, 1) := by decide +kernel
theorem dX3_firstWithCrews_8 : decode cX3_firstWithCrews 8 = .ok (.aaload, 1) := by decide +kernel
theorem dX3_firstWithCrews_9 : decode cX3_firstWithCrews 9 = .ok (.astore_n 3, 1) := by decide +kernel
theorem dX3_firstWithCrews_10 : decode cX3_firstWithCrews 10 = .ok (.aload_n 0, 1) := by decide +kernel
theorem dX3_firstWithCrews_11 : decode cX3_firstWithCrews 11 = .ok (.getfield 33, 3) := by decide +kernel
theorem dX3_firstWithCrews_14 : decode cX3_firstWithCrews 14 = .ok (.iload_n 1, 1) := by decide +kernel
theorem dX3_firstWithCrews_15 : decode cX3_firstWithCrews 15 = .ok (.invokevirtual 78, 3) := by decide +kernel
theorem dX3_firstWithCrews_18 : decode cX3_firstWithCrews 18 = .ok (.astore 4, 2) := by decide +kernel
theorem dX3_firstWithCrews_20 : decode cX3_firstWithCrews 20 = .ok (.iload_n 2, 1) := by decide +kernel
theorem dX3_firstWithCrews_21 : decode cX3_firstWithCrews 21 = .ok (.istore 5, 2) := by decide +kernel
theorem dX3_firstWithCrews_23 : decode cX3_firstWithCrews 23 = .ok (.iconst 0, 1) := by decide +kernel
theorem dX3_firstWithCrews_24 : decode cX3_firstWithCrews 24 = .ok (.istore 6, 2) := by decide +kernel
theorem dX3_firstWithCrews_26 : decode cX3_firstWithCrews 26 = .ok (.iload_n 2, 1) := by decide +kernel
theorem dX3_firstWithCrews_27 : decode cX3_firstWithCrews 27 = .ok (.istore 7, 2) := by decide +kernel
theorem dX3_firstWithCrews_29 : decode cX3_firstWithCrews 29 = .ok (.iload 7, 2) := by decide +kernel
theorem dX3_firstWithCrews_31 : decode cX3_firstWithCrews 31 = .ok (.sipush 5000, 3) := by decide +kernel
theorem dX3_firstWithCrews_34 : decode cX3_firstWithCrews 34 = .ok (.if_icmp .ge 59, 3) := by decide +kernel
theorem dX3_firstWithCrews_37 : decode cX3_firstWithCrews 37 = .ok (.iload 6, 2) := by decide +kernel
theorem dX3_firstWithCrews_39 : decode cX3_firstWithCrews 39 = .ok (.aload_n 3, 1) := by decide +kernel
theorem dX3_firstWithCrews_40 : decode cX3_firstWithCrews 40 = .ok (.getfield 82, 3) := by decide +kernel
theorem dX3_firstWithCrews_43 : decode cX3_firstWithCrews 43 = .ok (.if_icmp .ge 50, 3) := by decide +kernel
theorem dX3_firstWithCrews_46 : decode cX3_firstWithCrews 46 = .ok (.aload 4, 2) := by decide +kernel
theorem dX3_firstWithCrews_48 : decode cX3_firstWithCrews 48 = .ok (.iload 7, 2) := by decide +kernel
theorem dX3_firstWithCrews_50 : decode cX3_firstWithCrews 50 = .ok (.invokevirtual 147, 3) := by decide +kernel
theorem dX3_firstWithCrews_53 : decode cX3_firstWithCrews 53 = .ok (.ifCond .ne 6, 3) := by decide +kernel
theorem dX3_firstWithCrews_56 : decode cX3_firstWithCrews 56 = .ok (.goto 31, 3) := by decide +kernel
theorem dX3_firstWithCrews_59 : decode cX3_firstWithCrews 59 = .ok (.aload_n 0, 1) := by decide +kernel
theorem dX3_firstWithCrews_60 : decode cX3_firstWithCrews 60 = .ok (.aload_n 3, 1) := by decide +kernel
theorem dX3_firstWithCrews_61 : decode cX3_firstWithCrews 61 = .ok (.iload 7, 2) := by decide +kernel
theorem dX3_firstWithCrews_63 : decode cX3_firstWithCrews 63 = .ok (.invokevirtual 150, 3) := by decide +kernel
theorem dX3_firstWithCrews_66 : decode cX3_firstWithCrews 66 = .ok (.ifCond .ne 9, 3) := by decide +kernel
theorem dX3_firstWithCrews_69 : decode cX3_firstWithCrews 69 = .ok (.iconst 0, 1) := by decide +kernel
theorem dX3_firstWithCrews_70 : decode cX3_firstWithCrews 70 = .ok (.istore 6, 2) := by decide +kernel
theorem dX3_firstWithCrews_72 : decode cX3_firstWithCrews 72 = .ok (.goto 15, 3) := by decide +kernel
theorem dX3_firstWithCrews_75 : decode cX3_firstWithCrews 75 = .ok (.iload 6, 2) := by decide +kernel
theorem dX3_firstWithCrews_77 : decode cX3_firstWithCrews 77 = .ok (.ifCond .ne 7, 3) := by decide +kernel
theorem dX3_firstWithCrews_80 : decode cX3_firstWithCrews 80 = .ok (.iload 7, 2) := by decide +kernel
theorem dX3_firstWithCrews_82 : decode cX3_firstWithCrews 82 = .ok (.istore 5, 2) := by decide +kernel
theorem dX3_firstWithCrews_84 : decode cX3_firstWithCrews 84 = .ok (.iinc 6 1, 3) := by decide +kernel
theorem dX3_firstWithCrews_87 : decode cX3_firstWithCrews 87 = .ok (.iinc 7 1, 3) := by decide +kernel
theorem dX3_firstWithCrews_90 : decode cX3_firstWithCrews 90 = .ok (.goto (-61), 3) := by decide +kernel
theorem dX3_firstWithCrews_93 : decode cX3_firstWithCrews 93 = .ok (.iload 5, 2) := by decide +kernel
theorem dX3_firstWithCrews_95 : decode cX3_firstWithCrews 95 = .ok (.ireturn, 1) := by decide +kernel
theorem dX3_crewsSuffice_0 : decode cX3_crewsSuffice 0 = .ok (.iconst 0, 1) := by decide +kernel
theorem dX3_crewsSuffice_1 : decode cX3_crewsSuffice 1 = .ok (.istore_n 3, 1) := by decide +kernel
theorem dX3_crewsSuffice_2 : decode cX3_crewsSuffice 2 = .ok (.iload_n 3, 1) := by decide +kernel
theorem dX3_crewsSuffice_3 : decode cX3_crewsSuffice 3 = .ok (.iconst 4, 1) := by decide +kernel
theorem dX3_crewsSuffice_4 : decode cX3_crewsSuffice 4 = .ok (.if_icmp .ge 51, 3) := by decide +kernel
theorem dX3_crewsSuffice_7 : decode cX3_crewsSuffice 7 = .ok (.aload_n 1, 1) := by decide +kernel
theorem dX3_crewsSuffice_8 : decode cX3_crewsSuffice 8 = .ok (.getfield 135, 3) := by decide +kernel
theorem dX3_crewsSuffice_11 : decode cX3_crewsSuffice 11 = .ok (.iload_n 3, 1) := by decide +kernel
theorem dX3_crewsSuffice_12 : decode cX3_crewsSuffice 12 = .ok (.iaload, 1) := by decide +kernel
theorem dX3_crewsSuffice_13 : decode cX3_crewsSuffice 13 = .ok (.istore 4, 2) := by decide +kernel
theorem dX3_crewsSuffice_15 : decode cX3_crewsSuffice 15 = .ok (.iload 4, 2) := by decide +kernel
theorem dX3_crewsSuffice_17 : decode cX3_crewsSuffice 17 = .ok (.ifCond .le 32, 3) := by decide +kernel
theorem dX3_crewsSuffice_20 : decode cX3_crewsSuffice 20 = .ok (.iload 4, 2) := by decide +kernel
theorem dX3_crewsSuffice_22 : decode cX3_crewsSuffice 22 = .ok (.aload_n 0, 1) := by decide +kernel
theorem dX3_crewsSuffice_23 : decode cX3_crewsSuffice 23 = .ok (.getfield 33, 3) := by decide +kernel
theorem dX3_crewsSuffice_26 : decode cX3_crewsSuffice 26 = .ok (.getfield 138, 3) := by decide +kernel
theorem dX3_crewsSuffice_29 : decode cX3_crewsSuffice 29 = .ok (.iload_n 3, 1) := by decide +kernel
theorem dX3_crewsSuffice_30 : decode cX3_crewsSuffice 30 = .ok (.aaload, 1) := by decide +kernel
theorem dX3_crewsSuffice_31 : decode cX3_crewsSuffice 31 = .ok (.getfield 142, 3) := by decide +kernel
theorem dX3_crewsSuffice_34 : decode cX3_crewsSuffice 34 = .ok (.aload_n 0, 1) := by decide +kernel
theorem dX3_crewsSuffice_35 : decode cX3_crewsSuffice 35 = .ok (.getfield 21, 3) := by decide +kernel
theorem dX3_crewsSuffice_38 : decode cX3_crewsSuffice 38 = .ok (.iload_n 3, 1) := by decide +kernel
theorem dX3_crewsSuffice_39 : decode cX3_crewsSuffice 39 = .ok (.iload_n 2, 1) := by decide +kernel
theorem dX3_crewsSuffice_40 : decode cX3_crewsSuffice 40 = .ok (.invokevirtual 154, 3) := by decide +kernel
theorem dX3_crewsSuffice_43 : decode cX3_crewsSuffice 43 = .ok (.isub, 1) := by decide +kernel
theorem dX3_crewsSuffice_44 : decode cX3_crewsSuffice 44 = .ok (.if_icmp .le 5, 3) := by decide +kernel
theorem dX3_crewsSuffice_47 : decode cX3_crewsSuffice 47 = .ok (.iconst 0, 1) := by decide +kernel
theorem dX3_crewsSuffice_48 : decode cX3_crewsSuffice 48 = .ok (.ireturn, 1) := by decide +kernel
theorem dX3_crewsSuffice_49 : decode cX3_crewsSuffice 49 = .ok (.iinc 3 1, 3) := by decide +kernel
theorem dX3_crewsSuffice_52 : decode cX3_crewsSuffice 52 = .ok (.goto (-50), 3) := by decide +kernel
theorem dX3_crewsSuffice_55 : decode cX3_crewsSuffice 55 = .ok (.iconst 1, 1) := by decide +kernel
theorem dX3_crewsSuffice_56 : decode cX3_crewsSuffice 56 = .ok (.ireturn, 1) := by decide +kernel
theorem dX3_holdOf_0 : decode cX3_holdOf 0 = .ok (.aload_n 0, 1) := by decide +kernel
theorem dX3_holdOf_1 : decode cX3_holdOf 1 = .ok (.getfield 33, 3) := by decide +kernel
theorem dX3_holdOf_4 : decode cX3_holdOf 4 = .ok (.getfield 46, 3) := by decide +kernel
theorem dX3_holdOf_7 : decode cX3_holdOf 7 = .ok (.iload_n 1, 1) := by decide +kernel
theorem dX3_holdOf_8 : decode cX3_holdOf 8 = .ok (.aaload, 1) := by decide +kernel
theorem dX3_holdOf_9 : decode cX3_holdOf 9 = .ok (.astore_n 2, 1) := by decide +kernel
theorem dX3_holdOf_10 : decode cX3_holdOf 10 = .ok (.aload_n 2, 1) := by decide +kernel
theorem dX3_holdOf_11 : decode cX3_holdOf 11 = .ok (.getfield 50, 3) := by decide +kernel
theorem dX3_holdOf_14 : decode cX3_holdOf 14 = .ok (.ifCond .ne 12, 3) := by decide +kernel
theorem dX3_holdOf_17 : decode cX3_holdOf 17 = .ok (.aload_n 0, 1) := by decide +kernel
theorem dX3_holdOf_18 : decode cX3_holdOf 18 = .ok (.getfield 25, 3) := by decide +kernel
theorem dX3_holdOf_21 : decode cX3_holdOf 21 = .ok (.iload_n 1, 1) := by decide +kernel
theorem dX3_holdOf_22 : decode cX3_holdOf 22 = .ok (.baload, 1) := by decide +kernel
theorem dX3_holdOf_23 : decode cX3_holdOf 23 = .ok (.ifCond .ne 5, 3) := by decide +kernel
theorem dX3_holdOf_26 : decode cX3_holdOf 26 = .ok (.iconst (-1), 1) := by decide +kernel
theorem dX3_holdOf_27 : decode cX3_holdOf 27 = .ok (.ireturn, 1) := by decide +kernel
theorem dX3_holdOf_28 : decode cX3_holdOf 28 = .ok (.aload_n 0, 1) := by decide +kernel
theorem dX3_holdOf_29 : decode cX3_holdOf 29 = .ok (.getfield 12, 3) := by decide +kernel
theorem dX3_holdOf_32 : decode cX3_holdOf 32 = .ok (.getfield 126, 3) := by decide +kernel
theorem dX3_holdOf_35 : decode cX3_holdOf 35 = .ok (.iload_n 1, 1) := by decide +kernel
theorem dX3_holdOf_36 : decode cX3_holdOf 36 = .ok (.iaload, 1) := by decide +kernel
theorem dX3_holdOf_37 : decode cX3_holdOf 37 = .ok (.istore_n 3, 1) := by decide +kernel
theorem dX3_holdOf_38 : decode cX3_holdOf 38 = .ok (.iload_n 3, 1) := by decide +kernel
theorem dX3_holdOf_39 : decode cX3_holdOf 39 = .ok (.aload_n 0, 1) := by decide +kernel
theorem dX3_holdOf_40 : decode cX3_holdOf 40 = .ok (.getfield 33, 3) := by decide +kernel
theorem dX3_holdOf_43 : decode cX3_holdOf 43 = .ok (.iload_n 1, 1) := by decide +kernel
theorem dX3_holdOf_44 : decode cX3_holdOf 44 = .ok (.aload_n 0, 1) := by decide +kernel
theorem dX3_holdOf_45 : decode cX3_holdOf 45 = .ok (.getfield 12, 3) := by decide +kernel
theorem dX3_holdOf_48 : decode cX3_holdOf 48 = .ok (.invokevirtual 70, 3) := by decide +kernel
theorem dX3_holdOf_51 : decode cX3_holdOf 51 = .ok (.if_icmp .le 5, 3) := by decide +kernel
theorem dX3_holdOf_54 : decode cX3_holdOf 54 = .ok (.iconst 2, 1) := by decide +kernel
theorem dX3_holdOf_55 : decode cX3_holdOf 55 = .ok (.ireturn, 1) := by decide +kernel
theorem dX3_holdOf_56 : decode cX3_holdOf 56 = .ok (.iload_n 3, 1) := by decide +kernel
theorem dX3_holdOf_57 : decode cX3_holdOf 57 = .ok (.aload_n 0, 1) := by decide +kernel
theorem dX3_holdOf_58 : decode cX3_holdOf 58 = .ok (.getfield 33, 3) := by decide +kernel
theorem dX3_holdOf_61 : decode cX3_holdOf 61 = .ok (.iload_n 1, 1) := by decide +kernel
theorem dX3_holdOf_62 : decode cX3_holdOf 62 = .ok (.invokevirtual 78, 3) := by decide +kernel
theorem dX3_holdOf_65 : decode cX3_holdOf 65 = .ok (.aload_n 2, 1) := by decide +kernel
theorem dX3_holdOf_66 : decode cX3_holdOf 66 = .ok (.getfield 82, 3) := by decide +kernel
theorem dX3_holdOf_69 : decode cX3_holdOf 69 = .ok (.aload_n 2, 1) := by decide +kernel
theorem dX3_holdOf_70 : decode cX3_holdOf 70 = .ok (.getfield 157, 3) := by decide +kernel
theorem dX3_holdOf_73 : decode cX3_holdOf 73 = .ok (.iconst 0, 1) := by decide +kernel
theorem dX3_holdOf_74 : decode cX3_holdOf 74 = .ok (.invokevirtual 160, 3) := by decide +kernel
theorem dX3_holdOf_77 : decode cX3_holdOf 77 = .ok (.if_icmp .le 7, 3) := by decide +kernel
theorem dX3_holdOf_80 : decode cX3_holdOf 80 = .ok (.iconst 1, 1) := by decide +kernel
theorem dX3_holdOf_81 : decode cX3_holdOf 81 = .ok (.goto 4, 3) := by decide +kernel
theorem dX3_holdOf_84 : decode cX3_holdOf 84 = .ok (.iconst 0, 1) := by decide +kernel
theorem dX3_holdOf_85 : decode cX3_holdOf 85 = .ok (.istore 4, 2) := by decide +kernel
theorem dX3_holdOf_87 : decode cX3_holdOf 87 = .ok (.iload 4, 2) := by decide +kernel
theorem dX3_holdOf_89 : decode cX3_holdOf 89 = .ok (.ifCond .eq 7, 3) := by decide +kernel
theorem dX3_holdOf_92 : decode cX3_holdOf 92 = .ok (.iconst 1, 1) := by decide +kernel
theorem dX3_holdOf_93 : decode cX3_holdOf 93 = .ok (.goto 4, 3) := by decide +kernel
theorem dX3_holdOf_96 : decode cX3_holdOf 96 = .ok (.iconst 0, 1) := by decide +kernel
theorem dX3_holdOf_97 : decode cX3_holdOf 97 = .ok (.ireturn, 1) := by decide +kernel
theorem dX3_linkThatHolds_0 : decode cX3_linkThatHolds 0 = .ok (.aload_n 0, 1) := by decide +kernel
theorem dX3_linkThatHolds_1 : decode cX3_linkThatHolds 1 = .ok (.iload_n 1, 1) := by decide +kernel
theorem dX3_linkThatHolds_2 : decode cX3_linkThatHolds 2 = .ok (.invokevirtual 164, 3) := by decide +kernel
theorem dX3_linkThatHolds_5 : decode cX3_linkThatHolds 5 = .ok (.iconst 1, 1) := by decide +kernel
theorem dX3_linkThatHolds_6 : decode cX3_linkThatHolds 6 = .ok (.if_icmp .eq 5, 3) := by decide +kernel
theorem dX3_linkThatHolds_9 : decode cX3_linkThatHolds 9 = .ok (.iconst (-1), 1) := by decide +kernel
theorem dX3_linkThatHolds_10 : decode cX3_linkThatHolds 10 = .ok (.ireturn, 1) := by decide +kernel
theorem dX3_linkThatHolds_11 : decode cX3_linkThatHolds 11 = .ok (.iconst 0, 1) := by decide +kernel
theorem dX3_linkThatHolds_12 : decode cX3_linkThatHolds 12 = .ok (.istore_n 2, 1) := by decide +kernel
theorem dX3_linkThatHolds_13 : decode cX3_linkThatHolds 13 = .ok (.iload_n 2, 1) := by decide +kernel
theorem dX3_linkThatHolds_14 : decode cX3_linkThatHolds 14 = .ok (.aload_n 0, 1) := by decide +kernel
theorem dX3_linkThatHolds_15 : decode cX3_linkThatHolds 15 = .ok (.getfield 33, 3) := by decide +kernel
theorem dX3_linkThatHolds_18 : decode cX3_linkThatHolds 18 = .ok (.getfield 168, 3) := by decide +kernel
theorem dX3_linkThatHolds_21 : decode cX3_linkThatHolds 21 = .ok (.if_icmp .ge 53, 3) := by decide +kernel
theorem dX3_linkThatHolds_24 : decode cX3_linkThatHolds 24 = .ok (.aload_n 0, 1) := by decide +kernel
theorem dX3_linkThatHolds_25 : decode cX3_linkThatHolds 25 = .ok (.getfield 33, 3) := by decide +kernel
theorem dX3_linkThatHolds_28 : decode cX3_linkThatHolds 28 = .ok (.getfield 171, 3) := by decide +kernel
theorem dX3_linkThatHolds_31 : decode cX3_linkThatHolds 31 = .ok (.iload_n 2, 1) := by decide +kernel
theorem dX3_linkThatHolds_32 : decode cX3_linkThatHolds 32 = .ok (.aaload, 1) := by decide +kernel
theorem dX3_linkThatHolds_33 : decode cX3_linkThatHolds 33 = .ok (.astore_n 3, 1) := by decide +kernel
theorem dX3_linkThatHolds_34 : decode cX3_linkThatHolds 34 = .ok (.aload_n 3, 1) := by decide +kernel
theorem dX3_linkThatHolds_35 : decode cX3_linkThatHolds 35 = .ok (.getfield 175, 3) := by decide +kernel
theorem dX3_linkThatHolds_38 : decode cX3_linkThatHolds 38 = .ok (.iload_n 1, 1) := by decide +kernel
theorem dX3_linkThatHolds_39 : decode cX3_linkThatHolds 39 = .ok (.if_icmp .ne 29, 3) := by decide +kernel
theorem dX3_linkThatHolds_42 : decode cX3_linkThatHolds 42 = .ok (.aload_n 0, 1) := by decide +kernel
theorem dX3_linkThatHolds_43 : decode cX3_linkThatHolds 43 = .ok (.getfield 33, 3) := by decide +kernel
theorem dX3_linkThatHolds_46 : decode cX3_linkThatHolds 46 = .ok (.aload_n 3, 1) := by decide +kernel
theorem dX3_linkThatHolds_47 : decode cX3_linkThatHolds 47 = .ok (.aload_n 0, 1) := by decide +kernel
theorem dX3_linkThatHolds_48 : decode cX3_linkThatHolds 48 = .ok (.getfield 12, 3) := by decide +kernel
theorem dX3_linkThatHolds_51 : decode cX3_linkThatHolds 51 = .ok (.invokevirtual 180, 3) := by decide +kernel
theorem dX3_linkThatHolds_54 : decode cX3_linkThatHolds 54 = .ok (.aload_n 0, 1) := by decide +kernel
theorem dX3_linkThatHolds_55 : decode cX3_linkThatHolds 55 = .ok (.getfield 12, 3) := by decide +kernel
theorem dX3_linkThatHolds_58 : decode cX3_linkThatHolds 58 = .ok (.getfield 126, 3) := by decide +kernel
theorem dX3_linkThatHolds_61 : decode cX3_linkThatHolds 61 = .ok (.iload_n 1, 1) := by decide +kernel
theorem dX3_linkThatHolds_62 : decode cX3_linkThatHolds 62 = .ok (.iaload, 1) := by decide +kernel
theorem dX3_linkThatHolds_63 : decode cX3_linkThatHolds 63 = .ok (.if_icmp .lt 5, 3) := by decide +kernel
theorem dX3_linkThatHolds_66 : decode cX3_linkThatHolds 66 = .ok (.iload_n 2, 1) := by decide +kernel
theorem dX3_linkThatHolds_67 : decode cX3_linkThatHolds 67 = .ok (.ireturn, 1) := by decide +kernel
theorem dX3_linkThatHolds_68 : decode cX3_linkThatHolds 68 = .ok (.iinc 2 1, 3) := by decide +kernel
theorem dX3_linkThatHolds_71 : decode cX3_linkThatHolds 71 = .ok (.goto (-58), 3) := by decide +kernel
theorem dX3_linkThatHolds_74 : decode cX3_linkThatHolds 74 = .ok (.iconst (-1), 1) := by decide +kernel
theorem dX3_linkThatHolds_75 : decode cX3_linkThatHolds 75 = .ok (.ireturn, 1) := by decide +kernel
theorem dX4_init_0 : decode cX4_init 0 = .ok (.aload_n 0, 1) := by decide +kernel
theorem dX4_init_1 : decode cX4_init 1 = .ok (.invokespecial 1, 3) := by decide +kernel
theorem dX4_init_4 : decode cX4_init 4 = .ok (.return_, 1) := by decide +kernel
theorem dX5_init_0 : decode cX5_init 0 = .ok (.aload_n 0, 1) := by decide +kernel
theorem dX5_init_1 : decode cX5_init 1 = .ok (.invokespecial 3, 3) := by decide +kernel
theorem dX5_init_4 : decode cX5_init 4 = .ok (.aload_n 0, 1) := by decide +kernel
theorem dX5_init_5 : decode cX5_init 5 = .ok (.iconst 4, 1) := by decide +kernel
theorem dX5_init_6 : decode cX5_init 6 = .ok (.sipush 5000, 3) := by decide +kernel
theorem dX5_init_9 : decode cX5_init 9 = .ok (.multianewarray 9 2, 4) := by decide +kernel
theorem dX5_init_13 : decode cX5_init 13 = .ok (.putfield 11, 3) := by decide +kernel
theorem dX5_init_16 : decode cX5_init 16 = .ok (.return_, 1) := by decide +kernel
theorem dX5_clear_0 : decode cX5_clear 0 = .ok (.iconst 0, 1) := by decide +kernel
theorem dX5_clear_1 : decode cX5_clear 1 = .ok (.istore_n 1, 1) := by decide +kernel
theorem dX5_clear_2 : decode cX5_clear 2 = .ok (.iload_n 1, 1) := by decide +kernel
theorem dX5_clear_3 : decode cX5_clear 3 = .ok (.iconst 4, 1) := by decide +kernel
theorem dX5_clear_4 : decode cX5_clear 4 = .ok (.if_icmp .ge 24, 3) := by decide +kernel
theorem dX5_clear_7 : decode cX5_clear 7 = .ok (.aload_n 0, 1) := by decide +kernel
theorem dX5_clear_8 : decode cX5_clear 8 = .ok (.getfield 11, 3) := by decide +kernel
theorem dX5_clear_11 : decode cX5_clear 11 = .ok (.iload_n 1, 1) := by decide +kernel
theorem dX5_clear_12 : decode cX5_clear 12 = .ok (.aaload, 1) := by decide +kernel
theorem dX5_clear_13 : decode cX5_clear 13 = .ok (.iconst 0, 1) := by decide +kernel
theorem dX5_clear_14 : decode cX5_clear 14 = .ok (.aload_n 0, 1) := by decide +kernel
theorem dX5_clear_15 : decode cX5_clear 15 = .ok (.getfield 16, 3) := by decide +kernel
theorem dX5_clear_18 : decode cX5_clear 18 = .ok (.iconst 0, 1) := by decide +kernel
theorem dX5_clear_19 : decode cX5_clear 19 = .ok (.invokestatic 20, 3) := by decide +kernel
theorem dX5_clear_22 : decode cX5_clear 22 = .ok (.iinc 1 1, 3) := by decide +kernel
theorem dX5_clear_25 : decode cX5_clear 25 = .ok (.goto (-23), 3) := by decide +kernel
theorem dX5_clear_28 : decode cX5_clear 28 = .ok (.aload_n 0, 1) := by decide +kernel
theorem dX5_clear_29 : decode cX5_clear 29 = .ok (.iconst 0, 1) := by decide +kernel
theorem dX5_clear_30 : decode cX5_clear 30 = .ok (.putfield 16, 3) := by decide +kernel
theorem dX5_clear_33 : decode cX5_clear 33 = .ok (.return_, 1) := by decide +kernel
theorem dX5_add_0 : decode cX5_add 0 = .ok (.iload 4, 2) := by decide +kernel
theorem dX5_add_2 : decode cX5_add 2 = .ok (.sipush 5000, 3) := by decide +kernel
theorem dX5_add_5 : decode cX5_add 5 = .ok (.invokestatic 26, 3) := by decide +kernel
theorem dX5_add_8 : decode cX5_add 8 = .ok (.istore 5, 2) := by decide +kernel
theorem dX5_add_10 : decode cX5_add 10 = .ok (.iload_n 3, 1) := by decide +kernel
theorem dX5_add_11 : decode cX5_add 11 = .ok (.iconst 0, 1) := by decide +kernel
theorem dX5_add_12 : decode cX5_add 12 = .ok (.invokestatic 32, 3) := by decide +kernel
theorem dX5_add_15 : decode cX5_add 15 = .ok (.istore 6, 2) := by decide +kernel
theorem dX5_add_17 : decode cX5_add 17 = .ok (.iload 6, 2) := by decide +kernel
theorem dX5_add_19 : decode cX5_add 19 = .ok (.iload 5, 2) := by decide +kernel
theorem dX5_add_21 : decode cX5_add 21 = .ok (.if_icmp .ge 53, 3) := by decide +kernel
theorem dX5_add_24 : decode cX5_add 24 = .ok (.aload_n 2, 1) := by decide +kernel
theorem dX5_add_25 : decode cX5_add 25 = .ok (.iload 6, 2) := by decide +kernel
theorem dX5_add_27 : decode cX5_add 27 = .ok (.invokevirtual 35, 3) := by decide +kernel
theorem dX5_add_30 : decode cX5_add 30 = .ok (.ifCond .eq 38, 3) := by decide +kernel
theorem dX5_add_33 : decode cX5_add 33 = .ok (.iconst 0, 1) := by decide +kernel
theorem dX5_add_34 : decode cX5_add 34 = .ok (.istore 7, 2) := by decide +kernel
theorem dX5_add_36 : decode cX5_add 36 = .ok (.iload 7, 2) := by decide +kernel
theorem dX5_add_38 : decode cX5_add 38 = .ok (.iconst 4, 1) := by decide +kernel
theorem dX5_add_39 : decode cX5_add 39 = .ok (.if_icmp .ge 29, 3) := by decide +kernel
theorem dX5_add_42 : decode cX5_add 42 = .ok (.aload_n 0, 1) := by decide +kernel
theorem dX5_add_43 : decode cX5_add 43 = .ok (.getfield 11, 3) := by decide +kernel
theorem dX5_add_46 : decode cX5_add 46 = .ok (.iload 7, 2) := by decide +kernel
theorem dX5_add_48 : decode cX5_add 48 = .ok (.aaload, 1) := by decide +kernel
theorem dX5_add_49 : decode cX5_add 49 = .ok (.iload 6, 2) := by decide +kernel
theorem dX5_add_51 : decode cX5_add 51 = .ok (.dup2, 1) := by decide +kernel
theorem dX5_add_52 : decode cX5_add 52 = .ok (.iaload, 1) := by decide +kernel
theorem dX5_add_53 : decode cX5_add 53 = .ok (.aload_n 1, 1) := by decide +kernel
theorem dX5_add_54 : decode cX5_add 54 = .ok (.getfield 41, 3) := by decide +kernel
theorem dX5_add_57 : decode cX5_add 57 = .ok (.iload 7, 2) := by decide +kernel
theorem dX5_add_59 : decode cX5_add 59 = .ok (.iaload, 1) := by decide +kernel
theorem dX5_add_60 : decode cX5_add 60 = .ok (.iadd, 1) := by decide +kernel
theorem dX5_add_61 : decode cX5_add 61 = .ok (.iastore, 1) := by decide +kernel
theorem dX5_add_62 : decode cX5_add 62 = .ok (.iinc 7 1, 3) := by decide +kernel
theorem dX5_add_65 : decode cX5_add 65 = .ok (.goto (-29), 3) := by decide +kernel
theorem dX5_add_68 : decode cX5_add 68 = .ok (.iinc 6 1, 3) := by decide +kernel
theorem dX5_add_71 : decode cX5_add 71 = .ok (.goto (-54), 3) := by decide +kernel
theorem dX5_add_74 : decode cX5_add 74 = .ok (.aload_n 0, 1) := by decide +kernel
theorem dX5_add_75 : decode cX5_add 75 = .ok (.aload_n 0, 1) := by decide +kernel
theorem dX5_add_76 : decode cX5_add 76 = .ok (.getfield 16, 3) := by decide +kernel
theorem dX5_add_79 : decode cX5_add 79 = .ok (.iload 5, 2) := by decide +kernel
theorem dX5_add_81 : decode cX5_add 81 = .ok (.invokestatic 32, 3) := by decide +kernel
theorem dX5_add_84 : decode cX5_add 84 = .ok (.putfield 16, 3) := by decide +kernel
theorem dX5_add_87 : decode cX5_add 87 = .ok (.return_, 1) := by decide +kernel
theorem dX5_on_0 : decode cX5_on 0 = .ok (.iload_n 2, 1) := by decide +kernel
theorem dX5_on_1 : decode cX5_on 1 = .ok (.sipush 4999, 3) := by decide +kernel
theorem dX5_on_4 : decode cX5_on 4 = .ok (.invokestatic 47, 3) := by decide +kernel
theorem dX5_on_7 : decode cX5_on 7 = .ok (.ifCond .eq 14, 3) := by decide +kernel
theorem dX5_on_10 : decode cX5_on 10 = .ok (.aload_n 0, 1) := by decide +kernel
theorem dX5_on_11 : decode cX5_on 11 = .ok (.getfield 11, 3) := by decide +kernel
theorem dX5_on_14 : decode cX5_on 14 = .ok (.iload_n 1, 1) := by decide +kernel
theorem dX5_on_15 : decode cX5_on 15 = .ok (.aaload, 1) := by decide +kernel
theorem dX5_on_16 : decode cX5_on 16 = .ok (.iload_n 2, 1) := by decide +kernel
theorem dX5_on_17 : decode cX5_on 17 = .ok (.iaload, 1) := by decide +kernel
theorem dX5_on_18 : decode cX5_on 18 = .ok (.goto 4, 3) := by decide +kernel
theorem dX5_on_21 : decode cX5_on 21 = .ok (.iconst 0, 1) := by decide +kernel
theorem dX5_on_22 : decode cX5_on 22 = .ok (.ireturn, 1) := by decide +kernel
theorem dX5_daysAbove_0 : decode cX5_daysAbove 0 = .ok (.iconst 0, 1) := by decide +kernel
theorem dX5_daysAbove_1 : decode cX5_daysAbove 1 = .ok (.istore_n 3, 1) := by decide +kernel
theorem dX5_daysAbove_2 : decode cX5_daysAbove 2 = .ok (.iconst 0, 1) := by decide +kernel
theorem dX5_daysAbove_3 : decode cX5_daysAbove 3 = .ok (.istore 4, 2) := by decide +kernel
theorem dX5_daysAbove_5 : decode cX5_daysAbove 5 = .ok (.iload 4, 2) := by decide +kernel
theorem dX5_daysAbove_7 : decode cX5_daysAbove 7 = .ok (.aload_n 0, 1) := by decide +kernel
theorem dX5_daysAbove_8 : decode cX5_daysAbove 8 = .ok (.getfield 16, 3) := by decide +kernel
theorem dX5_daysAbove_11 : decode cX5_daysAbove 11 = .ok (.if_icmp .ge 25, 3) := by decide +kernel
theorem dX5_daysAbove_14 : decode cX5_daysAbove 14 = .ok (.aload_n 0, 1) := by decide +kernel
theorem dX5_daysAbove_15 : decode cX5_daysAbove 15 = .ok (.getfield 11, 3) := by decide +kernel
theorem dX5_daysAbove_18 : decode cX5_daysAbove 18 = .ok (.iload_n 1, 1) := by decide +kernel
theorem dX5_daysAbove_19 : decode cX5_daysAbove 19 = .ok (.aaload, 1) := by decide +kernel
theorem dX5_daysAbove_20 : decode cX5_daysAbove 20 = .ok (.iload 4, 2) := by decide +kernel
theorem dX5_daysAbove_22 : decode cX5_daysAbove 22 = .ok (.iaload, 1) := by decide +kernel
theorem dX5_daysAbove_23 : decode cX5_daysAbove 23 = .ok (.iload_n 2, 1) := by decide +kernel
theorem dX5_daysAbove_24 : decode cX5_daysAbove 24 = .ok (.if_icmp .le 6, 3) := by decide +kernel
theorem dX5_daysAbove_27 : decode cX5_daysAbove 27 = .ok (.iinc 3 1, 3) := by decide +kernel
theorem dX5_daysAbove_30 : decode cX5_daysAbove 30 = .ok (.iinc 4 1, 3) := by decide +kernel
theorem dX5_daysAbove_33 : decode cX5_daysAbove 33 = .ok (.goto (-28), 3) := by decide +kernel
theorem dX5_daysAbove_36 : decode cX5_daysAbove 36 = .ok (.iload_n 3, 1) := by decide +kernel
theorem dX5_daysAbove_37 : decode cX5_daysAbove 37 = .ok (.ireturn, 1) := by decide +kernel
theorem dX5_greatest_0 : decode cX5_greatest 0 = .ok (.iconst 0, 1) := by decide +kernel
theorem dX5_greatest_1 : decode cX5_greatest 1 = .ok (.istore_n 2, 1) := by decide +kernel
theorem dX5_greatest_2 : decode cX5_greatest 2 = .ok (.iconst 0, 1) := by decide +kernel
theorem dX5_greatest_3 : decode cX5_greatest 3 = .ok (.istore_n 3, 1) := by decide +kernel
theorem dX5_greatest_4 : decode cX5_greatest 4 = .ok (.iload_n 3, 1) := by decide +kernel
theorem dX5_greatest_5 : decode cX5_greatest 5 = .ok (.aload_n 0, 1) := by decide +kernel
theorem dX5_greatest_6 : decode cX5_greatest 6 = .ok (.getfield 16, 3) := by decide +kernel
theorem dX5_greatest_9 : decode cX5_greatest 9 = .ok (.if_icmp .ge 22, 3) := by decide +kernel
theorem dX5_greatest_12 : decode cX5_greatest 12 = .ok (.iload_n 2, 1) := by decide +kernel
theorem dX5_greatest_13 : decode cX5_greatest 13 = .ok (.aload_n 0, 1) := by decide +kernel
theorem dX5_greatest_14 : decode cX5_greatest 14 = .ok (.getfield 11, 3) := by decide +kernel
theorem dX5_greatest_17 : decode cX5_greatest 17 = .ok (.iload_n 1, 1) := by decide +kernel
theorem dX5_greatest_18 : decode cX5_greatest 18 = .ok (.aaload, 1) := by decide +kernel
theorem dX5_greatest_19 : decode cX5_greatest 19 = .ok (.iload_n 3, 1) := by decide +kernel
theorem dX5_greatest_20 : decode cX5_greatest 20 = .ok (.iaload, 1) := by decide +kernel
theorem dX5_greatest_21 : decode cX5_greatest 21 = .ok (.invokestatic 32, 3) := by decide +kernel
theorem dX5_greatest_24 : decode cX5_greatest 24 = .ok (.istore_n 2, 1) := by decide +kernel
theorem dX5_greatest_25 : decode cX5_greatest 25 = .ok (.iinc 3 1, 3) := by decide +kernel
theorem dX5_greatest_28 : decode cX5_greatest 28 = .ok (.goto (-24), 3) := by decide +kernel
theorem dX5_greatest_31 : decode cX5_greatest 31 = .ok (.iload_n 2, 1) := by decide +kernel
theorem dX5_greatest_32 : decode cX5_greatest 32 = .ok (.ireturn, 1) := by decide +kernel
theorem dX5_leftOver_0 : decode cX5_leftOver 0 = .ok (.iconst 0, 1) := by decide +kernel
theorem dX5_leftOver_1 : decode cX5_leftOver 1 = .ok (.istore 4, 2) := by decide +kernel
theorem dX5_leftOver_3 : decode cX5_leftOver 3 = .ok (.iconst 0, 1) := by decide +kernel
theorem dX5_leftOver_4 : decode cX5_leftOver 4 = .ok (.istore 5, 2) := by decide +kernel
theorem dX5_leftOver_6 : decode cX5_leftOver 6 = .ok (.iload 5, 2) := by decide +kernel
theorem dX5_leftOver_8 : decode cX5_leftOver 8 = .ok (.iload_n 3, 1) := by decide +kernel
theorem dX5_leftOver_9 : decode cX5_leftOver 9 = .ok (.if_icmp .ge 27, 3) := by decide +kernel
theorem dX5_leftOver_12 : decode cX5_leftOver 12 = .ok (.iload 4, 2) := by decide +kernel
theorem dX5_leftOver_14 : decode cX5_leftOver 14 = .ok (.iconst 0, 1) := by decide +kernel
theorem dX5_leftOver_15 : decode cX5_leftOver 15 = .ok (.iload_n 2, 1) := by decide +kernel
theorem dX5_leftOver_16 : decode cX5_leftOver 16 = .ok (.aload_n 0, 1) := by decide +kernel
theorem dX5_leftOver_17 : decode cX5_leftOver 17 = .ok (.iload_n 1, 1) := by decide +kernel
theorem dX5_leftOver_18 : decode cX5_leftOver 18 = .ok (.iload 5, 2) := by decide +kernel
theorem dX5_leftOver_20 : decode cX5_leftOver 20 = .ok (.invokevirtual 51, 3) := by decide +kernel
theorem dX5_leftOver_23 : decode cX5_leftOver 23 = .ok (.isub, 1) := by decide +kernel
theorem dX5_leftOver_24 : decode cX5_leftOver 24 = .ok (.invokestatic 32, 3) := by decide +kernel
theorem dX5_leftOver_27 : decode cX5_leftOver 27 = .ok (.iadd, 1) := by decide +kernel
theorem dX5_leftOver_28 : decode cX5_leftOver 28 = .ok (.istore 4, 2) := by decide +kernel
theorem dX5_leftOver_30 : decode cX5_leftOver 30 = .ok (.iinc 5 1, 3) := by decide +kernel
theorem dX5_leftOver_33 : decode cX5_leftOver 33 = .ok (.goto (-27), 3) := by decide +kernel
theorem dX5_leftOver_36 : decode cX5_leftOver 36 = .ok (.iload 4, 2) := by decide +kernel
theorem dX5_leftOver_38 : decode cX5_leftOver 38 = .ok (.ireturn, 1) := by decide +kernel
theorem dX6_init_0 : decode cX6_init 0 = .ok (.aload_n 0, 1) := by decide +kernel
theorem dX6_init_1 : decode cX6_init 1 = .ok (.invokespecial 3, 3) := by decide +kernel
theorem dX6_init_4 : decode cX6_init 4 = .ok (.aload_n 0, 1) := by decide +kernel
theorem dX6_init_5 : decode cX6_init 5 = .ok (.new 9, 3) := by decide +kernel
theorem dX6_init_8 : decode cX6_init 8 = .ok (.dup, 1) := by decide +kernel
theorem dX6_init_9 : decode cX6_init 9 = .ok (.invokespecial 11, 3) := by decide +kernel
theorem dX6_init_12 : decode cX6_init 12 = .ok (.putfield 12, 3) := by decide +kernel
theorem dX6_init_15 : decode cX6_init 15 = .ok (.aload_n 0, 1) := by decide +kernel
theorem dX6_init_16 : decode cX6_init 16 = .ok (.new 9, 3) := by decide +kernel
theorem dX6_init_19 : decode cX6_init 19 = .ok (.dup, 1) := by decide +kernel
theorem dX6_init_20 : decode cX6_init 20 = .ok (.invokespecial 11, 3) := by decide +kernel
theorem dX6_init_23 : decode cX6_init 23 = .ok (.putfield 18, 3) := by decide +kernel
theorem dX6_init_26 : decode cX6_init 26 = .ok (.aload_n 0, 1) := by decide +kernel
theorem dX6_init_27 : decode cX6_init 27 = .ok (.bipush 24, 2) := by decide +kernel
theorem dX6_init_29 : decode cX6_init 29 = .ok (.newarray .int, 2) := by decide +kernel
theorem dX6_init_31 : decode cX6_init 31 = .ok (.putfield 21, 3) := by decide +kernel
theorem dX6_init_34 : decode cX6_init 34 = .ok (.aload_n 0, 1) := by decide +kernel
theorem dX6_init_35 : decode cX6_init 35 = .ok (.aload_n 1, 1) := by decide +kernel
theorem dX6_init_36 : decode cX6_init 36 = .ok (.putfield 25, 3) := by decide +kernel
theorem dX6_init_39 : decode cX6_init 39 = .ok (.return_, 1) := by decide +kernel
theorem dX6_reckonEarly_0 : decode cX6_reckonEarly 0 = .ok (.aload_n 0, 1) := by decide +kernel
theorem dX6_reckonEarly_1 : decode cX6_reckonEarly 1 = .ok (.iconst 0, 1) := by decide +kernel
theorem dX6_reckonEarly_2 : decode cX6_reckonEarly 2 = .ok (.putfield 29, 3) := by decide +kernel
theorem dX6_reckonEarly_5 : decode cX6_reckonEarly 5 = .ok (.iconst 0, 1) := by decide +kernel
theorem dX6_reckonEarly_6 : decode cX6_reckonEarly 6 = .ok (.istore_n 1, 1) := by decide +kernel
theorem dX6_reckonEarly_7 : decode cX6_reckonEarly 7 = .ok (.iload_n 1, 1) := by decide +kernel
theorem dX6_reckonEarly_8 : decode cX6_reckonEarly 8 = .ok (.aload_n 0, 1) := by decide +kernel
theorem dX6_reckonEarly_9 : decode cX6_reckonEarly 9 = .ok (.getfield 25, 3) := by decide +kernel
theorem dX6_reckonEarly_12 : decode cX6_reckonEarly 12 = .ok (.getfield 33, 3) := by decide +kernel
theorem dX6_reckonEarly_15 : decode cX6_reckonEarly 15 = .ok (.if_icmp .ge 116, 3) := by decide +kernel
theorem dX6_reckonEarly_18 : decode cX6_reckonEarly 18 = .ok (.aload_n 0, 1) := by decide +kernel
theorem dX6_reckonEarly_19 : decode cX6_reckonEarly 19 = .ok (.getfield 25, 3) := by decide +kernel
theorem dX6_reckonEarly_22 : decode cX6_reckonEarly 22 = .ok (.getfield 38, 3) := by decide +kernel
theorem dX6_reckonEarly_25 : decode cX6_reckonEarly 25 = .ok (.iload_n 1, 1) := by decide +kernel
theorem dX6_reckonEarly_26 : decode cX6_reckonEarly 26 = .ok (.iaload, 1) := by decide +kernel
theorem dX6_reckonEarly_27 : decode cX6_reckonEarly 27 = .ok (.istore_n 2, 1) := by decide +kernel
theorem dX6_reckonEarly_28 : decode cX6_reckonEarly 28 = .ok (.aload_n 0, 1) := by decide +kernel
theorem dX6_reckonEarly_29 : decode cX6_reckonEarly 29 = .ok (.getfield 25, 3) := by decide +kernel
theorem dX6_reckonEarly_32 : decode cX6_reckonEarly 32 = .ok (.getfield 41, 3) := by decide +kernel
theorem dX6_reckonEarly_35 : decode cX6_reckonEarly 35 = .ok (.iload_n 2, 1) := by decide +kernel
theorem dX6_reckonEarly_36 : decode cX6_reckonEarly 36 = .ok (.aaload, 1) := by decide +kernel
theorem dX6_reckonEarly_37 : decode cX6_reckonEarly 37 = .ok (.astore_n 3, 1) := by decide +kernel
theorem dX6_reckonEarly_38 : decode cX6_reckonEarly 38 = .ok (.aload_n 3, 1) := by decide +kernel
theorem dX6_reckonEarly_39 : decode cX6_reckonEarly 39 = .ok (.getfield 45, 3) := by decide +kernel
theorem dX6_reckonEarly_42 : decode cX6_reckonEarly 42 = .ok (.ifCond .eq 22, 3) := by decide +kernel
theorem dX6_reckonEarly_45 : decode cX6_reckonEarly 45 = .ok (.aload_n 0, 1) := by decide +kernel
theorem dX6_reckonEarly_46 : decode cX6_reckonEarly 46 = .ok (.getfield 12, 3) := by decide +kernel
theorem dX6_reckonEarly_49 : decode cX6_reckonEarly 49 = .ok (.iload_n 2, 1) := by decide +kernel
theorem dX6_reckonEarly_50 : decode cX6_reckonEarly 50 = .ok (.aload_n 3, 1) := by decide +kernel
theorem dX6_reckonEarly_51 : decode cX6_reckonEarly 51 = .ok (.getfield 51, 3) := by decide +kernel
theorem dX6_reckonEarly_54 : decode cX6_reckonEarly 54 = .ok (.aload_n 3, 1) := by decide +kernel
theorem dX6_reckonEarly_55 : decode cX6_reckonEarly 55 = .ok (.getfield 54, 3) := by decide +kernel
theorem dX6_reckonEarly_58 : decode cX6_reckonEarly 58 = .ok (.invokevirtual 57, 3) := by decide +kernel
theorem dX6_reckonEarly_61 : decode cX6_reckonEarly 61 = .ok (.goto 44, 3) := by decide +kernel
theorem dX6_reckonEarly_64 : decode cX6_reckonEarly 64 = .ok (.aload_n 0, 1) := by decide +kernel
theorem dX6_reckonEarly_65 : decode cX6_reckonEarly 65 = .ok (.getfield 25, 3) := by decide +kernel
theorem dX6_reckonEarly_68 : decode cX6_reckonEarly 68 = .ok (.iload_n 2, 1) := by decide +kernel
theorem dX6_reckonEarly_69 : decode cX6_reckonEarly 69 = .ok (.aload_n 0, 1) := by decide +kernel
theorem dX6_reckonEarly_70 : decode cX6_reckonEarly 70 = .ok (.getfield 12, 3) := by decide +kernel
theorem dX6_reckonEarly_73 : decode cX6_reckonEarly 73 = .ok (.invokevirtual 61, 3) := by decide +kernel
theorem dX6_reckonEarly_76 : decode cX6_reckonEarly 76 = .ok (.istore 4, 2) := by decide +kernel
theorem dX6_reckonEarly_78 : decode cX6_reckonEarly 78 = .ok (.aload_n 0, 1) := by decide +kernel
theorem dX6_reckonEarly_79 : decode cX6_reckonEarly 79 = .ok (.getfield 12, 3) := by decide +kernel
theorem dX6_reckonEarly_82 : decode cX6_reckonEarly 82 = .ok (.iload_n 2, 1) := by decide +kernel
theorem dX6_reckonEarly_83 : decode cX6_reckonEarly 83 = .ok (.iload 4, 2) := by decide +kernel
theorem dX6_reckonEarly_85 : decode cX6_reckonEarly 85 = .ok (.aload_n 0, 1) := by decide +kernel
theorem dX6_reckonEarly_86 : decode cX6_reckonEarly 86 = .ok (.getfield 25, 3) := by decide +kernel
theorem dX6_reckonEarly_89 : decode cX6_reckonEarly 89 = .ok (.iload_n 2, 1) := by decide +kernel
theorem dX6_reckonEarly_90 : decode cX6_reckonEarly 90 = .ok (.invokevirtual 65, 3) := by decide +kernel
theorem dX6_reckonEarly_93 : decode cX6_reckonEarly 93 = .ok (.iload 4, 2) := by decide +kernel
theorem dX6_reckonEarly_95 : decode cX6_reckonEarly 95 = .ok (.aload_n 3, 1) := by decide +kernel
theorem dX6_reckonEarly_96 : decode cX6_reckonEarly 96 = .ok (.getfield 69, 3) := by decide +kernel
theorem dX6_reckonEarly_99 : decode cX6_reckonEarly 99 = .ok (.invokevirtual 72, 3) := by decide +kernel
theorem dX6_reckonEarly_102 : decode cX6_reckonEarly 102 = .ok (.invokevirtual 57, 3) := by decide +kernel
theorem dX6_reckonEarly_105 : decode cX6_reckonEarly 105 = .ok (.aload_n 0, 1) := by decide +kernel
theorem dX6_reckonEarly_106 : decode cX6_reckonEarly 106 = .ok (.aload_n 0, 1) := by decide +kernel
theorem dX6_reckonEarly_107 : decode cX6_reckonEarly 107 = .ok (.getfield 29, 3) := by decide +kernel
theorem dX6_reckonEarly_110 : decode cX6_reckonEarly 110 = .ok (.aload_n 0, 1) := by decide +kernel
theorem dX6_reckonEarly_111 : decode cX6_reckonEarly 111 = .ok (.getfield 12, 3) := by decide +kernel
theorem dX6_reckonEarly_114 : decode cX6_reckonEarly 114 = .ok (.getfield 78, 3) := by decide +kernel
theorem dX6_reckonEarly_117 : decode cX6_reckonEarly 117 = .ok (.iload_n 2, 1) := by decide +kernel
theorem dX6_reckonEarly_118 : decode cX6_reckonEarly 118 = .ok (.iaload, 1) := by decide +kernel
theorem dX6_reckonEarly_119 : decode cX6_reckonEarly 119 = .ok (.invokestatic 81, 3) := by decide +kernel
theorem dX6_reckonEarly_122 : decode cX6_reckonEarly 122 = .ok (.putfield 29, 3) := by decide +kernel
theorem dX6_reckonEarly_125 : decode cX6_reckonEarly 125 = .ok (.iinc 1 1, 3) := by decide +kernel
theorem dX6_reckonEarly_128 : decode cX6_reckonEarly 128 = .ok (.goto (-121), 3) := by decide +kernel
theorem dX6_reckonEarly_131 : decode cX6_reckonEarly 131 = .ok (.return_, 1) := by decide +kernel
theorem dX6_reckonLate_0 : decode cX6_reckonLate 0 = .ok (.aload_n 0, 1) := by decide +kernel
theorem dX6_reckonLate_1 : decode cX6_reckonLate 1 = .ok (.getfield 25, 3) := by decide +kernel
theorem dX6_reckonLate_4 : decode cX6_reckonLate 4 = .ok (.getfield 33, 3) := by decide +kernel
theorem dX6_reckonLate_7 : decode cX6_reckonLate 7 = .ok (.iconst 1, 1) := by decide +kernel
theorem dX6_reckonLate_8 : decode cX6_reckonLate 8 = .ok (.isub, 1) := by decide +kernel
theorem dX6_reckonLate_9 : decode cX6_reckonLate 9 = .ok (.istore_n 1, 1) := by decide +kernel
theorem dX6_reckonLate_10 : decode cX6_reckonLate 10 = .ok (.iload_n 1, 1) := by decide +kernel
theorem dX6_reckonLate_11 : decode cX6_reckonLate 11 = .ok (.ifCond .lt 109, 3) := by decide +kernel
theorem dX6_reckonLate_14 : decode cX6_reckonLate 14 = .ok (.aload_n 0, 1) := by decide +kernel
theorem dX6_reckonLate_15 : decode cX6_reckonLate 15 = .ok (.getfield 25, 3) := by decide +kernel
theorem dX6_reckonLate_18 : decode cX6_reckonLate 18 = .ok (.getfield 38, 3) := by decide +kernel
theorem dX6_reckonLate_21 : decode cX6_reckonLate 21 = .ok (.iload_n 1, 1) := by decide +kernel
theorem dX6_reckonLate_22 : decode cX6_reckonLate 22 = .ok (.iaload, 1) := by decide +kernel
theorem dX6_reckonLate_23 : decode cX6_reckonLate 23 = .ok (.istore_n 2, 1) := by decide +kernel
theorem dX6_reckonLate_24 : decode cX6_reckonLate 24 = .ok (.aload_n 0, 1) := by decide +kernel
theorem dX6_reckonLate_25 : decode cX6_reckonLate 25 = .ok (.getfield 25, 3) := by decide +kernel
theorem dX6_reckonLate_28 : decode cX6_reckonLate 28 = .ok (.getfield 41, 3) := by decide +kernel
theorem dX6_reckonLate_31 : decode cX6_reckonLate 31 = .ok (.iload_n 2, 1) := by decide +kernel
theorem dX6_reckonLate_32 : decode cX6_reckonLate 32 = .ok (.aaload, 1) := by decide +kernel
theorem dX6_reckonLate_33 : decode cX6_reckonLate 33 = .ok (.astore_n 3, 1) := by decide +kernel
theorem dX6_reckonLate_34 : decode cX6_reckonLate 34 = .ok (.aload_n 3, 1) := by decide +kernel
theorem dX6_reckonLate_35 : decode cX6_reckonLate 35 = .ok (.getfield 45, 3) := by decide +kernel
theorem dX6_reckonLate_38 : decode cX6_reckonLate 38 = .ok (.ifCond .eq 29, 3) := by decide +kernel
theorem dX6_reckonLate_41 : decode cX6_reckonLate 41 = .ok (.aload_n 0, 1) := by decide +kernel
theorem dX6_reckonLate_42 : decode cX6_reckonLate 42 = .ok (.getfield 18, 3) := by decide +kernel
theorem dX6_reckonLate_45 : decode cX6_reckonLate 45 = .ok (.iload_n 2, 1) := by decide +kernel
theorem dX6_reckonLate_46 : decode cX6_reckonLate 46 = .ok (.aload_n 3, 1) := by decide +kernel
theorem dX6_reckonLate_47 : decode cX6_reckonLate 47 = .ok (.getfield 51, 3) := by decide +kernel
theorem dX6_reckonLate_50 : decode cX6_reckonLate 50 = .ok (.aload_n 3, 1) := by decide +kernel
theorem dX6_reckonLate_51 : decode cX6_reckonLate 51 = .ok (.getfield 54, 3) := by decide +kernel
theorem dX6_reckonLate_54 : decode cX6_reckonLate 54 = .ok (.invokevirtual 57, 3) := by decide +kernel
theorem dX6_reckonLate_57 : decode cX6_reckonLate 57 = .ok (.aload_n 0, 1) := by decide +kernel
theorem dX6_reckonLate_58 : decode cX6_reckonLate 58 = .ok (.getfield 21, 3) := by decide +kernel
theorem dX6_reckonLate_61 : decode cX6_reckonLate 61 = .ok (.iload_n 2, 1) := by decide +kernel
theorem dX6_reckonLate_62 : decode cX6_reckonLate 62 = .ok (.iconst 0, 1) := by decide +kernel
theorem dX6_reckonLate_63 : decode cX6_reckonLate 63 = .ok (.iastore, 1) := by decide +kernel
theorem dX6_reckonLate_64 : decode cX6_reckonLate 64 = .ok (.goto 50, 3) := by decide +kernel
theorem dX6_reckonLate_67 : decode cX6_reckonLate 67 = .ok (.aload_n 0, 1) := by decide +kernel
theorem dX6_reckonLate_68 : decode cX6_reckonLate 68 = .ok (.iload_n 2, 1) := by decide +kernel
theorem dX6_reckonLate_69 : decode cX6_reckonLate 69 = .ok (.invokevirtual 86, 3) := by decide +kernel
theorem dX6_reckonLate_72 : decode cX6_reckonLate 72 = .ok (.istore 4, 2) := by decide +kernel
theorem dX6_reckonLate_74 : decode cX6_reckonLate 74 = .ok (.aload_n 0, 1) := by decide +kernel
theorem dX6_reckonLate_75 : decode cX6_reckonLate 75 = .ok (.getfield 18, 3) := by decide +kernel
theorem dX6_reckonLate_78 : decode cX6_reckonLate 78 = .ok (.iload_n 2, 1) := by decide +kernel
theorem dX6_reckonLate_79 : decode cX6_reckonLate 79 = .ok (.iload 4, 2) := by decide +kernel
theorem dX6_reckonLate_81 : decode cX6_reckonLate 81 = .ok (.aload_n 0, 1) := by decide +kernel
theorem dX6_reckonLate_82 : decode cX6_reckonLate 82 = .ok (.getfield 25, 3) := by decide +kernel
theorem dX6_reckonLate_85 : decode cX6_reckonLate 85 = .ok (.iload_n 2, 1) := by decide +kernel
theorem dX6_reckonLate_86 : decode cX6_reckonLate 86 = .ok (.invokevirtual 65, 3) := by decide +kernel
theorem dX6_reckonLate_89 : decode cX6_reckonLate 89 = .ok (.iload 4, 2) := by decide +kernel
theorem dX6_reckonLate_91 : decode cX6_reckonLate 91 = .ok (.aload_n 3, 1) := by decide +kernel
theorem dX6_reckonLate_92 : decode cX6_reckonLate 92 = .ok (.getfield 69, 3) := by decide +kernel
theorem dX6_reckonLate_95 : decode cX6_reckonLate 95 = .ok (.invokevirtual 72, 3) := by decide +kernel
theorem dX6_reckonLate_98 : decode cX6_reckonLate 98 = .ok (.invokevirtual 57, 3) := by decide +kernel
theorem dX6_reckonLate_101 : decode cX6_reckonLate 101 = .ok (.aload_n 0, 1) := by decide +kernel
theorem dX6_reckonLate_102 : decode cX6_reckonLate 102 = .ok (.getfield 21, 3) := by decide +kernel
theorem dX6_reckonLate_105 : decode cX6_reckonLate 105 = .ok (.iload_n 2, 1) := by decide +kernel
theorem dX6_reckonLate_106 : decode cX6_reckonLate 106 = .ok (.aload_n 0, 1) := by decide +kernel
theorem dX6_reckonLate_107 : decode cX6_reckonLate 107 = .ok (.iload_n 2, 1) := by decide +kernel
theorem dX6_reckonLate_108 : decode cX6_reckonLate 108 = .ok (.iload 4, 2) := by decide +kernel
theorem dX6_reckonLate_110 : decode cX6_reckonLate 110 = .ok (.invokevirtual 90, 3) := by decide +kernel
theorem dX6_reckonLate_113 : decode cX6_reckonLate 113 = .ok (.iastore, 1) := by decide +kernel
theorem dX6_reckonLate_114 : decode cX6_reckonLate 114 = .ok (.iinc 1 (-1), 3) := by decide +kernel
theorem dX6_reckonLate_117 : decode cX6_reckonLate 117 = .ok (.goto (-107), 3) := by decide +kernel
theorem dX6_reckonLate_120 : decode cX6_reckonLate 120 = .ok (.return_, 1) := by decide +kernel
theorem dX6_latestDay_0 : decode cX6_latestDay 0 = .ok (.aload_n 0, 1) := by decide +kernel
theorem dX6_latestDay_1 : decode cX6_latestDay 1 = .ok (.getfield 29, 3) := by decide +kernel
theorem dX6_latestDay_4 : decode cX6_latestDay 4 = .ok (.istore_n 2, 1) := by decide +kernel
theorem dX6_latestDay_5 : decode cX6_latestDay 5 = .ok (.aload_n 0, 1) := by decide +kernel
theorem dX6_latestDay_6 : decode cX6_latestDay 6 = .ok (.getfield 29, 3) := by decide +kernel
theorem dX6_latestDay_9 : decode cX6_latestDay 9 = .ok (.istore_n 3, 1) := by decide +kernel
theorem dX6_latestDay_10 : decode cX6_latestDay 10 = .ok (.iconst 0, 1) := by decide +kernel
theorem dX6_latestDay_11 : decode cX6_latestDay 11 = .ok (.istore 4, 2) := by decide +kernel
theorem dX6_latestDay_13 : decode cX6_latestDay 13 = .ok (.iload 4, 2) := by decide +kernel
theorem dX6_latestDay_15 : decode cX6_latestDay 15 = .ok (.aload_n 0, 1) := by decide +kernel
theorem dX6_latestDay_16 : decode cX6_latestDay 16 = .ok (.getfield 25, 3) := by decide +kernel
theorem dX6_latestDay_19 : decode cX6_latestDay 19 = .ok (.getfield 93, 3) := by decide +kernel
theorem dX6_latestDay_22 : decode cX6_latestDay 22 = .ok (.if_icmp .ge 140, 3) := by decide +kernel
theorem dX6_latestDay_25 : decode cX6_latestDay 25 = .ok (.aload_n 0, 1) := by decide +kernel
theorem dX6_latestDay_26 : decode cX6_latestDay 26 = .ok (.getfield 25, 3) := by decide +kernel
theorem dX6_latestDay_29 : decode cX6_latestDay 29 = .ok (.getfield 96, 3) := by decide +kernel
theorem dX6_latestDay_32 : decode cX6_latestDay 32 = .ok (.iload 4, 2) := by decide +kernel
theorem dX6_latestDay_34 : decode cX6_latestDay 34 = .ok (.aaload, 1) := by decide +kernel
theorem dX6_latestDay_35 : decode cX6_latestDay 35 = .ok (.astore 5, 2) := by decide +kernel
theorem dX6_latestDay_37 : decode cX6_latestDay 37 = .ok (.aload 5, 2) := by decide +kernel
theorem dX6_latestDay_39 : decode cX6_latestDay 39 = .ok (.getfield 100, 3) := by decide +kernel
theorem dX6_latestDay_42 : decode cX6_latestDay 42 = .ok (.iload_n 1, 1) := by decide +kernel
theorem dX6_latestDay_43 : decode cX6_latestDay 43 = .ok (.if_icmp .ne 113, 3) := by decide +kernel
theorem dX6_latestDay_46 : decode cX6_latestDay 46 = .ok (.aload_n 0, 1) := by decide +kernel
theorem dX6_latestDay_47 : decode cX6_latestDay 47 = .ok (.getfield 25, 3) := by decide +kernel
theorem dX6_latestDay_50 : decode cX6_latestDay 50 = .ok (.getfield 41, 3) := by decide +kernel
theorem dX6_latestDay_53 : decode cX6_latestDay 53 = .ok (.aload 5, 2) := by decide +kernel
theorem dX6_latestDay_55 : decode cX6_latestDay 55 = .ok (.getfield 105, 3) := by decide +kernel
theorem dX6_latestDay_58 : decode cX6_latestDay 58 = .ok (.aaload, 1) := by decide +kernel
theorem dX6_latestDay_59 : decode cX6_latestDay 59 = .ok (.getfield 45, 3) := by decide +kernel
theorem dX6_latestDay_62 : decode cX6_latestDay 62 = .ok (.ifCond .eq 6, 3) := by decide +kernel
theorem dX6_latestDay_65 : decode cX6_latestDay 65 = .ok (.goto 91, 3) := by decide +kernel
theorem dX6_latestDay_68 : decode cX6_latestDay 68 = .ok (.aload 5, 2) := by decide +kernel
theorem dX6_latestDay_70 : decode cX6_latestDay 70 = .ok (.getfield 108, 3) := by decide +kernel
theorem dX6_latestDay_73 : decode cX6_latestDay 73 = .ok (.iconst 1, 1) := by decide +kernel
theorem dX6_latestDay_74 : decode cX6_latestDay 74 = .ok (.if_icmp .ne 30, 3) := by decide +kernel
theorem dX6_latestDay_77 : decode cX6_latestDay 77 = .ok (.iload_n 2, 1) := by decide +kernel
theorem dX6_latestDay_78 : decode cX6_latestDay 78 = .ok (.aload_n 0, 1) := by decide +kernel
theorem dX6_latestDay_79 : decode cX6_latestDay 79 = .ok (.getfield 18, 3) := by decide +kernel
theorem dX6_latestDay_82 : decode cX6_latestDay 82 = .ok (.getfield 111, 3) := by decide +kernel
theorem dX6_latestDay_85 : decode cX6_latestDay 85 = .ok (.aload 5, 2) := by decide +kernel
theorem dX6_latestDay_87 : decode cX6_latestDay 87 = .ok (.getfield 105, 3) := by decide +kernel
theorem dX6_latestDay_90 : decode cX6_latestDay 90 = .ok (.iaload, 1) := by decide +kernel
theorem dX6_latestDay_91 : decode cX6_latestDay 91 = .ok (.aload 5, 2) := by decide +kernel
theorem dX6_latestDay_93 : decode cX6_latestDay 93 = .ok (.getfield 114, 3) := by decide +kernel
theorem dX6_latestDay_96 : decode cX6_latestDay 96 = .ok (.isub, 1) := by decide +kernel
theorem dX6_latestDay_97 : decode cX6_latestDay 97 = .ok (.invokestatic 117, 3) := by decide +kernel
theorem dX6_latestDay_100 : decode cX6_latestDay 100 = .ok (.istore_n 2, 1) := by decide +kernel
theorem dX6_latestDay_101 : decode cX6_latestDay 101 = .ok (.goto 55, 3) := by decide +kernel
theorem dX6_latestDay_104 : decode cX6_latestDay 104 = .ok (.aload 5, 2) := by decide +kernel
theorem dX6_latestDay_106 : decode cX6_latestDay 106 = .ok (.getfield 108, 3) := by decide +kernel
theorem dX6_latestDay_109 : decode cX6_latestDay 109 = .ok (.ifCond .ne 19, 3) := by decide +kernel
theorem dX6_latestDay_112 : decode cX6_latestDay 112 = .ok (.aload_n 0, 1) := by decide +kernel
theorem dX6_latestDay_113 : decode cX6_latestDay 113 = .ok (.getfield 18, 3) := by decide +kernel
theorem dX6_latestDay_116 : decode cX6_latestDay 116 = .ok (.getfield 111, 3) := by decide +kernel
theorem dX6_latestDay_119 : decode cX6_latestDay 119 = .ok (.aload 5, 2) := by decide +kernel
theorem dX6_latestDay_121 : decode cX6_latestDay 121 = .ok (.getfield 105, 3) := by decide +kernel
theorem dX6_latestDay_124 : decode cX6_latestDay 124 = .ok (.iaload, 1) := by decide +kernel
theorem dX6_latestDay_125 : decode cX6_latestDay 125 = .ok (.goto 16, 3) := by decide +kernel
theorem dX6_latestDay_128 : decode cX6_latestDay 128 = .ok (.aload_n 0, 1) := by decide +kernel
theorem dX6_latestDay_129 : decode cX6_latestDay 129 = .ok (.getfield 18, 3) := by decide +kernel
theorem dX6_latestDay_132 : decode cX6_latestDay 132 = .ok (.getfield 78, 3) := by decide +kernel
theorem dX6_latestDay_135 : decode cX6_latestDay 135 = .ok (.aload 5, 2) := by decide +kernel
theorem dX6_latestDay_137 : decode cX6_latestDay 137 = .ok (.getfield 105, 3) := by decide +kernel
theorem dX6_latestDay_140 : decode cX6_latestDay 140 = .ok (.iaload, 1) := by decide +kernel
theorem dX6_latestDay_141 : decode cX6_latestDay 141 = .ok (.istore 6, 2) := by decide +kernel
theorem dX6_latestDay_143 : decode cX6_latestDay 143 = .ok (.iload_n 3, 1) := by decide +kernel
theorem dX6_latestDay_144 : decode cX6_latestDay 144 = .ok (.iload 6, 2) := by decide +kernel
theorem dX6_latestDay_146 : decode cX6_latestDay 146 = .ok (.aload 5, 2) := by decide +kernel
theorem dX6_latestDay_148 : decode cX6_latestDay 148 = .ok (.getfield 114, 3) := by decide +kernel
theorem dX6_latestDay_151 : decode cX6_latestDay 151 = .ok (.isub, 1) := by decide +kernel
theorem dX6_latestDay_152 : decode cX6_latestDay 152 = .ok (.invokestatic 117, 3) := by decide +kernel
theorem dX6_latestDay_155 : decode cX6_latestDay 155 = .ok (.istore_n 3, 1) := by decide +kernel
theorem dX6_latestDay_156 : decode cX6_latestDay 156 = .ok (.iinc 4 1, 3) := by decide +kernel
theorem dX6_latestDay_159 : decode cX6_latestDay 159 = .ok (.goto (-146), 3) := by decide +kernel
theorem dX6_latestDay_162 : decode cX6_latestDay 162 = .ok (.aload_n 0, 1) := by decide +kernel
theorem dX6_latestDay_163 : decode cX6_latestDay 163 = .ok (.getfield 25, 3) := by decide +kernel
theorem dX6_latestDay_166 : decode cX6_latestDay 166 = .ok (.iload_n 1, 1) := by decide +kernel
theorem dX6_latestDay_167 : decode cX6_latestDay 167 = .ok (.invokevirtual 65, 3) := by decide +kernel
theorem dX6_latestDay_170 : decode cX6_latestDay 170 = .ok (.aload_n 0, 1) := by decide +kernel
theorem dX6_latestDay_171 : decode cX6_latestDay 171 = .ok (.getfield 25, 3) := by decide +kernel
theorem dX6_latestDay_174 : decode cX6_latestDay 174 = .ok (.getfield 41, 3) := by decide +kernel
theorem dX6_latestDay_177 : decode cX6_latestDay 177 = .ok (.iload_n 1, 1) := by decide +kernel
theorem dX6_latestDay_178 : decode cX6_latestDay 178 = .ok (.aaload, 1) := by decide +kernel
theorem dX6_latestDay_179 : decode cX6_latestDay 179 = .ok (.getfield 69, 3) := by decide +kernel
theorem dX6_latestDay_182 : decode cX6_latestDay 182 = .ok (.iload_n 2, 1) := by decide +kernel
theorem dX6_latestDay_183 : decode cX6_latestDay 183 = .ok (.iload_n 3, 1) := by decide +kernel
theorem dX6_latestDay_184 : decode cX6_latestDay 184 = .ok (.invokevirtual 120, 3) := by decide +kernel
theorem dX6_latestDay_187 : decode cX6_latestDay 187 = .ok (.istore 4, 2) := by decide +kernel
theorem dX6_latestDay_189 : decode cX6_latestDay 189 = .ok (.iload 4, 2) := by decide +kernel
theorem dX6_latestDay_191 : decode cX6_latestDay 191 = .ok (.aload_n 0, 1) := by decide +kernel
theorem dX6_latestDay_192 : decode cX6_latestDay 192 = .ok (.getfield 12, 3) := by decide +kernel
theorem dX6_latestDay_195 : decode cX6_latestDay 195 = .ok (.getfield 111, 3) := by decide +kernel
theorem dX6_latestDay_198 : decode cX6_latestDay 198 = .ok (.iload_n 1, 1) := by decide +kernel
theorem dX6_latestDay_199 : decode cX6_latestDay 199 = .ok (.iaload, 1) := by decide +kernel
theorem dX6_latestDay_200 : decode cX6_latestDay 200 = .ok (.invokestatic 81, 3) := by decide +kernel
theorem dX6_latestDay_203 : decode cX6_latestDay 203 = .ok (.ireturn, 1) := by decide +kernel
theorem dX6_roomUpTo_0 : decode cX6_roomUpTo 0 = .ok (.aload_n 0, 1) := by decide +kernel
theorem dX6_roomUpTo_1 : decode cX6_roomUpTo 1 = .ok (.getfield 12, 3) := by decide +kernel
theorem dX6_roomUpTo_4 : decode cX6_roomUpTo 4 = .ok (.getfield 111, 3) := by decide +kernel
theorem dX6_roomUpTo_7 : decode cX6_roomUpTo 7 = .ok (.iload_n 1, 1) := by decide +kernel
theorem dX6_roomUpTo_8 : decode cX6_roomUpTo 8 = .ok (.iaload, 1) := by decide +kernel
theorem dX6_roomUpTo_9 : decode cX6_roomUpTo 9 = .ok (.istore_n 3, 1) := by decide +kernel
theorem dX6_roomUpTo_10 : decode cX6_roomUpTo 10 = .ok (.aload_n 0, 1) := by decide +kernel
theorem dX6_roomUpTo_11 : decode cX6_roomUpTo 11 = .ok (.getfield 25, 3) := by decide +kernel
theorem dX6_roomUpTo_14 : decode cX6_roomUpTo 14 = .ok (.getfield 41, 3) := by decide +kernel
theorem dX6_roomUpTo_17 : decode cX6_roomUpTo 17 = .ok (.iload_n 1, 1) := by decide +kernel
theorem dX6_roomUpTo_18 : decode cX6_roomUpTo 18 = .ok (.aaload, 1) := by decide +kernel
theorem dX6_roomUpTo_19 : decode cX6_roomUpTo 19 = .ok (.getfield 69, 3) := by decide +kernel
theorem dX6_roomUpTo_22 : decode cX6_roomUpTo 22 = .ok (.ifCond .ne 7, 3) := by decide +kernel
theorem dX6_roomUpTo_25 : decode cX6_roomUpTo 25 = .ok (.iload_n 2, 1) := by decide +kernel
theorem dX6_roomUpTo_26 : decode cX6_roomUpTo 26 = .ok (.iload_n 3, 1) := by decide +kernel
theorem dX6_roomUpTo_27 : decode cX6_roomUpTo 27 = .ok (.isub, 1) := by decide +kernel
theorem dX6_roomUpTo_28 : decode cX6_roomUpTo 28 = .ok (.ireturn, 1) := by decide +kernel
theorem dX6_roomUpTo_29 : decode cX6_roomUpTo 29 = .ok (.aload_n 0, 1) := by decide +kernel
theorem dX6_roomUpTo_30 : decode cX6_roomUpTo 30 = .ok (.getfield 25, 3) := by decide +kernel
theorem dX6_roomUpTo_33 : decode cX6_roomUpTo 33 = .ok (.iload_n 1, 1) := by decide +kernel
theorem dX6_roomUpTo_34 : decode cX6_roomUpTo 34 = .ok (.invokevirtual 65, 3) := by decide +kernel
theorem dX6_roomUpTo_37 : decode cX6_roomUpTo 37 = .ok (.iload_n 3, 1) := by decide +kernel
theorem dX6_roomUpTo_38 : decode cX6_roomUpTo 38 = .ok (.iload_n 2, 1) := by decide +kernel
theorem dX6_roomUpTo_39 : decode cX6_roomUpTo 39 = .ok (.invokevirtual 124, 3) := by decide +kernel
theorem dX6_roomUpTo_42 : decode cX6_roomUpTo 42 = .ok (.ireturn, 1) := by decide +kernel
theorem dX6_countTight_0 : decode cX6_countTight 0 = .ok (.iconst 0, 1) := by decide +kernel
theorem dX6_countTight_1 : decode cX6_countTight 1 = .ok (.istore_n 1, 1) := by decide +kernel
theorem dX6_countTight_2 : decode cX6_countTight 2 = .ok (.iconst 0, 1) := by decide +kernel
theorem dX6_countTight_3 : decode cX6_countTight 3 = .ok (.istore_n 2, 1) := by decide +kernel
theorem dX6_countTight_4 : decode cX6_countTight 4 = .ok (.iload_n 2, 1) := by decide +kernel
theorem dX6_countTight_5 : decode cX6_countTight 5 = .ok (.aload_n 0, 1) := by decide +kernel
theorem dX6_countTight_6 : decode cX6_countTight 6 = .ok (.getfield 25, 3) := by decide +kernel
theorem dX6_countTight_9 : decode cX6_countTight 9 = .ok (.getfield 33, 3) := by decide +kernel
theorem dX6_countTight_12 : decode cX6_countTight 12 = .ok (.if_icmp .ge 36, 3) := by decide +kernel
theorem dX6_countTight_15 : decode cX6_countTight 15 = .ok (.aload_n 0, 1) := by decide +kernel
theorem dX6_countTight_16 : decode cX6_countTight 16 = .ok (.getfield 21, 3) := by decide +kernel
theorem dX6_countTight_19 : decode cX6_countTight 19 = .ok (.iload_n 2, 1) := by decide +kernel
theorem dX6_countTight_20 : decode cX6_countTight 20 = .ok (.iaload, 1) := by decide +kernel
theorem dX6_countTight_21 : decode cX6_countTight 21 = .ok (.ifCond .ne 21, 3) := by decide +kernel
theorem dX6_countTight_24 : decode cX6_countTight 24 = .ok (.aload_n 0, 1) := by decide +kernel
theorem dX6_countTight_25 : decode cX6_countTight 25 = .ok (.getfield 25, 3) := by decide +kernel
theorem dX6_countTight_28 : decode cX6_countTight 28 = .ok (.getfield 41, 3) := by decide +kernel
theorem dX6_countTight_31 : decode cX6_countTight 31 = .ok (.iload_n 2, 1) := by decide +kernel
theorem dX6_countTight_32 : decode cX6_countTight 32 = .ok (.aaload, 1) := by decide +kernel
theorem dX6_countTight_33 : decode cX6_countTight 33 = .ok (.getfield 45, 3) := by decide +kernel
theorem dX6_countTight_36 : decode cX6_countTight 36 = .ok (.ifCond .ne 6, 3) := by decide +kernel
theorem dX6_countTight_39 : decode cX6_countTight 39 = .ok (.iinc 1 1, 3) := by decide +kernel
theorem dX6_countTight_42 : decode cX6_countTight 42 = .ok (.iinc 2 1, 3) := by decide +kernel
theorem dX6_countTight_45 : decode cX6_countTight 45 = .ok (.goto (-41), 3) := by decide +kernel
theorem dX6_countTight_48 : decode cX6_countTight 48 = .ok (.iload_n 1, 1) := by decide +kernel
theorem dX6_countTight_49 : decode cX6_countTight 49 = .ok (.ireturn, 1) := by decide +kernel
theorem dX7_init_0 : decode cX7_init 0 = .ok (.aload_n 0, 1) := by decide +kernel
theorem dX7_init_1 : decode cX7_init 1 = .ok (.invokespecial 3, 3) := by decide +kernel
theorem dX7_init_4 : decode cX7_init 4 = .ok (.aload_n 0, 1) := by decide +kernel
theorem dX7_init_5 : decode cX7_init 5 = .ok (.bipush 24, 2) := by decide +kernel
theorem dX7_init_7 : decode cX7_init 7 = .ok (.newarray .int, 2) := by decide +kernel
theorem dX7_init_9 : decode cX7_init 9 = .ok (.putfield 9, 3) := by decide +kernel
theorem dX7_init_12 : decode cX7_init 12 = .ok (.aload_n 0, 1) := by decide +kernel
theorem dX7_init_13 : decode cX7_init 13 = .ok (.bipush 24, 2) := by decide +kernel
theorem dX7_init_15 : decode cX7_init 15 = .ok (.newarray .int, 2) := by decide +kernel
theorem dX7_init_17 : decode cX7_init 17 = .ok (.putfield 15, 3) := by decide +kernel
theorem dX7_init_20 : decode cX7_init 20 = .ok (.return_, 1) := by decide +kernel
theorem dX7_set_0 : decode cX7_set 0 = .ok (.aload_n 0, 1) := by decide +kernel
theorem dX7_set_1 : decode cX7_set 1 = .ok (.getfield 9, 3) := by decide +kernel
theorem dX7_set_4 : decode cX7_set 4 = .ok (.iload_n 1, 1) := by decide +kernel
theorem dX7_set_5 : decode cX7_set 5 = .ok (.iload_n 2, 1) := by decide +kernel
theorem dX7_set_6 : decode cX7_set 6 = .ok (.iastore, 1) := by decide +kernel
theorem dX7_set_7 : decode cX7_set 7 = .ok (.aload_n 0, 1) := by decide +kernel
theorem dX7_set_8 : decode cX7_set 8 = .ok (.getfield 15, 3) := by decide +kernel
theorem dX7_set_11 : decode cX7_set 11 = .ok (.iload_n 1, 1) := by decide +kernel
theorem dX7_set_12 : decode cX7_set 12 = .ok (.iload_n 3, 1) := by decide +kernel
theorem dX7_set_13 : decode cX7_set 13 = .ok (.iastore, 1) := by decide +kernel
theorem dX7_set_14 : decode cX7_set 14 = .ok (.return_, 1) := by decide +kernel
theorem dX7_beginAsked_0 : decode cX7_beginAsked 0 = .ok (.aload_n 1, 1) := by decide +kernel
theorem dX7_beginAsked_1 : decode cX7_beginAsked 1 = .ok (.getfield 18, 3) := by decide +kernel
theorem dX7_beginAsked_4 : decode cX7_beginAsked 4 = .ok (.ifCond .ne 18, 3) := by decide +kernel
theorem dX7_beginAsked_7 : decode cX7_beginAsked 7 = .ok (.aload_n 0, 1) := by decide +kernel
theorem dX7_beginAsked_8 : decode cX7_beginAsked 8 = .ok (.getfield 15, 3) := by decide +kernel
theorem dX7_beginAsked_11 : decode cX7_beginAsked 11 = .ok (.aload_n 1, 1) := by decide +kernel
theorem dX7_beginAsked_12 : decode cX7_beginAsked 12 = .ok (.getfield 24, 3) := by decide +kernel
theorem dX7_beginAsked_15 : decode cX7_beginAsked 15 = .ok (.iaload, 1) := by decide +kernel
theorem dX7_beginAsked_16 : decode cX7_beginAsked 16 = .ok (.aload_n 1, 1) := by decide +kernel
theorem dX7_beginAsked_17 : decode cX7_beginAsked 17 = .ok (.getfield 27, 3) := by decide +kernel
theorem dX7_beginAsked_20 : decode cX7_beginAsked 20 = .ok (.iadd, 1) := by decide +kernel
theorem dX7_beginAsked_21 : decode cX7_beginAsked 21 = .ok (.ireturn, 1) := by decide +kernel
theorem dX7_beginAsked_22 : decode cX7_beginAsked 22 = .ok (.aload_n 1, 1) := by decide +kernel
theorem dX7_beginAsked_23 : decode cX7_beginAsked 23 = .ok (.getfield 18, 3) := by decide +kernel
theorem dX7_beginAsked_26 : decode cX7_beginAsked 26 = .ok (.iconst 1, 1) := by decide +kernel
theorem dX7_beginAsked_27 : decode cX7_beginAsked 27 = .ok (.if_icmp .ne 20, 3) := by decide +kernel
theorem dX7_beginAsked_30 : decode cX7_beginAsked 30 = .ok (.aload_n 0, 1) := by decide +kernel
theorem dX7_beginAsked_31 : decode cX7_beginAsked 31 = .ok (.getfield 9, 3) := by decide +kernel
theorem dX7_beginAsked_34 : decode cX7_beginAsked 34 = .ok (.aload_n 1, 1) := by decide +kernel
theorem dX7_beginAsked_35 : decode cX7_beginAsked 35 = .ok (.getfield 24, 3) := by decide +kernel
theorem dX7_beginAsked_38 : decode cX7_beginAsked 38 = .ok (.iaload, 1) := by decide +kernel
theorem dX7_beginAsked_39 : decode cX7_beginAsked 39 = .ok (.aload_n 1, 1) := by decide +kernel
theorem dX7_beginAsked_40 : decode cX7_beginAsked 40 = .ok (.getfield 27, 3) := by decide +kernel
theorem dX7_beginAsked_43 : decode cX7_beginAsked 43 = .ok (.iadd, 1) := by decide +kernel
theorem dX7_beginAsked_44 : decode cX7_beginAsked 44 = .ok (.goto 4, 3) := by decide +kernel
theorem dX7_beginAsked_47 : decode cX7_beginAsked 47 = .ok (.iconst 0, 1) := by decide +kernel
theorem dX7_beginAsked_48 : decode cX7_beginAsked 48 = .ok (.ireturn, 1) := by decide +kernel
theorem dX7_endAsked_0 : decode cX7_endAsked 0 = .ok (.aload_n 1, 1) := by decide +kernel
theorem dX7_endAsked_1 : decode cX7_endAsked 1 = .ok (.getfield 18, 3) := by decide +kernel
theorem dX7_endAsked_4 : decode cX7_endAsked 4 = .ok (.ifCond .eq 11, 3) := by decide +kernel
theorem dX7_endAsked_7 : decode cX7_endAsked 7 = .ok (.aload_n 1, 1) := by decide +kernel
theorem dX7_endAsked_8 : decode cX7_endAsked 8 = .ok (.getfield 18, 3) := by decide +kernel
theorem dX7_endAsked_11 : decode cX7_endAsked 11 = .ok (.iconst 1, 1) := by decide +kernel
theorem dX7_endAsked_12 : decode cX7_endAsked 12 = .ok (.if_icmp .ne 7, 3) := by decide +kernel
theorem dX7_endAsked_15 : decode cX7_endAsked 15 = .ok (.iconst 0, 1) := by decide +kernel
theorem dX7_endAsked_16 : decode cX7_endAsked 16 = .ok (.goto 17, 3) := by decide +kernel
theorem dX7_endAsked_19 : decode cX7_endAsked 19 = .ok (.aload_n 0, 1) := by decide +kernel
theorem dX7_endAsked_20 : decode cX7_endAsked 20 = .ok (.getfield 15, 3) := by decide +kernel
theorem dX7_endAsked_23 : decode cX7_endAsked 23 = .ok (.aload_n 1, 1) := by decide +kernel
theorem dX7_endAsked_24 : decode cX7_endAsked 24 = .ok (.getfield 24, 3) := by decide +kernel
theorem dX7_endAsked_27 : decode cX7_endAsked 27 = .ok (.iaload, 1) := by decide +kernel
theorem dX7_endAsked_28 : decode cX7_endAsked 28 = .ok (.aload_n 1, 1) := by decide +kernel
theorem dX7_endAsked_29 : decode cX7_endAsked 29 = .ok (.getfield 27, 3) := by decide +kernel
theorem dX7_endAsked_32 : decode cX7_endAsked 32 = .ok (.iadd, 1) := by decide +kernel
theorem dX7_endAsked_33 : decode cX7_endAsked 33 = .ok (.ireturn, 1) := by decide +kernel
theorem dX8_init_0 : decode cX8_init 0 = .ok (.aload_n 0, 1) := by decide +kernel
theorem dX8_init_1 : decode cX8_init 1 = .ok (.invokespecial 3, 3) := by decide +kernel
theorem dX8_init_4 : decode cX8_init 4 = .ok (.aload_n 0, 1) := by decide +kernel
theorem dX8_init_5 : decode cX8_init 5 = .ok (.iconst 4, 1) := by decide +kernel
theorem dX8_init_6 : decode cX8_init 6 = .ok (.anewarray 9, 3) := by decide +kernel
theorem dX8_init_9 : decode cX8_init 9 = .ok (.putfield 11, 3) := by decide +kernel
theorem dX8_init_12 : decode cX8_init 12 = .ok (.aload_n 0, 1) := by decide +kernel
theorem dX8_init_13 : decode cX8_init 13 = .ok (.iconst 4, 1) := by decide +kernel
theorem dX8_init_14 : decode cX8_init 14 = .ok (.anewarray 17, 3) := by decide +kernel
theorem dX8_init_17 : decode cX8_init 17 = .ok (.putfield 19, 3) := by decide +kernel
theorem dX8_init_20 : decode cX8_init 20 = .ok (.aload_n 0, 1) := by decide +kernel
theorem dX8_init_21 : decode cX8_init 21 = .ok (.bipush 24, 2) := by decide +kernel
theorem dX8_init_23 : decode cX8_init 23 = .ok (.anewarray 23, 3) := by decide +kernel
theorem dX8_init_26 : decode cX8_init 26 = .ok (.putfield 25, 3) := by decide +kernel
theorem dX8_init_29 : decode cX8_init 29 = .ok (.aload_n 0, 1) := by decide +kernel
theorem dX8_init_30 : decode cX8_init 30 = .ok (.bipush 40, 2) := by decide +kernel
theorem dX8_init_32 : decode cX8_init 32 = .ok (.anewarray 29, 3) := by decide +kernel
theorem dX8_init_35 : decode cX8_init 35 = .ok (.putfield 31, 3) := by decide +kernel
theorem dX8_init_38 : decode cX8_init 38 = .ok (.aload_n 0, 1) := by decide +kernel
theorem dX8_init_39 : decode cX8_init 39 = .ok (.bipush 24, 2) := by decide +kernel
theorem dX8_init_41 : decode cX8_init 41 = .ok (.newarray .int, 2) := by decide +kernel
theorem dX8_init_43 : decode cX8_init 43 = .ok (.putfield 35, 3) := by decide +kernel
theorem dX8_init_46 : decode cX8_init 46 = .ok (.aload_n 0, 1) := by decide +kernel
theorem dX8_init_47 : decode cX8_init 47 = .ok (.bipush 24, 2) := by decide +kernel
theorem dX8_init_49 : decode cX8_init 49 = .ok (.newarray .boolean, 2) := by decide +kernel
theorem dX8_init_51 : decode cX8_init 51 = .ok (.putfield 39, 3) := by decide +kernel
theorem dX8_init_54 : decode cX8_init 54 = .ok (.iconst 0, 1) := by decide +kernel
theorem dX8_init_55 : decode cX8_init 55 = .ok (.istore_n 1, 1) := by decide +kernel
theorem dX8_init_56 : decode cX8_init 56 = .ok (.iload_n 1, 1) := by decide +kernel
theorem dX8_init_57 : decode cX8_init 57 = .ok (.iconst 4, 1) := by decide +kernel
theorem dX8_init_58 : decode cX8_init 58 = .ok (.if_icmp .ge 22, 3) := by decide +kernel
theorem dX8_init_61 : decode cX8_init 61 = .ok (.aload_n 0, 1) := by decide +kernel
theorem dX8_init_62 : decode cX8_init 62 = .ok (.getfield 11, 3) := by decide +kernel
theorem dX8_init_65 : decode cX8_init 65 = .ok (.iload_n 1, 1) := by decide +kernel
theorem dX8_init_66 : decode cX8_init 66 = .ok (.new 9, 3) := by decide +kernel
theorem dX8_init_69 : decode cX8_init 69 = .ok (.dup, 1) := by decide +kernel
theorem dX8_init_70 : decode cX8_init 70 = .ok (.invokespecial 43, 3) := by decide +kernel
theorem dX8_init_73 : decode cX8_init 73 = .ok (.aastore, 1) := by decide +kernel
theorem dX8_init_74 : decode cX8_init 74 = .ok (.iinc 1 1, 3) := by decide +kernel
theorem dX8_init_77 : decode cX8_init 77 = .ok (.goto (-21), 3) := by decide +kernel
theorem dX8_init_80 : decode cX8_init 80 = .ok (.iconst 0, 1) := by decide +kernel
theorem dX8_init_81 : decode cX8_init 81 = .ok (.istore_n 1, 1) := by decide +kernel
theorem dX8_init_82 : decode cX8_init 82 = .ok (.iload_n 1, 1) := by decide +kernel
theorem dX8_init_83 : decode cX8_init 83 = .ok (.iconst 4, 1) := by decide +kernel
theorem dX8_init_84 : decode cX8_init 84 = .ok (.if_icmp .ge 22, 3) := by decide +kernel
theorem dX8_init_87 : decode cX8_init 87 = .ok (.aload_n 0, 1) := by decide +kernel
theorem dX8_init_88 : decode cX8_init 88 = .ok (.getfield 19, 3) := by decide +kernel
theorem dX8_init_91 : decode cX8_init 91 = .ok (.iload_n 1, 1) := by decide +kernel
theorem dX8_init_92 : decode cX8_init 92 = .ok (.new 17, 3) := by decide +kernel
theorem dX8_init_95 : decode cX8_init 95 = .ok (.dup, 1) := by decide +kernel
theorem dX8_init_96 : decode cX8_init 96 = .ok (.invokespecial 44, 3) := by decide +kernel
theorem dX8_init_99 : decode cX8_init 99 = .ok (.aastore, 1) := by decide +kernel
theorem dX8_init_100 : decode cX8_init 100 = .ok (.iinc 1 1, 3) := by decide +kernel
theorem dX8_init_103 : decode cX8_init 103 = .ok (.goto (-21), 3) := by decide +kernel
theorem dX8_init_106 : decode cX8_init 106 = .ok (.iconst 0, 1) := by decide +kernel
theorem dX8_init_107 : decode cX8_init 107 = .ok (.istore_n 1, 1) := by decide +kernel
theorem dX8_init_108 : decode cX8_init 108 = .ok (.iload_n 1, 1) := by decide +kernel
theorem dX8_init_109 : decode cX8_init 109 = .ok (.bipush 24, 2) := by decide +kernel
theorem dX8_init_111 : decode cX8_init 111 = .ok (.if_icmp .ge 22, 3) := by decide +kernel
theorem dX8_init_114 : decode cX8_init 114 = .ok (.aload_n 0, 1) := by decide +kernel
theorem dX8_init_115 : decode cX8_init 115 = .ok (.getfield 25, 3) := by decide +kernel
theorem dX8_init_118 : decode cX8_init 118 = .ok (.iload_n 1, 1) := by decide +kernel
theorem dX8_init_119 : decode cX8_init 119 = .ok (.new 23, 3) := by decide +kernel
theorem dX8_init_122 : decode cX8_init 122 = .ok (.dup, 1) := by decide +kernel
theorem dX8_init_123 : decode cX8_init 123 = .ok (.invokespecial 45, 3) := by decide +kernel
theorem dX8_init_126 : decode cX8_init 126 = .ok (.aastore, 1) := by decide +kernel
theorem dX8_init_127 : decode cX8_init 127 = .ok (.iinc 1 1, 3) := by decide +kernel
theorem dX8_init_130 : decode cX8_init 130 = .ok (.goto (-22), 3) := by decide +kernel
theorem dX8_init_133 : decode cX8_init 133 = .ok (.iconst 0, 1) := by decide +kernel
theorem dX8_init_134 : decode cX8_init 134 = .ok (.istore_n 1, 1) := by decide +kernel
theorem dX8_init_135 : decode cX8_init 135 = .ok (.iload_n 1, 1) := by decide +kernel
theorem dX8_init_136 : decode cX8_init 136 = .ok (.bipush 40, 2) := by decide +kernel
theorem dX8_init_138 : decode cX8_init 138 = .ok (.if_icmp .ge 22, 3) := by decide +kernel
theorem dX8_init_141 : decode cX8_init 141 = .ok (.aload_n 0, 1) := by decide +kernel
theorem dX8_init_142 : decode cX8_init 142 = .ok (.getfield 31, 3) := by decide +kernel
theorem dX8_init_145 : decode cX8_init 145 = .ok (.iload_n 1, 1) := by decide +kernel
theorem dX8_init_146 : decode cX8_init 146 = .ok (.new 29, 3) := by decide +kernel
theorem dX8_init_149 : decode cX8_init 149 = .ok (.dup, 1) := by decide +kernel
theorem dX8_init_150 : decode cX8_init 150 = .ok (.invokespecial 46, 3) := by decide +kernel
theorem dX8_init_153 : decode cX8_init 153 = .ok (.aastore, 1) := by decide +kernel
theorem dX8_init_154 : decode cX8_init 154 = .ok (.iinc 1 1, 3) := by decide +kernel
theorem dX8_init_157 : decode cX8_init 157 = .ok (.goto (-22), 3) := by decide +kernel
theorem dX8_init_160 : decode cX8_init 160 = .ok (.return_, 1) := by decide +kernel
theorem dX8_calendarOf_0 : decode cX8_calendarOf 0 = .ok (.aload_n 0, 1) := by decide +kernel
theorem dX8_calendarOf_1 : decode cX8_calendarOf 1 = .ok (.getfield 11, 3) := by decide +kernel
theorem dX8_calendarOf_4 : decode cX8_calendarOf 4 = .ok (.aload_n 0, 1) := by decide +kernel
theorem dX8_calendarOf_5 : decode cX8_calendarOf 5 = .ok (.getfield 25, 3) := by decide +kernel
theorem dX8_calendarOf_8 : decode cX8_calendarOf 8 = .ok (.iload_n 1, 1) := by decide +kernel
theorem dX8_calendarOf_9 : decode cX8_calendarOf 9 = .ok (.aaload, 1) := by decide +kernel
theorem dX8_calendarOf_10 : decode cX8_calendarOf 10 = .ok (.getfield 47, 3) := by decide +kernel
theorem dX8_calendarOf_13 : decode cX8_calendarOf 13 = .ok (.aaload, 1) := by decide +kernel
theorem dX8_calendarOf_14 : decode cX8_calendarOf 14 = .ok (.areturn, 1) := by decide +kernel
theorem dX8_worthOf_0 : decode cX8_worthOf 0 = .ok (.iconst 0, 1) := by decide +kernel
theorem dX8_worthOf_1 : decode cX8_worthOf 1 = .ok (.istore_n 2, 1) := by decide +kernel
theorem dX8_worthOf_2 : decode cX8_worthOf 2 = .ok (.iconst 0, 1) := by decide +kernel
theorem dX8_worthOf_3 : decode cX8_worthOf 3 = .ok (.istore_n 3, 1) := by decide +kernel
theorem dX8_worthOf_4 : decode cX8_worthOf 4 = .ok (.iload_n 3, 1) := by decide +kernel
theorem dX8_worthOf_5 : decode cX8_worthOf 5 = .ok (.iconst 4, 1) := by decide +kernel
theorem dX8_worthOf_6 : decode cX8_worthOf 6 = .ok (.if_icmp .ge 33, 3) := by decide +kernel
theorem dX8_worthOf_9 : decode cX8_worthOf 9 = .ok (.iload_n 2, 1) := by decide +kernel
theorem dX8_worthOf_10 : decode cX8_worthOf 10 = .ok (.aload_n 0, 1) := by decide +kernel
theorem dX8_worthOf_11 : decode cX8_worthOf 11 = .ok (.getfield 25, 3) := by decide +kernel
theorem dX8_worthOf_14 : decode cX8_worthOf 14 = .ok (.iload_n 1, 1) := by decide +kernel
theorem dX8_worthOf_15 : decode cX8_worthOf 15 = .ok (.aaload, 1) := by decide +kernel
theorem dX8_worthOf_16 : decode cX8_worthOf 16 = .ok (.getfield 51, 3) := by decide +kernel
theorem dX8_worthOf_19 : decode cX8_worthOf 19 = .ok (.iload_n 3, 1) := by decide +kernel
theorem dX8_worthOf_20 : decode cX8_worthOf 20 = .ok (.iaload, 1) := by decide +kernel
theorem dX8_worthOf_21 : decode cX8_worthOf 21 = .ok (.aload_n 0, 1) := by decide +kernel
theorem dX8_worthOf_22 : decode cX8_worthOf 22 = .ok (.getfield 19, 3) := by decide +kernel
theorem dX8_worthOf_25 : decode cX8_worthOf 25 = .ok (.iload_n 3, 1) := by decide +kernel
theorem dX8_worthOf_26 : decode cX8_worthOf 26 = .ok (.aaload, 1) := by decide +kernel
theorem dX8_worthOf_27 : decode cX8_worthOf 27 = .ok (.getfield 54, 3) := by decide +kernel
theorem dX8_worthOf_30 : decode cX8_worthOf 30 = .ok (.imul, 1) := by decide +kernel
theorem dX8_worthOf_31 : decode cX8_worthOf 31 = .ok (.iadd, 1) := by decide +kernel
theorem dX8_worthOf_32 : decode cX8_worthOf 32 = .ok (.istore_n 2, 1) := by decide +kernel
theorem dX8_worthOf_33 : decode cX8_worthOf 33 = .ok (.iinc 3 1, 3) := by decide +kernel
theorem dX8_worthOf_36 : decode cX8_worthOf 36 = .ok (.goto (-32), 3) := by decide +kernel
theorem dX8_worthOf_39 : decode cX8_worthOf 39 = .ok (.aload_n 0, 1) := by decide +kernel
theorem dX8_worthOf_40 : decode cX8_worthOf 40 = .ok (.getfield 25, 3) := by decide +kernel
theorem dX8_worthOf_43 : decode cX8_worthOf 43 = .ok (.iload_n 1, 1) := by decide +kernel
theorem dX8_worthOf_44 : decode cX8_worthOf 44 = .ok (.aaload, 1) := by decide +kernel
theorem dX8_worthOf_45 : decode cX8_worthOf 45 = .ok (.getfield 57, 3) := by decide +kernel
theorem dX8_worthOf_48 : decode cX8_worthOf 48 = .ok (.iload_n 2, 1) := by decide +kernel
theorem dX8_worthOf_49 : decode cX8_worthOf 49 = .ok (.imul, 1) := by decide +kernel
theorem dX8_worthOf_50 : decode cX8_worthOf 50 = .ok (.ireturn, 1) := by decide +kernel
theorem dX8_appendTask_0 : decode cX8_appendTask 0 = .ok (.aload_n 0, 1) := by decide +kernel
theorem dX8_appendTask_1 : decode cX8_appendTask 1 = .ok (.getfield 60, 3) := by decide +kernel
theorem dX8_appendTask_4 : decode cX8_appendTask 4 = .ok (.istore_n 3, 1) := by decide +kernel
theorem dX8_appendTask_5 : decode cX8_appendTask 5 = .ok (.aload_n 0, 1) := by decide +kernel
theorem dX8_appendTask_6 : decode cX8_appendTask 6 = .ok (.getfield 25, 3) := by decide +kernel
theorem dX8_appendTask_9 : decode cX8_appendTask 9 = .ok (.iload_n 3, 1) := by decide +kernel
theorem dX8_appendTask_10 : decode cX8_appendTask 10 = .ok (.aaload, 1) := by decide +kernel
theorem dX8_appendTask_11 : decode cX8_appendTask 11 = .ok (.iload_n 1, 1) := by decide +kernel
theorem dX8_appendTask_12 : decode cX8_appendTask 12 = .ok (.putfield 57, 3) := by decide +kernel
theorem dX8_appendTask_15 : decode cX8_appendTask 15 = .ok (.aload_n 0, 1) := by decide +kernel
theorem dX8_appendTask_16 : decode cX8_appendTask 16 = .ok (.getfield 25, 3) := by decide +kernel
theorem dX8_appendTask_19 : decode cX8_appendTask 19 = .ok (.iload_n 3, 1) := by decide +kernel
theorem dX8_appendTask_20 : decode cX8_appendTask 20 = .ok (.aaload, 1) := by decide +kernel
theorem dX8_appendTask_21 : decode cX8_appendTask 21 = .ok (.iload_n 2, 1) := by decide +kernel
theorem dX8_appendTask_22 : decode cX8_appendTask 22 = .ok (.putfield 47, 3) := by decide +kernel
theorem dX8_appendTask_25 : decode cX8_appendTask 25 = .ok (.aload_n 0, 1) := by decide +kernel
theorem dX8_appendTask_26 : decode cX8_appendTask 26 = .ok (.getfield 35, 3) := by decide +kernel
theorem dX8_appendTask_29 : decode cX8_appendTask 29 = .ok (.iload_n 3, 1) := by decide +kernel
theorem dX8_appendTask_30 : decode cX8_appendTask 30 = .ok (.iload_n 3, 1) := by decide +kernel
theorem dX8_appendTask_31 : decode cX8_appendTask 31 = .ok (.iastore, 1) := by decide +kernel
theorem dX8_appendTask_32 : decode cX8_appendTask 32 = .ok (.aload_n 0, 1) := by decide +kernel
theorem dX8_appendTask_33 : decode cX8_appendTask 33 = .ok (.dup, 1) := by decide +kernel
theorem dX8_appendTask_34 : decode cX8_appendTask 34 = .ok (.getfield 60, 3) := by decide +kernel
theorem dX8_appendTask_37 : decode cX8_appendTask 37 = .ok (.iconst 1, 1) := by decide +kernel
theorem dX8_appendTask_38 : decode cX8_appendTask 38 = .ok (.iadd, 1) := by decide +kernel
theorem dX8_appendTask_39 : decode cX8_appendTask 39 = .ok (.putfield 60, 3) := by decide +kernel
theorem dX8_appendTask_42 : decode cX8_appendTask 42 = .ok (.iload_n 3, 1) := by decide +kernel
theorem dX8_appendTask_43 : decode cX8_appendTask 43 = .ok (.ireturn, 1) := by decide +kernel
theorem dX8_appendLink_0 : decode cX8_appendLink 0 = .ok (.aload_n 0, 1) := by decide +kernel
theorem dX8_appendLink_1 : decode cX8_appendLink 1 = .ok (.getfield 31, 3) := by decide +kernel
theorem dX8_appendLink_4 : decode cX8_appendLink 4 = .ok (.aload_n 0, 1) := by decide +kernel
theorem dX8_appendLink_5 : decode cX8_appendLink 5 = .ok (.getfield 63, 3) := by decide +kernel
theorem dX8_appendLink_8 : decode cX8_appendLink 8 = .ok (.aaload, 1) := by decide +kernel
theorem dX8_appendLink_9 : decode cX8_appendLink 9 = .ok (.astore 5, 2) := by decide +kernel
theorem dX8_appendLink_11 : decode cX8_appendLink 11 = .ok (.aload 5, 2) := by decide +kernel
theorem dX8_appendLink_13 : decode cX8_appendLink 13 = .ok (.iload_n 1, 1) := by decide +kernel
theorem dX8_appendLink_14 : decode cX8_appendLink 14 = .ok (.putfield 66, 3) := by decide +kernel
theorem dX8_appendLink_17 : decode cX8_appendLink 17 = .ok (.aload 5, 2) := by decide +kernel
theorem dX8_appendLink_19 : decode cX8_appendLink 19 = .ok (.iload_n 2, 1) := by decide +kernel
theorem dX8_appendLink_20 : decode cX8_appendLink 20 = .ok (.putfield 69, 3) := by decide +kernel
theorem dX8_appendLink_23 : decode cX8_appendLink 23 = .ok (.aload 5, 2) := by decide +kernel
theorem dX8_appendLink_25 : decode cX8_appendLink 25 = .ok (.iload_n 3, 1) := by decide +kernel
theorem dX8_appendLink_26 : decode cX8_appendLink 26 = .ok (.putfield 72, 3) := by decide +kernel
theorem dX8_appendLink_29 : decode cX8_appendLink 29 = .ok (.aload 5, 2) := by decide +kernel
theorem dX8_appendLink_31 : decode cX8_appendLink 31 = .ok (.iload 4, 2) := by decide +kernel
theorem dX8_appendLink_33 : decode cX8_appendLink 33 = .ok (.putfield 75, 3) := by decide +kernel
theorem dX8_appendLink_36 : decode cX8_appendLink 36 = .ok (.aload_n 0, 1) := by decide +kernel
theorem dX8_appendLink_37 : decode cX8_appendLink 37 = .ok (.dup, 1) := by decide +kernel
theorem dX8_appendLink_38 : decode cX8_appendLink 38 = .ok (.getfield 63, 3) := by decide +kernel
theorem dX8_appendLink_41 : decode cX8_appendLink 41 = .ok (.iconst 1, 1) := by decide +kernel
theorem dX8_appendLink_42 : decode cX8_appendLink 42 = .ok (.iadd, 1) := by decide +kernel
theorem dX8_appendLink_43 : decode cX8_appendLink 43 = .ok (.putfield 63, 3) := by decide +kernel
theorem dX8_appendLink_46 : decode cX8_appendLink 46 = .ok (.aload_n 0, 1) := by decide +kernel
theorem dX8_appendLink_47 : decode cX8_appendLink 47 = .ok (.invokevirtual 78, 3) := by decide +kernel
theorem dX8_appendLink_50 : decode cX8_appendLink 50 = .ok (.aload_n 0, 1) := by decide +kernel
theorem dX8_appendLink_51 : decode cX8_appendLink 51 = .ok (.getfield 63, 3) := by decide +kernel
theorem dX8_appendLink_54 : decode cX8_appendLink 54 = .ok (.iconst 1, 1) := by decide +kernel
theorem dX8_appendLink_55 : decode cX8_appendLink 55 = .ok (.isub, 1) := by decide +kernel
theorem dX8_appendLink_56 : decode cX8_appendLink 56 = .ok (.ireturn, 1) := by decide +kernel
theorem dX8_takeOut_0 : decode cX8_takeOut 0 = .ok (.aload_n 0, 1) := by decide +kernel
theorem dX8_takeOut_1 : decode cX8_takeOut 1 = .ok (.getfield 31, 3) := by decide +kernel
theorem dX8_takeOut_4 : decode cX8_takeOut 4 = .ok (.iload_n 1, 1) := by decide +kernel
theorem dX8_takeOut_5 : decode cX8_takeOut 5 = .ok (.aaload, 1) := by decide +kernel
theorem dX8_takeOut_6 : decode cX8_takeOut 6 = .ok (.astore_n 2, 1) := by decide +kernel
theorem dX8_takeOut_7 : decode cX8_takeOut 7 = .ok (.aload_n 0, 1) := by decide +kernel
theorem dX8_takeOut_8 : decode cX8_takeOut 8 = .ok (.dup, 1) := by decide +kernel
theorem dX8_takeOut_9 : decode cX8_takeOut 9 = .ok (.getfield 63, 3) := by decide +kernel
theorem dX8_takeOut_12 : decode cX8_takeOut 12 = .ok (.iconst 1, 1) := by decide +kernel
theorem dX8_takeOut_13 : decode cX8_takeOut 13 = .ok (.isub, 1) := by decide +kernel
theorem dX8_takeOut_14 : decode cX8_takeOut 14 = .ok (.putfield 63, 3) := by decide +kernel
theorem dX8_takeOut_17 : decode cX8_takeOut 17 = .ok (.iload_n 1, 1) := by decide +kernel
theorem dX8_takeOut_18 : decode cX8_takeOut 18 = .ok (.istore_n 3, 1) := by decide +kernel
theorem dX8_takeOut_19 : decode cX8_takeOut 19 = .ok (.iload_n 3, 1) := by decide +kernel
theorem dX8_takeOut_20 : decode cX8_takeOut 20 = .ok (.aload_n 0, 1) := by decide +kernel
theorem dX8_takeOut_21 : decode cX8_takeOut 21 = .ok (.getfield 63, 3) := by decide +kernel
theorem dX8_takeOut_24 : decode cX8_takeOut 24 = .ok (.if_icmp .ge 23, 3) := by decide +kernel
theorem dX8_takeOut_27 : decode cX8_takeOut 27 = .ok (.aload_n 0, 1) := by decide +kernel
theorem dX8_takeOut_28 : decode cX8_takeOut 28 = .ok (.getfield 31, 3) := by decide +kernel
theorem dX8_takeOut_31 : decode cX8_takeOut 31 = .ok (.iload_n 3, 1) := by decide +kernel
theorem dX8_takeOut_32 : decode cX8_takeOut 32 = .ok (.aload_n 0, 1) := by decide +kernel
theorem dX8_takeOut_33 : decode cX8_takeOut 33 = .ok (.getfield 31, 3) := by decide +kernel
theorem dX8_takeOut_36 : decode cX8_takeOut 36 = .ok (.iload_n 3, 1) := by decide +kernel
theorem dX8_takeOut_37 : decode cX8_takeOut 37 = .ok (.iconst 1, 1) := by decide +kernel
theorem dX8_takeOut_38 : decode cX8_takeOut 38 = .ok (.iadd, 1) := by decide +kernel
theorem dX8_takeOut_39 : decode cX8_takeOut 39 = .ok (.aaload, 1) := by decide +kernel
theorem dX8_takeOut_40 : decode cX8_takeOut 40 = .ok (.aastore, 1) := by decide +kernel
theorem dX8_takeOut_41 : decode cX8_takeOut 41 = .ok (.iinc 3 1, 3) := by decide +kernel
theorem dX8_takeOut_44 : decode cX8_takeOut 44 = .ok (.goto (-25), 3) := by decide +kernel
theorem dX8_takeOut_47 : decode cX8_takeOut 47 = .ok (.aload_n 0, 1) := by decide +kernel
theorem dX8_takeOut_48 : decode cX8_takeOut 48 = .ok (.getfield 31, 3) := by decide +kernel
theorem dX8_takeOut_51 : decode cX8_takeOut 51 = .ok (.aload_n 0, 1) := by decide +kernel
theorem dX8_takeOut_52 : decode cX8_takeOut 52 = .ok (.getfield 63, 3) := by decide +kernel
theorem dX8_takeOut_55 : decode cX8_takeOut 55 = .ok (.aload_n 2, 1) := by decide +kernel
theorem dX8_takeOut_56 : decode cX8_takeOut 56 = .ok (.aastore, 1) := by decide +kernel
theorem dX8_takeOut_57 : decode cX8_takeOut 57 = .ok (.return_, 1) := by decide +kernel
theorem dX8_reaches_0 : decode cX8_reaches 0 = .ok (.aload_n 0, 1) := by decide +kernel
theorem dX8_reaches_1 : decode cX8_reaches 1 = .ok (.invokevirtual 81, 3) := by decide +kernel
theorem dX8_reaches_4 : decode cX8_reaches 4 = .ok (.aload_n 0, 1) := by decide +kernel
theorem dX8_reaches_5 : decode cX8_reaches 5 = .ok (.getfield 39, 3) := by decide +kernel
theorem dX8_reaches_8 : decode cX8_reaches 8 = .ok (.iload_n 1, 1) := by decide +kernel
theorem dX8_reaches_9 : decode cX8_reaches 9 = .ok (.iconst 1, 1) := by decide +kernel
theorem dX8_reaches_10 : decode cX8_reaches 10 = .ok (.bastore, 1) := by decide +kernel
theorem dX8_reaches_11 : decode cX8_reaches 11 = .ok (.iconst 0, 1) := by decide +kernel
theorem dX8_reaches_12 : decode cX8_reaches 12 = .ok (.istore_n 3, 1) := by decide +kernel
theorem dX8_reaches_13 : decode cX8_reaches 13 = .ok (.iload_n 3, 1) := by decide +kernel
theorem dX8_reaches_14 : decode cX8_reaches 14 = .ok (.aload_n 0, 1) := by decide +kernel
theorem dX8_reaches_15 : decode cX8_reaches 15 = .ok (.getfield 60, 3) := by decide +kernel
theorem dX8_reaches_18 : decode cX8_reaches 18 = .ok (.if_icmp .ge 33, 3) := by decide +kernel
theorem dX8_reaches_21 : decode cX8_reaches 21 = .ok (.aload_n 0, 1) := by decide +kernel
theorem dX8_reaches_22 : decode cX8_reaches 22 = .ok (.getfield 39, 3) := by decide +kernel
theorem dX8_reaches_25 : decode cX8_reaches 25 = .ok (.aload_n 0, 1) := by decide +kernel
theorem dX8_reaches_26 : decode cX8_reaches 26 = .ok (.getfield 35, 3) := by decide +kernel
theorem dX8_reaches_29 : decode cX8_reaches 29 = .ok (.iload_n 3, 1) := by decide +kernel
theorem dX8_reaches_30 : decode cX8_reaches 30 = .ok (.iaload, 1) := by decide +kernel
theorem dX8_reaches_31 : decode cX8_reaches 31 = .ok (.baload, 1) := by decide +kernel
theorem dX8_reaches_32 : decode cX8_reaches 32 = .ok (.ifCond .eq 13, 3) := by decide +kernel
theorem dX8_reaches_35 : decode cX8_reaches 35 = .ok (.aload_n 0, 1) := by decide +kernel
theorem dX8_reaches_36 : decode cX8_reaches 36 = .ok (.aload_n 0, 1) := by decide +kernel
theorem dX8_reaches_37 : decode cX8_reaches 37 = .ok (.getfield 35, 3) := by decide +kernel
theorem dX8_reaches_40 : decode cX8_reaches 40 = .ok (.iload_n 3, 1) := by decide +kernel
theorem dX8_reaches_41 : decode cX8_reaches 41 = .ok (.iaload, 1) := by decide +kernel
theorem dX8_reaches_42 : decode cX8_reaches 42 = .ok (.invokevirtual 84, 3) := by decide +kernel
theorem dX8_reaches_45 : decode cX8_reaches 45 = .ok (.iinc 3 1, 3) := by decide +kernel
theorem dX8_reaches_48 : decode cX8_reaches 48 = .ok (.goto (-35), 3) := by decide +kernel
theorem dX8_reaches_51 : decode cX8_reaches 51 = .ok (.aload_n 0, 1) := by decide +kernel
theorem dX8_reaches_52 : decode cX8_reaches 52 = .ok (.getfield 39, 3) := by decide +kernel
theorem dX8_reaches_55 : decode cX8_reaches 55 = .ok (.iload_n 2, 1) := by decide +kernel
theorem dX8_reaches_56 : decode cX8_reaches 56 = .ok (.baload, 1) := by decide +kernel
theorem dX8_reaches_57 : decode cX8_reaches 57 = .ok (.ireturn, 1) := by decide +kernel
theorem dX8_markBehind_0 : decode cX8_markBehind 0 = .ok (.iconst 0, 1) := by decide +kernel
theorem dX8_markBehind_1 : decode cX8_markBehind 1 = .ok (.istore_n 2, 1) := by decide +kernel
theorem dX8_markBehind_2 : decode cX8_markBehind 2 = .ok (.iload_n 2, 1) := by decide +kernel
theorem dX8_markBehind_3 : decode cX8_markBehind 3 = .ok (.aload_n 0, 1) := by decide +kernel
theorem dX8_markBehind_4 : decode cX8_markBehind 4 = .ok (.getfield 63, 3) := by decide +kernel
theorem dX8_markBehind_7 : decode cX8_markBehind 7 = .ok (.if_icmp .ge 37, 3) := by decide +kernel
theorem dX8_markBehind_10 : decode cX8_markBehind 10 = .ok (.aload_n 0, 1) := by decide +kernel
theorem dX8_markBehind_11 : decode cX8_markBehind 11 = .ok (.getfield 31, 3) := by decide +kernel
theorem dX8_markBehind_14 : decode cX8_markBehind 14 = .ok (.iload_n 2, 1) := by decide +kernel
theorem dX8_markBehind_15 : decode cX8_markBehind 15 = .ok (.aaload, 1) := by decide +kernel
theorem dX8_markBehind_16 : decode cX8_markBehind 16 = .ok (.getfield 66, 3) := by decide +kernel
theorem dX8_markBehind_19 : decode cX8_markBehind 19 = .ok (.iload_n 1, 1) := by decide +kernel
theorem dX8_markBehind_20 : decode cX8_markBehind 20 = .ok (.if_icmp .ne 18, 3) := by decide +kernel
theorem dX8_markBehind_23 : decode cX8_markBehind 23 = .ok (.aload_n 0, 1) := by decide +kernel
theorem dX8_markBehind_24 : decode cX8_markBehind 24 = .ok (.getfield 39, 3) := by decide +kernel
theorem dX8_markBehind_27 : decode cX8_markBehind 27 = .ok (.aload_n 0, 1) := by decide +kernel
theorem dX8_markBehind_28 : decode cX8_markBehind 28 = .ok (.getfield 31, 3) := by decide +kernel
theorem dX8_markBehind_31 : decode cX8_markBehind 31 = .ok (.iload_n 2, 1) := by decide +kernel
theorem dX8_markBehind_32 : decode cX8_markBehind 32 = .ok (.aaload, 1) := by decide +kernel
theorem dX8_markBehind_33 : decode cX8_markBehind 33 = .ok (.getfield 69, 3) := by decide +kernel
theorem dX8_markBehind_36 : decode cX8_markBehind 36 = .ok (.iconst 1, 1) := by decide +kernel
theorem dX8_markBehind_37 : decode cX8_markBehind 37 = .ok (.bastore, 1) := by decide +kernel
theorem dX8_markBehind_38 : decode cX8_markBehind 38 = .ok (.iinc 2 1, 3) := by decide +kernel
theorem dX8_markBehind_41 : decode cX8_markBehind 41 = .ok (.goto (-39), 3) := by decide +kernel
theorem dX8_markBehind_44 : decode cX8_markBehind 44 = .ok (.return_, 1) := by decide +kernel
theorem dX8_sortTasks_0 : decode cX8_sortTasks 0 = .ok (.aload_n 0, 1) := by decide +kernel
theorem dX8_sortTasks_1 : decode cX8_sortTasks 1 = .ok (.invokevirtual 81, 3) := by decide +kernel
theorem dX8_sortTasks_4 : decode cX8_sortTasks 4 = .ok (.iconst 0, 1) := by decide +kernel
theorem dX8_sortTasks_5 : decode cX8_sortTasks 5 = .ok (.istore_n 1, 1) := by decide +kernel
theorem dX8_sortTasks_6 : decode cX8_sortTasks 6 = .ok (.iload_n 1, 1) := by decide +kernel
theorem dX8_sortTasks_7 : decode cX8_sortTasks 7 = .ok (.aload_n 0, 1) := by decide +kernel
theorem dX8_sortTasks_8 : decode cX8_sortTasks 8 = .ok (.getfield 60, 3) := by decide +kernel
theorem dX8_sortTasks_11 : decode cX8_sortTasks 11 = .ok (.if_icmp .ge 33, 3) := by decide +kernel
theorem dX8_sortTasks_14 : decode cX8_sortTasks 14 = .ok (.aload_n 0, 1) := by decide +kernel
theorem dX8_sortTasks_15 : decode cX8_sortTasks 15 = .ok (.invokevirtual 88, 3) := by decide +kernel
theorem dX8_sortTasks_18 : decode cX8_sortTasks 18 = .ok (.istore_n 2, 1) := by decide +kernel
theorem dX8_sortTasks_19 : decode cX8_sortTasks 19 = .ok (.iload_n 2, 1) := by decide +kernel
theorem dX8_sortTasks_20 : decode cX8_sortTasks 20 = .ok (.ifCond .ge 4, 3) := by decide +kernel
theorem dX8_sortTasks_23 : decode cX8_sortTasks 23 = .ok (.return_, 1) := by decide +kernel
theorem dX8_sortTasks_24 : decode cX8_sortTasks 24 = .ok (.aload_n 0, 1) := by decide +kernel
theorem dX8_sortTasks_25 : decode cX8_sortTasks 25 = .ok (.getfield 39, 3) := by decide +kernel
theorem dX8_sortTasks_28 : decode cX8_sortTasks 28 = .ok (.iload_n 2, 1) := by decide +kernel
theorem dX8_sortTasks_29 : decode cX8_sortTasks 29 = .ok (.iconst 1, 1) := by decide +kernel
theorem dX8_sortTasks_30 : decode cX8_sortTasks 30 = .ok (.bastore, 1) := by decide +kernel
theorem dX8_sortTasks_31 : decode cX8_sortTasks 31 = .ok (.aload_n 0, 1) := by decide +kernel
theorem dX8_sortTasks_32 : decode cX8_sortTasks 32 = .ok (.getfield 35, 3) := by decide +kernel
theorem dX8_sortTasks_35 : decode cX8_sortTasks 35 = .ok (.iload_n 1, 1) := by decide +kernel
theorem dX8_sortTasks_36 : decode cX8_sortTasks 36 = .ok (.iload_n 2, 1) := by decide +kernel
theorem dX8_sortTasks_37 : decode cX8_sortTasks 37 = .ok (.iastore, 1) := by decide +kernel
theorem dX8_sortTasks_38 : decode cX8_sortTasks 38 = .ok (.iinc 1 1, 3) := by decide +kernel
theorem dX8_sortTasks_41 : decode cX8_sortTasks 41 = .ok (.goto (-35), 3) := by decide +kernel
theorem dX8_sortTasks_44 : decode cX8_sortTasks 44 = .ok (.return_, 1) := by decide +kernel
theorem dX8_firstOpen_0 : decode cX8_firstOpen 0 = .ok (.iconst 0, 1) := by decide +kernel
theorem dX8_firstOpen_1 : decode cX8_firstOpen 1 = .ok (.istore_n 1, 1) := by decide +kernel
theorem dX8_firstOpen_2 : decode cX8_firstOpen 2 = .ok (.iload_n 1, 1) := by decide +kernel
theorem dX8_firstOpen_3 : decode cX8_firstOpen 3 = .ok (.aload_n 0, 1) := by decide +kernel
theorem dX8_firstOpen_4 : decode cX8_firstOpen 4 = .ok (.getfield 60, 3) := by decide +kernel
theorem dX8_firstOpen_7 : decode cX8_firstOpen 7 = .ok (.if_icmp .ge 32, 3) := by decide +kernel
theorem dX8_firstOpen_10 : decode cX8_firstOpen 10 = .ok (.aload_n 0, 1) := by decide +kernel
theorem dX8_firstOpen_11 : decode cX8_firstOpen 11 = .ok (.getfield 39, 3) := by decide +kernel
theorem dX8_firstOpen_14 : decode cX8_firstOpen 14 = .ok (.iload_n 1, 1) := by decide +kernel
theorem dX8_firstOpen_15 : decode cX8_firstOpen 15 = .ok (.baload, 1) := by decide +kernel
theorem dX8_firstOpen_16 : decode cX8_firstOpen 16 = .ok (.ifCond .ne 17, 3) := by decide +kernel
theorem dX8_firstOpen_19 : decode cX8_firstOpen 19 = .ok (.aload_n 0, 1) := by decide +kernel
theorem dX8_firstOpen_20 : decode cX8_firstOpen 20 = .ok (.iload_n 1, 1) := by decide +kernel
theorem dX8_firstOpen_21 : decode cX8_firstOpen 21 = .ok (.aload_n 0, 1) := by decide +kernel
theorem dX8_firstOpen_22 : decode cX8_firstOpen 22 = .ok (.getfield 39, 3) := by decide +kernel
theorem dX8_firstOpen_25 : decode cX8_firstOpen 25 = .ok (.invokevirtual 92, 3) := by decide +kernel
theorem dX8_firstOpen_28 : decode cX8_firstOpen 28 = .ok (.ifCond .eq 5, 3) := by decide +kernel
theorem dX8_firstOpen_31 : decode cX8_firstOpen 31 = .ok (.iload_n 1, 1) := by decide +kernel
theorem dX8_firstOpen_32 : decode cX8_firstOpen 32 = .ok (.ireturn, 1) := by decide +kernel
theorem dX8_firstOpen_33 : decode cX8_firstOpen 33 = .ok (.iinc 1 1, 3) := by decide +kernel
theorem dX8_firstOpen_36 : decode cX8_firstOpen 36 = .ok (.goto (-34), 3) := by decide +kernel
theorem dX8_firstOpen_39 : decode cX8_firstOpen 39 = .ok (.iconst (-1), 1) := by decide +kernel
theorem dX8_firstOpen_40 : decode cX8_firstOpen 40 = .ok (.ireturn, 1) := by decide +kernel
theorem dX8_clearMarks_0 : decode cX8_clearMarks 0 = .ok (.iconst 0, 1) := by decide +kernel
theorem dX8_clearMarks_1 : decode cX8_clearMarks 1 = .ok (.istore_n 1, 1) := by decide +kernel
theorem dX8_clearMarks_2 : decode cX8_clearMarks 2 = .ok (.iload_n 1, 1) := by decide +kernel
theorem dX8_clearMarks_3 : decode cX8_clearMarks 3 = .ok (.bipush 24, 2) := by decide +kernel
theorem dX8_clearMarks_5 : decode cX8_clearMarks 5 = .ok (.if_icmp .ge 16, 3) := by decide +kernel
theorem dX8_clearMarks_8 : decode cX8_clearMarks 8 = .ok (.aload_n 0, 1) := by decide +kernel
theorem dX8_clearMarks_9 : decode cX8_clearMarks 9 = .ok (.getfield 39, 3) := by decide +kernel
theorem dX8_clearMarks_12 : decode cX8_clearMarks 12 = .ok (.iload_n 1, 1) := by decide +kernel
theorem dX8_clearMarks_13 : decode cX8_clearMarks 13 = .ok (.iconst 0, 1) := by decide +kernel
theorem dX8_clearMarks_14 : decode cX8_clearMarks 14 = .ok (.bastore, 1) := by decide +kernel
theorem dX8_clearMarks_15 : decode cX8_clearMarks 15 = .ok (.iinc 1 1, 3) := by decide +kernel
theorem dX8_clearMarks_18 : decode cX8_clearMarks 18 = .ok (.goto (-16), 3) := by decide +kernel
theorem dX8_clearMarks_21 : decode cX8_clearMarks 21 = .ok (.return_, 1) := by decide +kernel
theorem dX8_isOpen_0 : decode cX8_isOpen 0 = .ok (.iconst 0, 1) := by decide +kernel
theorem dX8_isOpen_1 : decode cX8_isOpen 1 = .ok (.istore_n 3, 1) := by decide +kernel
theorem dX8_isOpen_2 : decode cX8_isOpen 2 = .ok (.iload_n 3, 1) := by decide +kernel
theorem dX8_isOpen_3 : decode cX8_isOpen 3 = .ok (.aload_n 0, 1) := by decide +kernel
theorem dX8_isOpen_4 : decode cX8_isOpen 4 = .ok (.getfield 63, 3) := by decide +kernel
theorem dX8_isOpen_7 : decode cX8_isOpen 7 = .ok (.if_icmp .ge 38, 3) := by decide +kernel
theorem dX8_isOpen_10 : decode cX8_isOpen 10 = .ok (.aload_n 0, 1) := by decide +kernel
theorem dX8_isOpen_11 : decode cX8_isOpen 11 = .ok (.getfield 31, 3) := by decide +kernel
theorem dX8_isOpen_14 : decode cX8_isOpen 14 = .ok (.iload_n 3, 1) := by decide +kernel
theorem dX8_isOpen_15 : decode cX8_isOpen 15 = .ok (.aaload, 1) := by decide +kernel
theorem dX8_isOpen_16 : decode cX8_isOpen 16 = .ok (.getfield 69, 3) := by decide +kernel
theorem dX8_isOpen_19 : decode cX8_isOpen 19 = .ok (.iload_n 1, 1) := by decide +kernel
theorem dX8_isOpen_20 : decode cX8_isOpen 20 = .ok (.if_icmp .ne 19, 3) := by decide +kernel
theorem dX8_isOpen_23 : decode cX8_isOpen 23 = .ok (.aload_n 2, 1) := by decide +kernel
theorem dX8_isOpen_24 : decode cX8_isOpen 24 = .ok (.aload_n 0, 1) := by decide +kernel
theorem dX8_isOpen_25 : decode cX8_isOpen 25 = .ok (.getfield 31, 3) := by decide +kernel
theorem dX8_isOpen_28 : decode cX8_isOpen 28 = .ok (.iload_n 3, 1) := by decide +kernel
theorem dX8_isOpen_29 : decode cX8_isOpen 29 = .ok (.aaload, 1) := by decide +kernel
theorem dX8_isOpen_30 : decode cX8_isOpen 30 = .ok (.getfield 66, 3) := by decide +kernel
theorem dX8_isOpen_33 : decode cX8_isOpen 33 = .ok (.baload, 1) := by decide +kernel
theorem dX8_isOpen_34 : decode cX8_isOpen 34 = .ok (.ifCond .ne 5, 3) := by decide +kernel
theorem dX8_isOpen_37 : decode cX8_isOpen 37 = .ok (.iconst 0, 1) := by decide +kernel
theorem dX8_isOpen_38 : decode cX8_isOpen 38 = .ok (.ireturn, 1) := by decide +kernel
theorem dX8_isOpen_39 : decode cX8_isOpen 39 = .ok (.iinc 3 1, 3) := by decide +kernel
theorem dX8_isOpen_42 : decode cX8_isOpen 42 = .ok (.goto (-40), 3) := by decide +kernel
theorem dX8_isOpen_45 : decode cX8_isOpen 45 = .ok (.iconst 1, 1) := by decide +kernel
theorem dX8_isOpen_46 : decode cX8_isOpen 46 = .ok (.ireturn, 1) := by decide +kernel
theorem dX8_firstDay_0 : decode cX8_firstDay 0 = .ok (.aload_n 0, 1) := by decide +kernel
theorem dX8_firstDay_1 : decode cX8_firstDay 1 = .ok (.getfield 25, 3) := by decide +kernel
theorem dX8_firstDay_4 : decode cX8_firstDay 4 = .ok (.iload_n 1, 1) := by decide +kernel
theorem dX8_firstDay_5 : decode cX8_firstDay 5 = .ok (.aaload, 1) := by decide +kernel
theorem dX8_firstDay_6 : decode cX8_firstDay 6 = .ok (.getfield 96, 3) := by decide +kernel
theorem dX8_firstDay_9 : decode cX8_firstDay 9 = .ok (.istore_n 3, 1) := by decide +kernel
theorem dX8_firstDay_10 : decode cX8_firstDay 10 = .ok (.iconst 0, 1) := by decide +kernel
theorem dX8_firstDay_11 : decode cX8_firstDay 11 = .ok (.istore 4, 2) := by decide +kernel
theorem dX8_firstDay_13 : decode cX8_firstDay 13 = .ok (.iconst 0, 1) := by decide +kernel
theorem dX8_firstDay_14 : decode cX8_firstDay 14 = .ok (.istore 5, 2) := by decide +kernel
theorem dX8_firstDay_16 : decode cX8_firstDay 16 = .ok (.iload 5, 2) := by decide +kernel
theorem dX8_firstDay_18 : decode cX8_firstDay 18 = .ok (.aload_n 0, 1) := by decide +kernel
theorem dX8_firstDay_19 : decode cX8_firstDay 19 = .ok (.getfield 63, 3) := by decide +kernel
theorem dX8_firstDay_22 : decode cX8_firstDay 22 = .ok (.if_icmp .ge 57, 3) := by decide +kernel
theorem dX8_firstDay_25 : decode cX8_firstDay 25 = .ok (.aload_n 0, 1) := by decide +kernel
theorem dX8_firstDay_26 : decode cX8_firstDay 26 = .ok (.getfield 31, 3) := by decide +kernel
theorem dX8_firstDay_29 : decode cX8_firstDay 29 = .ok (.iload 5, 2) := by decide +kernel
theorem dX8_firstDay_31 : decode cX8_firstDay 31 = .ok (.aaload, 1) := by decide +kernel
theorem dX8_firstDay_32 : decode cX8_firstDay 32 = .ok (.getfield 69, 3) := by decide +kernel
theorem dX8_firstDay_35 : decode cX8_firstDay 35 = .ok (.iload_n 1, 1) := by decide +kernel
theorem dX8_firstDay_36 : decode cX8_firstDay 36 = .ok (.if_icmp .ne 37, 3) := by decide +kernel
theorem dX8_firstDay_39 : decode cX8_firstDay 39 = .ok (.iload_n 3, 1) := by decide +kernel
theorem dX8_firstDay_40 : decode cX8_firstDay 40 = .ok (.aload_n 2, 1) := by decide +kernel
theorem dX8_firstDay_41 : decode cX8_firstDay 41 = .ok (.aload_n 0, 1) := by decide +kernel
theorem dX8_firstDay_42 : decode cX8_firstDay 42 = .ok (.getfield 31, 3) := by decide +kernel
theorem dX8_firstDay_45 : decode cX8_firstDay 45 = .ok (.iload 5, 2) := by decide +kernel
theorem dX8_firstDay_47 : decode cX8_firstDay 47 = .ok (.aaload, 1) := by decide +kernel
theorem dX8_firstDay_48 : decode cX8_firstDay 48 = .ok (.invokevirtual 99, 3) := by decide +kernel
theorem dX8_firstDay_51 : decode cX8_firstDay 51 = .ok (.invokestatic 105, 3) := by decide +kernel
theorem dX8_firstDay_54 : decode cX8_firstDay 54 = .ok (.istore_n 3, 1) := by decide +kernel
theorem dX8_firstDay_55 : decode cX8_firstDay 55 = .ok (.iload 4, 2) := by decide +kernel
theorem dX8_firstDay_57 : decode cX8_firstDay 57 = .ok (.aload_n 2, 1) := by decide +kernel
theorem dX8_firstDay_58 : decode cX8_firstDay 58 = .ok (.aload_n 0, 1) := by decide +kernel
theorem dX8_firstDay_59 : decode cX8_firstDay 59 = .ok (.getfield 31, 3) := by decide +kernel
theorem dX8_firstDay_62 : decode cX8_firstDay 62 = .ok (.iload 5, 2) := by decide +kernel
theorem dX8_firstDay_64 : decode cX8_firstDay 64 = .ok (.aaload, 1) := by decide +kernel
theorem dX8_firstDay_65 : decode cX8_firstDay 65 = .ok (.invokevirtual 111, 3) := by decide +kernel
theorem dX8_firstDay_68 : decode cX8_firstDay 68 = .ok (.invokestatic 105, 3) := by decide +kernel
theorem dX8_firstDay_71 : decode cX8_firstDay 71 = .ok (.istore 4, 2) := by decide +kernel
theorem dX8_firstDay_73 : decode cX8_firstDay 73 = .ok (.iinc 5 1, 3) := by decide +kernel
theorem dX8_firstDay_76 : decode cX8_firstDay 76 = .ok (.goto (-60), 3) := by decide +kernel
theorem dX8_firstDay_79 : decode cX8_firstDay 79 = .ok (.aload_n 0, 1) := by decide +kernel
theorem dX8_firstDay_80 : decode cX8_firstDay 80 = .ok (.iload_n 1, 1) := by decide +kernel
theorem dX8_firstDay_81 : decode cX8_firstDay 81 = .ok (.invokevirtual 114, 3) := by decide +kernel
theorem dX8_firstDay_84 : decode cX8_firstDay 84 = .ok (.aload_n 0, 1) := by decide +kernel
theorem dX8_firstDay_85 : decode cX8_firstDay 85 = .ok (.getfield 25, 3) := by decide +kernel
theorem dX8_firstDay_88 : decode cX8_firstDay 88 = .ok (.iload_n 1, 1) := by decide +kernel
theorem dX8_firstDay_89 : decode cX8_firstDay 89 = .ok (.aaload, 1) := by decide +kernel
theorem dX8_firstDay_90 : decode cX8_firstDay 90 = .ok (.getfield 57, 3) := by decide +kernel
theorem dX8_firstDay_93 : decode cX8_firstDay 93 = .ok (.iload_n 3, 1) := by decide +kernel
theorem dX8_firstDay_94 : decode cX8_firstDay 94 = .ok (.iload 4, 2) := by decide +kernel
theorem dX8_firstDay_96 : decode cX8_firstDay 96 = .ok (.invokevirtual 118, 3) := by decide +kernel
theorem dX8_firstDay_99 : decode cX8_firstDay 99 = .ok (.ireturn, 1) := by decide +kernel
theorem dX8_firstDayBy_0 : decode cX8_firstDayBy 0 = .ok (.aload_n 0, 1) := by decide +kernel
theorem dX8_firstDayBy_1 : decode cX8_firstDayBy 1 = .ok (.getfield 25, 3) := by decide +kernel
theorem dX8_firstDayBy_4 : decode cX8_firstDayBy 4 = .ok (.aload_n 1, 1) := by decide +kernel
theorem dX8_firstDayBy_5 : decode cX8_firstDayBy 5 = .ok (.getfield 69, 3) := by decide +kernel
theorem dX8_firstDayBy_8 : decode cX8_firstDayBy 8 = .ok (.aaload, 1) := by decide +kernel
theorem dX8_firstDayBy_9 : decode cX8_firstDayBy 9 = .ok (.astore_n 3, 1) := by decide +kernel
theorem dX8_firstDayBy_10 : decode cX8_firstDayBy 10 = .ok (.aload_n 3, 1) := by decide +kernel
theorem dX8_firstDayBy_11 : decode cX8_firstDayBy 11 = .ok (.getfield 96, 3) := by decide +kernel
theorem dX8_firstDayBy_14 : decode cX8_firstDayBy 14 = .ok (.aload_n 2, 1) := by decide +kernel
theorem dX8_firstDayBy_15 : decode cX8_firstDayBy 15 = .ok (.aload_n 1, 1) := by decide +kernel
theorem dX8_firstDayBy_16 : decode cX8_firstDayBy 16 = .ok (.invokevirtual 99, 3) := by decide +kernel
theorem dX8_firstDayBy_19 : decode cX8_firstDayBy 19 = .ok (.invokestatic 105, 3) := by decide +kernel
theorem dX8_firstDayBy_22 : decode cX8_firstDayBy 22 = .ok (.istore 4, 2) := by decide +kernel
theorem dX8_firstDayBy_24 : decode cX8_firstDayBy 24 = .ok (.aload_n 0, 1) := by decide +kernel
theorem dX8_firstDayBy_25 : decode cX8_firstDayBy 25 = .ok (.aload_n 1, 1) := by decide +kernel
theorem dX8_firstDayBy_26 : decode cX8_firstDayBy 26 = .ok (.getfield 69, 3) := by decide +kernel
theorem dX8_firstDayBy_29 : decode cX8_firstDayBy 29 = .ok (.invokevirtual 114, 3) := by decide +kernel
theorem dX8_firstDayBy_32 : decode cX8_firstDayBy 32 = .ok (.aload_n 3, 1) := by decide +kernel
theorem dX8_firstDayBy_33 : decode cX8_firstDayBy 33 = .ok (.getfield 57, 3) := by decide +kernel
theorem dX8_firstDayBy_36 : decode cX8_firstDayBy 36 = .ok (.iload 4, 2) := by decide +kernel
theorem dX8_firstDayBy_38 : decode cX8_firstDayBy 38 = .ok (.aload_n 2, 1) := by decide +kernel
theorem dX8_firstDayBy_39 : decode cX8_firstDayBy 39 = .ok (.aload_n 1, 1) := by decide +kernel
theorem dX8_firstDayBy_40 : decode cX8_firstDayBy 40 = .ok (.invokevirtual 111, 3) := by decide +kernel
theorem dX8_firstDayBy_43 : decode cX8_firstDayBy 43 = .ok (.invokevirtual 118, 3) := by decide +kernel
theorem dX8_firstDayBy_46 : decode cX8_firstDayBy 46 = .ok (.ireturn, 1) := by decide +kernel
theorem dX9_init_0 : decode cX9_init 0 = .ok (.aload_n 0, 1) := by decide +kernel
theorem dX9_init_1 : decode cX9_init 1 = .ok (.invokespecial 3, 3) := by decide +kernel
theorem dX9_init_4 : decode cX9_init 4 = .ok (.aload_n 0, 1) := by decide +kernel
theorem dX9_init_5 : decode cX9_init 5 = .ok (.iconst 4, 1) := by decide +kernel
theorem dX9_init_6 : decode cX9_init 6 = .ok (.newarray .int, 2) := by decide +kernel
theorem dX9_init_8 : decode cX9_init 8 = .ok (.putfield 9, 3) := by decide +kernel
theorem dX9_init_11 : decode cX9_init 11 = .ok (.return_, 1) := by decide +kernel
theorem dX10_init_0 : decode cX10_init 0 = .ok (.aload_n 0, 1) := by decide +kernel
theorem dX10_init_1 : decode cX10_init 1 = .ok (.invokespecial 1, 3) := by decide +kernel
theorem dX10_init_4 : decode cX10_init 4 = .ok (.aload_n 0, 1) := by decide +kernel
theorem dX10_init_5 : decode cX10_init 5 = .ok (.new 7, 3) := by decide +kernel
theorem dX10_init_8 : decode cX10_init 8 = .ok (.dup, 1) := by decide +kernel
theorem dX10_init_9 : decode cX10_init 9 = .ok (.invokespecial 9, 3) := by decide +kernel
theorem dX10_init_12 : decode cX10_init 12 = .ok (.putfield 10, 3) := by decide +kernel
theorem dX10_init_15 : decode cX10_init 15 = .ok (.aload_n 0, 1) := by decide +kernel
theorem dX10_init_16 : decode cX10_init 16 = .ok (.new 16, 3) := by decide +kernel
theorem dX10_init_19 : decode cX10_init 19 = .ok (.dup, 1) := by decide +kernel
theorem dX10_init_20 : decode cX10_init 20 = .ok (.aload_n 0, 1) := by decide +kernel
theorem dX10_init_21 : decode cX10_init 21 = .ok (.getfield 10, 3) := by decide +kernel
theorem dX10_init_24 : decode cX10_init 24 = .ok (.invokespecial 18, 3) := by decide +kernel
theorem dX10_init_27 : decode cX10_init 27 = .ok (.putfield 21, 3) := by decide +kernel
theorem dX10_init_30 : decode cX10_init 30 = .ok (.aload_n 0, 1) := by decide +kernel
theorem dX10_init_31 : decode cX10_init 31 = .ok (.new 25, 3) := by decide +kernel
theorem dX10_init_34 : decode cX10_init 34 = .ok (.dup, 1) := by decide +kernel
theorem dX10_init_35 : decode cX10_init 35 = .ok (.aload_n 0, 1) := by decide +kernel
theorem dX10_init_36 : decode cX10_init 36 = .ok (.getfield 10, 3) := by decide +kernel
theorem dX10_init_39 : decode cX10_init 39 = .ok (.invokespecial 27, 3) := by decide +kernel
theorem dX10_init_42 : decode cX10_init 42 = .ok (.putfield 28, 3) := by decide +kernel
theorem dX10_init_45 : decode cX10_init 45 = .ok (.aload_n 0, 1) := by decide +kernel
theorem dX10_init_46 : decode cX10_init 46 = .ok (.new 32, 3) := by decide +kernel
theorem dX10_init_49 : decode cX10_init 49 = .ok (.dup, 1) := by decide +kernel
theorem dX10_init_50 : decode cX10_init 50 = .ok (.invokespecial 34, 3) := by decide +kernel
theorem dX10_init_53 : decode cX10_init 53 = .ok (.putfield 35, 3) := by decide +kernel
theorem dX10_init_56 : decode cX10_init 56 = .ok (.aload_n 0, 1) := by decide +kernel
theorem dX10_init_57 : decode cX10_init 57 = .ok (.new 16, 3) := by decide +kernel
theorem dX10_init_60 : decode cX10_init 60 = .ok (.dup, 1) := by decide +kernel
theorem dX10_init_61 : decode cX10_init 61 = .ok (.aload_n 0, 1) := by decide +kernel
theorem dX10_init_62 : decode cX10_init 62 = .ok (.getfield 10, 3) := by decide +kernel
theorem dX10_init_65 : decode cX10_init 65 = .ok (.invokespecial 18, 3) := by decide +kernel
theorem dX10_init_68 : decode cX10_init 68 = .ok (.putfield 39, 3) := by decide +kernel
theorem dX10_init_71 : decode cX10_init 71 = .ok (.aload_n 0, 1) := by decide +kernel
theorem dX10_init_72 : decode cX10_init 72 = .ok (.new 25, 3) := by decide +kernel
theorem dX10_init_75 : decode cX10_init 75 = .ok (.dup, 1) := by decide +kernel
theorem dX10_init_76 : decode cX10_init 76 = .ok (.aload_n 0, 1) := by decide +kernel
theorem dX10_init_77 : decode cX10_init 77 = .ok (.getfield 10, 3) := by decide +kernel
theorem dX10_init_80 : decode cX10_init 80 = .ok (.invokespecial 27, 3) := by decide +kernel
theorem dX10_init_83 : decode cX10_init 83 = .ok (.putfield 42, 3) := by decide +kernel
theorem dX10_init_86 : decode cX10_init 86 = .ok (.aload_n 0, 1) := by decide +kernel
theorem dX10_init_87 : decode cX10_init 87 = .ok (.new 45, 3) := by decide +kernel
theorem dX10_init_90 : decode cX10_init 90 = .ok (.dup, 1) := by decide +kernel
theorem dX10_init_91 : decode cX10_init 91 = .ok (.aload_n 0, 1) := by decide +kernel
theorem dX10_init_92 : decode cX10_init 92 = .ok (.getfield 10, 3) := by decide +kernel
theorem dX10_init_95 : decode cX10_init 95 = .ok (.invokespecial 47, 3) := by decide +kernel
theorem dX10_init_98 : decode cX10_init 98 = .ok (.putfield 48, 3) := by decide +kernel
theorem dX10_init_101 : decode cX10_init 101 = .ok (.aload_n 0, 1) := by decide +kernel
theorem dX10_init_102 : decode cX10_init 102 = .ok (.iconst 1, 1) := by decide +kernel
theorem dX10_init_103 : decode cX10_init 103 = .ok (.putfield 52, 3) := by decide +kernel
theorem dX10_init_106 : decode cX10_init 106 = .ok (.return_, 1) := by decide +kernel
theorem dX10_setWeek_0 : decode cX10_setWeek 0 = .ok (.iload_n 1, 1) := by decide +kernel
theorem dX10_setWeek_1 : decode cX10_setWeek 1 = .ok (.invokestatic 56, 3) := by decide +kernel
theorem dX10_setWeek_4 : decode cX10_setWeek 4 = .ok (.iload_n 2, 1) := by decide +kernel
theorem dX10_setWeek_5 : decode cX10_setWeek 5 = .ok (.iconst 1, 1) := by decide +kernel
theorem dX10_setWeek_6 : decode cX10_setWeek 6 = .ok (.if_icmp .lt 13, 3) := by decide +kernel
theorem dX10_setWeek_9 : decode cX10_setWeek 9 = .ok (.iload_n 2, 1) := by decide +kernel
theorem dX10_setWeek_10 : decode cX10_setWeek 10 = .ok (.bipush 127, 2) := by decide +kernel
theorem dX10_setWeek_12 : decode cX10_setWeek 12 = .ok (.if_icmp .gt 7, 3) := by decide +kernel
theorem dX10_setWeek_15 : decode cX10_setWeek 15 = .ok (.iconst 1, 1) := by decide +kernel
theorem dX10_setWeek_16 : decode cX10_setWeek 16 = .ok (.goto 4, 3) := by decide +kernel
theorem dX10_setWeek_19 : decode cX10_setWeek 19 = .ok (.iconst 0, 1) := by decide +kernel
theorem dX10_setWeek_20 : decode cX10_setWeek 20 = .ok (.invokestatic 60, 3) := by decide +kernel
theorem dX10_setWeek_23 : decode cX10_setWeek 23 = .ok (.aload_n 0, 1) := by decide +kernel
theorem dX10_setWeek_24 : decode cX10_setWeek 24 = .ok (.getfield 10, 3) := by decide +kernel
theorem dX10_setWeek_27 : decode cX10_setWeek 27 = .ok (.getfield 64, 3) := by decide +kernel
theorem dX10_setWeek_30 : decode cX10_setWeek 30 = .ok (.iload_n 1, 1) := by decide +kernel
theorem dX10_setWeek_31 : decode cX10_setWeek 31 = .ok (.aaload, 1) := by decide +kernel
theorem dX10_setWeek_32 : decode cX10_setWeek 32 = .ok (.astore_n 3, 1) := by decide +kernel
theorem dX10_setWeek_33 : decode cX10_setWeek 33 = .ok (.aload_n 3, 1) := by decide +kernel
theorem dX10_setWeek_34 : decode cX10_setWeek 34 = .ok (.getfield 68, 3) := by decide +kernel
theorem dX10_setWeek_37 : decode cX10_setWeek 37 = .ok (.istore 4, 2) := by decide +kernel
theorem dX10_setWeek_39 : decode cX10_setWeek 39 = .ok (.aload_n 3, 1) := by decide +kernel
theorem dX10_setWeek_40 : decode cX10_setWeek 40 = .ok (.iload_n 2, 1) := by decide +kernel
theorem dX10_setWeek_41 : decode cX10_setWeek 41 = .ok (.putfield 68, 3) := by decide +kernel
theorem dX10_setWeek_44 : decode cX10_setWeek 44 = .ok (.aload_n 0, 1) := by decide +kernel
theorem dX10_setWeek_45 : decode cX10_setWeek 45 = .ok (.iconst 1, 1) := by decide +kernel
theorem dX10_setWeek_46 : decode cX10_setWeek 46 = .ok (.putfield 52, 3) := by decide +kernel
theorem dX10_setWeek_49 : decode cX10_setWeek 49 = .ok (.iload 4, 2) := by decide +kernel
theorem dX10_setWeek_51 : decode cX10_setWeek 51 = .ok (.ireturn, 1) := by decide +kernel
theorem dX10_setCrew_0 : decode cX10_setCrew 0 = .ok (.iload_n 1, 1) := by decide +kernel
theorem dX10_setCrew_1 : decode cX10_setCrew 1 = .ok (.invokestatic 92, 3) := by decide +kernel
theorem dX10_setCrew_4 : decode cX10_setCrew 4 = .ok (.iload_n 2, 1) := by decide +kernel
theorem dX10_setCrew_5 : decode cX10_setCrew 5 = .ok (.bipush 9, 2) := by decide +kernel
theorem dX10_setCrew_7 : decode cX10_setCrew 7 = .ok (.invokestatic 74, 3) := by decide +kernel
theorem dX10_setCrew_10 : decode cX10_setCrew 10 = .ok (.ifCond .eq 16, 3) := by decide +kernel
theorem dX10_setCrew_13 : decode cX10_setCrew 13 = .ok (.iload_n 3, 1) := by decide +kernel
theorem dX10_setCrew_14 : decode cX10_setCrew 14 = .ok (.bipush 99, 2) := by decide +kernel
theorem dX10_setCrew_16 : decode cX10_setCrew 16 = .ok (.invokestatic 74, 3) := by decide +kernel
theorem dX10_setCrew_19 : decode cX10_setCrew 19 = .ok (.ifCond .eq 7, 3) := by decide +kernel
theorem dX10_setCrew_22 : decode cX10_setCrew 22 = .ok (.iconst 1, 1) := by decide +kernel
theorem dX10_setCrew_23 : decode cX10_setCrew 23 = .ok (.goto 4, 3) := by decide +kernel
theorem dX10_setCrew_26 : decode cX10_setCrew 26 = .ok (.iconst 0, 1) := by decide +kernel
theorem dX10_setCrew_27 : decode cX10_setCrew 27 = .ok (.invokestatic 60, 3) := by decide +kernel
theorem dX10_setCrew_30 : decode cX10_setCrew 30 = .ok (.aload_n 0, 1) := by decide +kernel
theorem dX10_setCrew_31 : decode cX10_setCrew 31 = .ok (.getfield 10, 3) := by decide +kernel
theorem dX10_setCrew_34 : decode cX10_setCrew 34 = .ok (.getfield 95, 3) := by decide +kernel
theorem dX10_setCrew_37 : decode cX10_setCrew 37 = .ok (.iload_n 1, 1) := by decide +kernel
theorem dX10_setCrew_38 : decode cX10_setCrew 38 = .ok (.aaload, 1) := by decide +kernel
theorem dX10_setCrew_39 : decode cX10_setCrew 39 = .ok (.astore 4, 2) := by decide +kernel
theorem dX10_setCrew_41 : decode cX10_setCrew 41 = .ok (.aload 4, 2) := by decide +kernel
theorem dX10_setCrew_43 : decode cX10_setCrew 43 = .ok (.getfield 99, 3) := by decide +kernel
theorem dX10_setCrew_46 : decode cX10_setCrew 46 = .ok (.istore 5, 2) := by decide +kernel
theorem dX10_setCrew_48 : decode cX10_setCrew 48 = .ok (.aload 4, 2) := by decide +kernel
theorem dX10_setCrew_50 : decode cX10_setCrew 50 = .ok (.iload_n 2, 1) := by decide +kernel
theorem dX10_setCrew_51 : decode cX10_setCrew 51 = .ok (.putfield 99, 3) := by decide +kernel
theorem dX10_setCrew_54 : decode cX10_setCrew 54 = .ok (.aload 4, 2) := by decide +kernel
theorem dX10_setCrew_56 : decode cX10_setCrew 56 = .ok (.iload_n 3, 1) := by decide +kernel
theorem dX10_setCrew_57 : decode cX10_setCrew 57 = .ok (.putfield 104, 3) := by decide +kernel
theorem dX10_setCrew_60 : decode cX10_setCrew 60 = .ok (.aload_n 0, 1) := by decide +kernel
theorem dX10_setCrew_61 : decode cX10_setCrew 61 = .ok (.iconst 1, 1) := by decide +kernel
theorem dX10_setCrew_62 : decode cX10_setCrew 62 = .ok (.putfield 52, 3) := by decide +kernel
theorem dX10_setCrew_65 : decode cX10_setCrew 65 = .ok (.iload 5, 2) := by decide +kernel
theorem dX10_setCrew_67 : decode cX10_setCrew 67 = .ok (.ireturn, 1) := by decide +kernel
theorem dX10_addTask_0 : decode cX10_addTask 0 = .ok (.iload_n 2, 1) := by decide +kernel
theorem dX10_addTask_1 : decode cX10_addTask 1 = .ok (.invokestatic 56, 3) := by decide +kernel
theorem dX10_addTask_4 : decode cX10_addTask 4 = .ok (.iload_n 1, 1) := by decide +kernel
theorem dX10_addTask_5 : decode cX10_addTask 5 = .ok (.bipush 20, 2) := by decide +kernel
theorem dX10_addTask_7 : decode cX10_addTask 7 = .ok (.invokestatic 74, 3) := by decide +kernel
theorem dX10_addTask_10 : decode cX10_addTask 10 = .ok (.invokestatic 60, 3) := by decide +kernel
theorem dX10_addTask_13 : decode cX10_addTask 13 = .ok (.aload_n 0, 1) := by decide +kernel
theorem dX10_addTask_14 : decode cX10_addTask 14 = .ok (.getfield 10, 3) := by decide +kernel
theorem dX10_addTask_17 : decode cX10_addTask 17 = .ok (.getfield 107, 3) := by decide +kernel
theorem dX10_addTask_20 : decode cX10_addTask 20 = .ok (.bipush 24, 2) := by decide +kernel
theorem dX10_addTask_22 : decode cX10_addTask 22 = .ok (.if_icmp .ge 7, 3) := by decide +kernel
theorem dX10_addTask_25 : decode cX10_addTask 25 = .ok (.iconst 1, 1) := by decide +kernel
theorem dX10_addTask_26 : decode cX10_addTask 26 = .ok (.goto 4, 3) := by decide +kernel
theorem dX10_addTask_29 : decode cX10_addTask 29 = .ok (.iconst 0, 1) := by decide +kernel
theorem dX10_addTask_30 : decode cX10_addTask 30 = .ok (.invokestatic 85, 3) := by decide +kernel
theorem dX10_addTask_33 : decode cX10_addTask 33 = .ok (.aload_n 0, 1) := by decide +kernel
theorem dX10_addTask_34 : decode cX10_addTask 34 = .ok (.iconst 1, 1) := by decide +kernel
theorem dX10_addTask_35 : decode cX10_addTask 35 = .ok (.putfield 52, 3) := by decide +kernel
theorem dX10_addTask_38 : decode cX10_addTask 38 = .ok (.aload_n 0, 1) := by decide +kernel
theorem dX10_addTask_39 : decode cX10_addTask 39 = .ok (.getfield 10, 3) := by decide +kernel
theorem dX10_addTask_42 : decode cX10_addTask 42 = .ok (.iload_n 1, 1) := by decide +kernel
theorem dX10_addTask_43 : decode cX10_addTask 43 = .ok (.iload_n 2, 1) := by decide +kernel
theorem dX10_addTask_44 : decode cX10_addTask 44 = .ok (.invokevirtual 110, 3) := by decide +kernel
theorem dX10_addTask_47 : decode cX10_addTask 47 = .ok (.ireturn, 1) := by decide +kernel
theorem dX10_setLength_0 : decode cX10_setLength 0 = .ok (.aload_n 0, 1) := by decide +kernel
theorem dX10_setLength_1 : decode cX10_setLength 1 = .ok (.iload_n 1, 1) := by decide +kernel
theorem dX10_setLength_2 : decode cX10_setLength 2 = .ok (.invokevirtual 114, 3) := by decide +kernel
theorem dX10_setLength_5 : decode cX10_setLength 5 = .ok (.iload_n 2, 1) := by decide +kernel
theorem dX10_setLength_6 : decode cX10_setLength 6 = .ok (.bipush 20, 2) := by decide +kernel
theorem dX10_setLength_8 : decode cX10_setLength 8 = .ok (.invokestatic 74, 3) := by decide +kernel
theorem dX10_setLength_11 : decode cX10_setLength 11 = .ok (.invokestatic 60, 3) := by decide +kernel
theorem dX10_setLength_14 : decode cX10_setLength 14 = .ok (.aload_n 0, 1) := by decide +kernel
theorem dX10_setLength_15 : decode cX10_setLength 15 = .ok (.getfield 10, 3) := by decide +kernel
theorem dX10_setLength_18 : decode cX10_setLength 18 = .ok (.getfield 117, 3) := by decide +kernel
theorem dX10_setLength_21 : decode cX10_setLength 21 = .ok (.iload_n 1, 1) := by decide +kernel
theorem dX10_setLength_22 : decode cX10_setLength 22 = .ok (.aaload, 1) := by decide +kernel
theorem dX10_setLength_23 : decode cX10_setLength 23 = .ok (.astore_n 3, 1) := by decide +kernel
theorem dX10_setLength_24 : decode cX10_setLength 24 = .ok (.aload_n 3, 1) := by decide +kernel
theorem dX10_setLength_25 : decode cX10_setLength 25 = .ok (.getfield 121, 3) := by decide +kernel
theorem dX10_setLength_28 : decode cX10_setLength 28 = .ok (.istore 4, 2) := by decide +kernel
theorem dX10_setLength_30 : decode cX10_setLength 30 = .ok (.aload_n 3, 1) := by decide +kernel
theorem dX10_setLength_31 : decode cX10_setLength 31 = .ok (.iload_n 2, 1) := by decide +kernel
theorem dX10_setLength_32 : decode cX10_setLength 32 = .ok (.putfield 121, 3) := by decide +kernel
theorem dX10_setLength_35 : decode cX10_setLength 35 = .ok (.aload_n 0, 1) := by decide +kernel
theorem dX10_setLength_36 : decode cX10_setLength 36 = .ok (.iconst 1, 1) := by decide +kernel
theorem dX10_setLength_37 : decode cX10_setLength 37 = .ok (.putfield 52, 3) := by decide +kernel
theorem dX10_setLength_40 : decode cX10_setLength 40 = .ok (.iload 4, 2) := by decide +kernel
theorem dX10_setLength_42 : decode cX10_setLength 42 = .ok (.ireturn, 1) := by decide +kernel
theorem dX10_setTerms_0 : decode cX10_setTerms 0 = .ok (.aload_n 0, 1) := by decide +kernel
theorem dX10_setTerms_1 : decode cX10_setTerms 1 = .ok (.iload_n 1, 1) := by decide +kernel
theorem dX10_setTerms_2 : decode cX10_setTerms 2 = .ok (.invokevirtual 114, 3) := by decide +kernel
theorem dX10_setTerms_5 : decode cX10_setTerms 5 = .ok (.iload_n 2, 1) := by decide +kernel
theorem dX10_setTerms_6 : decode cX10_setTerms 6 = .ok (.bipush 9, 2) := by decide +kernel
theorem dX10_setTerms_8 : decode cX10_setTerms 8 = .ok (.invokestatic 74, 3) := by decide +kernel
theorem dX10_setTerms_11 : decode cX10_setTerms 11 = .ok (.ifCond .eq 17, 3) := by decide +kernel
theorem dX10_setTerms_14 : decode cX10_setTerms 14 = .ok (.iload_n 3, 1) := by decide +kernel
theorem dX10_setTerms_15 : decode cX10_setTerms 15 = .ok (.sipush 999, 3) := by decide +kernel
theorem dX10_setTerms_18 : decode cX10_setTerms 18 = .ok (.invokestatic 74, 3) := by decide +kernel
theorem dX10_setTerms_21 : decode cX10_setTerms 21 = .ok (.ifCond .eq 7, 3) := by decide +kernel
theorem dX10_setTerms_24 : decode cX10_setTerms 24 = .ok (.iconst 1, 1) := by decide +kernel
theorem dX10_setTerms_25 : decode cX10_setTerms 25 = .ok (.goto 4, 3) := by decide +kernel
theorem dX10_setTerms_28 : decode cX10_setTerms 28 = .ok (.iconst 0, 1) := by decide +kernel
theorem dX10_setTerms_29 : decode cX10_setTerms 29 = .ok (.invokestatic 60, 3) := by decide +kernel
theorem dX10_setTerms_32 : decode cX10_setTerms 32 = .ok (.aload_n 0, 1) := by decide +kernel
theorem dX10_setTerms_33 : decode cX10_setTerms 33 = .ok (.getfield 10, 3) := by decide +kernel
theorem dX10_setTerms_36 : decode cX10_setTerms 36 = .ok (.getfield 117, 3) := by decide +kernel
theorem dX10_setTerms_39 : decode cX10_setTerms 39 = .ok (.iload_n 1, 1) := by decide +kernel
theorem dX10_setTerms_40 : decode cX10_setTerms 40 = .ok (.aaload, 1) := by decide +kernel
theorem dX10_setTerms_41 : decode cX10_setTerms 41 = .ok (.astore 4, 2) := by decide +kernel
theorem dX10_setTerms_43 : decode cX10_setTerms 43 = .ok (.aload 4, 2) := by decide +kernel
theorem dX10_setTerms_45 : decode cX10_setTerms 45 = .ok (.getfield 126, 3) := by decide +kernel
theorem dX10_setTerms_48 : decode cX10_setTerms 48 = .ok (.istore 5, 2) := by decide +kernel
theorem dX10_setTerms_50 : decode cX10_setTerms 50 = .ok (.aload 4, 2) := by decide +kernel
theorem dX10_setTerms_52 : decode cX10_setTerms 52 = .ok (.iload_n 2, 1) := by decide +kernel
theorem dX10_setTerms_53 : decode cX10_setTerms 53 = .ok (.putfield 129, 3) := by decide +kernel
theorem dX10_setTerms_56 : decode cX10_setTerms 56 = .ok (.aload 4, 2) := by decide +kernel
theorem dX10_setTerms_58 : decode cX10_setTerms 58 = .ok (.iload_n 3, 1) := by decide +kernel
theorem dX10_setTerms_59 : decode cX10_setTerms 59 = .ok (.putfield 126, 3) := by decide +kernel
theorem dX10_setTerms_62 : decode cX10_setTerms 62 = .ok (.aload_n 0, 1) := by decide +kernel
theorem dX10_setTerms_63 : decode cX10_setTerms 63 = .ok (.iconst 1, 1) := by decide +kernel
theorem dX10_setTerms_64 : decode cX10_setTerms 64 = .ok (.putfield 52, 3) := by decide +kernel
theorem dX10_setTerms_67 : decode cX10_setTerms 67 = .ok (.iload 5, 2) := by decide +kernel
theorem dX10_setTerms_69 : decode cX10_setTerms 69 = .ok (.ireturn, 1) := by decide +kernel
theorem dX10_setNeed_0 : decode cX10_setNeed 0 = .ok (.aload_n 0, 1) := by decide +kernel
theorem dX10_setNeed_1 : decode cX10_setNeed 1 = .ok (.iload_n 1, 1) := by decide +kernel
theorem dX10_setNeed_2 : decode cX10_setNeed 2 = .ok (.invokevirtual 114, 3) := by decide +kernel
theorem dX10_setNeed_5 : decode cX10_setNeed 5 = .ok (.iload_n 2, 1) := by decide +kernel
theorem dX10_setNeed_6 : decode cX10_setNeed 6 = .ok (.invokestatic 92, 3) := by decide +kernel
theorem dX10_setNeed_9 : decode cX10_setNeed 9 = .ok (.iload_n 3, 1) := by decide +kernel
theorem dX10_setNeed_10 : decode cX10_setNeed 10 = .ok (.bipush 9, 2) := by decide +kernel
theorem dX10_setNeed_12 : decode cX10_setNeed 12 = .ok (.invokestatic 74, 3) := by decide +kernel
theorem dX10_setNeed_15 : decode cX10_setNeed 15 = .ok (.invokestatic 60, 3) := by decide +kernel
theorem dX10_setNeed_18 : decode cX10_setNeed 18 = .ok (.aload_n 0, 1) := by decide +kernel
theorem dX10_setNeed_19 : decode cX10_setNeed 19 = .ok (.getfield 10, 3) := by decide +kernel
theorem dX10_setNeed_22 : decode cX10_setNeed 22 = .ok (.getfield 117, 3) := by decide +kernel
theorem dX10_setNeed_25 : decode cX10_setNeed 25 = .ok (.iload_n 1, 1) := by decide +kernel
theorem dX10_setNeed_26 : decode cX10_setNeed 26 = .ok (.aaload, 1) := by decide +kernel
theorem dX10_setNeed_27 : decode cX10_setNeed 27 = .ok (.astore 4, 2) := by decide +kernel
theorem dX10_setNeed_29 : decode cX10_setNeed 29 = .ok (.aload 4, 2) := by decide +kernel
theorem dX10_setNeed_31 : decode cX10_setNeed 31 = .ok (.getfield 132, 3) := by decide +kernel
theorem dX10_setNeed_34 : decode cX10_setNeed 34 = .ok (.iload_n 2, 1) := by decide +kernel
theorem dX10_setNeed_35 : decode cX10_setNeed 35 = .ok (.iaload, 1) := by decide +kernel
theorem dX10_setNeed_36 : decode cX10_setNeed 36 = .ok (.istore 5, 2) := by decide +kernel
theorem dX10_setNeed_38 : decode cX10_setNeed 38 = .ok (.aload 4, 2) := by decide +kernel
theorem dX10_setNeed_40 : decode cX10_setNeed 40 = .ok (.getfield 132, 3) := by decide +kernel
theorem dX10_setNeed_43 : decode cX10_setNeed 43 = .ok (.iload_n 2, 1) := by decide +kernel
theorem dX10_setNeed_44 : decode cX10_setNeed 44 = .ok (.iload_n 3, 1) := by decide +kernel
theorem dX10_setNeed_45 : decode cX10_setNeed 45 = .ok (.iastore, 1) := by decide +kernel
theorem dX10_setNeed_46 : decode cX10_setNeed 46 = .ok (.aload_n 0, 1) := by decide +kernel
theorem dX10_setNeed_47 : decode cX10_setNeed 47 = .ok (.iconst 1, 1) := by decide +kernel
theorem dX10_setNeed_48 : decode cX10_setNeed 48 = .ok (.putfield 52, 3) := by decide +kernel
theorem dX10_setNeed_51 : decode cX10_setNeed 51 = .ok (.iload 5, 2) := by decide +kernel
theorem dX10_setNeed_53 : decode cX10_setNeed 53 = .ok (.ireturn, 1) := by decide +kernel
theorem dX10_link_0 : decode cX10_link 0 = .ok (.aload_n 0, 1) := by decide +kernel
theorem dX10_link_1 : decode cX10_link 1 = .ok (.iload_n 1, 1) := by decide +kernel
theorem dX10_link_2 : decode cX10_link 2 = .ok (.invokevirtual 114, 3) := by decide +kernel
theorem dX10_link_5 : decode cX10_link 5 = .ok (.aload_n 0, 1) := by decide +kernel
theorem dX10_link_6 : decode cX10_link 6 = .ok (.iload_n 2, 1) := by decide +kernel
theorem dX10_link_7 : decode cX10_link 7 = .ok (.invokevirtual 114, 3) := by decide +kernel
theorem dX10_link_10 : decode cX10_link 10 = .ok (.iload_n 3, 1) := by decide +kernel
theorem dX10_link_11 : decode cX10_link 11 = .ok (.iconst 2, 1) := by decide +kernel
theorem dX10_link_12 : decode cX10_link 12 = .ok (.invokestatic 74, 3) := by decide +kernel
theorem dX10_link_15 : decode cX10_link 15 = .ok (.ifCond .eq 17, 3) := by decide +kernel
theorem dX10_link_18 : decode cX10_link 18 = .ok (.iload 4, 2) := by decide +kernel
theorem dX10_link_20 : decode cX10_link 20 = .ok (.bipush 20, 2) := by decide +kernel
theorem dX10_link_22 : decode cX10_link 22 = .ok (.invokestatic 74, 3) := by decide +kernel
theorem dX10_link_25 : decode cX10_link 25 = .ok (.ifCond .eq 7, 3) := by decide +kernel
theorem dX10_link_28 : decode cX10_link 28 = .ok (.iconst 1, 1) := by decide +kernel
theorem dX10_link_29 : decode cX10_link 29 = .ok (.goto 4, 3) := by decide +kernel
theorem dX10_link_32 : decode cX10_link 32 = .ok (.iconst 0, 1) := by decide +kernel
theorem dX10_link_33 : decode cX10_link 33 = .ok (.invokestatic 60, 3) := by decide +kernel
theorem dX10_link_36 : decode cX10_link 36 = .ok (.aload_n 0, 1) := by decide +kernel
theorem dX10_link_37 : decode cX10_link 37 = .ok (.getfield 10, 3) := by decide +kernel
theorem dX10_link_40 : decode cX10_link 40 = .ok (.getfield 136, 3) := by decide +kernel
theorem dX10_link_43 : decode cX10_link 43 = .ok (.bipush 40, 2) := by decide +kernel
theorem dX10_link_45 : decode cX10_link 45 = .ok (.if_icmp .ge 19, 3) := by decide +kernel
theorem dX10_link_48 : decode cX10_link 48 = .ok (.aload_n 0, 1) := by decide +kernel
theorem dX10_link_49 : decode cX10_link 49 = .ok (.getfield 10, 3) := by decide +kernel
theorem dX10_link_52 : decode cX10_link 52 = .ok (.iload_n 2, 1) := by decide +kernel
theorem dX10_link_53 : decode cX10_link 53 = .ok (.iload_n 1, 1) := by decide +kernel
theorem dX10_link_54 : decode cX10_link 54 = .ok (.invokevirtual 139, 3) := by decide +kernel
theorem dX10_link_57 : decode cX10_link 57 = .ok (.ifCond .ne 7, 3) := by decide +kernel
theorem dX10_link_60 : decode cX10_link 60 = .ok (.iconst 1, 1) := by decide +kernel
theorem dX10_link_61 : decode cX10_link 61 = .ok (.goto 4, 3) := by decide +kernel
theorem dX10_link_64 : decode cX10_link 64 = .ok (.iconst 0, 1) := by decide +kernel
theorem dX10_link_65 : decode cX10_link 65 = .ok (.invokestatic 85, 3) := by decide +kernel
theorem dX10_link_68 : decode cX10_link 68 = .ok (.aload_n 0, 1) := by decide +kernel
theorem dX10_link_69 : decode cX10_link 69 = .ok (.iconst 1, 1) := by decide +kernel
theorem dX10_link_70 : decode cX10_link 70 = .ok (.putfield 52, 3) := by decide +kernel
theorem dX10_link_73 : decode cX10_link 73 = .ok (.aload_n 0, 1) := by decide +kernel
theorem dX10_link_74 : decode cX10_link 74 = .ok (.getfield 10, 3) := by decide +kernel
theorem dX10_link_77 : decode cX10_link 77 = .ok (.iload_n 1, 1) := by decide +kernel
theorem dX10_link_78 : decode cX10_link 78 = .ok (.iload_n 2, 1) := by decide +kernel
theorem dX10_link_79 : decode cX10_link 79 = .ok (.iload_n 3, 1) := by decide +kernel
theorem dX10_link_80 : decode cX10_link 80 = .ok (.iload 4, 2) := by decide +kernel
theorem dX10_link_82 : decode cX10_link 82 = .ok (.invokevirtual 142, 3) := by decide +kernel
theorem dX10_link_85 : decode cX10_link 85 = .ok (.ireturn, 1) := by decide +kernel
theorem dX10_drop_0 : decode cX10_drop 0 = .ok (.aload_n 0, 1) := by decide +kernel
theorem dX10_drop_1 : decode cX10_drop 1 = .ok (.iload_n 1, 1) := by decide +kernel
theorem dX10_drop_2 : decode cX10_drop 2 = .ok (.invokevirtual 146, 3) := by decide +kernel
theorem dX10_drop_5 : decode cX10_drop 5 = .ok (.aload_n 0, 1) := by decide +kernel
theorem dX10_drop_6 : decode cX10_drop 6 = .ok (.getfield 10, 3) := by decide +kernel
theorem dX10_drop_9 : decode cX10_drop 9 = .ok (.iload_n 1, 1) := by decide +kernel
theorem dX10_drop_10 : decode cX10_drop 10 = .ok (.invokevirtual 149, 3) := by decide +kernel
theorem dX10_drop_13 : decode cX10_drop 13 = .ok (.aload_n 0, 1) := by decide +kernel
theorem dX10_drop_14 : decode cX10_drop 14 = .ok (.iconst 1, 1) := by decide +kernel
theorem dX10_drop_15 : decode cX10_drop 15 = .ok (.putfield 52, 3) := by decide +kernel
theorem dX10_drop_18 : decode cX10_drop 18 = .ok (.aload_n 0, 1) := by decide +kernel
theorem dX10_drop_19 : decode cX10_drop 19 = .ok (.getfield 10, 3) := by decide +kernel
theorem dX10_drop_22 : decode cX10_drop 22 = .ok (.getfield 136, 3) := by decide +kernel
theorem dX10_drop_25 : decode cX10_drop 25 = .ok (.ireturn, 1) := by decide +kernel
theorem dX10_finish_0 : decode cX10_finish 0 = .ok (.aload_n 0, 1) := by decide +kernel
theorem dX10_finish_1 : decode cX10_finish 1 = .ok (.iload_n 1, 1) := by decide +kernel
theorem dX10_finish_2 : decode cX10_finish 2 = .ok (.invokevirtual 114, 3) := by decide +kernel
theorem dX10_finish_5 : decode cX10_finish 5 = .ok (.iload_n 2, 1) := by decide +kernel
theorem dX10_finish_6 : decode cX10_finish 6 = .ok (.sipush 999, 3) := by decide +kernel
theorem dX10_finish_9 : decode cX10_finish 9 = .ok (.invokestatic 74, 3) := by decide +kernel
theorem dX10_finish_12 : decode cX10_finish 12 = .ok (.ifCond .eq 22, 3) := by decide +kernel
theorem dX10_finish_15 : decode cX10_finish 15 = .ok (.iload_n 3, 1) := by decide +kernel
theorem dX10_finish_16 : decode cX10_finish 16 = .ok (.sipush 999, 3) := by decide +kernel
theorem dX10_finish_19 : decode cX10_finish 19 = .ok (.invokestatic 74, 3) := by decide +kernel
theorem dX10_finish_22 : decode cX10_finish 22 = .ok (.ifCond .eq 12, 3) := by decide +kernel
theorem dX10_finish_25 : decode cX10_finish 25 = .ok (.iload_n 2, 1) := by decide +kernel
theorem dX10_finish_26 : decode cX10_finish 26 = .ok (.iload_n 3, 1) := by decide +kernel
theorem dX10_finish_27 : decode cX10_finish 27 = .ok (.if_icmp .gt 7, 3) := by decide +kernel
theorem dX10_finish_30 : decode cX10_finish 30 = .ok (.iconst 1, 1) := by decide +kernel
theorem dX10_finish_31 : decode cX10_finish 31 = .ok (.goto 4, 3) := by decide +kernel
theorem dX10_finish_34 : decode cX10_finish 34 = .ok (.iconst 0, 1) := by decide +kernel
theorem dX10_finish_35 : decode cX10_finish 35 = .ok (.invokestatic 60, 3) := by decide +kernel
theorem dX10_finish_38 : decode cX10_finish 38 = .ok (.aload_n 0, 1) := by decide +kernel
theorem dX10_finish_39 : decode cX10_finish 39 = .ok (.getfield 10, 3) := by decide +kernel
theorem dX10_finish_42 : decode cX10_finish 42 = .ok (.getfield 117, 3) := by decide +kernel
theorem dX10_finish_45 : decode cX10_finish 45 = .ok (.iload_n 1, 1) := by decide +kernel
theorem dX10_finish_46 : decode cX10_finish 46 = .ok (.aaload, 1) := by decide +kernel
theorem dX10_finish_47 : decode cX10_finish 47 = .ok (.astore 4, 2) := by decide +kernel
theorem dX10_finish_49 : decode cX10_finish 49 = .ok (.aload 4, 2) := by decide +kernel
theorem dX10_finish_51 : decode cX10_finish 51 = .ok (.getfield 152, 3) := by decide +kernel
theorem dX10_finish_54 : decode cX10_finish 54 = .ok (.istore 5, 2) := by decide +kernel
theorem dX10_finish_56 : decode cX10_finish 56 = .ok (.aload 4, 2) := by decide +kernel
theorem dX10_finish_58 : decode cX10_finish 58 = .ok (.iconst 1, 1) := by decide +kernel
theorem dX10_finish_59 : decode cX10_finish 59 = .ok (.putfield 152, 3) := by decide +kernel
theorem dX10_finish_62 : decode cX10_finish 62 = .ok (.aload 4, 2) := by decide +kernel
theorem dX10_finish_64 : decode cX10_finish 64 = .ok (.iload_n 2, 1) := by decide +kernel
theorem dX10_finish_65 : decode cX10_finish 65 = .ok (.putfield 155, 3) := by decide +kernel
theorem dX10_finish_68 : decode cX10_finish 68 = .ok (.aload 4, 2) := by decide +kernel
theorem dX10_finish_70 : decode cX10_finish 70 = .ok (.iload_n 3, 1) := by decide +kernel
theorem dX10_finish_71 : decode cX10_finish 71 = .ok (.putfield 158, 3) := by decide +kernel
theorem dX10_finish_74 : decode cX10_finish 74 = .ok (.aload_n 0, 1) := by decide +kernel
theorem dX10_finish_75 : decode cX10_finish 75 = .ok (.iconst 1, 1) := by decide +kernel
theorem dX10_finish_76 : decode cX10_finish 76 = .ok (.putfield 52, 3) := by decide +kernel
theorem dX10_finish_79 : decode cX10_finish 79 = .ok (.iload 5, 2) := by decide +kernel
theorem dX10_finish_81 : decode cX10_finish 81 = .ok (.ireturn, 1) := by decide +kernel
theorem dX10_reopen_0 : decode cX10_reopen 0 = .ok (.aload_n 0, 1) := by decide +kernel
theorem dX10_reopen_1 : decode cX10_reopen 1 = .ok (.iload_n 1, 1) := by decide +kernel
theorem dX10_reopen_2 : decode cX10_reopen 2 = .ok (.invokevirtual 114, 3) := by decide +kernel
theorem dX10_reopen_5 : decode cX10_reopen 5 = .ok (.aload_n 0, 1) := by decide +kernel
theorem dX10_reopen_6 : decode cX10_reopen 6 = .ok (.getfield 10, 3) := by decide +kernel
theorem dX10_reopen_9 : decode cX10_reopen 9 = .ok (.getfield 117, 3) := by decide +kernel
theorem dX10_reopen_12 : decode cX10_reopen 12 = .ok (.iload_n 1, 1) := by decide +kernel
theorem dX10_reopen_13 : decode cX10_reopen 13 = .ok (.aaload, 1) := by decide +kernel
theorem dX10_reopen_14 : decode cX10_reopen 14 = .ok (.astore_n 2, 1) := by decide +kernel
theorem dX10_reopen_15 : decode cX10_reopen 15 = .ok (.aload_n 2, 1) := by decide +kernel
theorem dX10_reopen_16 : decode cX10_reopen 16 = .ok (.getfield 152, 3) := by decide +kernel
theorem dX10_reopen_19 : decode cX10_reopen 19 = .ok (.istore_n 3, 1) := by decide +kernel
theorem dX10_reopen_20 : decode cX10_reopen 20 = .ok (.aload_n 2, 1) := by decide +kernel
theorem dX10_reopen_21 : decode cX10_reopen 21 = .ok (.iconst 0, 1) := by decide +kernel
theorem dX10_reopen_22 : decode cX10_reopen 22 = .ok (.putfield 152, 3) := by decide +kernel
theorem dX10_reopen_25 : decode cX10_reopen 25 = .ok (.aload_n 0, 1) := by decide +kernel
theorem dX10_reopen_26 : decode cX10_reopen 26 = .ok (.iconst 1, 1) := by decide +kernel
theorem dX10_reopen_27 : decode cX10_reopen 27 = .ok (.putfield 52, 3) := by decide +kernel
theorem dX10_reopen_30 : decode cX10_reopen 30 = .ok (.iload_n 3, 1) := by decide +kernel
theorem dX10_reopen_31 : decode cX10_reopen 31 = .ok (.ireturn, 1) := by decide +kernel
theorem dX10_setRule_0 : decode cX10_setRule 0 = .ok (.iload_n 1, 1) := by decide +kernel
theorem dX10_setRule_1 : decode cX10_setRule 1 = .ok (.iconst 3, 1) := by decide +kernel
theorem dX10_setRule_2 : decode cX10_setRule 2 = .ok (.invokestatic 74, 3) := by decide +kernel
theorem dX10_setRule_5 : decode cX10_setRule 5 = .ok (.invokestatic 60, 3) := by decide +kernel
theorem dX10_setRule_8 : decode cX10_setRule 8 = .ok (.aload_n 0, 1) := by decide +kernel
theorem dX10_setRule_9 : decode cX10_setRule 9 = .ok (.getfield 10, 3) := by decide +kernel
theorem dX10_setRule_12 : decode cX10_setRule 12 = .ok (.getfield 161, 3) := by decide +kernel
theorem dX10_setRule_15 : decode cX10_setRule 15 = .ok (.istore_n 2, 1) := by decide +kernel
theorem dX10_setRule_16 : decode cX10_setRule 16 = .ok (.aload_n 0, 1) := by decide +kernel
theorem dX10_setRule_17 : decode cX10_setRule 17 = .ok (.getfield 10, 3) := by decide +kernel
theorem dX10_setRule_20 : decode cX10_setRule 20 = .ok (.iload_n 1, 1) := by decide +kernel
theorem dX10_setRule_21 : decode cX10_setRule 21 = .ok (.putfield 161, 3) := by decide +kernel
theorem dX10_setRule_24 : decode cX10_setRule 24 = .ok (.aload_n 0, 1) := by decide +kernel
theorem dX10_setRule_25 : decode cX10_setRule 25 = .ok (.iconst 1, 1) := by decide +kernel
theorem dX10_setRule_26 : decode cX10_setRule 26 = .ok (.putfield 52, 3) := by decide +kernel
theorem dX10_setRule_29 : decode cX10_setRule 29 = .ok (.iload_n 2, 1) := by decide +kernel
theorem dX10_setRule_30 : decode cX10_setRule 30 = .ok (.ireturn, 1) := by decide +kernel
theorem dX10_tasks_0 : decode cX10_tasks 0 = .ok (.aload_n 0, 1) := by decide +kernel
theorem dX10_tasks_1 : decode cX10_tasks 1 = .ok (.getfield 10, 3) := by decide +kernel
theorem dX10_tasks_4 : decode cX10_tasks 4 = .ok (.getfield 107, 3) := by decide +kernel
theorem dX10_tasks_7 : decode cX10_tasks 7 = .ok (.ireturn, 1) := by decide +kernel
theorem dX10_links_0 : decode cX10_links 0 = .ok (.aload_n 0, 1) := by decide +kernel
theorem dX10_links_1 : decode cX10_links 1 = .ok (.getfield 10, 3) := by decide +kernel
theorem dX10_links_4 : decode cX10_links 4 = .ok (.getfield 136, 3) := by decide +kernel
theorem dX10_links_7 : decode cX10_links 7 = .ok (.ireturn, 1) := by decide +kernel
theorem dX10_earlyBegin_0 : decode cX10_earlyBegin 0 = .ok (.aload_n 0, 1) := by decide +kernel
theorem dX10_earlyBegin_1 : decode cX10_earlyBegin 1 = .ok (.iload_n 1, 1) := by decide +kernel
theorem dX10_earlyBegin_2 : decode cX10_earlyBegin 2 = .ok (.invokevirtual 114, 3) := by decide +kernel
theorem dX10_earlyBegin_5 : decode cX10_earlyBegin 5 = .ok (.aload_n 0, 1) := by decide +kernel
theorem dX10_earlyBegin_6 : decode cX10_earlyBegin 6 = .ok (.invokevirtual 171, 3) := by decide +kernel
theorem dX10_earlyBegin_9 : decode cX10_earlyBegin 9 = .ok (.aload_n 0, 1) := by decide +kernel
theorem dX10_earlyBegin_10 : decode cX10_earlyBegin 10 = .ok (.getfield 21, 3) := by decide +kernel
theorem dX10_earlyBegin_13 : decode cX10_earlyBegin 13 = .ok (.getfield 174, 3) := by decide +kernel
theorem dX10_earlyBegin_16 : decode cX10_earlyBegin 16 = .ok (.getfield 178, 3) := by decide +kernel
theorem dX10_earlyBegin_19 : decode cX10_earlyBegin 19 = .ok (.iload_n 1, 1) := by decide +kernel
theorem dX10_earlyBegin_20 : decode cX10_earlyBegin 20 = .ok (.iaload, 1) := by decide +kernel
theorem dX10_earlyBegin_21 : decode cX10_earlyBegin 21 = .ok (.ireturn, 1) := by decide +kernel
theorem dX10_earlyEnd_0 : decode cX10_earlyEnd 0 = .ok (.aload_n 0, 1) := by decide +kernel
theorem dX10_earlyEnd_1 : decode cX10_earlyEnd 1 = .ok (.iload_n 1, 1) := by decide +kernel
theorem dX10_earlyEnd_2 : decode cX10_earlyEnd 2 = .ok (.invokevirtual 114, 3) := by decide +kernel
theorem dX10_earlyEnd_5 : decode cX10_earlyEnd 5 = .ok (.aload_n 0, 1) := by decide +kernel
theorem dX10_earlyEnd_6 : decode cX10_earlyEnd 6 = .ok (.invokevirtual 171, 3) := by decide +kernel
theorem dX10_earlyEnd_9 : decode cX10_earlyEnd 9 = .ok (.aload_n 0, 1) := by decide +kernel
theorem dX10_earlyEnd_10 : decode cX10_earlyEnd 10 = .ok (.getfield 21, 3) := by decide +kernel
theorem dX10_earlyEnd_13 : decode cX10_earlyEnd 13 = .ok (.getfield 174, 3) := by decide +kernel
theorem dX10_earlyEnd_16 : decode cX10_earlyEnd 16 = .ok (.getfield 183, 3) := by decide +kernel
theorem dX10_earlyEnd_19 : decode cX10_earlyEnd 19 = .ok (.iload_n 1, 1) := by decide +kernel
theorem dX10_earlyEnd_20 : decode cX10_earlyEnd 20 = .ok (.iaload, 1) := by decide +kernel
theorem dX10_earlyEnd_21 : decode cX10_earlyEnd 21 = .ok (.ireturn, 1) := by decide +kernel
theorem dX10_lateBegin_0 : decode cX10_lateBegin 0 = .ok (.aload_n 0, 1) := by decide +kernel
theorem dX10_lateBegin_1 : decode cX10_lateBegin 1 = .ok (.iload_n 1, 1) := by decide +kernel
theorem dX10_lateBegin_2 : decode cX10_lateBegin 2 = .ok (.invokevirtual 114, 3) := by decide +kernel
theorem dX10_lateBegin_5 : decode cX10_lateBegin 5 = .ok (.aload_n 0, 1) := by decide +kernel
theorem dX10_lateBegin_6 : decode cX10_lateBegin 6 = .ok (.invokevirtual 171, 3) := by decide +kernel
theorem dX10_lateBegin_9 : decode cX10_lateBegin 9 = .ok (.aload_n 0, 1) := by decide +kernel
theorem dX10_lateBegin_10 : decode cX10_lateBegin 10 = .ok (.getfield 21, 3) := by decide +kernel
theorem dX10_lateBegin_13 : decode cX10_lateBegin 13 = .ok (.getfield 186, 3) := by decide +kernel
theorem dX10_lateBegin_16 : decode cX10_lateBegin 16 = .ok (.getfield 178, 3) := by decide +kernel
theorem dX10_lateBegin_19 : decode cX10_lateBegin 19 = .ok (.iload_n 1, 1) := by decide +kernel
theorem dX10_lateBegin_20 : decode cX10_lateBegin 20 = .ok (.iaload, 1) := by decide +kernel
theorem dX10_lateBegin_21 : decode cX10_lateBegin 21 = .ok (.ireturn, 1) := by decide +kernel
theorem dX10_lateEnd_0 : decode cX10_lateEnd 0 = .ok (.aload_n 0, 1) := by decide +kernel
theorem dX10_lateEnd_1 : decode cX10_lateEnd 1 = .ok (.iload_n 1, 1) := by decide +kernel
theorem dX10_lateEnd_2 : decode cX10_lateEnd 2 = .ok (.invokevirtual 114, 3) := by decide +kernel
theorem dX10_lateEnd_5 : decode cX10_lateEnd 5 = .ok (.aload_n 0, 1) := by decide +kernel
theorem dX10_lateEnd_6 : decode cX10_lateEnd 6 = .ok (.invokevirtual 171, 3) := by decide +kernel
theorem dX10_lateEnd_9 : decode cX10_lateEnd 9 = .ok (.aload_n 0, 1) := by decide +kernel
theorem dX10_lateEnd_10 : decode cX10_lateEnd 10 = .ok (.getfield 21, 3) := by decide +kernel
theorem dX10_lateEnd_13 : decode cX10_lateEnd 13 = .ok (.getfield 186, 3) := by decide +kernel
theorem dX10_lateEnd_16 : decode cX10_lateEnd 16 = .ok (.getfield 183, 3) := by decide +kernel
theorem dX10_lateEnd_19 : decode cX10_lateEnd 19 = .ok (.iload_n 1, 1) := by decide +kernel
theorem dX10_lateEnd_20 : decode cX10_lateEnd 20 = .ok (.iaload, 1) := by decide +kernel
theorem dX10_lateEnd_21 : decode cX10_lateEnd 21 = .ok (.ireturn, 1) := by decide +kernel
theorem dX10_room_0 : decode cX10_room 0 = .ok (.aload_n 0, 1) := by decide +kernel
theorem dX10_room_1 : decode cX10_room 1 = .ok (.iload_n 1, 1) := by decide +kernel
theorem dX10_room_2 : decode cX10_room 2 = .ok (.invokevirtual 114, 3) := by decide +kernel
theorem dX10_room_5 : decode cX10_room 5 = .ok (.aload_n 0, 1) := by decide +kernel
theorem dX10_room_6 : decode cX10_room 6 = .ok (.invokevirtual 171, 3) := by decide +kernel
theorem dX10_room_9 : decode cX10_room 9 = .ok (.aload_n 0, 1) := by decide +kernel
theorem dX10_room_10 : decode cX10_room 10 = .ok (.getfield 21, 3) := by decide +kernel
theorem dX10_room_13 : decode cX10_room 13 = .ok (.getfield 189, 3) := by decide +kernel
theorem dX10_room_16 : decode cX10_room 16 = .ok (.iload_n 1, 1) := by decide +kernel
theorem dX10_room_17 : decode cX10_room 17 = .ok (.iaload, 1) := by decide +kernel
theorem dX10_room_18 : decode cX10_room 18 = .ok (.ireturn, 1) := by decide +kernel
theorem dX10_last_0 : decode cX10_last 0 = .ok (.aload_n 0, 1) := by decide +kernel
theorem dX10_last_1 : decode cX10_last 1 = .ok (.invokevirtual 171, 3) := by decide +kernel
theorem dX10_last_4 : decode cX10_last 4 = .ok (.aload_n 0, 1) := by decide +kernel
theorem dX10_last_5 : decode cX10_last 5 = .ok (.getfield 21, 3) := by decide +kernel
theorem dX10_last_8 : decode cX10_last 8 = .ok (.getfield 192, 3) := by decide +kernel
theorem dX10_last_11 : decode cX10_last 11 = .ok (.ireturn, 1) := by decide +kernel
theorem dX10_tight_0 : decode cX10_tight 0 = .ok (.aload_n 0, 1) := by decide +kernel
theorem dX10_tight_1 : decode cX10_tight 1 = .ok (.invokevirtual 171, 3) := by decide +kernel
theorem dX10_tight_4 : decode cX10_tight 4 = .ok (.aload_n 0, 1) := by decide +kernel
theorem dX10_tight_5 : decode cX10_tight 5 = .ok (.getfield 21, 3) := by decide +kernel
theorem dX10_tight_8 : decode cX10_tight 8 = .ok (.invokevirtual 195, 3) := by decide +kernel
theorem dX10_tight_11 : decode cX10_tight 11 = .ok (.ireturn, 1) := by decide +kernel
theorem dX10_overloaded_0 : decode cX10_overloaded 0 = .ok (.iload_n 1, 1) := by decide +kernel
theorem dX10_overloaded_1 : decode cX10_overloaded 1 = .ok (.invokestatic 92, 3) := by decide +kernel
theorem dX10_overloaded_4 : decode cX10_overloaded 4 = .ok (.aload_n 0, 1) := by decide +kernel
theorem dX10_overloaded_5 : decode cX10_overloaded 5 = .ok (.invokevirtual 171, 3) := by decide +kernel
theorem dX10_overloaded_8 : decode cX10_overloaded 8 = .ok (.aload_n 0, 1) := by decide +kernel
theorem dX10_overloaded_9 : decode cX10_overloaded 9 = .ok (.getfield 35, 3) := by decide +kernel
theorem dX10_overloaded_12 : decode cX10_overloaded 12 = .ok (.iload_n 1, 1) := by decide +kernel
theorem dX10_overloaded_13 : decode cX10_overloaded 13 = .ok (.aload_n 0, 1) := by decide +kernel
theorem dX10_overloaded_14 : decode cX10_overloaded 14 = .ok (.getfield 10, 3) := by decide +kernel
theorem dX10_overloaded_17 : decode cX10_overloaded 17 = .ok (.getfield 95, 3) := by decide +kernel
theorem dX10_overloaded_20 : decode cX10_overloaded 20 = .ok (.iload_n 1, 1) := by decide +kernel
theorem dX10_overloaded_21 : decode cX10_overloaded 21 = .ok (.aaload, 1) := by decide +kernel
theorem dX10_overloaded_22 : decode cX10_overloaded 22 = .ok (.getfield 99, 3) := by decide +kernel
theorem dX10_overloaded_25 : decode cX10_overloaded 25 = .ok (.invokevirtual 202, 3) := by decide +kernel
theorem dX10_overloaded_28 : decode cX10_overloaded 28 = .ok (.ireturn, 1) := by decide +kernel
theorem dX10_begin_0 : decode cX10_begin 0 = .ok (.aload_n 0, 1) := by decide +kernel
theorem dX10_begin_1 : decode cX10_begin 1 = .ok (.iload_n 1, 1) := by decide +kernel
theorem dX10_begin_2 : decode cX10_begin 2 = .ok (.invokevirtual 114, 3) := by decide +kernel
theorem dX10_begin_5 : decode cX10_begin 5 = .ok (.aload_n 0, 1) := by decide +kernel
theorem dX10_begin_6 : decode cX10_begin 6 = .ok (.invokevirtual 171, 3) := by decide +kernel
theorem dX10_begin_9 : decode cX10_begin 9 = .ok (.aload_n 0, 1) := by decide +kernel
theorem dX10_begin_10 : decode cX10_begin 10 = .ok (.getfield 28, 3) := by decide +kernel
theorem dX10_begin_13 : decode cX10_begin 13 = .ok (.getfield 205, 3) := by decide +kernel
theorem dX10_begin_16 : decode cX10_begin 16 = .ok (.getfield 178, 3) := by decide +kernel
theorem dX10_begin_19 : decode cX10_begin 19 = .ok (.iload_n 1, 1) := by decide +kernel
theorem dX10_begin_20 : decode cX10_begin 20 = .ok (.iaload, 1) := by decide +kernel
theorem dX10_begin_21 : decode cX10_begin 21 = .ok (.ireturn, 1) := by decide +kernel
theorem dX10_end_0 : decode cX10_end 0 = .ok (.aload_n 0, 1) := by decide +kernel
theorem dX10_end_1 : decode cX10_end 1 = .ok (.iload_n 1, 1) := by decide +kernel
theorem dX10_end_2 : decode cX10_end 2 = .ok (.invokevirtual 114, 3) := by decide +kernel
theorem dX10_end_5 : decode cX10_end 5 = .ok (.aload_n 0, 1) := by decide +kernel
theorem dX10_end_6 : decode cX10_end 6 = .ok (.invokevirtual 171, 3) := by decide +kernel
theorem dX10_end_9 : decode cX10_end 9 = .ok (.aload_n 0, 1) := by decide +kernel
theorem dX10_end_10 : decode cX10_end 10 = .ok (.getfield 28, 3) := by decide +kernel
theorem dX10_end_13 : decode cX10_end 13 = .ok (.getfield 205, 3) := by decide +kernel
theorem dX10_end_16 : decode cX10_end 16 = .ok (.getfield 183, 3) := by decide +kernel
theorem dX10_end_19 : decode cX10_end 19 = .ok (.iload_n 1, 1) := by decide +kernel
theorem dX10_end_20 : decode cX10_end 20 = .ok (.iaload, 1) := by decide +kernel
theorem dX10_end_21 : decode cX10_end 21 = .ok (.ireturn, 1) := by decide +kernel
theorem dX10_levelledLast_0 : decode cX10_levelledLast 0 = .ok (.aload_n 0, 1) := by decide +kernel
theorem dX10_levelledLast_1 : decode cX10_levelledLast 1 = .ok (.invokevirtual 171, 3) := by decide +kernel
theorem dX10_levelledLast_4 : decode cX10_levelledLast 4 = .ok (.aload_n 0, 1) := by decide +kernel
theorem dX10_levelledLast_5 : decode cX10_levelledLast 5 = .ok (.getfield 28, 3) := by decide +kernel
theorem dX10_levelledLast_8 : decode cX10_levelledLast 8 = .ok (.getfield 208, 3) := by decide +kernel
theorem dX10_levelledLast_11 : decode cX10_levelledLast 11 = .ok (.ireturn, 1) := by decide +kernel
theorem dX10_stuck_0 : decode cX10_stuck 0 = .ok (.aload_n 0, 1) := by decide +kernel
theorem dX10_stuck_1 : decode cX10_stuck 1 = .ok (.invokevirtual 171, 3) := by decide +kernel
theorem dX10_stuck_4 : decode cX10_stuck 4 = .ok (.aload_n 0, 1) := by decide +kernel
theorem dX10_stuck_5 : decode cX10_stuck 5 = .ok (.getfield 10, 3) := by decide +kernel
theorem dX10_stuck_8 : decode cX10_stuck 8 = .ok (.getfield 107, 3) := by decide +kernel
theorem dX10_stuck_11 : decode cX10_stuck 11 = .ok (.aload_n 0, 1) := by decide +kernel
theorem dX10_stuck_12 : decode cX10_stuck 12 = .ok (.getfield 28, 3) := by decide +kernel
theorem dX10_stuck_15 : decode cX10_stuck 15 = .ok (.getfield 209, 3) := by decide +kernel
theorem dX10_stuck_18 : decode cX10_stuck 18 = .ok (.isub, 1) := by decide +kernel
theorem dX10_stuck_19 : decode cX10_stuck 19 = .ok (.ireturn, 1) := by decide +kernel
theorem dX10_orderAt_0 : decode cX10_orderAt 0 = .ok (.aload_n 0, 1) := by decide +kernel
theorem dX10_orderAt_1 : decode cX10_orderAt 1 = .ok (.invokevirtual 171, 3) := by decide +kernel
theorem dX10_orderAt_4 : decode cX10_orderAt 4 = .ok (.iload_n 1, 1) := by decide +kernel
theorem dX10_orderAt_5 : decode cX10_orderAt 5 = .ok (.aload_n 0, 1) := by decide +kernel
theorem dX10_orderAt_6 : decode cX10_orderAt 6 = .ok (.getfield 28, 3) := by decide +kernel
theorem dX10_orderAt_9 : decode cX10_orderAt 9 = .ok (.getfield 209, 3) := by decide +kernel
theorem dX10_orderAt_12 : decode cX10_orderAt 12 = .ok (.invokestatic 212, 3) := by decide +kernel
theorem dX10_orderAt_15 : decode cX10_orderAt 15 = .ok (.aload_n 0, 1) := by decide +kernel
theorem dX10_orderAt_16 : decode cX10_orderAt 16 = .ok (.getfield 28, 3) := by decide +kernel
theorem dX10_orderAt_19 : decode cX10_orderAt 19 = .ok (.getfield 216, 3) := by decide +kernel
theorem dX10_orderAt_22 : decode cX10_orderAt 22 = .ok (.iload_n 1, 1) := by decide +kernel
theorem dX10_orderAt_23 : decode cX10_orderAt 23 = .ok (.iaload, 1) := by decide +kernel
theorem dX10_orderAt_24 : decode cX10_orderAt 24 = .ok (.ireturn, 1) := by decide +kernel
theorem dX10_used_0 : decode cX10_used 0 = .ok (.iload_n 1, 1) := by decide +kernel
theorem dX10_used_1 : decode cX10_used 1 = .ok (.invokestatic 92, 3) := by decide +kernel
theorem dX10_used_4 : decode cX10_used 4 = .ok (.iload_n 2, 1) := by decide +kernel
theorem dX10_used_5 : decode cX10_used 5 = .ok (.invokestatic 164, 3) := by decide +kernel
theorem dX10_used_8 : decode cX10_used 8 = .ok (.aload_n 0, 1) := by decide +kernel
theorem dX10_used_9 : decode cX10_used 9 = .ok (.invokevirtual 171, 3) := by decide +kernel
theorem dX10_used_12 : decode cX10_used 12 = .ok (.aload_n 0, 1) := by decide +kernel
theorem dX10_used_13 : decode cX10_used 13 = .ok (.getfield 28, 3) := by decide +kernel
theorem dX10_used_16 : decode cX10_used 16 = .ok (.getfield 219, 3) := by decide +kernel
theorem dX10_used_19 : decode cX10_used 19 = .ok (.iload_n 1, 1) := by decide +kernel
theorem dX10_used_20 : decode cX10_used 20 = .ok (.iload_n 2, 1) := by decide +kernel
theorem dX10_used_21 : decode cX10_used 21 = .ok (.invokevirtual 199, 3) := by decide +kernel
theorem dX10_used_24 : decode cX10_used 24 = .ok (.ireturn, 1) := by decide +kernel
theorem dX10_peak_0 : decode cX10_peak 0 = .ok (.iload_n 1, 1) := by decide +kernel
theorem dX10_peak_1 : decode cX10_peak 1 = .ok (.invokestatic 92, 3) := by decide +kernel
theorem dX10_peak_4 : decode cX10_peak 4 = .ok (.aload_n 0, 1) := by decide +kernel
theorem dX10_peak_5 : decode cX10_peak 5 = .ok (.invokevirtual 171, 3) := by decide +kernel
theorem dX10_peak_8 : decode cX10_peak 8 = .ok (.aload_n 0, 1) := by decide +kernel
theorem dX10_peak_9 : decode cX10_peak 9 = .ok (.getfield 28, 3) := by decide +kernel
theorem dX10_peak_12 : decode cX10_peak 12 = .ok (.getfield 219, 3) := by decide +kernel
theorem dX10_peak_15 : decode cX10_peak 15 = .ok (.iload_n 1, 1) := by decide +kernel
theorem dX10_peak_16 : decode cX10_peak 16 = .ok (.invokevirtual 222, 3) := by decide +kernel
theorem dX10_peak_19 : decode cX10_peak 19 = .ok (.ireturn, 1) := by decide +kernel
theorem dX10_holds_0 : decode cX10_holds 0 = .ok (.aload_n 0, 1) := by decide +kernel
theorem dX10_holds_1 : decode cX10_holds 1 = .ok (.iload_n 1, 1) := by decide +kernel
theorem dX10_holds_2 : decode cX10_holds 2 = .ok (.invokevirtual 114, 3) := by decide +kernel
theorem dX10_holds_5 : decode cX10_holds 5 = .ok (.aload_n 0, 1) := by decide +kernel
theorem dX10_holds_6 : decode cX10_holds 6 = .ok (.invokevirtual 171, 3) := by decide +kernel
theorem dX10_holds_9 : decode cX10_holds 9 = .ok (.aload_n 0, 1) := by decide +kernel
theorem dX10_holds_10 : decode cX10_holds 10 = .ok (.getfield 28, 3) := by decide +kernel
theorem dX10_holds_13 : decode cX10_holds 13 = .ok (.iload_n 1, 1) := by decide +kernel
theorem dX10_holds_14 : decode cX10_holds 14 = .ok (.invokevirtual 226, 3) := by decide +kernel
theorem dX10_holds_17 : decode cX10_holds 17 = .ok (.ireturn, 1) := by decide +kernel
theorem dX10_heldBy_0 : decode cX10_heldBy 0 = .ok (.aload_n 0, 1) := by decide +kernel
theorem dX10_heldBy_1 : decode cX10_heldBy 1 = .ok (.iload_n 1, 1) := by decide +kernel
theorem dX10_heldBy_2 : decode cX10_heldBy 2 = .ok (.invokevirtual 114, 3) := by decide +kernel
theorem dX10_heldBy_5 : decode cX10_heldBy 5 = .ok (.aload_n 0, 1) := by decide +kernel
theorem dX10_heldBy_6 : decode cX10_heldBy 6 = .ok (.invokevirtual 171, 3) := by decide +kernel
theorem dX10_heldBy_9 : decode cX10_heldBy 9 = .ok (.aload_n 0, 1) := by decide +kernel
theorem dX10_heldBy_10 : decode cX10_heldBy 10 = .ok (.getfield 28, 3) := by decide +kernel
theorem dX10_heldBy_13 : decode cX10_heldBy 13 = .ok (.iload_n 1, 1) := by decide +kernel
theorem dX10_heldBy_14 : decode cX10_heldBy 14 = .ok (.invokevirtual 229, 3) := by decide +kernel
theorem dX10_heldBy_17 : decode cX10_heldBy 17 = .ok (.ireturn, 1) := by decide +kernel
theorem dX10_idle_0 : decode cX10_idle 0 = .ok (.iload_n 1, 1) := by decide +kernel
theorem dX10_idle_1 : decode cX10_idle 1 = .ok (.invokestatic 92, 3) := by decide +kernel
theorem dX10_idle_4 : decode cX10_idle 4 = .ok (.aload_n 0, 1) := by decide +kernel
theorem dX10_idle_5 : decode cX10_idle 5 = .ok (.invokevirtual 171, 3) := by decide +kernel
theorem dX10_idle_8 : decode cX10_idle 8 = .ok (.aload_n 0, 1) := by decide +kernel
theorem dX10_idle_9 : decode cX10_idle 9 = .ok (.getfield 28, 3) := by decide +kernel
theorem dX10_idle_12 : decode cX10_idle 12 = .ok (.getfield 219, 3) := by decide +kernel
theorem dX10_idle_15 : decode cX10_idle 15 = .ok (.iload_n 1, 1) := by decide +kernel
theorem dX10_idle_16 : decode cX10_idle 16 = .ok (.aload_n 0, 1) := by decide +kernel
theorem dX10_idle_17 : decode cX10_idle 17 = .ok (.getfield 10, 3) := by decide +kernel
theorem dX10_idle_20 : decode cX10_idle 20 = .ok (.getfield 95, 3) := by decide +kernel
theorem dX10_idle_23 : decode cX10_idle 23 = .ok (.iload_n 1, 1) := by decide +kernel
theorem dX10_idle_24 : decode cX10_idle 24 = .ok (.aaload, 1) := by decide +kernel
theorem dX10_idle_25 : decode cX10_idle 25 = .ok (.getfield 99, 3) := by decide +kernel
theorem dX10_idle_28 : decode cX10_idle 28 = .ok (.aload_n 0, 1) := by decide +kernel
theorem dX10_idle_29 : decode cX10_idle 29 = .ok (.getfield 28, 3) := by decide +kernel
theorem dX10_idle_32 : decode cX10_idle 32 = .ok (.getfield 208, 3) := by decide +kernel
theorem dX10_idle_35 : decode cX10_idle 35 = .ok (.invokevirtual 232, 3) := by decide +kernel
theorem dX10_idle_38 : decode cX10_idle 38 = .ok (.ireturn, 1) := by decide +kernel
theorem dX10_keep_0 : decode cX10_keep 0 = .ok (.aload_n 0, 1) := by decide +kernel
theorem dX10_keep_1 : decode cX10_keep 1 = .ok (.invokevirtual 171, 3) := by decide +kernel
theorem dX10_keep_4 : decode cX10_keep 4 = .ok (.aload_n 0, 1) := by decide +kernel
theorem dX10_keep_5 : decode cX10_keep 5 = .ok (.getfield 48, 3) := by decide +kernel
theorem dX10_keep_8 : decode cX10_keep 8 = .ok (.aload_n 0, 1) := by decide +kernel
theorem dX10_keep_9 : decode cX10_keep 9 = .ok (.getfield 28, 3) := by decide +kernel
theorem dX10_keep_12 : decode cX10_keep 12 = .ok (.invokevirtual 236, 3) := by decide +kernel
theorem dX10_keep_15 : decode cX10_keep 15 = .ok (.aload_n 0, 1) := by decide +kernel
theorem dX10_keep_16 : decode cX10_keep 16 = .ok (.getfield 28, 3) := by decide +kernel
theorem dX10_keep_19 : decode cX10_keep 19 = .ok (.getfield 209, 3) := by decide +kernel
theorem dX10_keep_22 : decode cX10_keep 22 = .ok (.ireturn, 1) := by decide +kernel
theorem dX10_planned_0 : decode cX10_planned 0 = .ok (.iload_n 1, 1) := by decide +kernel
theorem dX10_planned_1 : decode cX10_planned 1 = .ok (.invokestatic 164, 3) := by decide +kernel
theorem dX10_planned_4 : decode cX10_planned 4 = .ok (.aload_n 0, 1) := by decide +kernel
theorem dX10_planned_5 : decode cX10_planned 5 = .ok (.getfield 48, 3) := by decide +kernel
theorem dX10_planned_8 : decode cX10_planned 8 = .ok (.iload_n 1, 1) := by decide +kernel
theorem dX10_planned_9 : decode cX10_planned 9 = .ok (.invokevirtual 244, 3) := by decide +kernel
theorem dX10_planned_12 : decode cX10_planned 12 = .ok (.ireturn, 1) := by decide +kernel
theorem dX10_earned_0 : decode cX10_earned 0 = .ok (.aload_n 0, 1) := by decide +kernel
theorem dX10_earned_1 : decode cX10_earned 1 = .ok (.getfield 48, 3) := by decide +kernel
theorem dX10_earned_4 : decode cX10_earned 4 = .ok (.invokevirtual 247, 3) := by decide +kernel
theorem dX10_earned_7 : decode cX10_earned 7 = .ok (.ireturn, 1) := by decide +kernel
theorem dX10_worth_0 : decode cX10_worth 0 = .ok (.iconst 0, 1) := by decide +kernel
theorem dX10_worth_1 : decode cX10_worth 1 = .ok (.istore_n 1, 1) := by decide +kernel
theorem dX10_worth_2 : decode cX10_worth 2 = .ok (.iconst 0, 1) := by decide +kernel
theorem dX10_worth_3 : decode cX10_worth 3 = .ok (.istore_n 2, 1) := by decide +kernel
theorem dX10_worth_4 : decode cX10_worth 4 = .ok (.iload_n 2, 1) := by decide +kernel
theorem dX10_worth_5 : decode cX10_worth 5 = .ok (.aload_n 0, 1) := by decide +kernel
theorem dX10_worth_6 : decode cX10_worth 6 = .ok (.getfield 10, 3) := by decide +kernel
theorem dX10_worth_9 : decode cX10_worth 9 = .ok (.getfield 107, 3) := by decide +kernel
theorem dX10_worth_12 : decode cX10_worth 12 = .ok (.if_icmp .ge 20, 3) := by decide +kernel
theorem dX10_worth_15 : decode cX10_worth 15 = .ok (.iload_n 1, 1) := by decide +kernel
theorem dX10_worth_16 : decode cX10_worth 16 = .ok (.aload_n 0, 1) := by decide +kernel
theorem dX10_worth_17 : decode cX10_worth 17 = .ok (.getfield 10, 3) := by decide +kernel
theorem dX10_worth_20 : decode cX10_worth 20 = .ok (.iload_n 2, 1) := by decide +kernel
theorem dX10_worth_21 : decode cX10_worth 21 = .ok (.invokevirtual 250, 3) := by decide +kernel
theorem dX10_worth_24 : decode cX10_worth 24 = .ok (.iadd, 1) := by decide +kernel
theorem dX10_worth_25 : decode cX10_worth 25 = .ok (.istore_n 1, 1) := by decide +kernel
theorem dX10_worth_26 : decode cX10_worth 26 = .ok (.iinc 2 1, 3) := by decide +kernel
theorem dX10_worth_29 : decode cX10_worth 29 = .ok (.goto (-25), 3) := by decide +kernel
theorem dX10_worth_32 : decode cX10_worth 32 = .ok (.iload_n 1, 1) := by decide +kernel
theorem dX10_worth_33 : decode cX10_worth 33 = .ok (.ireturn, 1) := by decide +kernel
theorem dX10_digest_0 : decode cX10_digest 0 = .ok (.aload_n 0, 1) := by decide +kernel
theorem dX10_digest_1 : decode cX10_digest 1 = .ok (.invokevirtual 171, 3) := by decide +kernel
theorem dX10_digest_4 : decode cX10_digest 4 = .ok (.ldc2_w 269, 3) := by decide +kernel
theorem dX10_digest_7 : decode cX10_digest 7 = .ok (.lstore_n 1, 1) := by decide +kernel
theorem dX10_digest_8 : decode cX10_digest 8 = .ok (.lload_n 1, 1) := by decide +kernel
theorem dX10_digest_9 : decode cX10_digest 9 = .ok (.ldc2_w 271, 3) := by decide +kernel
theorem dX10_digest_12 : decode cX10_digest 12 = .ok (.lmul, 1) := by decide +kernel
theorem dX10_digest_13 : decode cX10_digest 13 = .ok (.aload_n 0, 1) := by decide +kernel
theorem dX10_digest_14 : decode cX10_digest 14 = .ok (.getfield 10, 3) := by decide +kernel
theorem dX10_digest_17 : decode cX10_digest 17 = .ok (.getfield 107, 3) := by decide +kernel
theorem dX10_digest_20 : decode cX10_digest 20 = .ok (.i2l, 1) := by decide +kernel
theorem dX10_digest_21 : decode cX10_digest 21 = .ok (.ladd, 1) := by decide +kernel
theorem dX10_digest_22 : decode cX10_digest 22 = .ok (.lstore_n 1, 1) := by decide +kernel
theorem dX10_digest_23 : decode cX10_digest 23 = .ok (.lload_n 1, 1) := by decide +kernel
theorem dX10_digest_24 : decode cX10_digest 24 = .ok (.ldc2_w 271, 3) := by decide +kernel
theorem dX10_digest_27 : decode cX10_digest 27 = .ok (.lmul, 1) := by decide +kernel
theorem dX10_digest_28 : decode cX10_digest 28 = .ok (.aload_n 0, 1) := by decide +kernel
theorem dX10_digest_29 : decode cX10_digest 29 = .ok (.getfield 10, 3) := by decide +kernel
theorem dX10_digest_32 : decode cX10_digest 32 = .ok (.getfield 136, 3) := by decide +kernel
theorem dX10_digest_35 : decode cX10_digest 35 = .ok (.i2l, 1) := by decide +kernel
theorem dX10_digest_36 : decode cX10_digest 36 = .ok (.ladd, 1) := by decide +kernel
theorem dX10_digest_37 : decode cX10_digest 37 = .ok (.lstore_n 1, 1) := by decide +kernel
theorem dX10_digest_38 : decode cX10_digest 38 = .ok (.lload_n 1, 1) := by decide +kernel
theorem dX10_digest_39 : decode cX10_digest 39 = .ok (.ldc2_w 271, 3) := by decide +kernel
theorem dX10_digest_42 : decode cX10_digest 42 = .ok (.lmul, 1) := by decide +kernel
theorem dX10_digest_43 : decode cX10_digest 43 = .ok (.aload_n 0, 1) := by decide +kernel
theorem dX10_digest_44 : decode cX10_digest 44 = .ok (.getfield 21, 3) := by decide +kernel
theorem dX10_digest_47 : decode cX10_digest 47 = .ok (.getfield 192, 3) := by decide +kernel
theorem dX10_digest_50 : decode cX10_digest 50 = .ok (.i2l, 1) := by decide +kernel
theorem dX10_digest_51 : decode cX10_digest 51 = .ok (.ladd, 1) := by decide +kernel
theorem dX10_digest_52 : decode cX10_digest 52 = .ok (.lstore_n 1, 1) := by decide +kernel
theorem dX10_digest_53 : decode cX10_digest 53 = .ok (.lload_n 1, 1) := by decide +kernel
theorem dX10_digest_54 : decode cX10_digest 54 = .ok (.ldc2_w 271, 3) := by decide +kernel
theorem dX10_digest_57 : decode cX10_digest 57 = .ok (.lmul, 1) := by decide +kernel
theorem dX10_digest_58 : decode cX10_digest 58 = .ok (.aload_n 0, 1) := by decide +kernel
theorem dX10_digest_59 : decode cX10_digest 59 = .ok (.getfield 21, 3) := by decide +kernel
theorem dX10_digest_62 : decode cX10_digest 62 = .ok (.invokevirtual 195, 3) := by decide +kernel
theorem dX10_digest_65 : decode cX10_digest 65 = .ok (.i2l, 1) := by decide +kernel
theorem dX10_digest_66 : decode cX10_digest 66 = .ok (.ladd, 1) := by decide +kernel
theorem dX10_digest_67 : decode cX10_digest 67 = .ok (.lstore_n 1, 1) := by decide +kernel
theorem dX10_digest_68 : decode cX10_digest 68 = .ok (.lload_n 1, 1) := by decide +kernel
theorem dX10_digest_69 : decode cX10_digest 69 = .ok (.ldc2_w 271, 3) := by decide +kernel
theorem dX10_digest_72 : decode cX10_digest 72 = .ok (.lmul, 1) := by decide +kernel
theorem dX10_digest_73 : decode cX10_digest 73 = .ok (.aload_n 0, 1) := by decide +kernel
theorem dX10_digest_74 : decode cX10_digest 74 = .ok (.getfield 28, 3) := by decide +kernel
theorem dX10_digest_77 : decode cX10_digest 77 = .ok (.getfield 208, 3) := by decide +kernel
theorem dX10_digest_80 : decode cX10_digest 80 = .ok (.i2l, 1) := by decide +kernel
theorem dX10_digest_81 : decode cX10_digest 81 = .ok (.ladd, 1) := by decide +kernel
theorem dX10_digest_82 : decode cX10_digest 82 = .ok (.lstore_n 1, 1) := by decide +kernel
theorem dX10_digest_83 : decode cX10_digest 83 = .ok (.lload_n 1, 1) := by decide +kernel
theorem dX10_digest_84 : decode cX10_digest 84 = .ok (.ldc2_w 271, 3) := by decide +kernel
theorem dX10_digest_87 : decode cX10_digest 87 = .ok (.lmul, 1) := by decide +kernel
theorem dX10_digest_88 : decode cX10_digest 88 = .ok (.aload_n 0, 1) := by decide +kernel
theorem dX10_digest_89 : decode cX10_digest 89 = .ok (.getfield 10, 3) := by decide +kernel
theorem dX10_digest_92 : decode cX10_digest 92 = .ok (.getfield 107, 3) := by decide +kernel
theorem dX10_digest_95 : decode cX10_digest 95 = .ok (.aload_n 0, 1) := by decide +kernel
theorem dX10_digest_96 : decode cX10_digest 96 = .ok (.getfield 28, 3) := by decide +kernel
theorem dX10_digest_99 : decode cX10_digest 99 = .ok (.getfield 209, 3) := by decide +kernel
theorem dX10_digest_102 : decode cX10_digest 102 = .ok (.isub, 1) := by decide +kernel
theorem dX10_digest_103 : decode cX10_digest 103 = .ok (.i2l, 1) := by decide +kernel
theorem dX10_digest_104 : decode cX10_digest 104 = .ok (.ladd, 1) := by decide +kernel
theorem dX10_digest_105 : decode cX10_digest 105 = .ok (.lstore_n 1, 1) := by decide +kernel
theorem dX10_digest_106 : decode cX10_digest 106 = .ok (.iconst 0, 1) := by decide +kernel
theorem dX10_digest_107 : decode cX10_digest 107 = .ok (.istore_n 3, 1) := by decide +kernel
theorem dX10_digest_108 : decode cX10_digest 108 = .ok (.iload_n 3, 1) := by decide +kernel
theorem dX10_digest_109 : decode cX10_digest 109 = .ok (.aload_n 0, 1) := by decide +kernel
theorem dX10_digest_110 : decode cX10_digest 110 = .ok (.getfield 10, 3) := by decide +kernel
theorem dX10_digest_113 : decode cX10_digest 113 = .ok (.getfield 107, 3) := by decide +kernel
theorem dX10_digest_116 : decode cX10_digest 116 = .ok (.if_icmp .ge 198, 3) := by decide +kernel
theorem dX10_digest_119 : decode cX10_digest 119 = .ok (.lload_n 1, 1) := by decide +kernel
theorem dX10_digest_120 : decode cX10_digest 120 = .ok (.ldc2_w 271, 3) := by decide +kernel
theorem dX10_digest_123 : decode cX10_digest 123 = .ok (.lmul, 1) := by decide +kernel
theorem dX10_digest_124 : decode cX10_digest 124 = .ok (.aload_n 0, 1) := by decide +kernel
theorem dX10_digest_125 : decode cX10_digest 125 = .ok (.getfield 21, 3) := by decide +kernel
theorem dX10_digest_128 : decode cX10_digest 128 = .ok (.getfield 174, 3) := by decide +kernel
theorem dX10_digest_131 : decode cX10_digest 131 = .ok (.getfield 178, 3) := by decide +kernel
theorem dX10_digest_134 : decode cX10_digest 134 = .ok (.iload_n 3, 1) := by decide +kernel
theorem dX10_digest_135 : decode cX10_digest 135 = .ok (.iaload, 1) := by decide +kernel
theorem dX10_digest_136 : decode cX10_digest 136 = .ok (.i2l, 1) := by decide +kernel
theorem dX10_digest_137 : decode cX10_digest 137 = .ok (.ladd, 1) := by decide +kernel
theorem dX10_digest_138 : decode cX10_digest 138 = .ok (.lstore_n 1, 1) := by decide +kernel
theorem dX10_digest_139 : decode cX10_digest 139 = .ok (.lload_n 1, 1) := by decide +kernel
theorem dX10_digest_140 : decode cX10_digest 140 = .ok (.ldc2_w 271, 3) := by decide +kernel
theorem dX10_digest_143 : decode cX10_digest 143 = .ok (.lmul, 1) := by decide +kernel
theorem dX10_digest_144 : decode cX10_digest 144 = .ok (.aload_n 0, 1) := by decide +kernel
theorem dX10_digest_145 : decode cX10_digest 145 = .ok (.getfield 21, 3) := by decide +kernel
theorem dX10_digest_148 : decode cX10_digest 148 = .ok (.getfield 174, 3) := by decide +kernel
theorem dX10_digest_151 : decode cX10_digest 151 = .ok (.getfield 183, 3) := by decide +kernel
theorem dX10_digest_154 : decode cX10_digest 154 = .ok (.iload_n 3, 1) := by decide +kernel
theorem dX10_digest_155 : decode cX10_digest 155 = .ok (.iaload, 1) := by decide +kernel
theorem dX10_digest_156 : decode cX10_digest 156 = .ok (.i2l, 1) := by decide +kernel
theorem dX10_digest_157 : decode cX10_digest 157 = .ok (.ladd, 1) := by decide +kernel
theorem dX10_digest_158 : decode cX10_digest 158 = .ok (.lstore_n 1, 1) := by decide +kernel
theorem dX10_digest_159 : decode cX10_digest 159 = .ok (.lload_n 1, 1) := by decide +kernel
theorem dX10_digest_160 : decode cX10_digest 160 = .ok (.ldc2_w 271, 3) := by decide +kernel
theorem dX10_digest_163 : decode cX10_digest 163 = .ok (.lmul, 1) := by decide +kernel
theorem dX10_digest_164 : decode cX10_digest 164 = .ok (.aload_n 0, 1) := by decide +kernel
theorem dX10_digest_165 : decode cX10_digest 165 = .ok (.getfield 21, 3) := by decide +kernel
theorem dX10_digest_168 : decode cX10_digest 168 = .ok (.getfield 186, 3) := by decide +kernel
theorem dX10_digest_171 : decode cX10_digest 171 = .ok (.getfield 178, 3) := by decide +kernel
theorem dX10_digest_174 : decode cX10_digest 174 = .ok (.iload_n 3, 1) := by decide +kernel
theorem dX10_digest_175 : decode cX10_digest 175 = .ok (.iaload, 1) := by decide +kernel
theorem dX10_digest_176 : decode cX10_digest 176 = .ok (.i2l, 1) := by decide +kernel
theorem dX10_digest_177 : decode cX10_digest 177 = .ok (.ladd, 1) := by decide +kernel
theorem dX10_digest_178 : decode cX10_digest 178 = .ok (.lstore_n 1, 1) := by decide +kernel
theorem dX10_digest_179 : decode cX10_digest 179 = .ok (.lload_n 1, 1) := by decide +kernel
theorem dX10_digest_180 : decode cX10_digest 180 = .ok (.ldc2_w 271, 3) := by decide +kernel
theorem dX10_digest_183 : decode cX10_digest 183 = .ok (.lmul, 1) := by decide +kernel
theorem dX10_digest_184 : decode cX10_digest 184 = .ok (.aload_n 0, 1) := by decide +kernel
theorem dX10_digest_185 : decode cX10_digest 185 = .ok (.getfield 21, 3) := by decide +kernel
theorem dX10_digest_188 : decode cX10_digest 188 = .ok (.getfield 186, 3) := by decide +kernel
theorem dX10_digest_191 : decode cX10_digest 191 = .ok (.getfield 183, 3) := by decide +kernel
theorem dX10_digest_194 : decode cX10_digest 194 = .ok (.iload_n 3, 1) := by decide +kernel
theorem dX10_digest_195 : decode cX10_digest 195 = .ok (.iaload, 1) := by decide +kernel
theorem dX10_digest_196 : decode cX10_digest 196 = .ok (.i2l, 1) := by decide +kernel
theorem dX10_digest_197 : decode cX10_digest 197 = .ok (.ladd, 1) := by decide +kernel
theorem dX10_digest_198 : decode cX10_digest 198 = .ok (.lstore_n 1, 1) := by decide +kernel
theorem dX10_digest_199 : decode cX10_digest 199 = .ok (.lload_n 1, 1) := by decide +kernel
theorem dX10_digest_200 : decode cX10_digest 200 = .ok (.ldc2_w 271, 3) := by decide +kernel
theorem dX10_digest_203 : decode cX10_digest 203 = .ok (.lmul, 1) := by decide +kernel
theorem dX10_digest_204 : decode cX10_digest 204 = .ok (.aload_n 0, 1) := by decide +kernel
theorem dX10_digest_205 : decode cX10_digest 205 = .ok (.getfield 21, 3) := by decide +kernel
theorem dX10_digest_208 : decode cX10_digest 208 = .ok (.getfield 189, 3) := by decide +kernel
theorem dX10_digest_211 : decode cX10_digest 211 = .ok (.iload_n 3, 1) := by decide +kernel
theorem dX10_digest_212 : decode cX10_digest 212 = .ok (.iaload, 1) := by decide +kernel
theorem dX10_digest_213 : decode cX10_digest 213 = .ok (.i2l, 1) := by decide +kernel
theorem dX10_digest_214 : decode cX10_digest 214 = .ok (.ladd, 1) := by decide +kernel
theorem dX10_digest_215 : decode cX10_digest 215 = .ok (.lstore_n 1, 1) := by decide +kernel
theorem dX10_digest_216 : decode cX10_digest 216 = .ok (.lload_n 1, 1) := by decide +kernel
theorem dX10_digest_217 : decode cX10_digest 217 = .ok (.ldc2_w 271, 3) := by decide +kernel
theorem dX10_digest_220 : decode cX10_digest 220 = .ok (.lmul, 1) := by decide +kernel
theorem dX10_digest_221 : decode cX10_digest 221 = .ok (.aload_n 0, 1) := by decide +kernel
theorem dX10_digest_222 : decode cX10_digest 222 = .ok (.getfield 28, 3) := by decide +kernel
theorem dX10_digest_225 : decode cX10_digest 225 = .ok (.getfield 205, 3) := by decide +kernel
theorem dX10_digest_228 : decode cX10_digest 228 = .ok (.getfield 178, 3) := by decide +kernel
theorem dX10_digest_231 : decode cX10_digest 231 = .ok (.iload_n 3, 1) := by decide +kernel
theorem dX10_digest_232 : decode cX10_digest 232 = .ok (.iaload, 1) := by decide +kernel
theorem dX10_digest_233 : decode cX10_digest 233 = .ok (.i2l, 1) := by decide +kernel
theorem dX10_digest_234 : decode cX10_digest 234 = .ok (.ladd, 1) := by decide +kernel
theorem dX10_digest_235 : decode cX10_digest 235 = .ok (.lstore_n 1, 1) := by decide +kernel
theorem dX10_digest_236 : decode cX10_digest 236 = .ok (.lload_n 1, 1) := by decide +kernel
theorem dX10_digest_237 : decode cX10_digest 237 = .ok (.ldc2_w 271, 3) := by decide +kernel
theorem dX10_digest_240 : decode cX10_digest 240 = .ok (.lmul, 1) := by decide +kernel
theorem dX10_digest_241 : decode cX10_digest 241 = .ok (.aload_n 0, 1) := by decide +kernel
theorem dX10_digest_242 : decode cX10_digest 242 = .ok (.getfield 28, 3) := by decide +kernel
theorem dX10_digest_245 : decode cX10_digest 245 = .ok (.getfield 205, 3) := by decide +kernel
theorem dX10_digest_248 : decode cX10_digest 248 = .ok (.getfield 183, 3) := by decide +kernel
theorem dX10_digest_251 : decode cX10_digest 251 = .ok (.iload_n 3, 1) := by decide +kernel
theorem dX10_digest_252 : decode cX10_digest 252 = .ok (.iaload, 1) := by decide +kernel
theorem dX10_digest_253 : decode cX10_digest 253 = .ok (.i2l, 1) := by decide +kernel
theorem dX10_digest_254 : decode cX10_digest 254 = .ok (.ladd, 1) := by decide +kernel
theorem dX10_digest_255 : decode cX10_digest 255 = .ok (.lstore_n 1, 1) := by decide +kernel
theorem dX10_digest_256 : decode cX10_digest 256 = .ok (.lload_n 1, 1) := by decide +kernel
theorem dX10_digest_257 : decode cX10_digest 257 = .ok (.ldc2_w 271, 3) := by decide +kernel
theorem dX10_digest_260 : decode cX10_digest 260 = .ok (.lmul, 1) := by decide +kernel
theorem dX10_digest_261 : decode cX10_digest 261 = .ok (.aload_n 0, 1) := by decide +kernel
theorem dX10_digest_262 : decode cX10_digest 262 = .ok (.getfield 28, 3) := by decide +kernel
theorem dX10_digest_265 : decode cX10_digest 265 = .ok (.iload_n 3, 1) := by decide +kernel
theorem dX10_digest_266 : decode cX10_digest 266 = .ok (.invokevirtual 226, 3) := by decide +kernel
theorem dX10_digest_269 : decode cX10_digest 269 = .ok (.i2l, 1) := by decide +kernel
theorem dX10_digest_270 : decode cX10_digest 270 = .ok (.ladd, 1) := by decide +kernel
theorem dX10_digest_271 : decode cX10_digest 271 = .ok (.lstore_n 1, 1) := by decide +kernel
theorem dX10_digest_272 : decode cX10_digest 272 = .ok (.lload_n 1, 1) := by decide +kernel
theorem dX10_digest_273 : decode cX10_digest 273 = .ok (.ldc2_w 271, 3) := by decide +kernel
theorem dX10_digest_276 : decode cX10_digest 276 = .ok (.lmul, 1) := by decide +kernel
theorem dX10_digest_277 : decode cX10_digest 277 = .ok (.aload_n 0, 1) := by decide +kernel
theorem dX10_digest_278 : decode cX10_digest 278 = .ok (.getfield 28, 3) := by decide +kernel
theorem dX10_digest_281 : decode cX10_digest 281 = .ok (.iload_n 3, 1) := by decide +kernel
theorem dX10_digest_282 : decode cX10_digest 282 = .ok (.invokevirtual 229, 3) := by decide +kernel
theorem dX10_digest_285 : decode cX10_digest 285 = .ok (.i2l, 1) := by decide +kernel
theorem dX10_digest_286 : decode cX10_digest 286 = .ok (.ladd, 1) := by decide +kernel
theorem dX10_digest_287 : decode cX10_digest 287 = .ok (.lstore_n 1, 1) := by decide +kernel
theorem dX10_digest_288 : decode cX10_digest 288 = .ok (.lload_n 1, 1) := by decide +kernel
theorem dX10_digest_289 : decode cX10_digest 289 = .ok (.ldc2_w 271, 3) := by decide +kernel
theorem dX10_digest_292 : decode cX10_digest 292 = .ok (.lmul, 1) := by decide +kernel
theorem dX10_digest_293 : decode cX10_digest 293 = .ok (.aload_n 0, 1) := by decide +kernel
theorem dX10_digest_294 : decode cX10_digest 294 = .ok (.getfield 48, 3) := by decide +kernel
theorem dX10_digest_297 : decode cX10_digest 297 = .ok (.iload_n 3, 1) := by decide +kernel
theorem dX10_digest_298 : decode cX10_digest 298 = .ok (.aload_n 0, 1) := by decide +kernel
theorem dX10_digest_299 : decode cX10_digest 299 = .ok (.getfield 28, 3) := by decide +kernel
theorem dX10_digest_302 : decode cX10_digest 302 = .ok (.invokevirtual 240, 3) := by decide +kernel
theorem dX10_digest_305 : decode cX10_digest 305 = .ok (.i2l, 1) := by decide +kernel
theorem dX10_digest_306 : decode cX10_digest 306 = .ok (.ladd, 1) := by decide +kernel
theorem dX10_digest_307 : decode cX10_digest 307 = .ok (.lstore_n 1, 1) := by decide +kernel
theorem dX10_digest_308 : decode cX10_digest 308 = .ok (.iinc 3 1, 3) := by decide +kernel
theorem dX10_digest_311 : decode cX10_digest 311 = .ok (.goto (-203), 3) := by decide +kernel
theorem dX10_digest_314 : decode cX10_digest 314 = .ok (.iconst 0, 1) := by decide +kernel
theorem dX10_digest_315 : decode cX10_digest 315 = .ok (.istore_n 3, 1) := by decide +kernel
theorem dX10_digest_316 : decode cX10_digest 316 = .ok (.iload_n 3, 1) := by decide +kernel
theorem dX10_digest_317 : decode cX10_digest 317 = .ok (.iconst 4, 1) := by decide +kernel
theorem dX10_digest_318 : decode cX10_digest 318 = .ok (.if_icmp .ge 88, 3) := by decide +kernel
theorem dX10_digest_321 : decode cX10_digest 321 = .ok (.aload_n 0, 1) := by decide +kernel
theorem dX10_digest_322 : decode cX10_digest 322 = .ok (.getfield 10, 3) := by decide +kernel
theorem dX10_digest_325 : decode cX10_digest 325 = .ok (.getfield 95, 3) := by decide +kernel
theorem dX10_digest_328 : decode cX10_digest 328 = .ok (.iload_n 3, 1) := by decide +kernel
theorem dX10_digest_329 : decode cX10_digest 329 = .ok (.aaload, 1) := by decide +kernel
theorem dX10_digest_330 : decode cX10_digest 330 = .ok (.getfield 99, 3) := by decide +kernel
theorem dX10_digest_333 : decode cX10_digest 333 = .ok (.istore 4, 2) := by decide +kernel
theorem dX10_digest_335 : decode cX10_digest 335 = .ok (.lload_n 1, 1) := by decide +kernel
theorem dX10_digest_336 : decode cX10_digest 336 = .ok (.ldc2_w 271, 3) := by decide +kernel
theorem dX10_digest_339 : decode cX10_digest 339 = .ok (.lmul, 1) := by decide +kernel
theorem dX10_digest_340 : decode cX10_digest 340 = .ok (.aload_n 0, 1) := by decide +kernel
theorem dX10_digest_341 : decode cX10_digest 341 = .ok (.getfield 35, 3) := by decide +kernel
theorem dX10_digest_344 : decode cX10_digest 344 = .ok (.iload_n 3, 1) := by decide +kernel
theorem dX10_digest_345 : decode cX10_digest 345 = .ok (.iload 4, 2) := by decide +kernel
theorem dX10_digest_347 : decode cX10_digest 347 = .ok (.invokevirtual 202, 3) := by decide +kernel
theorem dX10_digest_350 : decode cX10_digest 350 = .ok (.i2l, 1) := by decide +kernel
theorem dX10_digest_351 : decode cX10_digest 351 = .ok (.ladd, 1) := by decide +kernel
theorem dX10_digest_352 : decode cX10_digest 352 = .ok (.lstore_n 1, 1) := by decide +kernel
theorem dX10_digest_353 : decode cX10_digest 353 = .ok (.lload_n 1, 1) := by decide +kernel
theorem dX10_digest_354 : decode cX10_digest 354 = .ok (.ldc2_w 271, 3) := by decide +kernel
theorem dX10_digest_357 : decode cX10_digest 357 = .ok (.lmul, 1) := by decide +kernel
theorem dX10_digest_358 : decode cX10_digest 358 = .ok (.aload_n 0, 1) := by decide +kernel
theorem dX10_digest_359 : decode cX10_digest 359 = .ok (.getfield 28, 3) := by decide +kernel
theorem dX10_digest_362 : decode cX10_digest 362 = .ok (.getfield 219, 3) := by decide +kernel
theorem dX10_digest_365 : decode cX10_digest 365 = .ok (.iload_n 3, 1) := by decide +kernel
theorem dX10_digest_366 : decode cX10_digest 366 = .ok (.invokevirtual 222, 3) := by decide +kernel
theorem dX10_digest_369 : decode cX10_digest 369 = .ok (.i2l, 1) := by decide +kernel
theorem dX10_digest_370 : decode cX10_digest 370 = .ok (.ladd, 1) := by decide +kernel
theorem dX10_digest_371 : decode cX10_digest 371 = .ok (.lstore_n 1, 1) := by decide +kernel
theorem dX10_digest_372 : decode cX10_digest 372 = .ok (.lload_n 1, 1) := by decide +kernel
theorem dX10_digest_373 : decode cX10_digest 373 = .ok (.ldc2_w 271, 3) := by decide +kernel
theorem dX10_digest_376 : decode cX10_digest 376 = .ok (.lmul, 1) := by decide +kernel
theorem dX10_digest_377 : decode cX10_digest 377 = .ok (.aload_n 0, 1) := by decide +kernel
theorem dX10_digest_378 : decode cX10_digest 378 = .ok (.getfield 28, 3) := by decide +kernel
theorem dX10_digest_381 : decode cX10_digest 381 = .ok (.getfield 219, 3) := by decide +kernel
theorem dX10_digest_384 : decode cX10_digest 384 = .ok (.iload_n 3, 1) := by decide +kernel
theorem dX10_digest_385 : decode cX10_digest 385 = .ok (.iload 4, 2) := by decide +kernel
theorem dX10_digest_387 : decode cX10_digest 387 = .ok (.aload_n 0, 1) := by decide +kernel
theorem dX10_digest_388 : decode cX10_digest 388 = .ok (.getfield 28, 3) := by decide +kernel
theorem dX10_digest_391 : decode cX10_digest 391 = .ok (.getfield 208, 3) := by decide +kernel
theorem dX10_digest_394 : decode cX10_digest 394 = .ok (.invokevirtual 232, 3) := by decide +kernel
theorem dX10_digest_397 : decode cX10_digest 397 = .ok (.i2l, 1) := by decide +kernel
theorem dX10_digest_398 : decode cX10_digest 398 = .ok (.ladd, 1) := by decide +kernel
theorem dX10_digest_399 : decode cX10_digest 399 = .ok (.lstore_n 1, 1) := by decide +kernel
theorem dX10_digest_400 : decode cX10_digest 400 = .ok (.iinc 3 1, 3) := by decide +kernel
theorem dX10_digest_403 : decode cX10_digest 403 = .ok (.goto (-87), 3) := by decide +kernel
theorem dX10_digest_406 : decode cX10_digest 406 = .ok (.iconst 0, 1) := by decide +kernel
theorem dX10_digest_407 : decode cX10_digest 407 = .ok (.istore_n 3, 1) := by decide +kernel
theorem dX10_digest_408 : decode cX10_digest 408 = .ok (.iload_n 3, 1) := by decide +kernel
theorem dX10_digest_409 : decode cX10_digest 409 = .ok (.aload_n 0, 1) := by decide +kernel
theorem dX10_digest_410 : decode cX10_digest 410 = .ok (.getfield 28, 3) := by decide +kernel
theorem dX10_digest_413 : decode cX10_digest 413 = .ok (.getfield 209, 3) := by decide +kernel
theorem dX10_digest_416 : decode cX10_digest 416 = .ok (.if_icmp .ge 26, 3) := by decide +kernel
theorem dX10_digest_419 : decode cX10_digest 419 = .ok (.lload_n 1, 1) := by decide +kernel
theorem dX10_digest_420 : decode cX10_digest 420 = .ok (.ldc2_w 271, 3) := by decide +kernel
theorem dX10_digest_423 : decode cX10_digest 423 = .ok (.lmul, 1) := by decide +kernel
theorem dX10_digest_424 : decode cX10_digest 424 = .ok (.aload_n 0, 1) := by decide +kernel
theorem dX10_digest_425 : decode cX10_digest 425 = .ok (.getfield 28, 3) := by decide +kernel
theorem dX10_digest_428 : decode cX10_digest 428 = .ok (.getfield 216, 3) := by decide +kernel
theorem dX10_digest_431 : decode cX10_digest 431 = .ok (.iload_n 3, 1) := by decide +kernel
theorem dX10_digest_432 : decode cX10_digest 432 = .ok (.iaload, 1) := by decide +kernel
theorem dX10_digest_433 : decode cX10_digest 433 = .ok (.i2l, 1) := by decide +kernel
theorem dX10_digest_434 : decode cX10_digest 434 = .ok (.ladd, 1) := by decide +kernel
theorem dX10_digest_435 : decode cX10_digest 435 = .ok (.lstore_n 1, 1) := by decide +kernel
theorem dX10_digest_436 : decode cX10_digest 436 = .ok (.iinc 3 1, 3) := by decide +kernel
theorem dX10_digest_439 : decode cX10_digest 439 = .ok (.goto (-31), 3) := by decide +kernel
theorem dX10_digest_442 : decode cX10_digest 442 = .ok (.lload_n 1, 1) := by decide +kernel
theorem dX10_digest_443 : decode cX10_digest 443 = .ok (.ldc2_w 271, 3) := by decide +kernel
theorem dX10_digest_446 : decode cX10_digest 446 = .ok (.lmul, 1) := by decide +kernel
theorem dX10_digest_447 : decode cX10_digest 447 = .ok (.aload_n 0, 1) := by decide +kernel
theorem dX10_digest_448 : decode cX10_digest 448 = .ok (.getfield 48, 3) := by decide +kernel
theorem dX10_digest_451 : decode cX10_digest 451 = .ok (.invokevirtual 247, 3) := by decide +kernel
theorem dX10_digest_454 : decode cX10_digest 454 = .ok (.i2l, 1) := by decide +kernel
theorem dX10_digest_455 : decode cX10_digest 455 = .ok (.ladd, 1) := by decide +kernel
theorem dX10_digest_456 : decode cX10_digest 456 = .ok (.lstore_n 1, 1) := by decide +kernel
theorem dX10_digest_457 : decode cX10_digest 457 = .ok (.lload_n 1, 1) := by decide +kernel
theorem dX10_digest_458 : decode cX10_digest 458 = .ok (.ldc2_w 271, 3) := by decide +kernel
theorem dX10_digest_461 : decode cX10_digest 461 = .ok (.lmul, 1) := by decide +kernel
theorem dX10_digest_462 : decode cX10_digest 462 = .ok (.aload_n 0, 1) := by decide +kernel
theorem dX10_digest_463 : decode cX10_digest 463 = .ok (.invokevirtual 273, 3) := by decide +kernel
theorem dX10_digest_466 : decode cX10_digest 466 = .ok (.i2l, 1) := by decide +kernel
theorem dX10_digest_467 : decode cX10_digest 467 = .ok (.ladd, 1) := by decide +kernel
theorem dX10_digest_468 : decode cX10_digest 468 = .ok (.lstore_n 1, 1) := by decide +kernel
theorem dX10_digest_469 : decode cX10_digest 469 = .ok (.lload_n 1, 1) := by decide +kernel
theorem dX10_digest_470 : decode cX10_digest 470 = .ok (.ldc2_w 271, 3) := by decide +kernel
theorem dX10_digest_473 : decode cX10_digest 473 = .ok (.lmul, 1) := by decide +kernel
theorem dX10_digest_474 : decode cX10_digest 474 = .ok (.aload_n 0, 1) := by decide +kernel
theorem dX10_digest_475 : decode cX10_digest 475 = .ok (.getfield 48, 3) := by decide +kernel
theorem dX10_digest_478 : decode cX10_digest 478 = .ok (.aload_n 0, 1) := by decide +kernel
theorem dX10_digest_479 : decode cX10_digest 479 = .ok (.getfield 28, 3) := by decide +kernel
theorem dX10_digest_482 : decode cX10_digest 482 = .ok (.getfield 208, 3) := by decide +kernel
theorem dX10_digest_485 : decode cX10_digest 485 = .ok (.invokevirtual 244, 3) := by decide +kernel
theorem dX10_digest_488 : decode cX10_digest 488 = .ok (.i2l, 1) := by decide +kernel
theorem dX10_digest_489 : decode cX10_digest 489 = .ok (.ladd, 1) := by decide +kernel
theorem dX10_digest_490 : decode cX10_digest 490 = .ok (.lstore_n 1, 1) := by decide +kernel
theorem dX10_digest_491 : decode cX10_digest 491 = .ok (.lload_n 1, 1) := by decide +kernel
theorem dX10_digest_492 : decode cX10_digest 492 = .ok (.lreturn, 1) := by decide +kernel
theorem dX10_isWithin_0 : decode cX10_isWithin 0 = .ok (.iload_n 0, 1) := by decide +kernel
theorem dX10_isWithin_1 : decode cX10_isWithin 1 = .ok (.ifCond .lt 12, 3) := by decide +kernel
theorem dX10_isWithin_4 : decode cX10_isWithin 4 = .ok (.iload_n 0, 1) := by decide +kernel
theorem dX10_isWithin_5 : decode cX10_isWithin 5 = .ok (.iload_n 1, 1) := by decide +kernel
theorem dX10_isWithin_6 : decode cX10_isWithin 6 = .ok (.if_icmp .gt 7, 3) := by decide +kernel
theorem dX10_isWithin_9 : decode cX10_isWithin 9 = .ok (.iconst 1, 1) := by decide +kernel
theorem dX10_isWithin_10 : decode cX10_isWithin 10 = .ok (.goto 4, 3) := by decide +kernel
theorem dX10_isWithin_13 : decode cX10_isWithin 13 = .ok (.iconst 0, 1) := by decide +kernel
theorem dX10_isWithin_14 : decode cX10_isWithin 14 = .ok (.ireturn, 1) := by decide +kernel
theorem dX10_checkIndex_0 : decode cX10_checkIndex 0 = .ok (.iload_n 0, 1) := by decide +kernel
theorem dX10_checkIndex_1 : decode cX10_checkIndex 1 = .ok (.ifCond .lt 8, 3) := by decide +kernel
theorem dX10_checkIndex_4 : decode cX10_checkIndex 4 = .ok (.iload_n 0, 1) := by decide +kernel
theorem dX10_checkIndex_5 : decode cX10_checkIndex 5 = .ok (.iload_n 1, 1) := by decide +kernel
theorem dX10_checkIndex_6 : decode cX10_checkIndex 6 = .ok (.if_icmp .lt 14, 3) := by decide +kernel
theorem dX10_checkIndex_9 : decode cX10_checkIndex 9 = .ok (.new 276, 3) := by decide +kernel
theorem dX10_checkIndex_12 : decode cX10_checkIndex 12 = .ok (.dup, 1) := by decide +kernel
theorem dX10_checkIndex_13 : decode cX10_checkIndex 13 = .ok (.ldc_w 278, 3) := by decide +kernel
theorem dX10_checkIndex_16 : decode cX10_checkIndex 16 = .ok (.invokespecial 280, 3) := by decide +kernel
theorem dX10_checkIndex_19 : decode cX10_checkIndex 19 = .ok (.athrow, 1) := by decide +kernel
theorem dX10_checkIndex_20 : decode cX10_checkIndex 20 = .ok (.return_, 1) := by decide +kernel
theorem dX10_checkArgument_0 : decode cX10_checkArgument 0 = .ok (.iload_n 0, 1) := by decide +kernel
theorem dX10_checkArgument_1 : decode cX10_checkArgument 1 = .ok (.ifCond .ne 14, 3) := by decide +kernel
theorem dX10_checkArgument_4 : decode cX10_checkArgument 4 = .ok (.new 283, 3) := by decide +kernel
theorem dX10_checkArgument_7 : decode cX10_checkArgument 7 = .ok (.dup, 1) := by decide +kernel
theorem dX10_checkArgument_8 : decode cX10_checkArgument 8 = .ok (.ldc_w 285, 3) := by decide +kernel
theorem dX10_checkArgument_11 : decode cX10_checkArgument 11 = .ok (.invokespecial 287, 3) := by decide +kernel
theorem dX10_checkArgument_14 : decode cX10_checkArgument 14 = .ok (.athrow, 1) := by decide +kernel
theorem dX10_checkArgument_15 : decode cX10_checkArgument 15 = .ok (.return_, 1) := by decide +kernel
theorem dX10_checkState_0 : decode cX10_checkState 0 = .ok (.iload_n 0, 1) := by decide +kernel
theorem dX10_checkState_1 : decode cX10_checkState 1 = .ok (.ifCond .ne 14, 3) := by decide +kernel
theorem dX10_checkState_4 : decode cX10_checkState 4 = .ok (.new 288, 3) := by decide +kernel
theorem dX10_checkState_7 : decode cX10_checkState 7 = .ok (.dup, 1) := by decide +kernel
theorem dX10_checkState_8 : decode cX10_checkState 8 = .ok (.ldc_w 290, 3) := by decide +kernel
theorem dX10_checkState_11 : decode cX10_checkState 11 = .ok (.invokespecial 292, 3) := by decide +kernel
theorem dX10_checkState_14 : decode cX10_checkState 14 = .ok (.athrow, 1) := by decide +kernel
theorem dX10_checkState_15 : decode cX10_checkState 15 = .ok (.return_, 1) := by decide +kernel
theorem dX10_checkCalendar_0 : decode cX10_checkCalendar 0 = .ok (.iload_n 0, 1) := by decide +kernel
theorem dX10_checkCalendar_1 : decode cX10_checkCalendar 1 = .ok (.iconst 4, 1) := by decide +kernel
theorem dX10_checkCalendar_2 : decode cX10_checkCalendar 2 = .ok (.invokestatic 212, 3) := by decide +kernel
theorem dX10_checkCalendar_5 : decode cX10_checkCalendar 5 = .ok (.return_, 1) := by decide +kernel
theorem dX10_checkCrew_0 : decode cX10_checkCrew 0 = .ok (.iload_n 0, 1) := by decide +kernel
theorem dX10_checkCrew_1 : decode cX10_checkCrew 1 = .ok (.iconst 4, 1) := by decide +kernel
theorem dX10_checkCrew_2 : decode cX10_checkCrew 2 = .ok (.invokestatic 212, 3) := by decide +kernel
theorem dX10_checkCrew_5 : decode cX10_checkCrew 5 = .ok (.return_, 1) := by decide +kernel
theorem dX10_checkAskedDay_0 : decode cX10_checkAskedDay 0 = .ok (.iload_n 0, 1) := by decide +kernel
theorem dX10_checkAskedDay_1 : decode cX10_checkAskedDay 1 = .ok (.sipush 9999, 3) := by decide +kernel
theorem dX10_checkAskedDay_4 : decode cX10_checkAskedDay 4 = .ok (.invokestatic 74, 3) := by decide +kernel
theorem dX10_checkAskedDay_7 : decode cX10_checkAskedDay 7 = .ok (.invokestatic 60, 3) := by decide +kernel
theorem dX10_checkAskedDay_10 : decode cX10_checkAskedDay 10 = .ok (.return_, 1) := by decide +kernel
theorem dX10_checkTask_0 : decode cX10_checkTask 0 = .ok (.iload_n 1, 1) := by decide +kernel
theorem dX10_checkTask_1 : decode cX10_checkTask 1 = .ok (.aload_n 0, 1) := by decide +kernel
theorem dX10_checkTask_2 : decode cX10_checkTask 2 = .ok (.getfield 10, 3) := by decide +kernel
theorem dX10_checkTask_5 : decode cX10_checkTask 5 = .ok (.getfield 107, 3) := by decide +kernel
theorem dX10_checkTask_8 : decode cX10_checkTask 8 = .ok (.invokestatic 212, 3) := by decide +kernel
theorem dX10_checkTask_11 : decode cX10_checkTask 11 = .ok (.return_, 1) := by decide +kernel
theorem dX10_checkLink_0 : decode cX10_checkLink 0 = .ok (.iload_n 1, 1) := by decide +kernel
theorem dX10_checkLink_1 : decode cX10_checkLink 1 = .ok (.aload_n 0, 1) := by decide +kernel
theorem dX10_checkLink_2 : decode cX10_checkLink 2 = .ok (.getfield 10, 3) := by decide +kernel
theorem dX10_checkLink_5 : decode cX10_checkLink 5 = .ok (.getfield 136, 3) := by decide +kernel
theorem dX10_checkLink_8 : decode cX10_checkLink 8 = .ok (.invokestatic 212, 3) := by decide +kernel
theorem dX10_checkLink_11 : decode cX10_checkLink 11 = .ok (.return_, 1) := by decide +kernel
theorem dX10_refresh_0 : decode cX10_refresh 0 = .ok (.aload_n 0, 1) := by decide +kernel
theorem dX10_refresh_1 : decode cX10_refresh 1 = .ok (.getfield 52, 3) := by decide +kernel
theorem dX10_refresh_4 : decode cX10_refresh 4 = .ok (.ifCond .ne 4, 3) := by decide +kernel
theorem dX10_refresh_7 : decode cX10_refresh 7 = .ok (.return_, 1) := by decide +kernel
theorem dX10_refresh_8 : decode cX10_refresh 8 = .ok (.aload_n 0, 1) := by decide +kernel
theorem dX10_refresh_9 : decode cX10_refresh 9 = .ok (.getfield 21, 3) := by decide +kernel
theorem dX10_refresh_12 : decode cX10_refresh 12 = .ok (.invokevirtual 260, 3) := by decide +kernel
theorem dX10_refresh_15 : decode cX10_refresh 15 = .ok (.aload_n 0, 1) := by decide +kernel
theorem dX10_refresh_16 : decode cX10_refresh 16 = .ok (.getfield 21, 3) := by decide +kernel
theorem dX10_refresh_19 : decode cX10_refresh 19 = .ok (.invokevirtual 263, 3) := by decide +kernel
theorem dX10_refresh_22 : decode cX10_refresh 22 = .ok (.aload_n 0, 1) := by decide +kernel
theorem dX10_refresh_23 : decode cX10_refresh 23 = .ok (.getfield 35, 3) := by decide +kernel
theorem dX10_refresh_26 : decode cX10_refresh 26 = .ok (.invokevirtual 293, 3) := by decide +kernel
theorem dX10_refresh_29 : decode cX10_refresh 29 = .ok (.iconst 0, 1) := by decide +kernel
theorem dX10_refresh_30 : decode cX10_refresh 30 = .ok (.istore_n 1, 1) := by decide +kernel
theorem dX10_refresh_31 : decode cX10_refresh 31 = .ok (.iload_n 1, 1) := by decide +kernel
theorem dX10_refresh_32 : decode cX10_refresh 32 = .ok (.aload_n 0, 1) := by decide +kernel
theorem dX10_refresh_33 : decode cX10_refresh 33 = .ok (.getfield 10, 3) := by decide +kernel
theorem dX10_refresh_36 : decode cX10_refresh 36 = .ok (.getfield 107, 3) := by decide +kernel
theorem dX10_refresh_39 : decode cX10_refresh 39 = .ok (.if_icmp .ge 57, 3) := by decide +kernel
theorem dX10_refresh_42 : decode cX10_refresh 42 = .ok (.aload_n 0, 1) := by decide +kernel
theorem dX10_refresh_43 : decode cX10_refresh 43 = .ok (.getfield 35, 3) := by decide +kernel
theorem dX10_refresh_46 : decode cX10_refresh 46 = .ok (.aload_n 0, 1) := by decide +kernel
theorem dX10_refresh_47 : decode cX10_refresh 47 = .ok (.getfield 10, 3) := by decide +kernel
theorem dX10_refresh_50 : decode cX10_refresh 50 = .ok (.getfield 117, 3) := by decide +kernel
theorem dX10_refresh_53 : decode cX10_refresh 53 = .ok (.iload_n 1, 1) := by decide +kernel
theorem dX10_refresh_54 : decode cX10_refresh 54 = .ok (.aaload, 1) := by decide +kernel
theorem dX10_refresh_55 : decode cX10_refresh 55 = .ok (.aload_n 0, 1) := by decide +kernel
theorem dX10_refresh_56 : decode cX10_refresh 56 = .ok (.getfield 10, 3) := by decide +kernel
theorem dX10_refresh_59 : decode cX10_refresh 59 = .ok (.iload_n 1, 1) := by decide +kernel
theorem dX10_refresh_60 : decode cX10_refresh 60 = .ok (.invokevirtual 296, 3) := by decide +kernel
theorem dX10_refresh_63 : decode cX10_refresh 63 = .ok (.aload_n 0, 1) := by decide +kernel
theorem dX10_refresh_64 : decode cX10_refresh 64 = .ok (.getfield 21, 3) := by decide +kernel
theorem dX10_refresh_67 : decode cX10_refresh 67 = .ok (.getfield 174, 3) := by decide +kernel
theorem dX10_refresh_70 : decode cX10_refresh 70 = .ok (.getfield 178, 3) := by decide +kernel
theorem dX10_refresh_73 : decode cX10_refresh 73 = .ok (.iload_n 1, 1) := by decide +kernel
theorem dX10_refresh_74 : decode cX10_refresh 74 = .ok (.iaload, 1) := by decide +kernel
theorem dX10_refresh_75 : decode cX10_refresh 75 = .ok (.aload_n 0, 1) := by decide +kernel
theorem dX10_refresh_76 : decode cX10_refresh 76 = .ok (.getfield 21, 3) := by decide +kernel
theorem dX10_refresh_79 : decode cX10_refresh 79 = .ok (.getfield 174, 3) := by decide +kernel
theorem dX10_refresh_82 : decode cX10_refresh 82 = .ok (.getfield 183, 3) := by decide +kernel
theorem dX10_refresh_85 : decode cX10_refresh 85 = .ok (.iload_n 1, 1) := by decide +kernel
theorem dX10_refresh_86 : decode cX10_refresh 86 = .ok (.iaload, 1) := by decide +kernel
theorem dX10_refresh_87 : decode cX10_refresh 87 = .ok (.invokevirtual 300, 3) := by decide +kernel
theorem dX10_refresh_90 : decode cX10_refresh 90 = .ok (.iinc 1 1, 3) := by decide +kernel
theorem dX10_refresh_93 : decode cX10_refresh 93 = .ok (.goto (-62), 3) := by decide +kernel
theorem dX10_refresh_96 : decode cX10_refresh 96 = .ok (.aload_n 0, 1) := by decide +kernel
theorem dX10_refresh_97 : decode cX10_refresh 97 = .ok (.getfield 28, 3) := by decide +kernel
theorem dX10_refresh_100 : decode cX10_refresh 100 = .ok (.aload_n 0, 1) := by decide +kernel
theorem dX10_refresh_101 : decode cX10_refresh 101 = .ok (.getfield 21, 3) := by decide +kernel
theorem dX10_refresh_104 : decode cX10_refresh 104 = .ok (.aload_n 0, 1) := by decide +kernel
theorem dX10_refresh_105 : decode cX10_refresh 105 = .ok (.getfield 10, 3) := by decide +kernel
theorem dX10_refresh_108 : decode cX10_refresh 108 = .ok (.getfield 161, 3) := by decide +kernel
theorem dX10_refresh_111 : decode cX10_refresh 111 = .ok (.invokevirtual 256, 3) := by decide +kernel
theorem dX10_refresh_114 : decode cX10_refresh 114 = .ok (.aload_n 0, 1) := by decide +kernel
theorem dX10_refresh_115 : decode cX10_refresh 115 = .ok (.iconst 0, 1) := by decide +kernel
theorem dX10_refresh_116 : decode cX10_refresh 116 = .ok (.putfield 52, 3) := by decide +kernel
theorem dX10_refresh_119 : decode cX10_refresh 119 = .ok (.return_, 1) := by decide +kernel
