theorem d_Be_init_0 : decode b_Be_init 0 = .ok (.aload_n 0, 1) := by decide +kernel
theorem d_Be_init_1 : decode b_Be_init 1 = .ok (.invokespecial 3, 3) := by decide +kernel
theorem d_Be_init_4 : decode b_Be_init 4 = .ok (.aload_n 0, 1) := by decide +kernel
theorem d_Be_init_5 : decode b_Be_init 5 = .ok (.bipush 10, 2) := by decide +kernel
theorem d_Be_init_7 : decode b_Be_init 7 = .ok (.newarray .int, 2) := by decide +kernel
theorem d_Be_init_9 : decode b_Be_init 9 = .ok (.putfield 11, 3) := by decide +kernel
theorem d_Be_init_12 : decode b_Be_init 12 = .ok (.aload_n 0, 1) := by decide +kernel
theorem d_Be_init_13 : decode b_Be_init 13 = .ok (.new 15, 3) := by decide +kernel
theorem d_Be_init_16 : decode b_Be_init 16 = .ok (.dup, 1) := by decide +kernel
theorem d_Be_init_17 : decode b_Be_init 17 = .ok (.invokespecial 17, 3) := by decide +kernel
theorem d_Be_init_20 : decode b_Be_init 20 = .ok (.putfield 18, 3) := by decide +kernel
theorem d_Be_init_23 : decode b_Be_init 23 = .ok (.aload_n 0, 1) := by decide +kernel
theorem d_Be_init_24 : decode b_Be_init 24 = .ok (.aload_n 1, 1) := by decide +kernel
theorem d_Be_init_25 : decode b_Be_init 25 = .ok (.putfield 22, 3) := by decide +kernel
theorem d_Be_init_28 : decode b_Be_init 28 = .ok (.aload_n 0, 1) := by decide +kernel
theorem d_Be_init_29 : decode b_Be_init 29 = .ok (.new 26, 3) := by decide +kernel
theorem d_Be_init_32 : decode b_Be_init 32 = .ok (.dup, 1) := by decide +kernel
theorem d_Be_init_33 : decode b_Be_init 33 = .ok (.aload_n 1, 1) := by decide +kernel
theorem d_Be_init_34 : decode b_Be_init 34 = .ok (.invokespecial 28, 3) := by decide +kernel
theorem d_Be_init_37 : decode b_Be_init 37 = .ok (.putfield 31, 3) := by decide +kernel
theorem d_Be_init_40 : decode b_Be_init 40 = .ok (.return_, 1) := by decide +kernel
theorem d_Be_reset_0 : decode b_Be_reset 0 = .ok (.aload_n 0, 1) := by decide +kernel
theorem d_Be_reset_1 : decode b_Be_reset 1 = .ok (.getfield 31, 3) := by decide +kernel
theorem d_Be_reset_4 : decode b_Be_reset 4 = .ok (.invokevirtual 35, 3) := by decide +kernel
theorem d_Be_reset_7 : decode b_Be_reset 7 = .ok (.aload_n 0, 1) := by decide +kernel
theorem d_Be_reset_8 : decode b_Be_reset 8 = .ok (.iconst 0, 1) := by decide +kernel
theorem d_Be_reset_9 : decode b_Be_reset 9 = .ok (.putfield 38, 3) := by decide +kernel
theorem d_Be_reset_12 : decode b_Be_reset 12 = .ok (.aload_n 0, 1) := by decide +kernel
theorem d_Be_reset_13 : decode b_Be_reset 13 = .ok (.iconst 0, 1) := by decide +kernel
theorem d_Be_reset_14 : decode b_Be_reset 14 = .ok (.putfield 42, 3) := by decide +kernel
theorem d_Be_reset_17 : decode b_Be_reset 17 = .ok (.aload_n 0, 1) := by decide +kernel
theorem d_Be_reset_18 : decode b_Be_reset 18 = .ok (.iconst 0, 1) := by decide +kernel
theorem d_Be_reset_19 : decode b_Be_reset 19 = .ok (.putfield 45, 3) := by decide +kernel
theorem d_Be_reset_22 : decode b_Be_reset 22 = .ok (.aload_n 0, 1) := by decide +kernel
theorem d_Be_reset_23 : decode b_Be_reset 23 = .ok (.getfield 18, 3) := by decide +kernel
theorem d_Be_reset_26 : decode b_Be_reset 26 = .ok (.iconst 0, 1) := by decide +kernel
theorem d_Be_reset_27 : decode b_Be_reset 27 = .ok (.putfield 48, 3) := by decide +kernel
theorem d_Be_reset_30 : decode b_Be_reset 30 = .ok (.return_, 1) := by decide +kernel
theorem d_Be_copy_0 : decode b_Be_copy 0 = .ok (.aload_n 0, 1) := by decide +kernel
theorem d_Be_copy_1 : decode b_Be_copy 1 = .ok (.getfield 31, 3) := by decide +kernel
theorem d_Be_copy_4 : decode b_Be_copy 4 = .ok (.aload_n 1, 1) := by decide +kernel
theorem d_Be_copy_5 : decode b_Be_copy 5 = .ok (.getfield 31, 3) := by decide +kernel
theorem d_Be_copy_8 : decode b_Be_copy 8 = .ok (.invokevirtual 51, 3) := by decide +kernel
theorem d_Be_copy_11 : decode b_Be_copy 11 = .ok (.aload_n 0, 1) := by decide +kernel
theorem d_Be_copy_12 : decode b_Be_copy 12 = .ok (.aload_n 1, 1) := by decide +kernel
theorem d_Be_copy_13 : decode b_Be_copy 13 = .ok (.getfield 38, 3) := by decide +kernel
theorem d_Be_copy_16 : decode b_Be_copy 16 = .ok (.putfield 38, 3) := by decide +kernel
theorem d_Be_copy_19 : decode b_Be_copy 19 = .ok (.aload_n 0, 1) := by decide +kernel
theorem d_Be_copy_20 : decode b_Be_copy 20 = .ok (.aload_n 1, 1) := by decide +kernel
theorem d_Be_copy_21 : decode b_Be_copy 21 = .ok (.getfield 42, 3) := by decide +kernel
theorem d_Be_copy_24 : decode b_Be_copy 24 = .ok (.putfield 42, 3) := by decide +kernel
theorem d_Be_copy_27 : decode b_Be_copy 27 = .ok (.aload_n 0, 1) := by decide +kernel
theorem d_Be_copy_28 : decode b_Be_copy 28 = .ok (.aload_n 1, 1) := by decide +kernel
theorem d_Be_copy_29 : decode b_Be_copy 29 = .ok (.getfield 45, 3) := by decide +kernel
theorem d_Be_copy_32 : decode b_Be_copy 32 = .ok (.putfield 45, 3) := by decide +kernel
theorem d_Be_copy_35 : decode b_Be_copy 35 = .ok (.iconst 0, 1) := by decide +kernel
theorem d_Be_copy_36 : decode b_Be_copy 36 = .ok (.istore_n 2, 1) := by decide +kernel
theorem d_Be_copy_37 : decode b_Be_copy 37 = .ok (.iload_n 2, 1) := by decide +kernel
theorem d_Be_copy_38 : decode b_Be_copy 38 = .ok (.aload_n 0, 1) := by decide +kernel
theorem d_Be_copy_39 : decode b_Be_copy 39 = .ok (.getfield 11, 3) := by decide +kernel
theorem d_Be_copy_42 : decode b_Be_copy 42 = .ok (.arraylength, 1) := by decide +kernel
theorem d_Be_copy_43 : decode b_Be_copy 43 = .ok (.if_icmp .ge 30, 3) := by decide +kernel
theorem d_Be_copy_46 : decode b_Be_copy 46 = .ok (.iload_n 2, 1) := by decide +kernel
theorem d_Be_copy_47 : decode b_Be_copy 47 = .ok (.aload_n 1, 1) := by decide +kernel
theorem d_Be_copy_48 : decode b_Be_copy 48 = .ok (.getfield 11, 3) := by decide +kernel
theorem d_Be_copy_51 : decode b_Be_copy 51 = .ok (.arraylength, 1) := by decide +kernel
theorem d_Be_copy_52 : decode b_Be_copy 52 = .ok (.if_icmp .ge 21, 3) := by decide +kernel
theorem d_Be_copy_55 : decode b_Be_copy 55 = .ok (.aload_n 0, 1) := by decide +kernel
theorem d_Be_copy_56 : decode b_Be_copy 56 = .ok (.getfield 11, 3) := by decide +kernel
theorem d_Be_copy_59 : decode b_Be_copy 59 = .ok (.iload_n 2, 1) := by decide +kernel
theorem d_Be_copy_60 : decode b_Be_copy 60 = .ok (.aload_n 1, 1) := by decide +kernel
theorem d_Be_copy_61 : decode b_Be_copy 61 = .ok (.getfield 11, 3) := by decide +kernel
theorem d_Be_copy_64 : decode b_Be_copy 64 = .ok (.iload_n 2, 1) := by decide +kernel
theorem d_Be_copy_65 : decode b_Be_copy 65 = .ok (.iaload, 1) := by decide +kernel
theorem d_Be_copy_66 : decode b_Be_copy 66 = .ok (.iastore, 1) := by decide +kernel
theorem d_Be_copy_67 : decode b_Be_copy 67 = .ok (.iinc 2 1, 3) := by decide +kernel
theorem d_Be_copy_70 : decode b_Be_copy 70 = .ok (.goto (-33), 3) := by decide +kernel
theorem d_Be_copy_73 : decode b_Be_copy 73 = .ok (.aload_n 0, 1) := by decide +kernel
theorem d_Be_copy_74 : decode b_Be_copy 74 = .ok (.getfield 18, 3) := by decide +kernel
theorem d_Be_copy_77 : decode b_Be_copy 77 = .ok (.aload_n 1, 1) := by decide +kernel
theorem d_Be_copy_78 : decode b_Be_copy 78 = .ok (.getfield 18, 3) := by decide +kernel
theorem d_Be_copy_81 : decode b_Be_copy 81 = .ok (.invokevirtual 55, 3) := by decide +kernel
theorem d_Be_copy_84 : decode b_Be_copy 84 = .ok (.return_, 1) := by decide +kernel
theorem d_Be_readingAt_0 : decode b_Be_readingAt 0 = .ok (.iload_n 1, 1) := by decide +kernel
theorem d_Be_readingAt_1 : decode b_Be_readingAt 1 = .ok (.ifCond .lt 29, 3) := by decide +kernel
theorem d_Be_readingAt_4 : decode b_Be_readingAt 4 = .ok (.iload_n 1, 1) := by decide +kernel
theorem d_Be_readingAt_5 : decode b_Be_readingAt 5 = .ok (.aload_n 0, 1) := by decide +kernel
theorem d_Be_readingAt_6 : decode b_Be_readingAt 6 = .ok (.getfield 38, 3) := by decide +kernel
theorem d_Be_readingAt_9 : decode b_Be_readingAt 9 = .ok (.if_icmp .ge 21, 3) := by decide +kernel
theorem d_Be_readingAt_12 : decode b_Be_readingAt 12 = .ok (.iload_n 1, 1) := by decide +kernel
theorem d_Be_readingAt_13 : decode b_Be_readingAt 13 = .ok (.aload_n 0, 1) := by decide +kernel
theorem d_Be_readingAt_14 : decode b_Be_readingAt 14 = .ok (.getfield 11, 3) := by decide +kernel
theorem d_Be_readingAt_17 : decode b_Be_readingAt 17 = .ok (.arraylength, 1) := by decide +kernel
theorem d_Be_readingAt_18 : decode b_Be_readingAt 18 = .ok (.if_icmp .ge 12, 3) := by decide +kernel
theorem d_Be_readingAt_21 : decode b_Be_readingAt 21 = .ok (.aload_n 0, 1) := by decide +kernel
theorem d_Be_readingAt_22 : decode b_Be_readingAt 22 = .ok (.getfield 11, 3) := by decide +kernel
theorem d_Be_readingAt_25 : decode b_Be_readingAt 25 = .ok (.iload_n 1, 1) := by decide +kernel
theorem d_Be_readingAt_26 : decode b_Be_readingAt 26 = .ok (.iaload, 1) := by decide +kernel
theorem d_Be_readingAt_27 : decode b_Be_readingAt 27 = .ok (.goto 5, 3) := by decide +kernel
theorem d_Be_readingAt_30 : decode b_Be_readingAt 30 = .ok (.ldc 58, 2) := by decide +kernel
theorem d_Be_readingAt_32 : decode b_Be_readingAt 32 = .ok (.ireturn, 1) := by decide +kernel
theorem d_Be_sumOfReadings_0 : decode b_Be_sumOfReadings 0 = .ok (.lconst 0, 1) := by decide +kernel
theorem d_Be_sumOfReadings_1 : decode b_Be_sumOfReadings 1 = .ok (.lstore_n 1, 1) := by decide +kernel
theorem d_Be_sumOfReadings_2 : decode b_Be_sumOfReadings 2 = .ok (.iconst 0, 1) := by decide +kernel
theorem d_Be_sumOfReadings_3 : decode b_Be_sumOfReadings 3 = .ok (.istore_n 3, 1) := by decide +kernel
theorem d_Be_sumOfReadings_4 : decode b_Be_sumOfReadings 4 = .ok (.iload_n 3, 1) := by decide +kernel
theorem d_Be_sumOfReadings_5 : decode b_Be_sumOfReadings 5 = .ok (.aload_n 0, 1) := by decide +kernel
theorem d_Be_sumOfReadings_6 : decode b_Be_sumOfReadings 6 = .ok (.getfield 38, 3) := by decide +kernel
theorem d_Be_sumOfReadings_9 : decode b_Be_sumOfReadings 9 = .ok (.if_icmp .ge 18, 3) := by decide +kernel
theorem d_Be_sumOfReadings_12 : decode b_Be_sumOfReadings 12 = .ok (.lload_n 1, 1) := by decide +kernel
theorem d_Be_sumOfReadings_13 : decode b_Be_sumOfReadings 13 = .ok (.aload_n 0, 1) := by decide +kernel
theorem d_Be_sumOfReadings_14 : decode b_Be_sumOfReadings 14 = .ok (.iload_n 3, 1) := by decide +kernel
theorem d_Be_sumOfReadings_15 : decode b_Be_sumOfReadings 15 = .ok (.invokevirtual 59, 3) := by decide +kernel
theorem d_Be_sumOfReadings_18 : decode b_Be_sumOfReadings 18 = .ok (.i2l, 1) := by decide +kernel
theorem d_Be_sumOfReadings_19 : decode b_Be_sumOfReadings 19 = .ok (.ladd, 1) := by decide +kernel
theorem d_Be_sumOfReadings_20 : decode b_Be_sumOfReadings 20 = .ok (.lstore_n 1, 1) := by decide +kernel
theorem d_Be_sumOfReadings_21 : decode b_Be_sumOfReadings 21 = .ok (.iinc 3 1, 3) := by decide +kernel
theorem d_Be_sumOfReadings_24 : decode b_Be_sumOfReadings 24 = .ok (.goto (-20), 3) := by decide +kernel
theorem d_Be_sumOfReadings_27 : decode b_Be_sumOfReadings 27 = .ok (.lload_n 1, 1) := by decide +kernel
theorem d_Be_sumOfReadings_28 : decode b_Be_sumOfReadings 28 = .ok (.lreturn, 1) := by decide +kernel
theorem d_Be_spreadOfReadings_0 : decode b_Be_spreadOfReadings 0 = .ok (.aload_n 0, 1) := by decide +kernel
theorem d_Be_spreadOfReadings_1 : decode b_Be_spreadOfReadings 1 = .ok (.getfield 38, 3) := by decide +kernel
theorem d_Be_spreadOfReadings_4 : decode b_Be_spreadOfReadings 4 = .ok (.ifCond .ne 5, 3) := by decide +kernel
theorem d_Be_spreadOfReadings_7 : decode b_Be_spreadOfReadings 7 = .ok (.iconst 0, 1) := by decide +kernel
theorem d_Be_spreadOfReadings_8 : decode b_Be_spreadOfReadings 8 = .ok (.ireturn, 1) := by decide +kernel
theorem d_Be_spreadOfReadings_9 : decode b_Be_spreadOfReadings 9 = .ok (.aload_n 0, 1) := by decide +kernel
theorem d_Be_spreadOfReadings_10 : decode b_Be_spreadOfReadings 10 = .ok (.iconst 0, 1) := by decide +kernel
theorem d_Be_spreadOfReadings_11 : decode b_Be_spreadOfReadings 11 = .ok (.invokevirtual 59, 3) := by decide +kernel
theorem d_Be_spreadOfReadings_14 : decode b_Be_spreadOfReadings 14 = .ok (.istore_n 1, 1) := by decide +kernel
theorem d_Be_spreadOfReadings_15 : decode b_Be_spreadOfReadings 15 = .ok (.iload_n 1, 1) := by decide +kernel
theorem d_Be_spreadOfReadings_16 : decode b_Be_spreadOfReadings 16 = .ok (.istore_n 2, 1) := by decide +kernel
theorem d_Be_spreadOfReadings_17 : decode b_Be_spreadOfReadings 17 = .ok (.iconst 1, 1) := by decide +kernel
theorem d_Be_spreadOfReadings_18 : decode b_Be_spreadOfReadings 18 = .ok (.istore_n 3, 1) := by decide +kernel
theorem d_Be_spreadOfReadings_19 : decode b_Be_spreadOfReadings 19 = .ok (.iload_n 3, 1) := by decide +kernel
theorem d_Be_spreadOfReadings_20 : decode b_Be_spreadOfReadings 20 = .ok (.aload_n 0, 1) := by decide +kernel
theorem d_Be_spreadOfReadings_21 : decode b_Be_spreadOfReadings 21 = .ok (.getfield 38, 3) := by decide +kernel
theorem d_Be_spreadOfReadings_24 : decode b_Be_spreadOfReadings 24 = .ok (.if_icmp .ge 29, 3) := by decide +kernel
theorem d_Be_spreadOfReadings_27 : decode b_Be_spreadOfReadings 27 = .ok (.iload_n 1, 1) := by decide +kernel
theorem d_Be_spreadOfReadings_28 : decode b_Be_spreadOfReadings 28 = .ok (.aload_n 0, 1) := by decide +kernel
theorem d_Be_spreadOfReadings_29 : decode b_Be_spreadOfReadings 29 = .ok (.iload_n 3, 1) := by decide +kernel
theorem d_Be_spreadOfReadings_30 : decode b_Be_spreadOfReadings 30 = .ok (.invokevirtual 59, 3) := by decide +kernel
theorem d_Be_spreadOfReadings_33 : decode b_Be_spreadOfReadings 33 = .ok (.invokestatic 63, 3) := by decide +kernel
theorem d_Be_spreadOfReadings_36 : decode b_Be_spreadOfReadings 36 = .ok (.istore_n 1, 1) := by decide +kernel
theorem d_Be_spreadOfReadings_37 : decode b_Be_spreadOfReadings 37 = .ok (.iload_n 2, 1) := by decide +kernel
theorem d_Be_spreadOfReadings_38 : decode b_Be_spreadOfReadings 38 = .ok (.aload_n 0, 1) := by decide +kernel
theorem d_Be_spreadOfReadings_39 : decode b_Be_spreadOfReadings 39 = .ok (.iload_n 3, 1) := by decide +kernel
theorem d_Be_spreadOfReadings_40 : decode b_Be_spreadOfReadings 40 = .ok (.invokevirtual 59, 3) := by decide +kernel
theorem d_Be_spreadOfReadings_43 : decode b_Be_spreadOfReadings 43 = .ok (.invokestatic 69, 3) := by decide +kernel
theorem d_Be_spreadOfReadings_46 : decode b_Be_spreadOfReadings 46 = .ok (.istore_n 2, 1) := by decide +kernel
theorem d_Be_spreadOfReadings_47 : decode b_Be_spreadOfReadings 47 = .ok (.iinc 3 1, 3) := by decide +kernel
theorem d_Be_spreadOfReadings_50 : decode b_Be_spreadOfReadings 50 = .ok (.goto (-31), 3) := by decide +kernel
theorem d_Be_spreadOfReadings_53 : decode b_Be_spreadOfReadings 53 = .ok (.iload_n 2, 1) := by decide +kernel
theorem d_Be_spreadOfReadings_54 : decode b_Be_spreadOfReadings 54 = .ok (.iload_n 1, 1) := by decide +kernel
theorem d_Be_spreadOfReadings_55 : decode b_Be_spreadOfReadings 55 = .ok (.isub, 1) := by decide +kernel
theorem d_Be_spreadOfReadings_56 : decode b_Be_spreadOfReadings 56 = .ok (.ireturn, 1) := by decide +kernel
theorem d_Be_latestIsNull_0 : decode b_Be_latestIsNull 0 = .ok (.aload_n 0, 1) := by decide +kernel
theorem d_Be_latestIsNull_1 : decode b_Be_latestIsNull 1 = .ok (.getfield 38, 3) := by decide +kernel
theorem d_Be_latestIsNull_4 : decode b_Be_latestIsNull 4 = .ok (.ifCond .le 19, 3) := by decide +kernel
theorem d_Be_latestIsNull_7 : decode b_Be_latestIsNull 7 = .ok (.aload_n 0, 1) := by decide +kernel
theorem d_Be_latestIsNull_8 : decode b_Be_latestIsNull 8 = .ok (.aload_n 0, 1) := by decide +kernel
theorem d_Be_latestIsNull_9 : decode b_Be_latestIsNull 9 = .ok (.iconst 0, 1) := by decide +kernel
theorem d_Be_latestIsNull_10 : decode b_Be_latestIsNull 10 = .ok (.invokevirtual 59, 3) := by decide +kernel
theorem d_Be_latestIsNull_13 : decode b_Be_latestIsNull 13 = .ok (.invokevirtual 72, 3) := by decide +kernel
theorem d_Be_latestIsNull_16 : decode b_Be_latestIsNull 16 = .ok (.ifCond .eq 7, 3) := by decide +kernel
theorem d_Be_latestIsNull_19 : decode b_Be_latestIsNull 19 = .ok (.iconst 1, 1) := by decide +kernel
theorem d_Be_latestIsNull_20 : decode b_Be_latestIsNull 20 = .ok (.goto 4, 3) := by decide +kernel
theorem d_Be_latestIsNull_23 : decode b_Be_latestIsNull 23 = .ok (.iconst 0, 1) := by decide +kernel
theorem d_Be_latestIsNull_24 : decode b_Be_latestIsNull 24 = .ok (.ireturn, 1) := by decide +kernel
theorem d_Be_isNull_0 : decode b_Be_isNull 0 = .ok (.iload_n 1, 1) := by decide +kernel
theorem d_Be_isNull_1 : decode b_Be_isNull 1 = .ok (.aload_n 0, 1) := by decide +kernel
theorem d_Be_isNull_2 : decode b_Be_isNull 2 = .ok (.getfield 22, 3) := by decide +kernel
theorem d_Be_isNull_5 : decode b_Be_isNull 5 = .ok (.getfield 76, 3) := by decide +kernel
theorem d_Be_isNull_8 : decode b_Be_isNull 8 = .ok (.if_icmp .gt 19, 3) := by decide +kernel
theorem d_Be_isNull_11 : decode b_Be_isNull 11 = .ok (.iload_n 1, 1) := by decide +kernel
theorem d_Be_isNull_12 : decode b_Be_isNull 12 = .ok (.aload_n 0, 1) := by decide +kernel
theorem d_Be_isNull_13 : decode b_Be_isNull 13 = .ok (.getfield 22, 3) := by decide +kernel
theorem d_Be_isNull_16 : decode b_Be_isNull 16 = .ok (.getfield 76, 3) := by decide +kernel
theorem d_Be_isNull_19 : decode b_Be_isNull 19 = .ok (.ineg, 1) := by decide +kernel
theorem d_Be_isNull_20 : decode b_Be_isNull 20 = .ok (.if_icmp .lt 7, 3) := by decide +kernel
theorem d_Be_isNull_23 : decode b_Be_isNull 23 = .ok (.iconst 1, 1) := by decide +kernel
theorem d_Be_isNull_24 : decode b_Be_isNull 24 = .ok (.goto 4, 3) := by decide +kernel
theorem d_Be_isNull_27 : decode b_Be_isNull 27 = .ok (.iconst 0, 1) := by decide +kernel
theorem d_Be_isNull_28 : decode b_Be_isNull 28 = .ok (.ireturn, 1) := by decide +kernel
theorem d_Be_makeReading_0 : decode b_Be_makeReading 0 = .ok (.aload_n 0, 1) := by decide +kernel
theorem d_Be_makeReading_1 : decode b_Be_makeReading 1 = .ok (.getfield 31, 3) := by decide +kernel
theorem d_Be_makeReading_4 : decode b_Be_makeReading 4 = .ok (.invokevirtual 81, 3) := by decide +kernel
theorem d_Be_makeReading_7 : decode b_Be_makeReading 7 = .ok (.aload_n 0, 1) := by decide +kernel
theorem d_Be_makeReading_8 : decode b_Be_makeReading 8 = .ok (.getfield 31, 3) := by decide +kernel
theorem d_Be_makeReading_11 : decode b_Be_makeReading 11 = .ok (.getfield 85, 3) := by decide +kernel
theorem d_Be_makeReading_14 : decode b_Be_makeReading 14 = .ok (.i2l, 1) := by decide +kernel
theorem d_Be_makeReading_15 : decode b_Be_makeReading 15 = .ok (.ladd, 1) := by decide +kernel
theorem d_Be_makeReading_16 : decode b_Be_makeReading 16 = .ok (.aload_n 0, 1) := by decide +kernel
theorem d_Be_makeReading_17 : decode b_Be_makeReading 17 = .ok (.getfield 31, 3) := by decide +kernel
theorem d_Be_makeReading_20 : decode b_Be_makeReading 20 = .ok (.iconst 2, 1) := by decide +kernel
theorem d_Be_makeReading_21 : decode b_Be_makeReading 21 = .ok (.aload_n 0, 1) := by decide +kernel
theorem d_Be_makeReading_22 : decode b_Be_makeReading 22 = .ok (.getfield 22, 3) := by decide +kernel
theorem d_Be_makeReading_25 : decode b_Be_makeReading 25 = .ok (.getfield 76, 3) := by decide +kernel
theorem d_Be_makeReading_28 : decode b_Be_makeReading 28 = .ok (.imul, 1) := by decide +kernel
theorem d_Be_makeReading_29 : decode b_Be_makeReading 29 = .ok (.iconst 1, 1) := by decide +kernel
theorem d_Be_makeReading_30 : decode b_Be_makeReading 30 = .ok (.iadd, 1) := by decide +kernel
theorem d_Be_makeReading_31 : decode b_Be_makeReading 31 = .ok (.invokevirtual 88, 3) := by decide +kernel
theorem d_Be_makeReading_34 : decode b_Be_makeReading 34 = .ok (.i2l, 1) := by decide +kernel
theorem d_Be_makeReading_35 : decode b_Be_makeReading 35 = .ok (.ladd, 1) := by decide +kernel
theorem d_Be_makeReading_36 : decode b_Be_makeReading 36 = .ok (.aload_n 0, 1) := by decide +kernel
theorem d_Be_makeReading_37 : decode b_Be_makeReading 37 = .ok (.getfield 22, 3) := by decide +kernel
theorem d_Be_makeReading_40 : decode b_Be_makeReading 40 = .ok (.getfield 76, 3) := by decide +kernel
theorem d_Be_makeReading_43 : decode b_Be_makeReading 43 = .ok (.i2l, 1) := by decide +kernel
theorem d_Be_makeReading_44 : decode b_Be_makeReading 44 = .ok (.lsub, 1) := by decide +kernel
theorem d_Be_makeReading_45 : decode b_Be_makeReading 45 = .ok (.lstore_n 1, 1) := by decide +kernel
theorem d_Be_makeReading_46 : decode b_Be_makeReading 46 = .ok (.lload_n 1, 1) := by decide +kernel
theorem d_Be_makeReading_47 : decode b_Be_makeReading 47 = .ok (.aload_n 0, 1) := by decide +kernel
theorem d_Be_makeReading_48 : decode b_Be_makeReading 48 = .ok (.getfield 22, 3) := by decide +kernel
theorem d_Be_makeReading_51 : decode b_Be_makeReading 51 = .ok (.getfield 91, 3) := by decide +kernel
theorem d_Be_makeReading_54 : decode b_Be_makeReading 54 = .ok (.i2l, 1) := by decide +kernel
theorem d_Be_makeReading_55 : decode b_Be_makeReading 55 = .ok (.lcmp, 1) := by decide +kernel
theorem d_Be_makeReading_56 : decode b_Be_makeReading 56 = .ok (.ifCond .le 12, 3) := by decide +kernel
theorem d_Be_makeReading_59 : decode b_Be_makeReading 59 = .ok (.aload_n 0, 1) := by decide +kernel
theorem d_Be_makeReading_60 : decode b_Be_makeReading 60 = .ok (.getfield 22, 3) := by decide +kernel
theorem d_Be_makeReading_63 : decode b_Be_makeReading 63 = .ok (.getfield 91, 3) := by decide +kernel
theorem d_Be_makeReading_66 : decode b_Be_makeReading 66 = .ok (.i2l, 1) := by decide +kernel
theorem d_Be_makeReading_67 : decode b_Be_makeReading 67 = .ok (.lstore_n 1, 1) := by decide +kernel
theorem d_Be_makeReading_68 : decode b_Be_makeReading 68 = .ok (.lload_n 1, 1) := by decide +kernel
theorem d_Be_makeReading_69 : decode b_Be_makeReading 69 = .ok (.aload_n 0, 1) := by decide +kernel
theorem d_Be_makeReading_70 : decode b_Be_makeReading 70 = .ok (.getfield 22, 3) := by decide +kernel
theorem d_Be_makeReading_73 : decode b_Be_makeReading 73 = .ok (.getfield 91, 3) := by decide +kernel
theorem d_Be_makeReading_76 : decode b_Be_makeReading 76 = .ok (.ineg, 1) := by decide +kernel
theorem d_Be_makeReading_77 : decode b_Be_makeReading 77 = .ok (.i2l, 1) := by decide +kernel
theorem d_Be_makeReading_78 : decode b_Be_makeReading 78 = .ok (.lcmp, 1) := by decide +kernel
theorem d_Be_makeReading_79 : decode b_Be_makeReading 79 = .ok (.ifCond .ge 13, 3) := by decide +kernel
theorem d_Be_makeReading_82 : decode b_Be_makeReading 82 = .ok (.aload_n 0, 1) := by decide +kernel
theorem d_Be_makeReading_83 : decode b_Be_makeReading 83 = .ok (.getfield 22, 3) := by decide +kernel
theorem d_Be_makeReading_86 : decode b_Be_makeReading 86 = .ok (.getfield 91, 3) := by decide +kernel
theorem d_Be_makeReading_89 : decode b_Be_makeReading 89 = .ok (.ineg, 1) := by decide +kernel
theorem d_Be_makeReading_90 : decode b_Be_makeReading 90 = .ok (.i2l, 1) := by decide +kernel
theorem d_Be_makeReading_91 : decode b_Be_makeReading 91 = .ok (.lstore_n 1, 1) := by decide +kernel
theorem d_Be_makeReading_92 : decode b_Be_makeReading 92 = .ok (.lload_n 1, 1) := by decide +kernel
theorem d_Be_makeReading_93 : decode b_Be_makeReading 93 = .ok (.l2i, 1) := by decide +kernel
theorem d_Be_makeReading_94 : decode b_Be_makeReading 94 = .ok (.istore_n 3, 1) := by decide +kernel
theorem d_Be_makeReading_95 : decode b_Be_makeReading 95 = .ok (.aload_n 0, 1) := by decide +kernel
theorem d_Be_makeReading_96 : decode b_Be_makeReading 96 = .ok (.getfield 11, 3) := by decide +kernel
theorem d_Be_makeReading_99 : decode b_Be_makeReading 99 = .ok (.arraylength, 1) := by decide +kernel
theorem d_Be_makeReading_100 : decode b_Be_makeReading 100 = .ok (.iconst 1, 1) := by decide +kernel
theorem d_Be_makeReading_101 : decode b_Be_makeReading 101 = .ok (.isub, 1) := by decide +kernel
theorem d_Be_makeReading_102 : decode b_Be_makeReading 102 = .ok (.istore 4, 2) := by decide +kernel
theorem d_Be_makeReading_104 : decode b_Be_makeReading 104 = .ok (.iload 4, 2) := by decide +kernel
theorem d_Be_makeReading_106 : decode b_Be_makeReading 106 = .ok (.ifCond .le 25, 3) := by decide +kernel
theorem d_Be_makeReading_109 : decode b_Be_makeReading 109 = .ok (.aload_n 0, 1) := by decide +kernel
theorem d_Be_makeReading_110 : decode b_Be_makeReading 110 = .ok (.getfield 11, 3) := by decide +kernel
theorem d_Be_makeReading_113 : decode b_Be_makeReading 113 = .ok (.iload 4, 2) := by decide +kernel
theorem d_Be_makeReading_115 : decode b_Be_makeReading 115 = .ok (.aload_n 0, 1) := by decide +kernel
theorem d_Be_makeReading_116 : decode b_Be_makeReading 116 = .ok (.getfield 11, 3) := by decide +kernel
theorem d_Be_makeReading_119 : decode b_Be_makeReading 119 = .ok (.iload 4, 2) := by decide +kernel
theorem d_Be_makeReading_121 : decode b_Be_makeReading 121 = .ok (.iconst 1, 1) := by decide +kernel
theorem d_Be_makeReading_122 : decode b_Be_makeReading 122 = .ok (.isub, 1) := by decide +kernel
theorem d_Be_makeReading_123 : decode b_Be_makeReading 123 = .ok (.iaload, 1) := by decide +kernel
theorem d_Be_makeReading_124 : decode b_Be_makeReading 124 = .ok (.iastore, 1) := by decide +kernel
theorem d_Be_makeReading_125 : decode b_Be_makeReading 125 = .ok (.iinc 4 (-1), 3) := by decide +kernel
theorem d_Be_makeReading_128 : decode b_Be_makeReading 128 = .ok (.goto (-24), 3) := by decide +kernel
theorem d_Be_makeReading_131 : decode b_Be_makeReading 131 = .ok (.aload_n 0, 1) := by decide +kernel
theorem d_Be_makeReading_132 : decode b_Be_makeReading 132 = .ok (.getfield 11, 3) := by decide +kernel
theorem d_Be_makeReading_135 : decode b_Be_makeReading 135 = .ok (.iconst 0, 1) := by decide +kernel
theorem d_Be_makeReading_136 : decode b_Be_makeReading 136 = .ok (.iload_n 3, 1) := by decide +kernel
theorem d_Be_makeReading_137 : decode b_Be_makeReading 137 = .ok (.iastore, 1) := by decide +kernel
theorem d_Be_makeReading_138 : decode b_Be_makeReading 138 = .ok (.aload_n 0, 1) := by decide +kernel
theorem d_Be_makeReading_139 : decode b_Be_makeReading 139 = .ok (.aload_n 0, 1) := by decide +kernel
theorem d_Be_makeReading_140 : decode b_Be_makeReading 140 = .ok (.getfield 38, 3) := by decide +kernel
theorem d_Be_makeReading_143 : decode b_Be_makeReading 143 = .ok (.bipush 10, 2) := by decide +kernel
theorem d_Be_makeReading_145 : decode b_Be_makeReading 145 = .ok (.if_icmp .ge 12, 3) := by decide +kernel
theorem d_Be_makeReading_148 : decode b_Be_makeReading 148 = .ok (.aload_n 0, 1) := by decide +kernel
theorem d_Be_makeReading_149 : decode b_Be_makeReading 149 = .ok (.getfield 38, 3) := by decide +kernel
theorem d_Be_makeReading_152 : decode b_Be_makeReading 152 = .ok (.iconst 1, 1) := by decide +kernel
theorem d_Be_makeReading_153 : decode b_Be_makeReading 153 = .ok (.iadd, 1) := by decide +kernel
theorem d_Be_makeReading_154 : decode b_Be_makeReading 154 = .ok (.goto 5, 3) := by decide +kernel
theorem d_Be_makeReading_157 : decode b_Be_makeReading 157 = .ok (.bipush 10, 2) := by decide +kernel
theorem d_Be_makeReading_159 : decode b_Be_makeReading 159 = .ok (.putfield 38, 3) := by decide +kernel
theorem d_Be_makeReading_162 : decode b_Be_makeReading 162 = .ok (.aload_n 0, 1) := by decide +kernel
theorem d_Be_makeReading_163 : decode b_Be_makeReading 163 = .ok (.dup, 1) := by decide +kernel
theorem d_Be_makeReading_164 : decode b_Be_makeReading 164 = .ok (.getfield 42, 3) := by decide +kernel
theorem d_Be_makeReading_167 : decode b_Be_makeReading 167 = .ok (.iconst 1, 1) := by decide +kernel
theorem d_Be_makeReading_168 : decode b_Be_makeReading 168 = .ok (.iadd, 1) := by decide +kernel
theorem d_Be_makeReading_169 : decode b_Be_makeReading 169 = .ok (.putfield 42, 3) := by decide +kernel
theorem d_Be_makeReading_172 : decode b_Be_makeReading 172 = .ok (.aload_n 0, 1) := by decide +kernel
theorem d_Be_makeReading_173 : decode b_Be_makeReading 173 = .ok (.iload_n 3, 1) := by decide +kernel
theorem d_Be_makeReading_174 : decode b_Be_makeReading 174 = .ok (.invokevirtual 72, 3) := by decide +kernel
theorem d_Be_makeReading_177 : decode b_Be_makeReading 177 = .ok (.ifCond .eq 13, 3) := by decide +kernel
theorem d_Be_makeReading_180 : decode b_Be_makeReading 180 = .ok (.aload_n 0, 1) := by decide +kernel
theorem d_Be_makeReading_181 : decode b_Be_makeReading 181 = .ok (.dup, 1) := by decide +kernel
theorem d_Be_makeReading_182 : decode b_Be_makeReading 182 = .ok (.getfield 45, 3) := by decide +kernel
theorem d_Be_makeReading_185 : decode b_Be_makeReading 185 = .ok (.iconst 1, 1) := by decide +kernel
theorem d_Be_makeReading_186 : decode b_Be_makeReading 186 = .ok (.iadd, 1) := by decide +kernel
theorem d_Be_makeReading_187 : decode b_Be_makeReading 187 = .ok (.putfield 45, 3) := by decide +kernel
theorem d_Be_makeReading_190 : decode b_Be_makeReading 190 = .ok (.aload_n 0, 1) := by decide +kernel
theorem d_Be_makeReading_191 : decode b_Be_makeReading 191 = .ok (.getfield 31, 3) := by decide +kernel
theorem d_Be_makeReading_194 : decode b_Be_makeReading 194 = .ok (.iconst 1, 1) := by decide +kernel
theorem d_Be_makeReading_195 : decode b_Be_makeReading 195 = .ok (.invokevirtual 94, 3) := by decide +kernel
theorem d_Be_makeReading_198 : decode b_Be_makeReading 198 = .ok (.iload_n 3, 1) := by decide +kernel
theorem d_Be_makeReading_199 : decode b_Be_makeReading 199 = .ok (.ireturn, 1) := by decide +kernel
theorem d_Be_makeReadings_0 : decode b_Be_makeReadings 0 = .ok (.iconst 0, 1) := by decide +kernel
theorem d_Be_makeReadings_1 : decode b_Be_makeReadings 1 = .ok (.istore_n 2, 1) := by decide +kernel
theorem d_Be_makeReadings_2 : decode b_Be_makeReadings 2 = .ok (.iload_n 2, 1) := by decide +kernel
theorem d_Be_makeReadings_3 : decode b_Be_makeReadings 3 = .ok (.iload_n 1, 1) := by decide +kernel
theorem d_Be_makeReadings_4 : decode b_Be_makeReadings 4 = .ok (.if_icmp .ge 26, 3) := by decide +kernel
theorem d_Be_makeReadings_7 : decode b_Be_makeReadings 7 = .ok (.aload_n 0, 1) := by decide +kernel
theorem d_Be_makeReadings_8 : decode b_Be_makeReadings 8 = .ok (.getfield 31, 3) := by decide +kernel
theorem d_Be_makeReadings_11 : decode b_Be_makeReadings 11 = .ok (.invokevirtual 98, 3) := by decide +kernel
theorem d_Be_makeReadings_14 : decode b_Be_makeReadings 14 = .ok (.ifCond .eq 5, 3) := by decide +kernel
theorem d_Be_makeReadings_17 : decode b_Be_makeReadings 17 = .ok (.iconst 0, 1) := by decide +kernel
theorem d_Be_makeReadings_18 : decode b_Be_makeReadings 18 = .ok (.ireturn, 1) := by decide +kernel
theorem d_Be_makeReadings_19 : decode b_Be_makeReadings 19 = .ok (.aload_n 0, 1) := by decide +kernel
theorem d_Be_makeReadings_20 : decode b_Be_makeReadings 20 = .ok (.invokevirtual 102, 3) := by decide +kernel
theorem d_Be_makeReadings_23 : decode b_Be_makeReadings 23 = .ok (.pop, 1) := by decide +kernel
theorem d_Be_makeReadings_24 : decode b_Be_makeReadings 24 = .ok (.iinc 2 1, 3) := by decide +kernel
theorem d_Be_makeReadings_27 : decode b_Be_makeReadings 27 = .ok (.goto (-25), 3) := by decide +kernel
theorem d_Be_makeReadings_30 : decode b_Be_makeReadings 30 = .ok (.iconst 1, 1) := by decide +kernel
theorem d_Be_makeReadings_31 : decode b_Be_makeReadings 31 = .ok (.ireturn, 1) := by decide +kernel
theorem d_Be_passTime_0 : decode b_Be_passTime 0 = .ok (.iconst 0, 1) := by decide +kernel
theorem d_Be_passTime_1 : decode b_Be_passTime 1 = .ok (.istore_n 2, 1) := by decide +kernel
theorem d_Be_passTime_2 : decode b_Be_passTime 2 = .ok (.iload_n 2, 1) := by decide +kernel
theorem d_Be_passTime_3 : decode b_Be_passTime 3 = .ok (.iload_n 1, 1) := by decide +kernel
theorem d_Be_passTime_4 : decode b_Be_passTime 4 = .ok (.if_icmp .ge 17, 3) := by decide +kernel
theorem d_Be_passTime_7 : decode b_Be_passTime 7 = .ok (.aload_n 0, 1) := by decide +kernel
theorem d_Be_passTime_8 : decode b_Be_passTime 8 = .ok (.getfield 31, 3) := by decide +kernel
theorem d_Be_passTime_11 : decode b_Be_passTime 11 = .ok (.iconst 0, 1) := by decide +kernel
theorem d_Be_passTime_12 : decode b_Be_passTime 12 = .ok (.invokevirtual 94, 3) := by decide +kernel
theorem d_Be_passTime_15 : decode b_Be_passTime 15 = .ok (.iinc 2 1, 3) := by decide +kernel
theorem d_Be_passTime_18 : decode b_Be_passTime 18 = .ok (.goto (-16), 3) := by decide +kernel
theorem d_Be_passTime_21 : decode b_Be_passTime 21 = .ok (.return_, 1) := by decide +kernel
theorem d_Be_takeLook_0 : decode b_Be_takeLook 0 = .ok (.aload_n 0, 1) := by decide +kernel
theorem d_Be_takeLook_1 : decode b_Be_takeLook 1 = .ok (.invokevirtual 102, 3) := by decide +kernel
theorem d_Be_takeLook_4 : decode b_Be_takeLook 4 = .ok (.istore_n 2, 1) := by decide +kernel
theorem d_Be_takeLook_5 : decode b_Be_takeLook 5 = .ok (.iload_n 1, 1) := by decide +kernel
theorem d_Be_takeLook_6 : decode b_Be_takeLook 6 = .ok (.ifCond .eq 13, 3) := by decide +kernel
theorem d_Be_takeLook_9 : decode b_Be_takeLook 9 = .ok (.aload_n 0, 1) := by decide +kernel
theorem d_Be_takeLook_10 : decode b_Be_takeLook 10 = .ok (.getfield 31, 3) := by decide +kernel
theorem d_Be_takeLook_13 : decode b_Be_takeLook 13 = .ok (.invokevirtual 98, 3) := by decide +kernel
theorem d_Be_takeLook_16 : decode b_Be_takeLook 16 = .ok (.ifCond .eq 5, 3) := by decide +kernel
theorem d_Be_takeLook_19 : decode b_Be_takeLook 19 = .ok (.iload_n 2, 1) := by decide +kernel
theorem d_Be_takeLook_20 : decode b_Be_takeLook 20 = .ok (.ireturn, 1) := by decide +kernel
theorem d_Be_takeLook_21 : decode b_Be_takeLook 21 = .ok (.aload_n 0, 1) := by decide +kernel
theorem d_Be_takeLook_22 : decode b_Be_takeLook 22 = .ok (.getfield 31, 3) := by decide +kernel
theorem d_Be_takeLook_25 : decode b_Be_takeLook 25 = .ok (.aload_n 0, 1) := by decide +kernel
theorem d_Be_takeLook_26 : decode b_Be_takeLook 26 = .ok (.getfield 31, 3) := by decide +kernel
theorem d_Be_takeLook_29 : decode b_Be_takeLook 29 = .ok (.getfield 105, 3) := by decide +kernel
theorem d_Be_takeLook_32 : decode b_Be_takeLook 32 = .ok (.ifCond .ne 7, 3) := by decide +kernel
theorem d_Be_takeLook_35 : decode b_Be_takeLook 35 = .ok (.iconst 1, 1) := by decide +kernel
theorem d_Be_takeLook_36 : decode b_Be_takeLook 36 = .ok (.goto 4, 3) := by decide +kernel
theorem d_Be_takeLook_39 : decode b_Be_takeLook 39 = .ok (.iconst 0, 1) := by decide +kernel
theorem d_Be_takeLook_40 : decode b_Be_takeLook 40 = .ok (.putfield 105, 3) := by decide +kernel
theorem d_Be_takeLook_43 : decode b_Be_takeLook 43 = .ok (.aload_n 0, 1) := by decide +kernel
theorem d_Be_takeLook_44 : decode b_Be_takeLook 44 = .ok (.invokevirtual 102, 3) := by decide +kernel
theorem d_Be_takeLook_47 : decode b_Be_takeLook 47 = .ok (.istore_n 3, 1) := by decide +kernel
theorem d_Be_takeLook_48 : decode b_Be_takeLook 48 = .ok (.aload_n 0, 1) := by decide +kernel
theorem d_Be_takeLook_49 : decode b_Be_takeLook 49 = .ok (.getfield 31, 3) := by decide +kernel
theorem d_Be_takeLook_52 : decode b_Be_takeLook 52 = .ok (.aload_n 0, 1) := by decide +kernel
theorem d_Be_takeLook_53 : decode b_Be_takeLook 53 = .ok (.getfield 31, 3) := by decide +kernel
theorem d_Be_takeLook_56 : decode b_Be_takeLook 56 = .ok (.getfield 105, 3) := by decide +kernel
theorem d_Be_takeLook_59 : decode b_Be_takeLook 59 = .ok (.ifCond .ne 7, 3) := by decide +kernel
theorem d_Be_takeLook_62 : decode b_Be_takeLook 62 = .ok (.iconst 1, 1) := by decide +kernel
theorem d_Be_takeLook_63 : decode b_Be_takeLook 63 = .ok (.goto 4, 3) := by decide +kernel
theorem d_Be_takeLook_66 : decode b_Be_takeLook 66 = .ok (.iconst 0, 1) := by decide +kernel
theorem d_Be_takeLook_67 : decode b_Be_takeLook 67 = .ok (.putfield 105, 3) := by decide +kernel
theorem d_Be_takeLook_70 : decode b_Be_takeLook 70 = .ok (.iload_n 2, 1) := by decide +kernel
theorem d_Be_takeLook_71 : decode b_Be_takeLook 71 = .ok (.iload_n 3, 1) := by decide +kernel
theorem d_Be_takeLook_72 : decode b_Be_takeLook 72 = .ok (.isub, 1) := by decide +kernel
theorem d_Be_takeLook_73 : decode b_Be_takeLook 73 = .ok (.iconst 2, 1) := by decide +kernel
theorem d_Be_takeLook_74 : decode b_Be_takeLook 74 = .ok (.idiv, 1) := by decide +kernel
theorem d_Be_takeLook_75 : decode b_Be_takeLook 75 = .ok (.ireturn, 1) := by decide +kernel
theorem d_Be_seekBalance_0 : decode b_Be_seekBalance 0 = .ok (.aload_n 0, 1) := by decide +kernel
theorem d_Be_seekBalance_1 : decode b_Be_seekBalance 1 = .ok (.getfield 31, 3) := by decide +kernel
theorem d_Be_seekBalance_4 : decode b_Be_seekBalance 4 = .ok (.iconst 0, 1) := by decide +kernel
theorem d_Be_seekBalance_5 : decode b_Be_seekBalance 5 = .ok (.invokevirtual 109, 3) := by decide +kernel
theorem d_Be_seekBalance_8 : decode b_Be_seekBalance 8 = .ok (.iconst 0, 1) := by decide +kernel
theorem d_Be_seekBalance_9 : decode b_Be_seekBalance 9 = .ok (.istore_n 2, 1) := by decide +kernel
theorem d_Be_seekBalance_10 : decode b_Be_seekBalance 10 = .ok (.iload_n 2, 1) := by decide +kernel
theorem d_Be_seekBalance_11 : decode b_Be_seekBalance 11 = .ok (.aload_n 0, 1) := by decide +kernel
theorem d_Be_seekBalance_12 : decode b_Be_seekBalance 12 = .ok (.getfield 22, 3) := by decide +kernel
theorem d_Be_seekBalance_15 : decode b_Be_seekBalance 15 = .ok (.getfield 113, 3) := by decide +kernel
theorem d_Be_seekBalance_18 : decode b_Be_seekBalance 18 = .ok (.if_icmp .ge 131, 3) := by decide +kernel
theorem d_Be_seekBalance_21 : decode b_Be_seekBalance 21 = .ok (.aload_n 0, 1) := by decide +kernel
theorem d_Be_seekBalance_22 : decode b_Be_seekBalance 22 = .ok (.getfield 22, 3) := by decide +kernel
theorem d_Be_seekBalance_25 : decode b_Be_seekBalance 25 = .ok (.iload_n 2, 1) := by decide +kernel
theorem d_Be_seekBalance_26 : decode b_Be_seekBalance 26 = .ok (.invokevirtual 116, 3) := by decide +kernel
theorem d_Be_seekBalance_29 : decode b_Be_seekBalance 29 = .ok (.istore_n 3, 1) := by decide +kernel
theorem d_Be_seekBalance_30 : decode b_Be_seekBalance 30 = .ok (.iconst 1, 1) := by decide +kernel
theorem d_Be_seekBalance_31 : decode b_Be_seekBalance 31 = .ok (.istore 4, 2) := by decide +kernel
theorem d_Be_seekBalance_33 : decode b_Be_seekBalance 33 = .ok (.iload 4, 2) := by decide +kernel
theorem d_Be_seekBalance_35 : decode b_Be_seekBalance 35 = .ok (.bipush 9, 2) := by decide +kernel
theorem d_Be_seekBalance_37 : decode b_Be_seekBalance 37 = .ok (.if_icmp .gt 106, 3) := by decide +kernel
theorem d_Be_seekBalance_40 : decode b_Be_seekBalance 40 = .ok (.aload_n 0, 1) := by decide +kernel
theorem d_Be_seekBalance_41 : decode b_Be_seekBalance 41 = .ok (.getfield 31, 3) := by decide +kernel
theorem d_Be_seekBalance_44 : decode b_Be_seekBalance 44 = .ok (.aload_n 0, 1) := by decide +kernel
theorem d_Be_seekBalance_45 : decode b_Be_seekBalance 45 = .ok (.getfield 31, 3) := by decide +kernel
theorem d_Be_seekBalance_48 : decode b_Be_seekBalance 48 = .ok (.getfield 119, 3) := by decide +kernel
theorem d_Be_seekBalance_51 : decode b_Be_seekBalance 51 = .ok (.iload_n 3, 1) := by decide +kernel
theorem d_Be_seekBalance_52 : decode b_Be_seekBalance 52 = .ok (.iadd, 1) := by decide +kernel
theorem d_Be_seekBalance_53 : decode b_Be_seekBalance 53 = .ok (.invokevirtual 109, 3) := by decide +kernel
theorem d_Be_seekBalance_56 : decode b_Be_seekBalance 56 = .ok (.aload_n 0, 1) := by decide +kernel
theorem d_Be_seekBalance_57 : decode b_Be_seekBalance 57 = .ok (.getfield 31, 3) := by decide +kernel
theorem d_Be_seekBalance_60 : decode b_Be_seekBalance 60 = .ok (.invokevirtual 98, 3) := by decide +kernel
theorem d_Be_seekBalance_63 : decode b_Be_seekBalance 63 = .ok (.ifCond .eq 5, 3) := by decide +kernel
theorem d_Be_seekBalance_66 : decode b_Be_seekBalance 66 = .ok (.iconst 5, 1) := by decide +kernel
theorem d_Be_seekBalance_67 : decode b_Be_seekBalance 67 = .ok (.ireturn, 1) := by decide +kernel
theorem d_Be_seekBalance_68 : decode b_Be_seekBalance 68 = .ok (.aload_n 0, 1) := by decide +kernel
theorem d_Be_seekBalance_69 : decode b_Be_seekBalance 69 = .ok (.iload_n 1, 1) := by decide +kernel
theorem d_Be_seekBalance_70 : decode b_Be_seekBalance 70 = .ok (.invokevirtual 122, 3) := by decide +kernel
theorem d_Be_seekBalance_73 : decode b_Be_seekBalance 73 = .ok (.istore 5, 2) := by decide +kernel
theorem d_Be_seekBalance_75 : decode b_Be_seekBalance 75 = .ok (.aload_n 0, 1) := by decide +kernel
theorem d_Be_seekBalance_76 : decode b_Be_seekBalance 76 = .ok (.iload 5, 2) := by decide +kernel
theorem d_Be_seekBalance_78 : decode b_Be_seekBalance 78 = .ok (.invokevirtual 72, 3) := by decide +kernel
theorem d_Be_seekBalance_81 : decode b_Be_seekBalance 81 = .ok (.ifCond .eq 17, 3) := by decide +kernel
theorem d_Be_seekBalance_84 : decode b_Be_seekBalance 84 = .ok (.aload_n 0, 1) := by decide +kernel
theorem d_Be_seekBalance_85 : decode b_Be_seekBalance 85 = .ok (.getfield 18, 3) := by decide +kernel
theorem d_Be_seekBalance_88 : decode b_Be_seekBalance 88 = .ok (.aload_n 0, 1) := by decide +kernel
theorem d_Be_seekBalance_89 : decode b_Be_seekBalance 89 = .ok (.getfield 31, 3) := by decide +kernel
theorem d_Be_seekBalance_92 : decode b_Be_seekBalance 92 = .ok (.iconst 1, 1) := by decide +kernel
theorem d_Be_seekBalance_93 : decode b_Be_seekBalance 93 = .ok (.invokevirtual 126, 3) := by decide +kernel
theorem d_Be_seekBalance_96 : decode b_Be_seekBalance 96 = .ok (.iconst 1, 1) := by decide +kernel
theorem d_Be_seekBalance_97 : decode b_Be_seekBalance 97 = .ok (.ireturn, 1) := by decide +kernel
theorem d_Be_seekBalance_98 : decode b_Be_seekBalance 98 = .ok (.iload 5, 2) := by decide +kernel
theorem d_Be_seekBalance_100 : decode b_Be_seekBalance 100 = .ok (.ifCond .le 7, 3) := by decide +kernel
theorem d_Be_seekBalance_103 : decode b_Be_seekBalance 103 = .ok (.iconst 1, 1) := by decide +kernel
theorem d_Be_seekBalance_104 : decode b_Be_seekBalance 104 = .ok (.goto 4, 3) := by decide +kernel
theorem d_Be_seekBalance_107 : decode b_Be_seekBalance 107 = .ok (.iconst 0, 1) := by decide +kernel
theorem d_Be_seekBalance_108 : decode b_Be_seekBalance 108 = .ok (.aload_n 0, 1) := by decide +kernel
theorem d_Be_seekBalance_109 : decode b_Be_seekBalance 109 = .ok (.getfield 31, 3) := by decide +kernel
theorem d_Be_seekBalance_112 : decode b_Be_seekBalance 112 = .ok (.getfield 105, 3) := by decide +kernel
theorem d_Be_seekBalance_115 : decode b_Be_seekBalance 115 = .ok (.if_icmp .ne 22, 3) := by decide +kernel
theorem d_Be_seekBalance_118 : decode b_Be_seekBalance 118 = .ok (.aload_n 0, 1) := by decide +kernel
theorem d_Be_seekBalance_119 : decode b_Be_seekBalance 119 = .ok (.getfield 31, 3) := by decide +kernel
theorem d_Be_seekBalance_122 : decode b_Be_seekBalance 122 = .ok (.aload_n 0, 1) := by decide +kernel
theorem d_Be_seekBalance_123 : decode b_Be_seekBalance 123 = .ok (.getfield 31, 3) := by decide +kernel
theorem d_Be_seekBalance_126 : decode b_Be_seekBalance 126 = .ok (.getfield 119, 3) := by decide +kernel
theorem d_Be_seekBalance_129 : decode b_Be_seekBalance 129 = .ok (.iload_n 3, 1) := by decide +kernel
theorem d_Be_seekBalance_130 : decode b_Be_seekBalance 130 = .ok (.isub, 1) := by decide +kernel
theorem d_Be_seekBalance_131 : decode b_Be_seekBalance 131 = .ok (.invokevirtual 109, 3) := by decide +kernel
theorem d_Be_seekBalance_134 : decode b_Be_seekBalance 134 = .ok (.goto 9, 3) := by decide +kernel
theorem d_Be_seekBalance_137 : decode b_Be_seekBalance 137 = .ok (.iinc 4 1, 3) := by decide +kernel
theorem d_Be_seekBalance_140 : decode b_Be_seekBalance 140 = .ok (.goto (-107), 3) := by decide +kernel
theorem d_Be_seekBalance_143 : decode b_Be_seekBalance 143 = .ok (.iinc 2 1, 3) := by decide +kernel
theorem d_Be_seekBalance_146 : decode b_Be_seekBalance 146 = .ok (.goto (-136), 3) := by decide +kernel
theorem d_Be_seekBalance_149 : decode b_Be_seekBalance 149 = .ok (.aload_n 0, 1) := by decide +kernel
theorem d_Be_seekBalance_150 : decode b_Be_seekBalance 150 = .ok (.getfield 31, 3) := by decide +kernel
theorem d_Be_seekBalance_153 : decode b_Be_seekBalance 153 = .ok (.getfield 119, 3) := by decide +kernel
theorem d_Be_seekBalance_156 : decode b_Be_seekBalance 156 = .ok (.aload_n 0, 1) := by decide +kernel
theorem d_Be_seekBalance_157 : decode b_Be_seekBalance 157 = .ok (.getfield 22, 3) := by decide +kernel
theorem d_Be_seekBalance_160 : decode b_Be_seekBalance 160 = .ok (.invokevirtual 130, 3) := by decide +kernel
theorem d_Be_seekBalance_163 : decode b_Be_seekBalance 163 = .ok (.iconst 1, 1) := by decide +kernel
theorem d_Be_seekBalance_164 : decode b_Be_seekBalance 164 = .ok (.isub, 1) := by decide +kernel
theorem d_Be_seekBalance_165 : decode b_Be_seekBalance 165 = .ok (.if_icmp .ne 5, 3) := by decide +kernel
theorem d_Be_seekBalance_168 : decode b_Be_seekBalance 168 = .ok (.iconst 3, 1) := by decide +kernel
theorem d_Be_seekBalance_169 : decode b_Be_seekBalance 169 = .ok (.ireturn, 1) := by decide +kernel
theorem d_Be_seekBalance_170 : decode b_Be_seekBalance 170 = .ok (.aload_n 0, 1) := by decide +kernel
theorem d_Be_seekBalance_171 : decode b_Be_seekBalance 171 = .ok (.getfield 31, 3) := by decide +kernel
theorem d_Be_seekBalance_174 : decode b_Be_seekBalance 174 = .ok (.getfield 119, 3) := by decide +kernel
theorem d_Be_seekBalance_177 : decode b_Be_seekBalance 177 = .ok (.ifCond .ne 5, 3) := by decide +kernel
theorem d_Be_seekBalance_180 : decode b_Be_seekBalance 180 = .ok (.iconst 4, 1) := by decide +kernel
theorem d_Be_seekBalance_181 : decode b_Be_seekBalance 181 = .ok (.ireturn, 1) := by decide +kernel
theorem d_Be_seekBalance_182 : decode b_Be_seekBalance 182 = .ok (.aload_n 0, 1) := by decide +kernel
theorem d_Be_seekBalance_183 : decode b_Be_seekBalance 183 = .ok (.getfield 18, 3) := by decide +kernel
theorem d_Be_seekBalance_186 : decode b_Be_seekBalance 186 = .ok (.aload_n 0, 1) := by decide +kernel
theorem d_Be_seekBalance_187 : decode b_Be_seekBalance 187 = .ok (.getfield 31, 3) := by decide +kernel
theorem d_Be_seekBalance_190 : decode b_Be_seekBalance 190 = .ok (.iconst 2, 1) := by decide +kernel
theorem d_Be_seekBalance_191 : decode b_Be_seekBalance 191 = .ok (.invokevirtual 126, 3) := by decide +kernel
theorem d_Be_seekBalance_194 : decode b_Be_seekBalance 194 = .ok (.iconst 2, 1) := by decide +kernel
theorem d_Be_seekBalance_195 : decode b_Be_seekBalance 195 = .ok (.ireturn, 1) := by decide +kernel
theorem d_Re_init_0 : decode b_Re_init 0 = .ok (.aload_n 0, 1) := by decide +kernel
theorem d_Re_init_1 : decode b_Re_init 1 = .ok (.invokespecial 3, 3) := by decide +kernel
theorem d_Re_init_4 : decode b_Re_init 4 = .ok (.aload_n 0, 1) := by decide +kernel
theorem d_Re_init_5 : decode b_Re_init 5 = .ok (.sipush 1000, 3) := by decide +kernel
theorem d_Re_init_8 : decode b_Re_init 8 = .ok (.newarray .byte, 2) := by decide +kernel
theorem d_Re_init_10 : decode b_Re_init 10 = .ok (.putfield 11, 3) := by decide +kernel
theorem d_Re_init_13 : decode b_Re_init 13 = .ok (.return_, 1) := by decide +kernel
theorem d_Re_byteAt_0 : decode b_Re_byteAt 0 = .ok (.iload_n 1, 1) := by decide +kernel
theorem d_Re_byteAt_1 : decode b_Re_byteAt 1 = .ok (.ifCond .lt 29, 3) := by decide +kernel
theorem d_Re_byteAt_4 : decode b_Re_byteAt 4 = .ok (.iload_n 1, 1) := by decide +kernel
theorem d_Re_byteAt_5 : decode b_Re_byteAt 5 = .ok (.aload_n 0, 1) := by decide +kernel
theorem d_Re_byteAt_6 : decode b_Re_byteAt 6 = .ok (.getfield 15, 3) := by decide +kernel
theorem d_Re_byteAt_9 : decode b_Re_byteAt 9 = .ok (.if_icmp .ge 21, 3) := by decide +kernel
theorem d_Re_byteAt_12 : decode b_Re_byteAt 12 = .ok (.iload_n 1, 1) := by decide +kernel
theorem d_Re_byteAt_13 : decode b_Re_byteAt 13 = .ok (.aload_n 0, 1) := by decide +kernel
theorem d_Re_byteAt_14 : decode b_Re_byteAt 14 = .ok (.getfield 11, 3) := by decide +kernel
theorem d_Re_byteAt_17 : decode b_Re_byteAt 17 = .ok (.arraylength, 1) := by decide +kernel
theorem d_Re_byteAt_18 : decode b_Re_byteAt 18 = .ok (.if_icmp .ge 12, 3) := by decide +kernel
theorem d_Re_byteAt_21 : decode b_Re_byteAt 21 = .ok (.aload_n 0, 1) := by decide +kernel
theorem d_Re_byteAt_22 : decode b_Re_byteAt 22 = .ok (.getfield 11, 3) := by decide +kernel
theorem d_Re_byteAt_25 : decode b_Re_byteAt 25 = .ok (.iload_n 1, 1) := by decide +kernel
theorem d_Re_byteAt_26 : decode b_Re_byteAt 26 = .ok (.baload, 1) := by decide +kernel
theorem d_Re_byteAt_27 : decode b_Re_byteAt 27 = .ok (.goto 4, 3) := by decide +kernel
theorem d_Re_byteAt_30 : decode b_Re_byteAt 30 = .ok (.iconst (-1), 1) := by decide +kernel
theorem d_Re_byteAt_31 : decode b_Re_byteAt 31 = .ok (.ireturn, 1) := by decide +kernel
theorem d_Re_write_0 : decode b_Re_write 0 = .ok (.aload_n 0, 1) := by decide +kernel
theorem d_Re_write_1 : decode b_Re_write 1 = .ok (.iconst 0, 1) := by decide +kernel
theorem d_Re_write_2 : decode b_Re_write 2 = .ok (.putfield 15, 3) := by decide +kernel
theorem d_Re_write_5 : decode b_Re_write 5 = .ok (.iconst 0, 1) := by decide +kernel
theorem d_Re_write_6 : decode b_Re_write 6 = .ok (.istore_n 3, 1) := by decide +kernel
theorem d_Re_write_7 : decode b_Re_write 7 = .ok (.iload_n 3, 1) := by decide +kernel
theorem d_Re_write_8 : decode b_Re_write 8 = .ok (.aload_n 1, 1) := by decide +kernel
theorem d_Re_write_9 : decode b_Re_write 9 = .ok (.getfield 19, 3) := by decide +kernel
theorem d_Re_write_12 : decode b_Re_write 12 = .ok (.if_icmp .ge 28, 3) := by decide +kernel
theorem d_Re_write_15 : decode b_Re_write 15 = .ok (.aload_n 1, 1) := by decide +kernel
theorem d_Re_write_16 : decode b_Re_write 16 = .ok (.iload_n 3, 1) := by decide +kernel
theorem d_Re_write_17 : decode b_Re_write 17 = .ok (.invokevirtual 24, 3) := by decide +kernel
theorem d_Re_write_20 : decode b_Re_write 20 = .ok (.astore 4, 2) := by decide +kernel
theorem d_Re_write_22 : decode b_Re_write 22 = .ok (.aload 4, 2) := by decide +kernel
theorem d_Re_write_24 : decode b_Re_write 24 = .ok (.ifnull 10, 3) := by decide +kernel
theorem d_Re_write_27 : decode b_Re_write 27 = .ok (.aload_n 0, 1) := by decide +kernel
theorem d_Re_write_28 : decode b_Re_write 28 = .ok (.aload 4, 2) := by decide +kernel
theorem d_Re_write_30 : decode b_Re_write 30 = .ok (.iload_n 2, 1) := by decide +kernel
theorem d_Re_write_31 : decode b_Re_write 31 = .ok (.invokevirtual 28, 3) := by decide +kernel
theorem d_Re_write_34 : decode b_Re_write 34 = .ok (.iinc 3 1, 3) := by decide +kernel
theorem d_Re_write_37 : decode b_Re_write 37 = .ok (.goto (-30), 3) := by decide +kernel
theorem d_Re_write_40 : decode b_Re_write 40 = .ok (.return_, 1) := by decide +kernel
theorem d_Re_addLine_0 : decode b_Re_addLine 0 = .ok (.aload_n 0, 1) := by decide +kernel
theorem d_Re_addLine_1 : decode b_Re_addLine 1 = .ok (.aload_n 1, 1) := by decide +kernel
theorem d_Re_addLine_2 : decode b_Re_addLine 2 = .ok (.getfield 32, 3) := by decide +kernel
theorem d_Re_addLine_5 : decode b_Re_addLine 5 = .ok (.i2l, 1) := by decide +kernel
theorem d_Re_addLine_6 : decode b_Re_addLine 6 = .ok (.iload_n 2, 1) := by decide +kernel
theorem d_Re_addLine_7 : decode b_Re_addLine 7 = .ok (.iconst 1, 1) := by decide +kernel
theorem d_Re_addLine_8 : decode b_Re_addLine 8 = .ok (.isub, 1) := by decide +kernel
theorem d_Re_addLine_9 : decode b_Re_addLine 9 = .ok (.invokestatic 37, 3) := by decide +kernel
theorem d_Re_addLine_12 : decode b_Re_addLine 12 = .ok (.i2l, 1) := by decide +kernel
theorem d_Re_addLine_13 : decode b_Re_addLine 13 = .ok (.invokevirtual 43, 3) := by decide +kernel
theorem d_Re_addLine_16 : decode b_Re_addLine 16 = .ok (.aload_n 0, 1) := by decide +kernel
theorem d_Re_addLine_17 : decode b_Re_addLine 17 = .ok (.bipush 32, 2) := by decide +kernel
theorem d_Re_addLine_19 : decode b_Re_addLine 19 = .ok (.invokevirtual 47, 3) := by decide +kernel
theorem d_Re_addLine_22 : decode b_Re_addLine 22 = .ok (.aload_n 0, 1) := by decide +kernel
theorem d_Re_addLine_23 : decode b_Re_addLine 23 = .ok (.aload_n 1, 1) := by decide +kernel
theorem d_Re_addLine_24 : decode b_Re_addLine 24 = .ok (.getfield 51, 3) := by decide +kernel
theorem d_Re_addLine_27 : decode b_Re_addLine 27 = .ok (.i2l, 1) := by decide +kernel
theorem d_Re_addLine_28 : decode b_Re_addLine 28 = .ok (.lconst 1, 1) := by decide +kernel
theorem d_Re_addLine_29 : decode b_Re_addLine 29 = .ok (.invokevirtual 43, 3) := by decide +kernel
theorem d_Re_addLine_32 : decode b_Re_addLine 32 = .ok (.aload_n 0, 1) := by decide +kernel
theorem d_Re_addLine_33 : decode b_Re_addLine 33 = .ok (.bipush 47, 2) := by decide +kernel
theorem d_Re_addLine_35 : decode b_Re_addLine 35 = .ok (.invokevirtual 47, 3) := by decide +kernel
theorem d_Re_addLine_38 : decode b_Re_addLine 38 = .ok (.aload_n 0, 1) := by decide +kernel
theorem d_Re_addLine_39 : decode b_Re_addLine 39 = .ok (.aload_n 1, 1) := by decide +kernel
theorem d_Re_addLine_40 : decode b_Re_addLine 40 = .ok (.getfield 54, 3) := by decide +kernel
theorem d_Re_addLine_43 : decode b_Re_addLine 43 = .ok (.i2l, 1) := by decide +kernel
theorem d_Re_addLine_44 : decode b_Re_addLine 44 = .ok (.lconst 1, 1) := by decide +kernel
theorem d_Re_addLine_45 : decode b_Re_addLine 45 = .ok (.invokevirtual 43, 3) := by decide +kernel
theorem d_Re_addLine_48 : decode b_Re_addLine 48 = .ok (.aload_n 0, 1) := by decide +kernel
theorem d_Re_addLine_49 : decode b_Re_addLine 49 = .ok (.bipush 32, 2) := by decide +kernel
theorem d_Re_addLine_51 : decode b_Re_addLine 51 = .ok (.invokevirtual 47, 3) := by decide +kernel
theorem d_Re_addLine_54 : decode b_Re_addLine 54 = .ok (.iconst 0, 1) := by decide +kernel
theorem d_Re_addLine_55 : decode b_Re_addLine 55 = .ok (.istore_n 3, 1) := by decide +kernel
theorem d_Re_addLine_56 : decode b_Re_addLine 56 = .ok (.iload_n 3, 1) := by decide +kernel
theorem d_Re_addLine_57 : decode b_Re_addLine 57 = .ok (.aload_n 1, 1) := by decide +kernel
theorem d_Re_addLine_58 : decode b_Re_addLine 58 = .ok (.getfield 57, 3) := by decide +kernel
theorem d_Re_addLine_61 : decode b_Re_addLine 61 = .ok (.if_icmp .ge 15, 3) := by decide +kernel
theorem d_Re_addLine_64 : decode b_Re_addLine 64 = .ok (.aload_n 0, 1) := by decide +kernel
theorem d_Re_addLine_65 : decode b_Re_addLine 65 = .ok (.bipush 119, 2) := by decide +kernel
theorem d_Re_addLine_67 : decode b_Re_addLine 67 = .ok (.invokevirtual 47, 3) := by decide +kernel
theorem d_Re_addLine_70 : decode b_Re_addLine 70 = .ok (.iinc 3 1, 3) := by decide +kernel
theorem d_Re_addLine_73 : decode b_Re_addLine 73 = .ok (.goto (-17), 3) := by decide +kernel
theorem d_Re_addLine_76 : decode b_Re_addLine 76 = .ok (.aload_n 0, 1) := by decide +kernel
theorem d_Re_addLine_77 : decode b_Re_addLine 77 = .ok (.bipush 32, 2) := by decide +kernel
theorem d_Re_addLine_79 : decode b_Re_addLine 79 = .ok (.invokevirtual 47, 3) := by decide +kernel
theorem d_Re_addLine_82 : decode b_Re_addLine 82 = .ok (.aload_n 1, 1) := by decide +kernel
theorem d_Re_addLine_83 : decode b_Re_addLine 83 = .ok (.getfield 60, 3) := by decide +kernel
theorem d_Re_addLine_86 : decode b_Re_addLine 86 = .ok (.lconst 0, 1) := by decide +kernel
theorem d_Re_addLine_87 : decode b_Re_addLine 87 = .ok (.lcmp, 1) := by decide +kernel
theorem d_Re_addLine_88 : decode b_Re_addLine 88 = .ok (.ifCond .ge 9, 3) := by decide +kernel
theorem d_Re_addLine_91 : decode b_Re_addLine 91 = .ok (.aload_n 0, 1) := by decide +kernel
theorem d_Re_addLine_92 : decode b_Re_addLine 92 = .ok (.bipush 45, 2) := by decide +kernel
theorem d_Re_addLine_94 : decode b_Re_addLine 94 = .ok (.invokevirtual 47, 3) := by decide +kernel
theorem d_Re_addLine_97 : decode b_Re_addLine 97 = .ok (.aload_n 0, 1) := by decide +kernel
theorem d_Re_addLine_98 : decode b_Re_addLine 98 = .ok (.aload_n 1, 1) := by decide +kernel
theorem d_Re_addLine_99 : decode b_Re_addLine 99 = .ok (.getfield 60, 3) := by decide +kernel
theorem d_Re_addLine_102 : decode b_Re_addLine 102 = .ok (.invokestatic 64, 3) := by decide +kernel
theorem d_Re_addLine_105 : decode b_Re_addLine 105 = .ok (.lconst 1, 1) := by decide +kernel
theorem d_Re_addLine_106 : decode b_Re_addLine 106 = .ok (.invokevirtual 43, 3) := by decide +kernel
theorem d_Re_addLine_109 : decode b_Re_addLine 109 = .ok (.aload_n 1, 1) := by decide +kernel
theorem d_Re_addLine_110 : decode b_Re_addLine 110 = .ok (.getfield 70, 3) := by decide +kernel
theorem d_Re_addLine_113 : decode b_Re_addLine 113 = .ok (.iconst 1, 1) := by decide +kernel
theorem d_Re_addLine_114 : decode b_Re_addLine 114 = .ok (.if_icmp .ne 9, 3) := by decide +kernel
theorem d_Re_addLine_117 : decode b_Re_addLine 117 = .ok (.aload_n 0, 1) := by decide +kernel
theorem d_Re_addLine_118 : decode b_Re_addLine 118 = .ok (.bipush 42, 2) := by decide +kernel
theorem d_Re_addLine_120 : decode b_Re_addLine 120 = .ok (.invokevirtual 47, 3) := by decide +kernel
theorem d_Re_addLine_123 : decode b_Re_addLine 123 = .ok (.aload_n 0, 1) := by decide +kernel
theorem d_Re_addLine_124 : decode b_Re_addLine 124 = .ok (.bipush 10, 2) := by decide +kernel
theorem d_Re_addLine_126 : decode b_Re_addLine 126 = .ok (.invokevirtual 47, 3) := by decide +kernel
theorem d_Re_addLine_129 : decode b_Re_addLine 129 = .ok (.return_, 1) := by decide +kernel
theorem d_Re_addNumber_0 : decode b_Re_addNumber 0 = .ok (.ldc2_w 75, 3) := by decide +kernel
theorem d_Re_addNumber_3 : decode b_Re_addNumber 3 = .ok (.lstore 5, 2) := by decide +kernel
theorem d_Re_addNumber_5 : decode b_Re_addNumber 5 = .ok (.lload 5, 2) := by decide +kernel
theorem d_Re_addNumber_7 : decode b_Re_addNumber 7 = .ok (.lconst 0, 1) := by decide +kernel
theorem d_Re_addNumber_8 : decode b_Re_addNumber 8 = .ok (.lcmp, 1) := by decide +kernel
theorem d_Re_addNumber_9 : decode b_Re_addNumber 9 = .ok (.ifCond .le 46, 3) := by decide +kernel
theorem d_Re_addNumber_12 : decode b_Re_addNumber 12 = .ok (.lload 5, 2) := by decide +kernel
theorem d_Re_addNumber_14 : decode b_Re_addNumber 14 = .ok (.lload_n 3, 1) := by decide +kernel
theorem d_Re_addNumber_15 : decode b_Re_addNumber 15 = .ok (.lcmp, 1) := by decide +kernel
theorem d_Re_addNumber_16 : decode b_Re_addNumber 16 = .ok (.ifCond .le 10, 3) := by decide +kernel
theorem d_Re_addNumber_19 : decode b_Re_addNumber 19 = .ok (.lload_n 1, 1) := by decide +kernel
theorem d_Re_addNumber_20 : decode b_Re_addNumber 20 = .ok (.lload 5, 2) := by decide +kernel
theorem d_Re_addNumber_22 : decode b_Re_addNumber 22 = .ok (.lcmp, 1) := by decide +kernel
theorem d_Re_addNumber_23 : decode b_Re_addNumber 23 = .ok (.ifCond .lt 21, 3) := by decide +kernel
theorem d_Re_addNumber_26 : decode b_Re_addNumber 26 = .ok (.aload_n 0, 1) := by decide +kernel
theorem d_Re_addNumber_27 : decode b_Re_addNumber 27 = .ok (.ldc2_w 77, 3) := by decide +kernel
theorem d_Re_addNumber_30 : decode b_Re_addNumber 30 = .ok (.lload_n 1, 1) := by decide +kernel
theorem d_Re_addNumber_31 : decode b_Re_addNumber 31 = .ok (.lload 5, 2) := by decide +kernel
theorem d_Re_addNumber_33 : decode b_Re_addNumber 33 = .ok (.ldiv, 1) := by decide +kernel
theorem d_Re_addNumber_34 : decode b_Re_addNumber 34 = .ok (.ldc2_w 79, 3) := by decide +kernel
theorem d_Re_addNumber_37 : decode b_Re_addNumber 37 = .ok (.lrem, 1) := by decide +kernel
theorem d_Re_addNumber_38 : decode b_Re_addNumber 38 = .ok (.ladd, 1) := by decide +kernel
theorem d_Re_addNumber_39 : decode b_Re_addNumber 39 = .ok (.l2i, 1) := by decide +kernel
theorem d_Re_addNumber_40 : decode b_Re_addNumber 40 = .ok (.i2c, 1) := by decide +kernel
theorem d_Re_addNumber_41 : decode b_Re_addNumber 41 = .ok (.invokevirtual 47, 3) := by decide +kernel
theorem d_Re_addNumber_44 : decode b_Re_addNumber 44 = .ok (.lload 5, 2) := by decide +kernel
theorem d_Re_addNumber_46 : decode b_Re_addNumber 46 = .ok (.ldc2_w 79, 3) := by decide +kernel
theorem d_Re_addNumber_49 : decode b_Re_addNumber 49 = .ok (.ldiv, 1) := by decide +kernel
theorem d_Re_addNumber_50 : decode b_Re_addNumber 50 = .ok (.lstore 5, 2) := by decide +kernel
theorem d_Re_addNumber_52 : decode b_Re_addNumber 52 = .ok (.goto (-47), 3) := by decide +kernel
theorem d_Re_addNumber_55 : decode b_Re_addNumber 55 = .ok (.return_, 1) := by decide +kernel
theorem d_Re_addSign_0 : decode b_Re_addSign 0 = .ok (.aload_n 0, 1) := by decide +kernel
theorem d_Re_addSign_1 : decode b_Re_addSign 1 = .ok (.getfield 15, 3) := by decide +kernel
theorem d_Re_addSign_4 : decode b_Re_addSign 4 = .ok (.aload_n 0, 1) := by decide +kernel
theorem d_Re_addSign_5 : decode b_Re_addSign 5 = .ok (.getfield 11, 3) := by decide +kernel
theorem d_Re_addSign_8 : decode b_Re_addSign 8 = .ok (.arraylength, 1) := by decide +kernel
theorem d_Re_addSign_9 : decode b_Re_addSign 9 = .ok (.if_icmp .ge 24, 3) := by decide +kernel
theorem d_Re_addSign_12 : decode b_Re_addSign 12 = .ok (.aload_n 0, 1) := by decide +kernel
theorem d_Re_addSign_13 : decode b_Re_addSign 13 = .ok (.getfield 11, 3) := by decide +kernel
theorem d_Re_addSign_16 : decode b_Re_addSign 16 = .ok (.aload_n 0, 1) := by decide +kernel
theorem d_Re_addSign_17 : decode b_Re_addSign 17 = .ok (.getfield 15, 3) := by decide +kernel
theorem d_Re_addSign_20 : decode b_Re_addSign 20 = .ok (.iload_n 1, 1) := by decide +kernel
theorem d_Re_addSign_21 : decode b_Re_addSign 21 = .ok (.i2b, 1) := by decide +kernel
theorem d_Re_addSign_22 : decode b_Re_addSign 22 = .ok (.bastore, 1) := by decide +kernel
theorem d_Re_addSign_23 : decode b_Re_addSign 23 = .ok (.aload_n 0, 1) := by decide +kernel
theorem d_Re_addSign_24 : decode b_Re_addSign 24 = .ok (.dup, 1) := by decide +kernel
theorem d_Re_addSign_25 : decode b_Re_addSign 25 = .ok (.getfield 15, 3) := by decide +kernel
theorem d_Re_addSign_28 : decode b_Re_addSign 28 = .ok (.iconst 1, 1) := by decide +kernel
theorem d_Re_addSign_29 : decode b_Re_addSign 29 = .ok (.iadd, 1) := by decide +kernel
theorem d_Re_addSign_30 : decode b_Re_addSign 30 = .ok (.putfield 15, 3) := by decide +kernel
theorem d_Re_addSign_33 : decode b_Re_addSign 33 = .ok (.return_, 1) := by decide +kernel
theorem d_Rt_init_0 : decode b_Rt_init 0 = .ok (.aload_n 0, 1) := by decide +kernel
theorem d_Rt_init_1 : decode b_Rt_init 1 = .ok (.invokespecial 1, 3) := by decide +kernel
theorem d_Rt_init_4 : decode b_Rt_init 4 = .ok (.return_, 1) := by decide +kernel
theorem d_Rt_copy_0 : decode b_Rt_copy 0 = .ok (.aload_n 0, 1) := by decide +kernel
theorem d_Rt_copy_1 : decode b_Rt_copy 1 = .ok (.aload_n 1, 1) := by decide +kernel
theorem d_Rt_copy_2 : decode b_Rt_copy 2 = .ok (.getfield 7, 3) := by decide +kernel
theorem d_Rt_copy_5 : decode b_Rt_copy 5 = .ok (.putfield 7, 3) := by decide +kernel
theorem d_Rt_copy_8 : decode b_Rt_copy 8 = .ok (.aload_n 0, 1) := by decide +kernel
theorem d_Rt_copy_9 : decode b_Rt_copy 9 = .ok (.aload_n 1, 1) := by decide +kernel
theorem d_Rt_copy_10 : decode b_Rt_copy 10 = .ok (.getfield 13, 3) := by decide +kernel
theorem d_Rt_copy_13 : decode b_Rt_copy 13 = .ok (.putfield 13, 3) := by decide +kernel
theorem d_Rt_copy_16 : decode b_Rt_copy 16 = .ok (.aload_n 0, 1) := by decide +kernel
theorem d_Rt_copy_17 : decode b_Rt_copy 17 = .ok (.aload_n 1, 1) := by decide +kernel
theorem d_Rt_copy_18 : decode b_Rt_copy 18 = .ok (.getfield 16, 3) := by decide +kernel
theorem d_Rt_copy_21 : decode b_Rt_copy 21 = .ok (.putfield 16, 3) := by decide +kernel
theorem d_Rt_copy_24 : decode b_Rt_copy 24 = .ok (.aload_n 0, 1) := by decide +kernel
theorem d_Rt_copy_25 : decode b_Rt_copy 25 = .ok (.aload_n 1, 1) := by decide +kernel
theorem d_Rt_copy_26 : decode b_Rt_copy 26 = .ok (.getfield 19, 3) := by decide +kernel
theorem d_Rt_copy_29 : decode b_Rt_copy 29 = .ok (.putfield 19, 3) := by decide +kernel
theorem d_Rt_copy_32 : decode b_Rt_copy 32 = .ok (.aload_n 0, 1) := by decide +kernel
theorem d_Rt_copy_33 : decode b_Rt_copy 33 = .ok (.aload_n 1, 1) := by decide +kernel
theorem d_Rt_copy_34 : decode b_Rt_copy 34 = .ok (.getfield 22, 3) := by decide +kernel
theorem d_Rt_copy_37 : decode b_Rt_copy 37 = .ok (.putfield 22, 3) := by decide +kernel
theorem d_Rt_copy_40 : decode b_Rt_copy 40 = .ok (.aload_n 0, 1) := by decide +kernel
theorem d_Rt_copy_41 : decode b_Rt_copy 41 = .ok (.aload_n 1, 1) := by decide +kernel
theorem d_Rt_copy_42 : decode b_Rt_copy 42 = .ok (.getfield 25, 3) := by decide +kernel
theorem d_Rt_copy_45 : decode b_Rt_copy 45 = .ok (.putfield 25, 3) := by decide +kernel
theorem d_Rt_copy_48 : decode b_Rt_copy 48 = .ok (.aload_n 0, 1) := by decide +kernel
theorem d_Rt_copy_49 : decode b_Rt_copy 49 = .ok (.aload_n 1, 1) := by decide +kernel
theorem d_Rt_copy_50 : decode b_Rt_copy 50 = .ok (.getfield 28, 3) := by decide +kernel
theorem d_Rt_copy_53 : decode b_Rt_copy 53 = .ok (.putfield 28, 3) := by decide +kernel
theorem d_Rt_copy_56 : decode b_Rt_copy 56 = .ok (.aload_n 0, 1) := by decide +kernel
theorem d_Rt_copy_57 : decode b_Rt_copy 57 = .ok (.aload_n 1, 1) := by decide +kernel
theorem d_Rt_copy_58 : decode b_Rt_copy 58 = .ok (.getfield 32, 3) := by decide +kernel
theorem d_Rt_copy_61 : decode b_Rt_copy 61 = .ok (.putfield 32, 3) := by decide +kernel
theorem d_Rt_copy_64 : decode b_Rt_copy 64 = .ok (.return_, 1) := by decide +kernel
theorem d_Rt_isAlike_0 : decode b_Rt_isAlike 0 = .ok (.aload_n 0, 1) := by decide +kernel
theorem d_Rt_isAlike_1 : decode b_Rt_isAlike 1 = .ok (.getfield 7, 3) := by decide +kernel
theorem d_Rt_isAlike_4 : decode b_Rt_isAlike 4 = .ok (.aload_n 1, 1) := by decide +kernel
theorem d_Rt_isAlike_5 : decode b_Rt_isAlike 5 = .ok (.getfield 7, 3) := by decide +kernel
theorem d_Rt_isAlike_8 : decode b_Rt_isAlike 8 = .ok (.if_icmp .ne 29, 3) := by decide +kernel
theorem d_Rt_isAlike_11 : decode b_Rt_isAlike 11 = .ok (.aload_n 0, 1) := by decide +kernel
theorem d_Rt_isAlike_12 : decode b_Rt_isAlike 12 = .ok (.getfield 13, 3) := by decide +kernel
theorem d_Rt_isAlike_15 : decode b_Rt_isAlike 15 = .ok (.aload_n 1, 1) := by decide +kernel
theorem d_Rt_isAlike_16 : decode b_Rt_isAlike 16 = .ok (.getfield 13, 3) := by decide +kernel
theorem d_Rt_isAlike_19 : decode b_Rt_isAlike 19 = .ok (.if_icmp .ne 18, 3) := by decide +kernel
theorem d_Rt_isAlike_22 : decode b_Rt_isAlike 22 = .ok (.aload_n 0, 1) := by decide +kernel
theorem d_Rt_isAlike_23 : decode b_Rt_isAlike 23 = .ok (.getfield 16, 3) := by decide +kernel
theorem d_Rt_isAlike_26 : decode b_Rt_isAlike 26 = .ok (.aload_n 1, 1) := by decide +kernel
theorem d_Rt_isAlike_27 : decode b_Rt_isAlike 27 = .ok (.getfield 16, 3) := by decide +kernel
theorem d_Rt_isAlike_30 : decode b_Rt_isAlike 30 = .ok (.if_icmp .ne 7, 3) := by decide +kernel
theorem d_Rt_isAlike_33 : decode b_Rt_isAlike 33 = .ok (.iconst 1, 1) := by decide +kernel
theorem d_Rt_isAlike_34 : decode b_Rt_isAlike 34 = .ok (.goto 4, 3) := by decide +kernel
theorem d_Rt_isAlike_37 : decode b_Rt_isAlike 37 = .ok (.iconst 0, 1) := by decide +kernel
theorem d_Rt_isAlike_38 : decode b_Rt_isAlike 38 = .ok (.ireturn, 1) := by decide +kernel
theorem d_Rs_init_0 : decode b_Rs_init 0 = .ok (.aload_n 0, 1) := by decide +kernel
theorem d_Rs_init_1 : decode b_Rs_init 1 = .ok (.invokespecial 3, 3) := by decide +kernel
theorem d_Rs_init_4 : decode b_Rs_init 4 = .ok (.aload_n 0, 1) := by decide +kernel
theorem d_Rs_init_5 : decode b_Rs_init 5 = .ok (.bipush 20, 2) := by decide +kernel
theorem d_Rs_init_7 : decode b_Rs_init 7 = .ok (.anewarray 11, 3) := by decide +kernel
theorem d_Rs_init_10 : decode b_Rs_init 10 = .ok (.putfield 13, 3) := by decide +kernel
theorem d_Rs_init_13 : decode b_Rs_init 13 = .ok (.iconst 0, 1) := by decide +kernel
theorem d_Rs_init_14 : decode b_Rs_init 14 = .ok (.istore_n 1, 1) := by decide +kernel
theorem d_Rs_init_15 : decode b_Rs_init 15 = .ok (.iload_n 1, 1) := by decide +kernel
theorem d_Rs_init_16 : decode b_Rs_init 16 = .ok (.bipush 20, 2) := by decide +kernel
theorem d_Rs_init_18 : decode b_Rs_init 18 = .ok (.if_icmp .ge 22, 3) := by decide +kernel
theorem d_Rs_init_21 : decode b_Rs_init 21 = .ok (.aload_n 0, 1) := by decide +kernel
theorem d_Rs_init_22 : decode b_Rs_init 22 = .ok (.getfield 13, 3) := by decide +kernel
theorem d_Rs_init_25 : decode b_Rs_init 25 = .ok (.iload_n 1, 1) := by decide +kernel
theorem d_Rs_init_26 : decode b_Rs_init 26 = .ok (.new 11, 3) := by decide +kernel
theorem d_Rs_init_29 : decode b_Rs_init 29 = .ok (.dup, 1) := by decide +kernel
theorem d_Rs_init_30 : decode b_Rs_init 30 = .ok (.invokespecial 17, 3) := by decide +kernel
theorem d_Rs_init_33 : decode b_Rs_init 33 = .ok (.aastore, 1) := by decide +kernel
theorem d_Rs_init_34 : decode b_Rs_init 34 = .ok (.iinc 1 1, 3) := by decide +kernel
theorem d_Rs_init_37 : decode b_Rs_init 37 = .ok (.goto (-22), 3) := by decide +kernel
theorem d_Rs_init_40 : decode b_Rs_init 40 = .ok (.return_, 1) := by decide +kernel
theorem d_Rs_copy_0 : decode b_Rs_copy 0 = .ok (.aload_n 0, 1) := by decide +kernel
theorem d_Rs_copy_1 : decode b_Rs_copy 1 = .ok (.aload_n 1, 1) := by decide +kernel
theorem d_Rs_copy_2 : decode b_Rs_copy 2 = .ok (.getfield 18, 3) := by decide +kernel
theorem d_Rs_copy_5 : decode b_Rs_copy 5 = .ok (.putfield 18, 3) := by decide +kernel
theorem d_Rs_copy_8 : decode b_Rs_copy 8 = .ok (.iconst 0, 1) := by decide +kernel
theorem d_Rs_copy_9 : decode b_Rs_copy 9 = .ok (.istore_n 2, 1) := by decide +kernel
theorem d_Rs_copy_10 : decode b_Rs_copy 10 = .ok (.iload_n 2, 1) := by decide +kernel
theorem d_Rs_copy_11 : decode b_Rs_copy 11 = .ok (.aload_n 0, 1) := by decide +kernel
theorem d_Rs_copy_12 : decode b_Rs_copy 12 = .ok (.getfield 18, 3) := by decide +kernel
theorem d_Rs_copy_15 : decode b_Rs_copy 15 = .ok (.if_icmp .ge 19, 3) := by decide +kernel
theorem d_Rs_copy_18 : decode b_Rs_copy 18 = .ok (.aload_n 0, 1) := by decide +kernel
theorem d_Rs_copy_19 : decode b_Rs_copy 19 = .ok (.iload_n 2, 1) := by decide +kernel
theorem d_Rs_copy_20 : decode b_Rs_copy 20 = .ok (.aload_n 1, 1) := by decide +kernel
theorem d_Rs_copy_21 : decode b_Rs_copy 21 = .ok (.iload_n 2, 1) := by decide +kernel
theorem d_Rs_copy_22 : decode b_Rs_copy 22 = .ok (.invokevirtual 22, 3) := by decide +kernel
theorem d_Rs_copy_25 : decode b_Rs_copy 25 = .ok (.invokevirtual 26, 3) := by decide +kernel
theorem d_Rs_copy_28 : decode b_Rs_copy 28 = .ok (.iinc 2 1, 3) := by decide +kernel
theorem d_Rs_copy_31 : decode b_Rs_copy 31 = .ok (.goto (-21), 3) := by decide +kernel
theorem d_Rs_copy_34 : decode b_Rs_copy 34 = .ok (.return_, 1) := by decide +kernel
theorem d_Rs_at_0 : decode b_Rs_at 0 = .ok (.iload_n 1, 1) := by decide +kernel
theorem d_Rs_at_1 : decode b_Rs_at 1 = .ok (.ifCond .lt 29, 3) := by decide +kernel
theorem d_Rs_at_4 : decode b_Rs_at 4 = .ok (.iload_n 1, 1) := by decide +kernel
theorem d_Rs_at_5 : decode b_Rs_at 5 = .ok (.aload_n 0, 1) := by decide +kernel
theorem d_Rs_at_6 : decode b_Rs_at 6 = .ok (.getfield 18, 3) := by decide +kernel
theorem d_Rs_at_9 : decode b_Rs_at 9 = .ok (.if_icmp .ge 21, 3) := by decide +kernel
theorem d_Rs_at_12 : decode b_Rs_at 12 = .ok (.iload_n 1, 1) := by decide +kernel
theorem d_Rs_at_13 : decode b_Rs_at 13 = .ok (.aload_n 0, 1) := by decide +kernel
theorem d_Rs_at_14 : decode b_Rs_at 14 = .ok (.getfield 13, 3) := by decide +kernel
theorem d_Rs_at_17 : decode b_Rs_at 17 = .ok (.arraylength, 1) := by decide +kernel
theorem d_Rs_at_18 : decode b_Rs_at 18 = .ok (.if_icmp .ge 12, 3) := by decide +kernel
theorem d_Rs_at_21 : decode b_Rs_at 21 = .ok (.aload_n 0, 1) := by decide +kernel
theorem d_Rs_at_22 : decode b_Rs_at 22 = .ok (.getfield 13, 3) := by decide +kernel
theorem d_Rs_at_25 : decode b_Rs_at 25 = .ok (.iload_n 1, 1) := by decide +kernel
theorem d_Rs_at_26 : decode b_Rs_at 26 = .ok (.aaload, 1) := by decide +kernel
theorem d_Rs_at_27 : decode b_Rs_at 27 = .ok (.goto 4, 3) := by decide +kernel
theorem d_Rs_at_30 : decode b_Rs_at 30 = .ok (.aconst_null, 1) := by decide +kernel
theorem d_Rs_at_31 : decode b_Rs_at 31 = .ok (.areturn, 1) := by decide +kernel
theorem d_Rs_copyRow_0 : decode b_Rs_copyRow 0 = .ok (.aload_n 0, 1) := by decide +kernel
theorem d_Rs_copyRow_1 : decode b_Rs_copyRow 1 = .ok (.iload_n 1, 1) := by decide +kernel
theorem d_Rs_copyRow_2 : decode b_Rs_copyRow 2 = .ok (.invokevirtual 22, 3) := by decide +kernel
theorem d_Rs_copyRow_5 : decode b_Rs_copyRow 5 = .ok (.astore_n 3, 1) := by decide +kernel
theorem d_Rs_copyRow_6 : decode b_Rs_copyRow 6 = .ok (.aload_n 3, 1) := by decide +kernel
theorem d_Rs_copyRow_7 : decode b_Rs_copyRow 7 = .ok (.ifnull 12, 3) := by decide +kernel
theorem d_Rs_copyRow_10 : decode b_Rs_copyRow 10 = .ok (.aload_n 2, 1) := by decide +kernel
theorem d_Rs_copyRow_11 : decode b_Rs_copyRow 11 = .ok (.ifnull 8, 3) := by decide +kernel
theorem d_Rs_copyRow_14 : decode b_Rs_copyRow 14 = .ok (.aload_n 3, 1) := by decide +kernel
theorem d_Rs_copyRow_15 : decode b_Rs_copyRow 15 = .ok (.aload_n 2, 1) := by decide +kernel
theorem d_Rs_copyRow_16 : decode b_Rs_copyRow 16 = .ok (.invokevirtual 30, 3) := by decide +kernel
theorem d_Rs_copyRow_19 : decode b_Rs_copyRow 19 = .ok (.return_, 1) := by decide +kernel
theorem d_Rs_add_0 : decode b_Rs_add 0 = .ok (.aload_n 0, 1) := by decide +kernel
theorem d_Rs_add_1 : decode b_Rs_add 1 = .ok (.getfield 18, 3) := by decide +kernel
theorem d_Rs_add_4 : decode b_Rs_add 4 = .ok (.bipush 20, 2) := by decide +kernel
theorem d_Rs_add_6 : decode b_Rs_add 6 = .ok (.if_icmp .ge 16, 3) := by decide +kernel
theorem d_Rs_add_9 : decode b_Rs_add 9 = .ok (.aload_n 0, 1) := by decide +kernel
theorem d_Rs_add_10 : decode b_Rs_add 10 = .ok (.dup, 1) := by decide +kernel
theorem d_Rs_add_11 : decode b_Rs_add 11 = .ok (.getfield 18, 3) := by decide +kernel
theorem d_Rs_add_14 : decode b_Rs_add 14 = .ok (.iconst 1, 1) := by decide +kernel
theorem d_Rs_add_15 : decode b_Rs_add 15 = .ok (.iadd, 1) := by decide +kernel
theorem d_Rs_add_16 : decode b_Rs_add 16 = .ok (.putfield 18, 3) := by decide +kernel
theorem d_Rs_add_19 : decode b_Rs_add 19 = .ok (.goto 33, 3) := by decide +kernel
theorem d_Rs_add_22 : decode b_Rs_add 22 = .ok (.iconst 0, 1) := by decide +kernel
theorem d_Rs_add_23 : decode b_Rs_add 23 = .ok (.istore_n 3, 1) := by decide +kernel
theorem d_Rs_add_24 : decode b_Rs_add 24 = .ok (.iload_n 3, 1) := by decide +kernel
theorem d_Rs_add_25 : decode b_Rs_add 25 = .ok (.iconst 1, 1) := by decide +kernel
theorem d_Rs_add_26 : decode b_Rs_add 26 = .ok (.iadd, 1) := by decide +kernel
theorem d_Rs_add_27 : decode b_Rs_add 27 = .ok (.aload_n 0, 1) := by decide +kernel
theorem d_Rs_add_28 : decode b_Rs_add 28 = .ok (.getfield 18, 3) := by decide +kernel
theorem d_Rs_add_31 : decode b_Rs_add 31 = .ok (.if_icmp .ge 21, 3) := by decide +kernel
theorem d_Rs_add_34 : decode b_Rs_add 34 = .ok (.aload_n 0, 1) := by decide +kernel
theorem d_Rs_add_35 : decode b_Rs_add 35 = .ok (.iload_n 3, 1) := by decide +kernel
theorem d_Rs_add_36 : decode b_Rs_add 36 = .ok (.aload_n 0, 1) := by decide +kernel
theorem d_Rs_add_37 : decode b_Rs_add 37 = .ok (.iload_n 3, 1) := by decide +kernel
theorem d_Rs_add_38 : decode b_Rs_add 38 = .ok (.iconst 1, 1) := by decide +kernel
theorem d_Rs_add_39 : decode b_Rs_add 39 = .ok (.iadd, 1) := by decide +kernel
theorem d_Rs_add_40 : decode b_Rs_add 40 = .ok (.invokevirtual 22, 3) := by decide +kernel
theorem d_Rs_add_43 : decode b_Rs_add 43 = .ok (.invokevirtual 26, 3) := by decide +kernel
theorem d_Rs_add_46 : decode b_Rs_add 46 = .ok (.iinc 3 1, 3) := by decide +kernel
theorem d_Rs_add_49 : decode b_Rs_add 49 = .ok (.goto (-25), 3) := by decide +kernel
theorem d_Rs_add_52 : decode b_Rs_add 52 = .ok (.aload_n 0, 1) := by decide +kernel
theorem d_Rs_add_53 : decode b_Rs_add 53 = .ok (.aload_n 0, 1) := by decide +kernel
theorem d_Rs_add_54 : decode b_Rs_add 54 = .ok (.getfield 18, 3) := by decide +kernel
theorem d_Rs_add_57 : decode b_Rs_add 57 = .ok (.iconst 1, 1) := by decide +kernel
theorem d_Rs_add_58 : decode b_Rs_add 58 = .ok (.isub, 1) := by decide +kernel
theorem d_Rs_add_59 : decode b_Rs_add 59 = .ok (.invokevirtual 22, 3) := by decide +kernel
theorem d_Rs_add_62 : decode b_Rs_add 62 = .ok (.astore_n 3, 1) := by decide +kernel
theorem d_Rs_add_63 : decode b_Rs_add 63 = .ok (.aload_n 3, 1) := by decide +kernel
theorem d_Rs_add_64 : decode b_Rs_add 64 = .ok (.ifnonnull 4, 3) := by decide +kernel
theorem d_Rs_add_67 : decode b_Rs_add 67 = .ok (.return_, 1) := by decide +kernel
theorem d_Rs_add_68 : decode b_Rs_add 68 = .ok (.aload_n 3, 1) := by decide +kernel
theorem d_Rs_add_69 : decode b_Rs_add 69 = .ok (.aload_n 1, 1) := by decide +kernel
theorem d_Rs_add_70 : decode b_Rs_add 70 = .ok (.getfield 34, 3) := by decide +kernel
theorem d_Rs_add_73 : decode b_Rs_add 73 = .ok (.putfield 39, 3) := by decide +kernel
theorem d_Rs_add_76 : decode b_Rs_add 76 = .ok (.aload_n 3, 1) := by decide +kernel
theorem d_Rs_add_77 : decode b_Rs_add 77 = .ok (.aload_n 1, 1) := by decide +kernel
theorem d_Rs_add_78 : decode b_Rs_add 78 = .ok (.getfield 40, 3) := by decide +kernel
theorem d_Rs_add_81 : decode b_Rs_add 81 = .ok (.putfield 43, 3) := by decide +kernel
theorem d_Rs_add_84 : decode b_Rs_add 84 = .ok (.aload_n 3, 1) := by decide +kernel
theorem d_Rs_add_85 : decode b_Rs_add 85 = .ok (.aload_n 1, 1) := by decide +kernel
theorem d_Rs_add_86 : decode b_Rs_add 86 = .ok (.getfield 44, 3) := by decide +kernel
theorem d_Rs_add_89 : decode b_Rs_add 89 = .ok (.putfield 47, 3) := by decide +kernel
theorem d_Rs_add_92 : decode b_Rs_add 92 = .ok (.aload_n 3, 1) := by decide +kernel
theorem d_Rs_add_93 : decode b_Rs_add 93 = .ok (.aload_n 1, 1) := by decide +kernel
theorem d_Rs_add_94 : decode b_Rs_add 94 = .ok (.getfield 48, 3) := by decide +kernel
theorem d_Rs_add_97 : decode b_Rs_add 97 = .ok (.putfield 51, 3) := by decide +kernel
theorem d_Rs_add_100 : decode b_Rs_add 100 = .ok (.aload_n 3, 1) := by decide +kernel
theorem d_Rs_add_101 : decode b_Rs_add 101 = .ok (.aload_n 1, 1) := by decide +kernel
theorem d_Rs_add_102 : decode b_Rs_add 102 = .ok (.getfield 52, 3) := by decide +kernel
theorem d_Rs_add_105 : decode b_Rs_add 105 = .ok (.putfield 55, 3) := by decide +kernel
theorem d_Rs_add_108 : decode b_Rs_add 108 = .ok (.aload_n 3, 1) := by decide +kernel
theorem d_Rs_add_109 : decode b_Rs_add 109 = .ok (.iload_n 2, 1) := by decide +kernel
theorem d_Rs_add_110 : decode b_Rs_add 110 = .ok (.putfield 56, 3) := by decide +kernel
theorem d_Rs_add_113 : decode b_Rs_add 113 = .ok (.aload_n 3, 1) := by decide +kernel
theorem d_Rs_add_114 : decode b_Rs_add 114 = .ok (.aload_n 1, 1) := by decide +kernel
theorem d_Rs_add_115 : decode b_Rs_add 115 = .ok (.invokevirtual 59, 3) := by decide +kernel
theorem d_Rs_add_118 : decode b_Rs_add 118 = .ok (.putfield 63, 3) := by decide +kernel
theorem d_Rs_add_121 : decode b_Rs_add 121 = .ok (.aload_n 3, 1) := by decide +kernel
theorem d_Rs_add_122 : decode b_Rs_add 122 = .ok (.aload_n 1, 1) := by decide +kernel
theorem d_Rs_add_123 : decode b_Rs_add 123 = .ok (.invokevirtual 67, 3) := by decide +kernel
theorem d_Rs_add_126 : decode b_Rs_add 126 = .ok (.putfield 70, 3) := by decide +kernel
theorem d_Rs_add_129 : decode b_Rs_add 129 = .ok (.return_, 1) := by decide +kernel
theorem d_Rs_firstAlike_0 : decode b_Rs_firstAlike 0 = .ok (.aload_n 0, 1) := by decide +kernel
theorem d_Rs_firstAlike_1 : decode b_Rs_firstAlike 1 = .ok (.iload_n 1, 1) := by decide +kernel
theorem d_Rs_firstAlike_2 : decode b_Rs_firstAlike 2 = .ok (.invokevirtual 22, 3) := by decide +kernel
theorem d_Rs_firstAlike_5 : decode b_Rs_firstAlike 5 = .ok (.astore_n 2, 1) := by decide +kernel
theorem d_Rs_firstAlike_6 : decode b_Rs_firstAlike 6 = .ok (.iconst 0, 1) := by decide +kernel
theorem d_Rs_firstAlike_7 : decode b_Rs_firstAlike 7 = .ok (.istore_n 3, 1) := by decide +kernel
theorem d_Rs_firstAlike_8 : decode b_Rs_firstAlike 8 = .ok (.iload_n 3, 1) := by decide +kernel
theorem d_Rs_firstAlike_9 : decode b_Rs_firstAlike 9 = .ok (.iload_n 1, 1) := by decide +kernel
theorem d_Rs_firstAlike_10 : decode b_Rs_firstAlike 10 = .ok (.if_icmp .ge 36, 3) := by decide +kernel
theorem d_Rs_firstAlike_13 : decode b_Rs_firstAlike 13 = .ok (.aload_n 0, 1) := by decide +kernel
theorem d_Rs_firstAlike_14 : decode b_Rs_firstAlike 14 = .ok (.iload_n 3, 1) := by decide +kernel
theorem d_Rs_firstAlike_15 : decode b_Rs_firstAlike 15 = .ok (.invokevirtual 22, 3) := by decide +kernel
theorem d_Rs_firstAlike_18 : decode b_Rs_firstAlike 18 = .ok (.astore 4, 2) := by decide +kernel
theorem d_Rs_firstAlike_20 : decode b_Rs_firstAlike 20 = .ok (.aload_n 2, 1) := by decide +kernel
theorem d_Rs_firstAlike_21 : decode b_Rs_firstAlike 21 = .ok (.ifnull 19, 3) := by decide +kernel
theorem d_Rs_firstAlike_24 : decode b_Rs_firstAlike 24 = .ok (.aload 4, 2) := by decide +kernel
theorem d_Rs_firstAlike_26 : decode b_Rs_firstAlike 26 = .ok (.ifnull 14, 3) := by decide +kernel
theorem d_Rs_firstAlike_29 : decode b_Rs_firstAlike 29 = .ok (.aload_n 2, 1) := by decide +kernel
theorem d_Rs_firstAlike_30 : decode b_Rs_firstAlike 30 = .ok (.aload 4, 2) := by decide +kernel
theorem d_Rs_firstAlike_32 : decode b_Rs_firstAlike 32 = .ok (.invokevirtual 73, 3) := by decide +kernel
theorem d_Rs_firstAlike_35 : decode b_Rs_firstAlike 35 = .ok (.ifCond .eq 5, 3) := by decide +kernel
theorem d_Rs_firstAlike_38 : decode b_Rs_firstAlike 38 = .ok (.iload_n 3, 1) := by decide +kernel
theorem d_Rs_firstAlike_39 : decode b_Rs_firstAlike 39 = .ok (.ireturn, 1) := by decide +kernel
theorem d_Rs_firstAlike_40 : decode b_Rs_firstAlike 40 = .ok (.iinc 3 1, 3) := by decide +kernel
theorem d_Rs_firstAlike_43 : decode b_Rs_firstAlike 43 = .ok (.goto (-35), 3) := by decide +kernel
theorem d_Rs_firstAlike_46 : decode b_Rs_firstAlike 46 = .ok (.iload_n 1, 1) := by decide +kernel
theorem d_Rs_firstAlike_47 : decode b_Rs_firstAlike 47 = .ok (.ireturn, 1) := by decide +kernel
theorem d_Rs_mannersAhead_0 : decode b_Rs_mannersAhead 0 = .ok (.iconst 0, 1) := by decide +kernel
theorem d_Rs_mannersAhead_1 : decode b_Rs_mannersAhead 1 = .ok (.istore_n 2, 1) := by decide +kernel
theorem d_Rs_mannersAhead_2 : decode b_Rs_mannersAhead 2 = .ok (.iconst 0, 1) := by decide +kernel
theorem d_Rs_mannersAhead_3 : decode b_Rs_mannersAhead 3 = .ok (.istore_n 3, 1) := by decide +kernel
theorem d_Rs_mannersAhead_4 : decode b_Rs_mannersAhead 4 = .ok (.iload_n 3, 1) := by decide +kernel
theorem d_Rs_mannersAhead_5 : decode b_Rs_mannersAhead 5 = .ok (.iload_n 1, 1) := by decide +kernel
theorem d_Rs_mannersAhead_6 : decode b_Rs_mannersAhead 6 = .ok (.if_icmp .ge 21, 3) := by decide +kernel
theorem d_Rs_mannersAhead_9 : decode b_Rs_mannersAhead 9 = .ok (.aload_n 0, 1) := by decide +kernel
theorem d_Rs_mannersAhead_10 : decode b_Rs_mannersAhead 10 = .ok (.iload_n 3, 1) := by decide +kernel
theorem d_Rs_mannersAhead_11 : decode b_Rs_mannersAhead 11 = .ok (.invokevirtual 77, 3) := by decide +kernel
theorem d_Rs_mannersAhead_14 : decode b_Rs_mannersAhead 14 = .ok (.iload_n 3, 1) := by decide +kernel
theorem d_Rs_mannersAhead_15 : decode b_Rs_mannersAhead 15 = .ok (.if_icmp .ne 6, 3) := by decide +kernel
theorem d_Rs_mannersAhead_18 : decode b_Rs_mannersAhead 18 = .ok (.iinc 2 1, 3) := by decide +kernel
theorem d_Rs_mannersAhead_21 : decode b_Rs_mannersAhead 21 = .ok (.iinc 3 1, 3) := by decide +kernel
theorem d_Rs_mannersAhead_24 : decode b_Rs_mannersAhead 24 = .ok (.goto (-20), 3) := by decide +kernel
theorem d_Rs_mannersAhead_27 : decode b_Rs_mannersAhead 27 = .ok (.iload_n 2, 1) := by decide +kernel
theorem d_Rs_mannersAhead_28 : decode b_Rs_mannersAhead 28 = .ok (.ireturn, 1) := by decide +kernel
theorem d_Rs_manners_0 : decode b_Rs_manners 0 = .ok (.aload_n 0, 1) := by decide +kernel
theorem d_Rs_manners_1 : decode b_Rs_manners 1 = .ok (.aload_n 0, 1) := by decide +kernel
theorem d_Rs_manners_2 : decode b_Rs_manners 2 = .ok (.getfield 18, 3) := by decide +kernel
theorem d_Rs_manners_5 : decode b_Rs_manners 5 = .ok (.invokevirtual 81, 3) := by decide +kernel
theorem d_Rs_manners_8 : decode b_Rs_manners 8 = .ok (.ireturn, 1) := by decide +kernel
theorem d_Rs_mannerOf_0 : decode b_Rs_mannerOf 0 = .ok (.aload_n 0, 1) := by decide +kernel
theorem d_Rs_mannerOf_1 : decode b_Rs_mannerOf 1 = .ok (.aload_n 0, 1) := by decide +kernel
theorem d_Rs_mannerOf_2 : decode b_Rs_mannerOf 2 = .ok (.iload_n 1, 1) := by decide +kernel
theorem d_Rs_mannerOf_3 : decode b_Rs_mannerOf 3 = .ok (.invokevirtual 77, 3) := by decide +kernel
theorem d_Rs_mannerOf_6 : decode b_Rs_mannerOf 6 = .ok (.invokevirtual 81, 3) := by decide +kernel
theorem d_Rs_mannerOf_9 : decode b_Rs_mannerOf 9 = .ok (.ireturn, 1) := by decide +kernel
theorem d_Rs_gather_0 : decode b_Rs_gather 0 = .ok (.aload_n 0, 1) := by decide +kernel
theorem d_Rs_gather_1 : decode b_Rs_gather 1 = .ok (.iconst 0, 1) := by decide +kernel
theorem d_Rs_gather_2 : decode b_Rs_gather 2 = .ok (.putfield 84, 3) := by decide +kernel
theorem d_Rs_gather_5 : decode b_Rs_gather 5 = .ok (.aload_n 0, 1) := by decide +kernel
theorem d_Rs_gather_6 : decode b_Rs_gather 6 = .ok (.lconst 0, 1) := by decide +kernel
theorem d_Rs_gather_7 : decode b_Rs_gather 7 = .ok (.putfield 87, 3) := by decide +kernel
theorem d_Rs_gather_10 : decode b_Rs_gather 10 = .ok (.iconst 0, 1) := by decide +kernel
theorem d_Rs_gather_11 : decode b_Rs_gather 11 = .ok (.istore_n 2, 1) := by decide +kernel
theorem d_Rs_gather_12 : decode b_Rs_gather 12 = .ok (.iload_n 2, 1) := by decide +kernel
theorem d_Rs_gather_13 : decode b_Rs_gather 13 = .ok (.aload_n 0, 1) := by decide +kernel
theorem d_Rs_gather_14 : decode b_Rs_gather 14 = .ok (.getfield 18, 3) := by decide +kernel
theorem d_Rs_gather_17 : decode b_Rs_gather 17 = .ok (.if_icmp .ge 37, 3) := by decide +kernel
theorem d_Rs_gather_20 : decode b_Rs_gather 20 = .ok (.aload_n 0, 1) := by decide +kernel
theorem d_Rs_gather_21 : decode b_Rs_gather 21 = .ok (.iload_n 2, 1) := by decide +kernel
theorem d_Rs_gather_22 : decode b_Rs_gather 22 = .ok (.invokevirtual 22, 3) := by decide +kernel
theorem d_Rs_gather_25 : decode b_Rs_gather 25 = .ok (.astore_n 3, 1) := by decide +kernel
theorem d_Rs_gather_26 : decode b_Rs_gather 26 = .ok (.aload_n 3, 1) := by decide +kernel
theorem d_Rs_gather_27 : decode b_Rs_gather 27 = .ok (.ifnull 21, 3) := by decide +kernel
theorem d_Rs_gather_30 : decode b_Rs_gather 30 = .ok (.aload_n 0, 1) := by decide +kernel
theorem d_Rs_gather_31 : decode b_Rs_gather 31 = .ok (.iload_n 2, 1) := by decide +kernel
theorem d_Rs_gather_32 : decode b_Rs_gather 32 = .ok (.invokevirtual 90, 3) := by decide +kernel
theorem d_Rs_gather_35 : decode b_Rs_gather 35 = .ok (.iload_n 1, 1) := by decide +kernel
theorem d_Rs_gather_36 : decode b_Rs_gather 36 = .ok (.if_icmp .ne 12, 3) := by decide +kernel
theorem d_Rs_gather_39 : decode b_Rs_gather 39 = .ok (.aload_n 0, 1) := by decide +kernel
theorem d_Rs_gather_40 : decode b_Rs_gather 40 = .ok (.iload_n 2, 1) := by decide +kernel
theorem d_Rs_gather_41 : decode b_Rs_gather 41 = .ok (.aload_n 3, 1) := by decide +kernel
theorem d_Rs_gather_42 : decode b_Rs_gather 42 = .ok (.getfield 70, 3) := by decide +kernel
theorem d_Rs_gather_45 : decode b_Rs_gather 45 = .ok (.invokevirtual 93, 3) := by decide +kernel
theorem d_Rs_gather_48 : decode b_Rs_gather 48 = .ok (.iinc 2 1, 3) := by decide +kernel
theorem d_Rs_gather_51 : decode b_Rs_gather 51 = .ok (.goto (-39), 3) := by decide +kernel
theorem d_Rs_gather_54 : decode b_Rs_gather 54 = .ok (.aload_n 0, 1) := by decide +kernel
theorem d_Rs_gather_55 : decode b_Rs_gather 55 = .ok (.getfield 84, 3) := by decide +kernel
theorem d_Rs_gather_58 : decode b_Rs_gather 58 = .ok (.ifCond .le 7, 3) := by decide +kernel
theorem d_Rs_gather_61 : decode b_Rs_gather 61 = .ok (.iconst 1, 1) := by decide +kernel
theorem d_Rs_gather_62 : decode b_Rs_gather 62 = .ok (.goto 4, 3) := by decide +kernel
theorem d_Rs_gather_65 : decode b_Rs_gather 65 = .ok (.iconst 0, 1) := by decide +kernel
theorem d_Rs_gather_66 : decode b_Rs_gather 66 = .ok (.ireturn, 1) := by decide +kernel
theorem d_Rs_gatherOne_0 : decode b_Rs_gatherOne 0 = .ok (.aload_n 0, 1) := by decide +kernel
theorem d_Rs_gatherOne_1 : decode b_Rs_gatherOne 1 = .ok (.getfield 84, 3) := by decide +kernel
theorem d_Rs_gatherOne_4 : decode b_Rs_gatherOne 4 = .ok (.ifCond .ne 18, 3) := by decide +kernel
theorem d_Rs_gatherOne_7 : decode b_Rs_gatherOne 7 = .ok (.aload_n 0, 1) := by decide +kernel
theorem d_Rs_gatherOne_8 : decode b_Rs_gatherOne 8 = .ok (.iload_n 1, 1) := by decide +kernel
theorem d_Rs_gatherOne_9 : decode b_Rs_gatherOne 9 = .ok (.putfield 97, 3) := by decide +kernel
theorem d_Rs_gatherOne_12 : decode b_Rs_gatherOne 12 = .ok (.aload_n 0, 1) := by decide +kernel
theorem d_Rs_gatherOne_13 : decode b_Rs_gatherOne 13 = .ok (.lload_n 2, 1) := by decide +kernel
theorem d_Rs_gatherOne_14 : decode b_Rs_gatherOne 14 = .ok (.putfield 100, 3) := by decide +kernel
theorem d_Rs_gatherOne_17 : decode b_Rs_gatherOne 17 = .ok (.aload_n 0, 1) := by decide +kernel
theorem d_Rs_gatherOne_18 : decode b_Rs_gatherOne 18 = .ok (.lload_n 2, 1) := by decide +kernel
theorem d_Rs_gatherOne_19 : decode b_Rs_gatherOne 19 = .ok (.putfield 103, 3) := by decide +kernel
theorem d_Rs_gatherOne_22 : decode b_Rs_gatherOne 22 = .ok (.aload_n 0, 1) := by decide +kernel
theorem d_Rs_gatherOne_23 : decode b_Rs_gatherOne 23 = .ok (.iload_n 1, 1) := by decide +kernel
theorem d_Rs_gatherOne_24 : decode b_Rs_gatherOne 24 = .ok (.putfield 106, 3) := by decide +kernel
theorem d_Rs_gatherOne_27 : decode b_Rs_gatherOne 27 = .ok (.aload_n 0, 1) := by decide +kernel
theorem d_Rs_gatherOne_28 : decode b_Rs_gatherOne 28 = .ok (.dup, 1) := by decide +kernel
theorem d_Rs_gatherOne_29 : decode b_Rs_gatherOne 29 = .ok (.getfield 84, 3) := by decide +kernel
theorem d_Rs_gatherOne_32 : decode b_Rs_gatherOne 32 = .ok (.iconst 1, 1) := by decide +kernel
theorem d_Rs_gatherOne_33 : decode b_Rs_gatherOne 33 = .ok (.iadd, 1) := by decide +kernel
theorem d_Rs_gatherOne_34 : decode b_Rs_gatherOne 34 = .ok (.putfield 84, 3) := by decide +kernel
theorem d_Rs_gatherOne_37 : decode b_Rs_gatherOne 37 = .ok (.aload_n 0, 1) := by decide +kernel
theorem d_Rs_gatherOne_38 : decode b_Rs_gatherOne 38 = .ok (.dup, 1) := by decide +kernel
theorem d_Rs_gatherOne_39 : decode b_Rs_gatherOne 39 = .ok (.getfield 87, 3) := by decide +kernel
theorem d_Rs_gatherOne_42 : decode b_Rs_gatherOne 42 = .ok (.lload_n 2, 1) := by decide +kernel
theorem d_Rs_gatherOne_43 : decode b_Rs_gatherOne 43 = .ok (.ladd, 1) := by decide +kernel
theorem d_Rs_gatherOne_44 : decode b_Rs_gatherOne 44 = .ok (.putfield 87, 3) := by decide +kernel
theorem d_Rs_gatherOne_47 : decode b_Rs_gatherOne 47 = .ok (.aload_n 0, 1) := by decide +kernel
theorem d_Rs_gatherOne_48 : decode b_Rs_gatherOne 48 = .ok (.aload_n 0, 1) := by decide +kernel
theorem d_Rs_gatherOne_49 : decode b_Rs_gatherOne 49 = .ok (.getfield 100, 3) := by decide +kernel
theorem d_Rs_gatherOne_52 : decode b_Rs_gatherOne 52 = .ok (.lload_n 2, 1) := by decide +kernel
theorem d_Rs_gatherOne_53 : decode b_Rs_gatherOne 53 = .ok (.invokestatic 109, 3) := by decide +kernel
theorem d_Rs_gatherOne_56 : decode b_Rs_gatherOne 56 = .ok (.putfield 100, 3) := by decide +kernel
theorem d_Rs_gatherOne_59 : decode b_Rs_gatherOne 59 = .ok (.aload_n 0, 1) := by decide +kernel
theorem d_Rs_gatherOne_60 : decode b_Rs_gatherOne 60 = .ok (.aload_n 0, 1) := by decide +kernel
theorem d_Rs_gatherOne_61 : decode b_Rs_gatherOne 61 = .ok (.getfield 103, 3) := by decide +kernel
theorem d_Rs_gatherOne_64 : decode b_Rs_gatherOne 64 = .ok (.lload_n 2, 1) := by decide +kernel
theorem d_Rs_gatherOne_65 : decode b_Rs_gatherOne 65 = .ok (.invokestatic 115, 3) := by decide +kernel
theorem d_Rs_gatherOne_68 : decode b_Rs_gatherOne 68 = .ok (.putfield 103, 3) := by decide +kernel
theorem d_Rs_gatherOne_71 : decode b_Rs_gatherOne 71 = .ok (.return_, 1) := by decide +kernel
theorem d_Rs_steadiestManner_0 : decode b_Rs_steadiestManner 0 = .ok (.iconst (-1), 1) := by decide +kernel
theorem d_Rs_steadiestManner_1 : decode b_Rs_steadiestManner 1 = .ok (.istore_n 1, 1) := by decide +kernel
theorem d_Rs_steadiestManner_2 : decode b_Rs_steadiestManner 2 = .ok (.lconst 0, 1) := by decide +kernel
theorem d_Rs_steadiestManner_3 : decode b_Rs_steadiestManner 3 = .ok (.lstore_n 2, 1) := by decide +kernel
theorem d_Rs_steadiestManner_4 : decode b_Rs_steadiestManner 4 = .ok (.aload_n 0, 1) := by decide +kernel
theorem d_Rs_steadiestManner_5 : decode b_Rs_steadiestManner 5 = .ok (.invokevirtual 118, 3) := by decide +kernel
theorem d_Rs_steadiestManner_8 : decode b_Rs_steadiestManner 8 = .ok (.istore 4, 2) := by decide +kernel
theorem d_Rs_steadiestManner_10 : decode b_Rs_steadiestManner 10 = .ok (.iconst 0, 1) := by decide +kernel
theorem d_Rs_steadiestManner_11 : decode b_Rs_steadiestManner 11 = .ok (.istore 5, 2) := by decide +kernel
theorem d_Rs_steadiestManner_13 : decode b_Rs_steadiestManner 13 = .ok (.iload 5, 2) := by decide +kernel
theorem d_Rs_steadiestManner_15 : decode b_Rs_steadiestManner 15 = .ok (.iload 4, 2) := by decide +kernel
theorem d_Rs_steadiestManner_17 : decode b_Rs_steadiestManner 17 = .ok (.if_icmp .ge 58, 3) := by decide +kernel
theorem d_Rs_steadiestManner_20 : decode b_Rs_steadiestManner 20 = .ok (.aload_n 0, 1) := by decide +kernel
theorem d_Rs_steadiestManner_21 : decode b_Rs_steadiestManner 21 = .ok (.iload 5, 2) := by decide +kernel
theorem d_Rs_steadiestManner_23 : decode b_Rs_steadiestManner 23 = .ok (.invokevirtual 122, 3) := by decide +kernel
theorem d_Rs_steadiestManner_26 : decode b_Rs_steadiestManner 26 = .ok (.ifCond .eq 43, 3) := by decide +kernel
theorem d_Rs_steadiestManner_29 : decode b_Rs_steadiestManner 29 = .ok (.aload_n 0, 1) := by decide +kernel
theorem d_Rs_steadiestManner_30 : decode b_Rs_steadiestManner 30 = .ok (.getfield 84, 3) := by decide +kernel
theorem d_Rs_steadiestManner_33 : decode b_Rs_steadiestManner 33 = .ok (.iconst 2, 1) := by decide +kernel
theorem d_Rs_steadiestManner_34 : decode b_Rs_steadiestManner 34 = .ok (.if_icmp .lt 35, 3) := by decide +kernel
theorem d_Rs_steadiestManner_37 : decode b_Rs_steadiestManner 37 = .ok (.iload_n 1, 1) := by decide +kernel
theorem d_Rs_steadiestManner_38 : decode b_Rs_steadiestManner 38 = .ok (.iconst (-1), 1) := by decide +kernel
theorem d_Rs_steadiestManner_39 : decode b_Rs_steadiestManner 39 = .ok (.if_icmp .eq 17, 3) := by decide +kernel
theorem d_Rs_steadiestManner_42 : decode b_Rs_steadiestManner 42 = .ok (.aload_n 0, 1) := by decide +kernel
theorem d_Rs_steadiestManner_43 : decode b_Rs_steadiestManner 43 = .ok (.getfield 103, 3) := by decide +kernel
theorem d_Rs_steadiestManner_46 : decode b_Rs_steadiestManner 46 = .ok (.aload_n 0, 1) := by decide +kernel
theorem d_Rs_steadiestManner_47 : decode b_Rs_steadiestManner 47 = .ok (.getfield 100, 3) := by decide +kernel
theorem d_Rs_steadiestManner_50 : decode b_Rs_steadiestManner 50 = .ok (.lsub, 1) := by decide +kernel
theorem d_Rs_steadiestManner_51 : decode b_Rs_steadiestManner 51 = .ok (.lload_n 2, 1) := by decide +kernel
theorem d_Rs_steadiestManner_52 : decode b_Rs_steadiestManner 52 = .ok (.lcmp, 1) := by decide +kernel
theorem d_Rs_steadiestManner_53 : decode b_Rs_steadiestManner 53 = .ok (.ifCond .ge 16, 3) := by decide +kernel
theorem d_Rs_steadiestManner_56 : decode b_Rs_steadiestManner 56 = .ok (.iload 5, 2) := by decide +kernel
theorem d_Rs_steadiestManner_58 : decode b_Rs_steadiestManner 58 = .ok (.istore_n 1, 1) := by decide +kernel
theorem d_Rs_steadiestManner_59 : decode b_Rs_steadiestManner 59 = .ok (.aload_n 0, 1) := by decide +kernel
theorem d_Rs_steadiestManner_60 : decode b_Rs_steadiestManner 60 = .ok (.getfield 103, 3) := by decide +kernel
theorem d_Rs_steadiestManner_63 : decode b_Rs_steadiestManner 63 = .ok (.aload_n 0, 1) := by decide +kernel
theorem d_Rs_steadiestManner_64 : decode b_Rs_steadiestManner 64 = .ok (.getfield 100, 3) := by decide +kernel
theorem d_Rs_steadiestManner_67 : decode b_Rs_steadiestManner 67 = .ok (.lsub, 1) := by decide +kernel
theorem d_Rs_steadiestManner_68 : decode b_Rs_steadiestManner 68 = .ok (.lstore_n 2, 1) := by decide +kernel
theorem d_Rs_steadiestManner_69 : decode b_Rs_steadiestManner 69 = .ok (.iinc 5 1, 3) := by decide +kernel
theorem d_Rs_steadiestManner_72 : decode b_Rs_steadiestManner 72 = .ok (.goto (-59), 3) := by decide +kernel
theorem d_Rs_steadiestManner_75 : decode b_Rs_steadiestManner 75 = .ok (.iload_n 1, 1) := by decide +kernel
theorem d_Rs_steadiestManner_76 : decode b_Rs_steadiestManner 76 = .ok (.ireturn, 1) := by decide +kernel
