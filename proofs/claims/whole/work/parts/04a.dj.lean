theorem d_JM_abs_0 : decode b_JM_abs 0 = .ok (.lload_n 0, 1) := by decide +kernel
theorem d_JM_abs_1 : decode b_JM_abs 1 = .ok (.lconst 0, 1) := by decide +kernel
theorem d_JM_abs_2 : decode b_JM_abs 2 = .ok (.lcmp, 1) := by decide +kernel
theorem d_JM_abs_3 : decode b_JM_abs 3 = .ok (.ifCond .ge 8, 3) := by decide +kernel
theorem d_JM_abs_6 : decode b_JM_abs 6 = .ok (.lload_n 0, 1) := by decide +kernel
theorem d_JM_abs_7 : decode b_JM_abs 7 = .ok (.lneg, 1) := by decide +kernel
theorem d_JM_abs_8 : decode b_JM_abs 8 = .ok (.goto 4, 3) := by decide +kernel
theorem d_JM_abs_11 : decode b_JM_abs 11 = .ok (.lload_n 0, 1) := by decide +kernel
theorem d_JM_abs_12 : decode b_JM_abs 12 = .ok (.lreturn, 1) := by decide +kernel
theorem d_JM_max_III_0 : decode b_JM_max_III 0 = .ok (.iload_n 0, 1) := by decide +kernel
theorem d_JM_max_III_1 : decode b_JM_max_III 1 = .ok (.iload_n 1, 1) := by decide +kernel
theorem d_JM_max_III_2 : decode b_JM_max_III 2 = .ok (.if_icmp .lt 7, 3) := by decide +kernel
theorem d_JM_max_III_5 : decode b_JM_max_III 5 = .ok (.iload_n 0, 1) := by decide +kernel
theorem d_JM_max_III_6 : decode b_JM_max_III 6 = .ok (.goto 4, 3) := by decide +kernel
theorem d_JM_max_III_9 : decode b_JM_max_III 9 = .ok (.iload_n 1, 1) := by decide +kernel
theorem d_JM_max_III_10 : decode b_JM_max_III 10 = .ok (.ireturn, 1) := by decide +kernel
theorem d_JM_max_JJJ_0 : decode b_JM_max_JJJ 0 = .ok (.lload_n 0, 1) := by decide +kernel
theorem d_JM_max_JJJ_1 : decode b_JM_max_JJJ 1 = .ok (.lload_n 2, 1) := by decide +kernel
theorem d_JM_max_JJJ_2 : decode b_JM_max_JJJ 2 = .ok (.lcmp, 1) := by decide +kernel
theorem d_JM_max_JJJ_3 : decode b_JM_max_JJJ 3 = .ok (.ifCond .lt 7, 3) := by decide +kernel
theorem d_JM_max_JJJ_6 : decode b_JM_max_JJJ 6 = .ok (.lload_n 0, 1) := by decide +kernel
theorem d_JM_max_JJJ_7 : decode b_JM_max_JJJ 7 = .ok (.goto 4, 3) := by decide +kernel
theorem d_JM_max_JJJ_10 : decode b_JM_max_JJJ 10 = .ok (.lload_n 2, 1) := by decide +kernel
theorem d_JM_max_JJJ_11 : decode b_JM_max_JJJ 11 = .ok (.lreturn, 1) := by decide +kernel
theorem d_JM_min_III_0 : decode b_JM_min_III 0 = .ok (.iload_n 0, 1) := by decide +kernel
theorem d_JM_min_III_1 : decode b_JM_min_III 1 = .ok (.iload_n 1, 1) := by decide +kernel
theorem d_JM_min_III_2 : decode b_JM_min_III 2 = .ok (.if_icmp .gt 7, 3) := by decide +kernel
theorem d_JM_min_III_5 : decode b_JM_min_III 5 = .ok (.iload_n 0, 1) := by decide +kernel
theorem d_JM_min_III_6 : decode b_JM_min_III 6 = .ok (.goto 4, 3) := by decide +kernel
theorem d_JM_min_III_9 : decode b_JM_min_III 9 = .ok (.iload_n 1, 1) := by decide +kernel
theorem d_JM_min_III_10 : decode b_JM_min_III 10 = .ok (.ireturn, 1) := by decide +kernel
theorem d_JM_min_JJJ_0 : decode b_JM_min_JJJ 0 = .ok (.lload_n 0, 1) := by decide +kernel
theorem d_JM_min_JJJ_1 : decode b_JM_min_JJJ 1 = .ok (.lload_n 2, 1) := by decide +kernel
theorem d_JM_min_JJJ_2 : decode b_JM_min_JJJ 2 = .ok (.lcmp, 1) := by decide +kernel
theorem d_JM_min_JJJ_3 : decode b_JM_min_JJJ 3 = .ok (.ifCond .gt 7, 3) := by decide +kernel
theorem d_JM_min_JJJ_6 : decode b_JM_min_JJJ 6 = .ok (.lload_n 0, 1) := by decide +kernel
theorem d_JM_min_JJJ_7 : decode b_JM_min_JJJ 7 = .ok (.goto 4, 3) := by decide +kernel
theorem d_JM_min_JJJ_10 : decode b_JM_min_JJJ 10 = .ok (.lload_n 2, 1) := by decide +kernel
theorem d_JM_min_JJJ_11 : decode b_JM_min_JJJ 11 = .ok (.lreturn, 1) := by decide +kernel
theorem d_JS_length_0 : decode b_JS_length 0 = .ok (.aload_n 0, 1) := by decide +kernel
theorem d_JS_length_1 : decode b_JS_length 1 = .ok (.getfield 9, 3) := by decide +kernel
theorem d_JS_length_4 : decode b_JS_length 4 = .ok (.arraylength, 1) := by decide +kernel
theorem d_JS_length_5 : decode b_JS_length 5 = .ok (.aload_n 0, 1) := by decide +kernel
theorem d_JS_length_6 : decode b_JS_length 6 = .ok (.invokevirtual 335, 3) := by decide +kernel
theorem d_JS_length_9 : decode b_JS_length 9 = .ok (.ishr, 1) := by decide +kernel
theorem d_JS_length_10 : decode b_JS_length 10 = .ok (.ireturn, 1) := by decide +kernel
theorem d_JS_charAt_0 : decode b_JS_charAt 0 = .ok (.aload_n 0, 1) := by decide +kernel
theorem d_JS_charAt_1 : decode b_JS_charAt 1 = .ok (.invokevirtual 492, 3) := by decide +kernel
theorem d_JS_charAt_4 : decode b_JS_charAt 4 = .ok (.ifCond .eq 12, 3) := by decide +kernel
theorem d_JS_charAt_7 : decode b_JS_charAt 7 = .ok (.aload_n 0, 1) := by decide +kernel
theorem d_JS_charAt_8 : decode b_JS_charAt 8 = .ok (.getfield 9, 3) := by decide +kernel
theorem d_JS_charAt_11 : decode b_JS_charAt 11 = .ok (.iload_n 1, 1) := by decide +kernel
theorem d_JS_charAt_12 : decode b_JS_charAt 12 = .ok (.invokestatic 495, 3) := by decide +kernel
theorem d_JS_charAt_15 : decode b_JS_charAt 15 = .ok (.ireturn, 1) := by decide +kernel
theorem d_JS_charAt_16 : decode b_JS_charAt 16 = .ok (.aload_n 0, 1) := by decide +kernel
theorem d_JS_charAt_17 : decode b_JS_charAt 17 = .ok (.getfield 9, 3) := by decide +kernel
theorem d_JS_charAt_20 : decode b_JS_charAt 20 = .ok (.iload_n 1, 1) := by decide +kernel
theorem d_JS_charAt_21 : decode b_JS_charAt 21 = .ok (.invokestatic 498, 3) := by decide +kernel
theorem d_JS_charAt_24 : decode b_JS_charAt 24 = .ok (.ireturn, 1) := by decide +kernel
theorem d_JS_coder_0 : decode b_JS_coder 0 = .ok (.getstatic 38, 3) := by decide +kernel
theorem d_JS_coder_3 : decode b_JS_coder 3 = .ok (.ifCond .eq 10, 3) := by decide +kernel
theorem d_JS_coder_6 : decode b_JS_coder 6 = .ok (.aload_n 0, 1) := by decide +kernel
theorem d_JS_coder_7 : decode b_JS_coder 7 = .ok (.getfield 15, 3) := by decide +kernel
theorem d_JS_coder_10 : decode b_JS_coder 10 = .ok (.goto 4, 3) := by decide +kernel
theorem d_JS_coder_13 : decode b_JS_coder 13 = .ok (.iconst 1, 1) := by decide +kernel
theorem d_JS_coder_14 : decode b_JS_coder 14 = .ok (.ireturn, 1) := by decide +kernel
theorem d_JS_isLatin1_0 : decode b_JS_isLatin1 0 = .ok (.getstatic 38, 3) := by decide +kernel
theorem d_JS_isLatin1_3 : decode b_JS_isLatin1 3 = .ok (.ifCond .eq 14, 3) := by decide +kernel
theorem d_JS_isLatin1_6 : decode b_JS_isLatin1 6 = .ok (.aload_n 0, 1) := by decide +kernel
theorem d_JS_isLatin1_7 : decode b_JS_isLatin1 7 = .ok (.getfield 15, 3) := by decide +kernel
theorem d_JS_isLatin1_10 : decode b_JS_isLatin1 10 = .ok (.ifCond .ne 7, 3) := by decide +kernel
theorem d_JS_isLatin1_13 : decode b_JS_isLatin1 13 = .ok (.iconst 1, 1) := by decide +kernel
theorem d_JS_isLatin1_14 : decode b_JS_isLatin1 14 = .ok (.goto 4, 3) := by decide +kernel
theorem d_JS_isLatin1_17 : decode b_JS_isLatin1 17 = .ok (.iconst 0, 1) := by decide +kernel
theorem d_JS_isLatin1_18 : decode b_JS_isLatin1 18 = .ok (.ireturn, 1) := by decide +kernel
theorem d_JS_checkIndex_0 : decode b_JS_checkIndex 0 = .ok (.iload_n 0, 1) := by decide +kernel
theorem d_JS_checkIndex_1 : decode b_JS_checkIndex 1 = .ok (.iload_n 1, 1) := by decide +kernel
theorem d_JS_checkIndex_2 : decode b_JS_checkIndex 2 = .ok (.getstatic 1053, 3) := by decide +kernel
theorem d_JS_checkIndex_5 : decode b_JS_checkIndex 5 = .ok (.invokestatic 1059, 3) := by decide +kernel
theorem d_JS_checkIndex_8 : decode b_JS_checkIndex 8 = .ok (.pop, 1) := by decide +kernel
theorem d_JS_checkIndex_9 : decode b_JS_checkIndex 9 = .ok (.return_, 1) := by decide +kernel
theorem d_JL_charAt_0 : decode b_JL_charAt 0 = .ok (.iload_n 1, 1) := by decide +kernel
theorem d_JL_charAt_1 : decode b_JL_charAt 1 = .ok (.aload_n 0, 1) := by decide +kernel
theorem d_JL_charAt_2 : decode b_JL_charAt 2 = .ok (.arraylength, 1) := by decide +kernel
theorem d_JL_charAt_3 : decode b_JL_charAt 3 = .ok (.invokestatic 9, 3) := by decide +kernel
theorem d_JL_charAt_6 : decode b_JL_charAt 6 = .ok (.aload_n 0, 1) := by decide +kernel
theorem d_JL_charAt_7 : decode b_JL_charAt 7 = .ok (.iload_n 1, 1) := by decide +kernel
theorem d_JL_charAt_8 : decode b_JL_charAt 8 = .ok (.baload, 1) := by decide +kernel
theorem d_JL_charAt_9 : decode b_JL_charAt 9 = .ok (.sipush 255, 3) := by decide +kernel
theorem d_JL_charAt_12 : decode b_JL_charAt 12 = .ok (.iand, 1) := by decide +kernel
theorem d_JL_charAt_13 : decode b_JL_charAt 13 = .ok (.i2c, 1) := by decide +kernel
theorem d_JL_charAt_14 : decode b_JL_charAt 14 = .ok (.ireturn, 1) := by decide +kernel
theorem d_JU_getChar_0 : decode b_JU_getChar 0 = .ok (.getstatic 44, 3) := by decide +kernel
theorem d_JU_getChar_3 : decode b_JU_getChar 3 = .ok (.ifCond .ne 25, 3) := by decide +kernel
theorem d_JU_getChar_6 : decode b_JU_getChar 6 = .ok (.iload_n 1, 1) := by decide +kernel
theorem d_JU_getChar_7 : decode b_JU_getChar 7 = .ok (.ifCond .lt 11, 3) := by decide +kernel
theorem d_JU_getChar_10 : decode b_JU_getChar 10 = .ok (.iload_n 1, 1) := by decide +kernel
theorem d_JU_getChar_11 : decode b_JU_getChar 11 = .ok (.aload_n 0, 1) := by decide +kernel
theorem d_JU_getChar_12 : decode b_JU_getChar 12 = .ok (.invokestatic 48, 3) := by decide +kernel
theorem d_JU_getChar_15 : decode b_JU_getChar 15 = .ok (.if_icmp .lt 13, 3) := by decide +kernel
theorem d_JU_getChar_18 : decode b_JU_getChar 18 = .ok (.new 52, 3) := by decide +kernel
theorem d_JU_getChar_21 : decode b_JU_getChar 21 = .ok (.dup, 1) := by decide +kernel
theorem d_JU_getChar_22 : decode b_JU_getChar 22 = .ok (.ldc 54, 2) := by decide +kernel
theorem d_JU_getChar_24 : decode b_JU_getChar 24 = .ok (.invokespecial 56, 3) := by decide +kernel
theorem d_JU_getChar_27 : decode b_JU_getChar 27 = .ok (.athrow, 1) := by decide +kernel
theorem d_JU_getChar_28 : decode b_JU_getChar 28 = .ok (.iload_n 1, 1) := by decide +kernel
theorem d_JU_getChar_29 : decode b_JU_getChar 29 = .ok (.iconst 1, 1) := by decide +kernel
theorem d_JU_getChar_30 : decode b_JU_getChar 30 = .ok (.ishl, 1) := by decide +kernel
theorem d_JU_getChar_31 : decode b_JU_getChar 31 = .ok (.istore_n 1, 1) := by decide +kernel
theorem d_JU_getChar_32 : decode b_JU_getChar 32 = .ok (.aload_n 0, 1) := by decide +kernel
theorem d_JU_getChar_33 : decode b_JU_getChar 33 = .ok (.iload_n 1, 1) := by decide +kernel
theorem d_JU_getChar_34 : decode b_JU_getChar 34 = .ok (.iinc 1 1, 3) := by decide +kernel
theorem d_JU_getChar_37 : decode b_JU_getChar 37 = .ok (.baload, 1) := by decide +kernel
theorem d_JU_getChar_38 : decode b_JU_getChar 38 = .ok (.sipush 255, 3) := by decide +kernel
theorem d_JU_getChar_41 : decode b_JU_getChar 41 = .ok (.iand, 1) := by decide +kernel
theorem d_JU_getChar_42 : decode b_JU_getChar 42 = .ok (.getstatic 59, 3) := by decide +kernel
theorem d_JU_getChar_45 : decode b_JU_getChar 45 = .ok (.ishl, 1) := by decide +kernel
theorem d_JU_getChar_46 : decode b_JU_getChar 46 = .ok (.aload_n 0, 1) := by decide +kernel
theorem d_JU_getChar_47 : decode b_JU_getChar 47 = .ok (.iload_n 1, 1) := by decide +kernel
theorem d_JU_getChar_48 : decode b_JU_getChar 48 = .ok (.baload, 1) := by decide +kernel
theorem d_JU_getChar_49 : decode b_JU_getChar 49 = .ok (.sipush 255, 3) := by decide +kernel
theorem d_JU_getChar_52 : decode b_JU_getChar 52 = .ok (.iand, 1) := by decide +kernel
theorem d_JU_getChar_53 : decode b_JU_getChar 53 = .ok (.getstatic 63, 3) := by decide +kernel
theorem d_JU_getChar_56 : decode b_JU_getChar 56 = .ok (.ishl, 1) := by decide +kernel
theorem d_JU_getChar_57 : decode b_JU_getChar 57 = .ok (.ior, 1) := by decide +kernel
theorem d_JU_getChar_58 : decode b_JU_getChar 58 = .ok (.i2c, 1) := by decide +kernel
theorem d_JU_getChar_59 : decode b_JU_getChar 59 = .ok (.ireturn, 1) := by decide +kernel
theorem d_JU_length_0 : decode b_JU_length 0 = .ok (.aload_n 0, 1) := by decide +kernel
theorem d_JU_length_1 : decode b_JU_length 1 = .ok (.arraylength, 1) := by decide +kernel
theorem d_JU_length_2 : decode b_JU_length 2 = .ok (.iconst 1, 1) := by decide +kernel
theorem d_JU_length_3 : decode b_JU_length 3 = .ok (.ishr, 1) := by decide +kernel
theorem d_JU_length_4 : decode b_JU_length 4 = .ok (.ireturn, 1) := by decide +kernel
theorem d_JU_charAt_0 : decode b_JU_charAt 0 = .ok (.iload_n 1, 1) := by decide +kernel
theorem d_JU_charAt_1 : decode b_JU_charAt 1 = .ok (.aload_n 0, 1) := by decide +kernel
theorem d_JU_charAt_2 : decode b_JU_charAt 2 = .ok (.invokestatic 67, 3) := by decide +kernel
theorem d_JU_charAt_5 : decode b_JU_charAt 5 = .ok (.aload_n 0, 1) := by decide +kernel
theorem d_JU_charAt_6 : decode b_JU_charAt 6 = .ok (.iload_n 1, 1) := by decide +kernel
theorem d_JU_charAt_7 : decode b_JU_charAt 7 = .ok (.invokestatic 71, 3) := by decide +kernel
theorem d_JU_charAt_10 : decode b_JU_charAt 10 = .ok (.ireturn, 1) := by decide +kernel
theorem d_JU_checkIndex_0 : decode b_JU_checkIndex 0 = .ok (.iload_n 0, 1) := by decide +kernel
theorem d_JU_checkIndex_1 : decode b_JU_checkIndex 1 = .ok (.aload_n 1, 1) := by decide +kernel
theorem d_JU_checkIndex_2 : decode b_JU_checkIndex 2 = .ok (.invokestatic 48, 3) := by decide +kernel
theorem d_JU_checkIndex_5 : decode b_JU_checkIndex 5 = .ok (.invokestatic 414, 3) := by decide +kernel
theorem d_JU_checkIndex_8 : decode b_JU_checkIndex 8 = .ok (.return_, 1) := by decide +kernel
theorem d_JP_checkIndex_0 : decode b_JP_checkIndex 0 = .ok (.iload_n 0, 1) := by decide +kernel
theorem d_JP_checkIndex_1 : decode b_JP_checkIndex 1 = .ok (.ifCond .lt 8, 3) := by decide +kernel
theorem d_JP_checkIndex_4 : decode b_JP_checkIndex 4 = .ok (.iload_n 0, 1) := by decide +kernel
theorem d_JP_checkIndex_5 : decode b_JP_checkIndex 5 = .ok (.iload_n 1, 1) := by decide +kernel
theorem d_JP_checkIndex_6 : decode b_JP_checkIndex 6 = .ok (.if_icmp .lt 10, 3) := by decide +kernel
theorem d_JP_checkIndex_9 : decode b_JP_checkIndex 9 = .ok (.aload_n 2, 1) := by decide +kernel
theorem d_JP_checkIndex_10 : decode b_JP_checkIndex 10 = .ok (.iload_n 0, 1) := by decide +kernel
theorem d_JP_checkIndex_11 : decode b_JP_checkIndex 11 = .ok (.iload_n 1, 1) := by decide +kernel
theorem d_JP_checkIndex_12 : decode b_JP_checkIndex 12 = .ok (.invokestatic 95, 3) := by decide +kernel
theorem d_JP_checkIndex_15 : decode b_JP_checkIndex 15 = .ok (.athrow, 1) := by decide +kernel
theorem d_JP_checkIndex_16 : decode b_JP_checkIndex 16 = .ok (.iload_n 0, 1) := by decide +kernel
theorem d_JP_checkIndex_17 : decode b_JP_checkIndex 17 = .ok (.ireturn, 1) := by decide +kernel
