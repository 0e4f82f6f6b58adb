theorem d_Ci_init_0 : decode b_Ci_init 0 = .ok (.aload_n 0, 1) := by decide +kernel
theorem d_Ci_init_1 : decode b_Ci_init 1 = .ok (.invokespecial 1, 3) := by decide +kernel
theorem d_Ci_init_4 : decode b_Ci_init 4 = .ok (.aload_n 0, 1) := by decide +kernel
theorem d_Ci_init_5 : decode b_Ci_init 5 = .ok (.aload_n 1, 1) := by decide +kernel
theorem d_Ci_init_6 : decode b_Ci_init 6 = .ok (.putfield 7, 3) := by decide +kernel
theorem d_Ci_init_9 : decode b_Ci_init 9 = .ok (.aload_n 0, 1) := by decide +kernel
theorem d_Ci_init_10 : decode b_Ci_init 10 = .ok (.invokevirtual 13, 3) := by decide +kernel
theorem d_Ci_init_13 : decode b_Ci_init 13 = .ok (.return_, 1) := by decide +kernel
theorem d_Ci_reset_0 : decode b_Ci_reset 0 = .ok (.aload_n 0, 1) := by decide +kernel
theorem d_Ci_reset_1 : decode b_Ci_reset 1 = .ok (.aload_n 0, 1) := by decide +kernel
theorem d_Ci_reset_2 : decode b_Ci_reset 2 = .ok (.getfield 7, 3) := by decide +kernel
theorem d_Ci_reset_5 : decode b_Ci_reset 5 = .ok (.getfield 16, 3) := by decide +kernel
theorem d_Ci_reset_8 : decode b_Ci_reset 8 = .ok (.putfield 22, 3) := by decide +kernel
theorem d_Ci_reset_11 : decode b_Ci_reset 11 = .ok (.aload_n 0, 1) := by decide +kernel
theorem d_Ci_reset_12 : decode b_Ci_reset 12 = .ok (.iconst 0, 1) := by decide +kernel
theorem d_Ci_reset_13 : decode b_Ci_reset 13 = .ok (.putfield 23, 3) := by decide +kernel
theorem d_Ci_reset_16 : decode b_Ci_reset 16 = .ok (.aload_n 0, 1) := by decide +kernel
theorem d_Ci_reset_17 : decode b_Ci_reset 17 = .ok (.iconst 0, 1) := by decide +kernel
theorem d_Ci_reset_18 : decode b_Ci_reset 18 = .ok (.putfield 27, 3) := by decide +kernel
theorem d_Ci_reset_21 : decode b_Ci_reset 21 = .ok (.aload_n 0, 1) := by decide +kernel
theorem d_Ci_reset_22 : decode b_Ci_reset 22 = .ok (.iconst 0, 1) := by decide +kernel
theorem d_Ci_reset_23 : decode b_Ci_reset 23 = .ok (.putfield 30, 3) := by decide +kernel
theorem d_Ci_reset_26 : decode b_Ci_reset 26 = .ok (.aload_n 0, 1) := by decide +kernel
theorem d_Ci_reset_27 : decode b_Ci_reset 27 = .ok (.aload_n 0, 1) := by decide +kernel
theorem d_Ci_reset_28 : decode b_Ci_reset 28 = .ok (.getfield 7, 3) := by decide +kernel
theorem d_Ci_reset_31 : decode b_Ci_reset 31 = .ok (.getfield 33, 3) := by decide +kernel
theorem d_Ci_reset_34 : decode b_Ci_reset 34 = .ok (.putfield 36, 3) := by decide +kernel
theorem d_Ci_reset_37 : decode b_Ci_reset 37 = .ok (.aload_n 0, 1) := by decide +kernel
theorem d_Ci_reset_38 : decode b_Ci_reset 38 = .ok (.iconst 0, 1) := by decide +kernel
theorem d_Ci_reset_39 : decode b_Ci_reset 39 = .ok (.putfield 37, 3) := by decide +kernel
theorem d_Ci_reset_42 : decode b_Ci_reset 42 = .ok (.aload_n 0, 1) := by decide +kernel
theorem d_Ci_reset_43 : decode b_Ci_reset 43 = .ok (.aload_n 0, 1) := by decide +kernel
theorem d_Ci_reset_44 : decode b_Ci_reset 44 = .ok (.getfield 7, 3) := by decide +kernel
theorem d_Ci_reset_47 : decode b_Ci_reset 47 = .ok (.getfield 40, 3) := by decide +kernel
theorem d_Ci_reset_50 : decode b_Ci_reset 50 = .ok (.putfield 43, 3) := by decide +kernel
theorem d_Ci_reset_53 : decode b_Ci_reset 53 = .ok (.aload_n 0, 1) := by decide +kernel
theorem d_Ci_reset_54 : decode b_Ci_reset 54 = .ok (.lconst 0, 1) := by decide +kernel
theorem d_Ci_reset_55 : decode b_Ci_reset 55 = .ok (.putfield 46, 3) := by decide +kernel
theorem d_Ci_reset_58 : decode b_Ci_reset 58 = .ok (.aload_n 0, 1) := by decide +kernel
theorem d_Ci_reset_59 : decode b_Ci_reset 59 = .ok (.iconst 2, 1) := by decide +kernel
theorem d_Ci_reset_60 : decode b_Ci_reset 60 = .ok (.putfield 50, 3) := by decide +kernel
theorem d_Ci_reset_63 : decode b_Ci_reset 63 = .ok (.aload_n 0, 1) := by decide +kernel
theorem d_Ci_reset_64 : decode b_Ci_reset 64 = .ok (.iconst 0, 1) := by decide +kernel
theorem d_Ci_reset_65 : decode b_Ci_reset 65 = .ok (.iconst 0, 1) := by decide +kernel
theorem d_Ci_reset_66 : decode b_Ci_reset 66 = .ok (.invokevirtual 53, 3) := by decide +kernel
theorem d_Ci_reset_69 : decode b_Ci_reset 69 = .ok (.aload_n 0, 1) := by decide +kernel
theorem d_Ci_reset_70 : decode b_Ci_reset 70 = .ok (.iconst 0, 1) := by decide +kernel
theorem d_Ci_reset_71 : decode b_Ci_reset 71 = .ok (.invokevirtual 57, 3) := by decide +kernel
theorem d_Ci_reset_74 : decode b_Ci_reset 74 = .ok (.return_, 1) := by decide +kernel
theorem d_Ci_copy_0 : decode b_Ci_copy 0 = .ok (.aload_n 0, 1) := by decide +kernel
theorem d_Ci_copy_1 : decode b_Ci_copy 1 = .ok (.aload_n 1, 1) := by decide +kernel
theorem d_Ci_copy_2 : decode b_Ci_copy 2 = .ok (.getfield 61, 3) := by decide +kernel
theorem d_Ci_copy_5 : decode b_Ci_copy 5 = .ok (.putfield 61, 3) := by decide +kernel
theorem d_Ci_copy_8 : decode b_Ci_copy 8 = .ok (.aload_n 0, 1) := by decide +kernel
theorem d_Ci_copy_9 : decode b_Ci_copy 9 = .ok (.aload_n 1, 1) := by decide +kernel
theorem d_Ci_copy_10 : decode b_Ci_copy 10 = .ok (.getfield 64, 3) := by decide +kernel
theorem d_Ci_copy_13 : decode b_Ci_copy 13 = .ok (.putfield 64, 3) := by decide +kernel
theorem d_Ci_copy_16 : decode b_Ci_copy 16 = .ok (.aload_n 0, 1) := by decide +kernel
theorem d_Ci_copy_17 : decode b_Ci_copy 17 = .ok (.aload_n 1, 1) := by decide +kernel
theorem d_Ci_copy_18 : decode b_Ci_copy 18 = .ok (.getfield 22, 3) := by decide +kernel
theorem d_Ci_copy_21 : decode b_Ci_copy 21 = .ok (.putfield 22, 3) := by decide +kernel
theorem d_Ci_copy_24 : decode b_Ci_copy 24 = .ok (.aload_n 0, 1) := by decide +kernel
theorem d_Ci_copy_25 : decode b_Ci_copy 25 = .ok (.aload_n 1, 1) := by decide +kernel
theorem d_Ci_copy_26 : decode b_Ci_copy 26 = .ok (.getfield 50, 3) := by decide +kernel
theorem d_Ci_copy_29 : decode b_Ci_copy 29 = .ok (.putfield 50, 3) := by decide +kernel
theorem d_Ci_copy_32 : decode b_Ci_copy 32 = .ok (.aload_n 0, 1) := by decide +kernel
theorem d_Ci_copy_33 : decode b_Ci_copy 33 = .ok (.aload_n 1, 1) := by decide +kernel
theorem d_Ci_copy_34 : decode b_Ci_copy 34 = .ok (.getfield 67, 3) := by decide +kernel
theorem d_Ci_copy_37 : decode b_Ci_copy 37 = .ok (.putfield 67, 3) := by decide +kernel
theorem d_Ci_copy_40 : decode b_Ci_copy 40 = .ok (.aload_n 0, 1) := by decide +kernel
theorem d_Ci_copy_41 : decode b_Ci_copy 41 = .ok (.aload_n 1, 1) := by decide +kernel
theorem d_Ci_copy_42 : decode b_Ci_copy 42 = .ok (.getfield 23, 3) := by decide +kernel
theorem d_Ci_copy_45 : decode b_Ci_copy 45 = .ok (.putfield 23, 3) := by decide +kernel
theorem d_Ci_copy_48 : decode b_Ci_copy 48 = .ok (.aload_n 0, 1) := by decide +kernel
theorem d_Ci_copy_49 : decode b_Ci_copy 49 = .ok (.aload_n 1, 1) := by decide +kernel
theorem d_Ci_copy_50 : decode b_Ci_copy 50 = .ok (.getfield 27, 3) := by decide +kernel
theorem d_Ci_copy_53 : decode b_Ci_copy 53 = .ok (.putfield 27, 3) := by decide +kernel
theorem d_Ci_copy_56 : decode b_Ci_copy 56 = .ok (.aload_n 0, 1) := by decide +kernel
theorem d_Ci_copy_57 : decode b_Ci_copy 57 = .ok (.aload_n 1, 1) := by decide +kernel
theorem d_Ci_copy_58 : decode b_Ci_copy 58 = .ok (.getfield 30, 3) := by decide +kernel
theorem d_Ci_copy_61 : decode b_Ci_copy 61 = .ok (.putfield 30, 3) := by decide +kernel
theorem d_Ci_copy_64 : decode b_Ci_copy 64 = .ok (.aload_n 0, 1) := by decide +kernel
theorem d_Ci_copy_65 : decode b_Ci_copy 65 = .ok (.aload_n 1, 1) := by decide +kernel
theorem d_Ci_copy_66 : decode b_Ci_copy 66 = .ok (.getfield 36, 3) := by decide +kernel
theorem d_Ci_copy_69 : decode b_Ci_copy 69 = .ok (.putfield 36, 3) := by decide +kernel
theorem d_Ci_copy_72 : decode b_Ci_copy 72 = .ok (.aload_n 0, 1) := by decide +kernel
theorem d_Ci_copy_73 : decode b_Ci_copy 73 = .ok (.aload_n 1, 1) := by decide +kernel
theorem d_Ci_copy_74 : decode b_Ci_copy 74 = .ok (.getfield 37, 3) := by decide +kernel
theorem d_Ci_copy_77 : decode b_Ci_copy 77 = .ok (.putfield 37, 3) := by decide +kernel
theorem d_Ci_copy_80 : decode b_Ci_copy 80 = .ok (.aload_n 0, 1) := by decide +kernel
theorem d_Ci_copy_81 : decode b_Ci_copy 81 = .ok (.aload_n 1, 1) := by decide +kernel
theorem d_Ci_copy_82 : decode b_Ci_copy 82 = .ok (.getfield 43, 3) := by decide +kernel
theorem d_Ci_copy_85 : decode b_Ci_copy 85 = .ok (.putfield 43, 3) := by decide +kernel
theorem d_Ci_copy_88 : decode b_Ci_copy 88 = .ok (.aload_n 0, 1) := by decide +kernel
theorem d_Ci_copy_89 : decode b_Ci_copy 89 = .ok (.aload_n 1, 1) := by decide +kernel
theorem d_Ci_copy_90 : decode b_Ci_copy 90 = .ok (.getfield 46, 3) := by decide +kernel
theorem d_Ci_copy_93 : decode b_Ci_copy 93 = .ok (.putfield 46, 3) := by decide +kernel
theorem d_Ci_copy_96 : decode b_Ci_copy 96 = .ok (.aload_n 0, 1) := by decide +kernel
theorem d_Ci_copy_97 : decode b_Ci_copy 97 = .ok (.aload_n 1, 1) := by decide +kernel
theorem d_Ci_copy_98 : decode b_Ci_copy 98 = .ok (.getfield 70, 3) := by decide +kernel
theorem d_Ci_copy_101 : decode b_Ci_copy 101 = .ok (.putfield 70, 3) := by decide +kernel
theorem d_Ci_copy_104 : decode b_Ci_copy 104 = .ok (.aload_n 0, 1) := by decide +kernel
theorem d_Ci_copy_105 : decode b_Ci_copy 105 = .ok (.aload_n 1, 1) := by decide +kernel
theorem d_Ci_copy_106 : decode b_Ci_copy 106 = .ok (.getfield 73, 3) := by decide +kernel
theorem d_Ci_copy_109 : decode b_Ci_copy 109 = .ok (.putfield 73, 3) := by decide +kernel
theorem d_Ci_copy_112 : decode b_Ci_copy 112 = .ok (.aload_n 0, 1) := by decide +kernel
theorem d_Ci_copy_113 : decode b_Ci_copy 113 = .ok (.invokevirtual 76, 3) := by decide +kernel
theorem d_Ci_copy_116 : decode b_Ci_copy 116 = .ok (.return_, 1) := by decide +kernel
theorem d_Ci_choose_0 : decode b_Ci_choose 0 = .ok (.aload_n 0, 1) := by decide +kernel
theorem d_Ci_choose_1 : decode b_Ci_choose 1 = .ok (.iload_n 1, 1) := by decide +kernel
theorem d_Ci_choose_2 : decode b_Ci_choose 2 = .ok (.putfield 61, 3) := by decide +kernel
theorem d_Ci_choose_5 : decode b_Ci_choose 5 = .ok (.aload_n 0, 1) := by decide +kernel
theorem d_Ci_choose_6 : decode b_Ci_choose 6 = .ok (.iload_n 2, 1) := by decide +kernel
theorem d_Ci_choose_7 : decode b_Ci_choose 7 = .ok (.putfield 64, 3) := by decide +kernel
theorem d_Ci_choose_10 : decode b_Ci_choose 10 = .ok (.aload_n 0, 1) := by decide +kernel
theorem d_Ci_choose_11 : decode b_Ci_choose 11 = .ok (.getfield 7, 3) := by decide +kernel
theorem d_Ci_choose_14 : decode b_Ci_choose 14 = .ok (.aload_n 0, 1) := by decide +kernel
theorem d_Ci_choose_15 : decode b_Ci_choose 15 = .ok (.getfield 64, 3) := by decide +kernel
theorem d_Ci_choose_18 : decode b_Ci_choose 18 = .ok (.invokevirtual 79, 3) := by decide +kernel
theorem d_Ci_choose_21 : decode b_Ci_choose 21 = .ok (.i2l, 1) := by decide +kernel
theorem d_Ci_choose_22 : decode b_Ci_choose 22 = .ok (.lstore_n 3, 1) := by decide +kernel
theorem d_Ci_choose_23 : decode b_Ci_choose 23 = .ok (.aload_n 0, 1) := by decide +kernel
theorem d_Ci_choose_24 : decode b_Ci_choose 24 = .ok (.getfield 7, 3) := by decide +kernel
theorem d_Ci_choose_27 : decode b_Ci_choose 27 = .ok (.aload_n 0, 1) := by decide +kernel
theorem d_Ci_choose_28 : decode b_Ci_choose 28 = .ok (.getfield 61, 3) := by decide +kernel
theorem d_Ci_choose_31 : decode b_Ci_choose 31 = .ok (.invokevirtual 79, 3) := by decide +kernel
theorem d_Ci_choose_34 : decode b_Ci_choose 34 = .ok (.i2l, 1) := by decide +kernel
theorem d_Ci_choose_35 : decode b_Ci_choose 35 = .ok (.lload_n 3, 1) := by decide +kernel
theorem d_Ci_choose_36 : decode b_Ci_choose 36 = .ok (.ladd, 1) := by decide +kernel
theorem d_Ci_choose_37 : decode b_Ci_choose 37 = .ok (.lstore 5, 2) := by decide +kernel
theorem d_Ci_choose_39 : decode b_Ci_choose 39 = .ok (.aload_n 0, 1) := by decide +kernel
theorem d_Ci_choose_40 : decode b_Ci_choose 40 = .ok (.lload 5, 2) := by decide +kernel
theorem d_Ci_choose_42 : decode b_Ci_choose 42 = .ok (.lconst 0, 1) := by decide +kernel
theorem d_Ci_choose_43 : decode b_Ci_choose 43 = .ok (.lcmp, 1) := by decide +kernel
theorem d_Ci_choose_44 : decode b_Ci_choose 44 = .ok (.ifCond .ne 7, 3) := by decide +kernel
theorem d_Ci_choose_47 : decode b_Ci_choose 47 = .ok (.iconst 0, 1) := by decide +kernel
theorem d_Ci_choose_48 : decode b_Ci_choose 48 = .ok (.goto 12, 3) := by decide +kernel
theorem d_Ci_choose_51 : decode b_Ci_choose 51 = .ok (.ldc2_w 83, 3) := by decide +kernel
theorem d_Ci_choose_54 : decode b_Ci_choose 54 = .ok (.lload_n 3, 1) := by decide +kernel
theorem d_Ci_choose_55 : decode b_Ci_choose 55 = .ok (.lmul, 1) := by decide +kernel
theorem d_Ci_choose_56 : decode b_Ci_choose 56 = .ok (.lload 5, 2) := by decide +kernel
theorem d_Ci_choose_58 : decode b_Ci_choose 58 = .ok (.ldiv, 1) := by decide +kernel
theorem d_Ci_choose_59 : decode b_Ci_choose 59 = .ok (.l2i, 1) := by decide +kernel
theorem d_Ci_choose_60 : decode b_Ci_choose 60 = .ok (.putfield 70, 3) := by decide +kernel
theorem d_Ci_choose_63 : decode b_Ci_choose 63 = .ok (.return_, 1) := by decide +kernel
theorem d_Ci_dial_0 : decode b_Ci_dial 0 = .ok (.aload_n 0, 1) := by decide +kernel
theorem d_Ci_dial_1 : decode b_Ci_dial 1 = .ok (.iload_n 1, 1) := by decide +kernel
theorem d_Ci_dial_2 : decode b_Ci_dial 2 = .ok (.putfield 67, 3) := by decide +kernel
theorem d_Ci_dial_5 : decode b_Ci_dial 5 = .ok (.aload_n 0, 1) := by decide +kernel
theorem d_Ci_dial_6 : decode b_Ci_dial 6 = .ok (.aload_n 0, 1) := by decide +kernel
theorem d_Ci_dial_7 : decode b_Ci_dial 7 = .ok (.getfield 7, 3) := by decide +kernel
theorem d_Ci_dial_10 : decode b_Ci_dial 10 = .ok (.iload_n 1, 1) := by decide +kernel
theorem d_Ci_dial_11 : decode b_Ci_dial 11 = .ok (.invokevirtual 85, 3) := by decide +kernel
theorem d_Ci_dial_14 : decode b_Ci_dial 14 = .ok (.putfield 73, 3) := by decide +kernel
theorem d_Ci_dial_17 : decode b_Ci_dial 17 = .ok (.aload_n 0, 1) := by decide +kernel
theorem d_Ci_dial_18 : decode b_Ci_dial 18 = .ok (.invokevirtual 76, 3) := by decide +kernel
theorem d_Ci_dial_21 : decode b_Ci_dial 21 = .ok (.return_, 1) := by decide +kernel
theorem d_Ci_wire_0 : decode b_Ci_wire 0 = .ok (.aload_n 0, 1) := by decide +kernel
theorem d_Ci_wire_1 : decode b_Ci_wire 1 = .ok (.iload_n 1, 1) := by decide +kernel
theorem d_Ci_wire_2 : decode b_Ci_wire 2 = .ok (.putfield 50, 3) := by decide +kernel
theorem d_Ci_wire_5 : decode b_Ci_wire 5 = .ok (.aload_n 0, 1) := by decide +kernel
theorem d_Ci_wire_6 : decode b_Ci_wire 6 = .ok (.invokevirtual 76, 3) := by decide +kernel
theorem d_Ci_wire_9 : decode b_Ci_wire 9 = .ok (.return_, 1) := by decide +kernel
theorem d_Ci_survey_0 : decode b_Ci_survey 0 = .ok (.ldc2_w 83, 3) := by decide +kernel
theorem d_Ci_survey_3 : decode b_Ci_survey 3 = .ok (.aload_n 0, 1) := by decide +kernel
theorem d_Ci_survey_4 : decode b_Ci_survey 4 = .ok (.getfield 7, 3) := by decide +kernel
theorem d_Ci_survey_7 : decode b_Ci_survey 7 = .ok (.getfield 88, 3) := by decide +kernel
theorem d_Ci_survey_10 : decode b_Ci_survey 10 = .ok (.getfield 92, 3) := by decide +kernel
theorem d_Ci_survey_13 : decode b_Ci_survey 13 = .ok (.i2l, 1) := by decide +kernel
theorem d_Ci_survey_14 : decode b_Ci_survey 14 = .ok (.aload_n 0, 1) := by decide +kernel
theorem d_Ci_survey_15 : decode b_Ci_survey 15 = .ok (.getfield 27, 3) := by decide +kernel
theorem d_Ci_survey_18 : decode b_Ci_survey 18 = .ok (.i2l, 1) := by decide +kernel
theorem d_Ci_survey_19 : decode b_Ci_survey 19 = .ok (.lmul, 1) := by decide +kernel
theorem d_Ci_survey_20 : decode b_Ci_survey 20 = .ok (.ladd, 1) := by decide +kernel
theorem d_Ci_survey_21 : decode b_Ci_survey 21 = .ok (.lstore_n 1, 1) := by decide +kernel
theorem d_Ci_survey_22 : decode b_Ci_survey 22 = .ok (.ldc2_w 83, 3) := by decide +kernel
theorem d_Ci_survey_25 : decode b_Ci_survey 25 = .ok (.aload_n 0, 1) := by decide +kernel
theorem d_Ci_survey_26 : decode b_Ci_survey 26 = .ok (.getfield 7, 3) := by decide +kernel
theorem d_Ci_survey_29 : decode b_Ci_survey 29 = .ok (.getfield 97, 3) := by decide +kernel
theorem d_Ci_survey_32 : decode b_Ci_survey 32 = .ok (.getfield 92, 3) := by decide +kernel
theorem d_Ci_survey_35 : decode b_Ci_survey 35 = .ok (.i2l, 1) := by decide +kernel
theorem d_Ci_survey_36 : decode b_Ci_survey 36 = .ok (.aload_n 0, 1) := by decide +kernel
theorem d_Ci_survey_37 : decode b_Ci_survey 37 = .ok (.getfield 30, 3) := by decide +kernel
theorem d_Ci_survey_40 : decode b_Ci_survey 40 = .ok (.i2l, 1) := by decide +kernel
theorem d_Ci_survey_41 : decode b_Ci_survey 41 = .ok (.lmul, 1) := by decide +kernel
theorem d_Ci_survey_42 : decode b_Ci_survey 42 = .ok (.ladd, 1) := by decide +kernel
theorem d_Ci_survey_43 : decode b_Ci_survey 43 = .ok (.lstore_n 3, 1) := by decide +kernel
theorem d_Ci_survey_44 : decode b_Ci_survey 44 = .ok (.aload_n 0, 1) := by decide +kernel
theorem d_Ci_survey_45 : decode b_Ci_survey 45 = .ok (.aload_n 0, 1) := by decide +kernel
theorem d_Ci_survey_46 : decode b_Ci_survey 46 = .ok (.getfield 7, 3) := by decide +kernel
theorem d_Ci_survey_49 : decode b_Ci_survey 49 = .ok (.getfield 100, 3) := by decide +kernel
theorem d_Ci_survey_52 : decode b_Ci_survey 52 = .ok (.i2l, 1) := by decide +kernel
theorem d_Ci_survey_53 : decode b_Ci_survey 53 = .ok (.lload_n 1, 1) := by decide +kernel
theorem d_Ci_survey_54 : decode b_Ci_survey 54 = .ok (.lmul, 1) := by decide +kernel
theorem d_Ci_survey_55 : decode b_Ci_survey 55 = .ok (.ldc2_w 83, 3) := by decide +kernel
theorem d_Ci_survey_58 : decode b_Ci_survey 58 = .ok (.ldiv, 1) := by decide +kernel
theorem d_Ci_survey_59 : decode b_Ci_survey 59 = .ok (.l2i, 1) := by decide +kernel
theorem d_Ci_survey_60 : decode b_Ci_survey 60 = .ok (.putfield 103, 3) := by decide +kernel
theorem d_Ci_survey_63 : decode b_Ci_survey 63 = .ok (.aload_n 0, 1) := by decide +kernel
theorem d_Ci_survey_64 : decode b_Ci_survey 64 = .ok (.aload_n 0, 1) := by decide +kernel
theorem d_Ci_survey_65 : decode b_Ci_survey 65 = .ok (.getfield 73, 3) := by decide +kernel
theorem d_Ci_survey_68 : decode b_Ci_survey 68 = .ok (.i2l, 1) := by decide +kernel
theorem d_Ci_survey_69 : decode b_Ci_survey 69 = .ok (.lload_n 3, 1) := by decide +kernel
theorem d_Ci_survey_70 : decode b_Ci_survey 70 = .ok (.lmul, 1) := by decide +kernel
theorem d_Ci_survey_71 : decode b_Ci_survey 71 = .ok (.ldc2_w 83, 3) := by decide +kernel
theorem d_Ci_survey_74 : decode b_Ci_survey 74 = .ok (.ldiv, 1) := by decide +kernel
theorem d_Ci_survey_75 : decode b_Ci_survey 75 = .ok (.l2i, 1) := by decide +kernel
theorem d_Ci_survey_76 : decode b_Ci_survey 76 = .ok (.putfield 106, 3) := by decide +kernel
theorem d_Ci_survey_79 : decode b_Ci_survey 79 = .ok (.aload_n 0, 1) := by decide +kernel
theorem d_Ci_survey_80 : decode b_Ci_survey 80 = .ok (.getfield 50, 3) := by decide +kernel
theorem d_Ci_survey_83 : decode b_Ci_survey 83 = .ok (.iconst 3, 1) := by decide +kernel
theorem d_Ci_survey_84 : decode b_Ci_survey 84 = .ok (.if_icmp .ne 7, 3) := by decide +kernel
theorem d_Ci_survey_87 : decode b_Ci_survey 87 = .ok (.iconst 1, 1) := by decide +kernel
theorem d_Ci_survey_88 : decode b_Ci_survey 88 = .ok (.goto 4, 3) := by decide +kernel
theorem d_Ci_survey_91 : decode b_Ci_survey 91 = .ok (.iconst 0, 1) := by decide +kernel
theorem d_Ci_survey_92 : decode b_Ci_survey 92 = .ok (.istore 5, 2) := by decide +kernel
theorem d_Ci_survey_94 : decode b_Ci_survey 94 = .ok (.aload_n 0, 1) := by decide +kernel
theorem d_Ci_survey_95 : decode b_Ci_survey 95 = .ok (.aload_n 0, 1) := by decide +kernel
theorem d_Ci_survey_96 : decode b_Ci_survey 96 = .ok (.getfield 103, 3) := by decide +kernel
theorem d_Ci_survey_99 : decode b_Ci_survey 99 = .ok (.aload_n 0, 1) := by decide +kernel
theorem d_Ci_survey_100 : decode b_Ci_survey 100 = .ok (.getfield 7, 3) := by decide +kernel
theorem d_Ci_survey_103 : decode b_Ci_survey 103 = .ok (.getfield 109, 3) := by decide +kernel
theorem d_Ci_survey_106 : decode b_Ci_survey 106 = .ok (.iadd, 1) := by decide +kernel
theorem d_Ci_survey_107 : decode b_Ci_survey 107 = .ok (.iload 5, 2) := by decide +kernel
theorem d_Ci_survey_109 : decode b_Ci_survey 109 = .ok (.ifCond .eq 7, 3) := by decide +kernel
theorem d_Ci_survey_112 : decode b_Ci_survey 112 = .ok (.iconst 0, 1) := by decide +kernel
theorem d_Ci_survey_113 : decode b_Ci_survey 113 = .ok (.goto 10, 3) := by decide +kernel
theorem d_Ci_survey_116 : decode b_Ci_survey 116 = .ok (.aload_n 0, 1) := by decide +kernel
theorem d_Ci_survey_117 : decode b_Ci_survey 117 = .ok (.getfield 7, 3) := by decide +kernel
theorem d_Ci_survey_120 : decode b_Ci_survey 120 = .ok (.getfield 112, 3) := by decide +kernel
theorem d_Ci_survey_123 : decode b_Ci_survey 123 = .ok (.iadd, 1) := by decide +kernel
theorem d_Ci_survey_124 : decode b_Ci_survey 124 = .ok (.putfield 115, 3) := by decide +kernel
theorem d_Ci_survey_127 : decode b_Ci_survey 127 = .ok (.aload_n 0, 1) := by decide +kernel
theorem d_Ci_survey_128 : decode b_Ci_survey 128 = .ok (.aload_n 0, 1) := by decide +kernel
theorem d_Ci_survey_129 : decode b_Ci_survey 129 = .ok (.getfield 106, 3) := by decide +kernel
theorem d_Ci_survey_132 : decode b_Ci_survey 132 = .ok (.iload 5, 2) := by decide +kernel
theorem d_Ci_survey_134 : decode b_Ci_survey 134 = .ok (.ifCond .eq 13, 3) := by decide +kernel
theorem d_Ci_survey_137 : decode b_Ci_survey 137 = .ok (.aload_n 0, 1) := by decide +kernel
theorem d_Ci_survey_138 : decode b_Ci_survey 138 = .ok (.getfield 7, 3) := by decide +kernel
theorem d_Ci_survey_141 : decode b_Ci_survey 141 = .ok (.getfield 112, 3) := by decide +kernel
theorem d_Ci_survey_144 : decode b_Ci_survey 144 = .ok (.goto 4, 3) := by decide +kernel
theorem d_Ci_survey_147 : decode b_Ci_survey 147 = .ok (.iconst 0, 1) := by decide +kernel
theorem d_Ci_survey_148 : decode b_Ci_survey 148 = .ok (.iadd, 1) := by decide +kernel
theorem d_Ci_survey_149 : decode b_Ci_survey 149 = .ok (.putfield 118, 3) := by decide +kernel
theorem d_Ci_survey_152 : decode b_Ci_survey 152 = .ok (.return_, 1) := by decide +kernel
theorem d_Ci_unknownShare_0 : decode b_Ci_unknownShare 0 = .ok (.aload_n 0, 1) := by decide +kernel
theorem d_Ci_unknownShare_1 : decode b_Ci_unknownShare 1 = .ok (.getfield 118, 3) := by decide +kernel
theorem d_Ci_unknownShare_4 : decode b_Ci_unknownShare 4 = .ok (.i2l, 1) := by decide +kernel
theorem d_Ci_unknownShare_5 : decode b_Ci_unknownShare 5 = .ok (.aload_n 0, 1) := by decide +kernel
theorem d_Ci_unknownShare_6 : decode b_Ci_unknownShare 6 = .ok (.getfield 115, 3) := by decide +kernel
theorem d_Ci_unknownShare_9 : decode b_Ci_unknownShare 9 = .ok (.i2l, 1) := by decide +kernel
theorem d_Ci_unknownShare_10 : decode b_Ci_unknownShare 10 = .ok (.ladd, 1) := by decide +kernel
theorem d_Ci_unknownShare_11 : decode b_Ci_unknownShare 11 = .ok (.lstore_n 1, 1) := by decide +kernel
theorem d_Ci_unknownShare_12 : decode b_Ci_unknownShare 12 = .ok (.lload_n 1, 1) := by decide +kernel
theorem d_Ci_unknownShare_13 : decode b_Ci_unknownShare 13 = .ok (.lconst 0, 1) := by decide +kernel
theorem d_Ci_unknownShare_14 : decode b_Ci_unknownShare 14 = .ok (.lcmp, 1) := by decide +kernel
theorem d_Ci_unknownShare_15 : decode b_Ci_unknownShare 15 = .ok (.ifCond .ne 7, 3) := by decide +kernel
theorem d_Ci_unknownShare_18 : decode b_Ci_unknownShare 18 = .ok (.iconst 0, 1) := by decide +kernel
theorem d_Ci_unknownShare_19 : decode b_Ci_unknownShare 19 = .ok (.goto 15, 3) := by decide +kernel
theorem d_Ci_unknownShare_22 : decode b_Ci_unknownShare 22 = .ok (.ldc2_w 83, 3) := by decide +kernel
theorem d_Ci_unknownShare_25 : decode b_Ci_unknownShare 25 = .ok (.aload_n 0, 1) := by decide +kernel
theorem d_Ci_unknownShare_26 : decode b_Ci_unknownShare 26 = .ok (.getfield 115, 3) := by decide +kernel
theorem d_Ci_unknownShare_29 : decode b_Ci_unknownShare 29 = .ok (.i2l, 1) := by decide +kernel
theorem d_Ci_unknownShare_30 : decode b_Ci_unknownShare 30 = .ok (.lmul, 1) := by decide +kernel
theorem d_Ci_unknownShare_31 : decode b_Ci_unknownShare 31 = .ok (.lload_n 1, 1) := by decide +kernel
theorem d_Ci_unknownShare_32 : decode b_Ci_unknownShare 32 = .ok (.ldiv, 1) := by decide +kernel
theorem d_Ci_unknownShare_33 : decode b_Ci_unknownShare 33 = .ok (.l2i, 1) := by decide +kernel
theorem d_Ci_unknownShare_34 : decode b_Ci_unknownShare 34 = .ok (.ireturn, 1) := by decide +kernel
theorem d_Ci_imbalance_0 : decode b_Ci_imbalance 0 = .ok (.aload_n 0, 1) := by decide +kernel
theorem d_Ci_imbalance_1 : decode b_Ci_imbalance 1 = .ok (.getfield 22, 3) := by decide +kernel
theorem d_Ci_imbalance_4 : decode b_Ci_imbalance 4 = .ok (.i2l, 1) := by decide +kernel
theorem d_Ci_imbalance_5 : decode b_Ci_imbalance 5 = .ok (.aload_n 0, 1) := by decide +kernel
theorem d_Ci_imbalance_6 : decode b_Ci_imbalance 6 = .ok (.invokevirtual 121, 3) := by decide +kernel
theorem d_Ci_imbalance_9 : decode b_Ci_imbalance 9 = .ok (.aload_n 0, 1) := by decide +kernel
theorem d_Ci_imbalance_10 : decode b_Ci_imbalance 10 = .ok (.getfield 70, 3) := by decide +kernel
theorem d_Ci_imbalance_13 : decode b_Ci_imbalance 13 = .ok (.isub, 1) := by decide +kernel
theorem d_Ci_imbalance_14 : decode b_Ci_imbalance 14 = .ok (.i2l, 1) := by decide +kernel
theorem d_Ci_imbalance_15 : decode b_Ci_imbalance 15 = .ok (.lmul, 1) := by decide +kernel
theorem d_Ci_imbalance_16 : decode b_Ci_imbalance 16 = .ok (.ldc2_w 125, 3) := by decide +kernel
theorem d_Ci_imbalance_19 : decode b_Ci_imbalance 19 = .ok (.ldiv, 1) := by decide +kernel
theorem d_Ci_imbalance_20 : decode b_Ci_imbalance 20 = .ok (.lstore_n 1, 1) := by decide +kernel
theorem d_Ci_imbalance_21 : decode b_Ci_imbalance 21 = .ok (.aload_n 0, 1) := by decide +kernel
theorem d_Ci_imbalance_22 : decode b_Ci_imbalance 22 = .ok (.getfield 23, 3) := by decide +kernel
theorem d_Ci_imbalance_25 : decode b_Ci_imbalance 25 = .ok (.ifCond .eq 8, 3) := by decide +kernel
theorem d_Ci_imbalance_28 : decode b_Ci_imbalance 28 = .ok (.lload_n 1, 1) := by decide +kernel
theorem d_Ci_imbalance_29 : decode b_Ci_imbalance 29 = .ok (.lneg, 1) := by decide +kernel
theorem d_Ci_imbalance_30 : decode b_Ci_imbalance 30 = .ok (.goto 4, 3) := by decide +kernel
theorem d_Ci_imbalance_33 : decode b_Ci_imbalance 33 = .ok (.lload_n 1, 1) := by decide +kernel
theorem d_Ci_imbalance_34 : decode b_Ci_imbalance 34 = .ok (.lreturn, 1) := by decide +kernel
theorem d_Ci_amperes_0 : decode b_Ci_amperes 0 = .ok (.aload_n 0, 1) := by decide +kernel
theorem d_Ci_amperes_1 : decode b_Ci_amperes 1 = .ok (.getfield 118, 3) := by decide +kernel
theorem d_Ci_amperes_4 : decode b_Ci_amperes 4 = .ok (.i2l, 1) := by decide +kernel
theorem d_Ci_amperes_5 : decode b_Ci_amperes 5 = .ok (.aload_n 0, 1) := by decide +kernel
theorem d_Ci_amperes_6 : decode b_Ci_amperes 6 = .ok (.getfield 115, 3) := by decide +kernel
theorem d_Ci_amperes_9 : decode b_Ci_amperes 9 = .ok (.i2l, 1) := by decide +kernel
theorem d_Ci_amperes_10 : decode b_Ci_amperes 10 = .ok (.ladd, 1) := by decide +kernel
theorem d_Ci_amperes_11 : decode b_Ci_amperes 11 = .ok (.lstore_n 1, 1) := by decide +kernel
theorem d_Ci_amperes_12 : decode b_Ci_amperes 12 = .ok (.lload_n 1, 1) := by decide +kernel
theorem d_Ci_amperes_13 : decode b_Ci_amperes 13 = .ok (.lconst 0, 1) := by decide +kernel
theorem d_Ci_amperes_14 : decode b_Ci_amperes 14 = .ok (.lcmp, 1) := by decide +kernel
theorem d_Ci_amperes_15 : decode b_Ci_amperes 15 = .ok (.ifCond .ne 7, 3) := by decide +kernel
theorem d_Ci_amperes_18 : decode b_Ci_amperes 18 = .ok (.lconst 0, 1) := by decide +kernel
theorem d_Ci_amperes_19 : decode b_Ci_amperes 19 = .ok (.goto 14, 3) := by decide +kernel
theorem d_Ci_amperes_22 : decode b_Ci_amperes 22 = .ok (.ldc2_w 127, 3) := by decide +kernel
theorem d_Ci_amperes_25 : decode b_Ci_amperes 25 = .ok (.aload_n 0, 1) := by decide +kernel
theorem d_Ci_amperes_26 : decode b_Ci_amperes 26 = .ok (.getfield 22, 3) := by decide +kernel
theorem d_Ci_amperes_29 : decode b_Ci_amperes 29 = .ok (.i2l, 1) := by decide +kernel
theorem d_Ci_amperes_30 : decode b_Ci_amperes 30 = .ok (.lmul, 1) := by decide +kernel
theorem d_Ci_amperes_31 : decode b_Ci_amperes 31 = .ok (.lload_n 1, 1) := by decide +kernel
theorem d_Ci_amperes_32 : decode b_Ci_amperes 32 = .ok (.ldiv, 1) := by decide +kernel
theorem d_Ci_amperes_33 : decode b_Ci_amperes 33 = .ok (.lreturn, 1) := by decide +kernel
theorem d_Ci_powerBy_0 : decode b_Ci_powerBy 0 = .ok (.lload_n 0, 1) := by decide +kernel
theorem d_Ci_powerBy_1 : decode b_Ci_powerBy 1 = .ok (.ldc2_w 127, 3) := by decide +kernel
theorem d_Ci_powerBy_4 : decode b_Ci_powerBy 4 = .ok (.lcmp, 1) := by decide +kernel
theorem d_Ci_powerBy_5 : decode b_Ci_powerBy 5 = .ok (.ifCond .le 9, 3) := by decide +kernel
theorem d_Ci_powerBy_8 : decode b_Ci_powerBy 8 = .ok (.ldc2_w 127, 3) := by decide +kernel
theorem d_Ci_powerBy_11 : decode b_Ci_powerBy 11 = .ok (.goto 4, 3) := by decide +kernel
theorem d_Ci_powerBy_14 : decode b_Ci_powerBy 14 = .ok (.lload_n 0, 1) := by decide +kernel
theorem d_Ci_powerBy_15 : decode b_Ci_powerBy 15 = .ok (.lstore_n 3, 1) := by decide +kernel
theorem d_Ci_powerBy_16 : decode b_Ci_powerBy 16 = .ok (.lload_n 3, 1) := by decide +kernel
theorem d_Ci_powerBy_17 : decode b_Ci_powerBy 17 = .ok (.lload_n 3, 1) := by decide +kernel
theorem d_Ci_powerBy_18 : decode b_Ci_powerBy 18 = .ok (.lmul, 1) := by decide +kernel
theorem d_Ci_powerBy_19 : decode b_Ci_powerBy 19 = .ok (.ldc2_w 125, 3) := by decide +kernel
theorem d_Ci_powerBy_22 : decode b_Ci_powerBy 22 = .ok (.ldiv, 1) := by decide +kernel
theorem d_Ci_powerBy_23 : decode b_Ci_powerBy 23 = .ok (.iload_n 2, 1) := by decide +kernel
theorem d_Ci_powerBy_24 : decode b_Ci_powerBy 24 = .ok (.i2l, 1) := by decide +kernel
theorem d_Ci_powerBy_25 : decode b_Ci_powerBy 25 = .ok (.lmul, 1) := by decide +kernel
theorem d_Ci_powerBy_26 : decode b_Ci_powerBy 26 = .ok (.ldc2_w 127, 3) := by decide +kernel
theorem d_Ci_powerBy_29 : decode b_Ci_powerBy 29 = .ok (.ldiv, 1) := by decide +kernel
theorem d_Ci_powerBy_30 : decode b_Ci_powerBy 30 = .ok (.lreturn, 1) := by decide +kernel
theorem d_Ci_whyBlocked_0 : decode b_Ci_whyBlocked 0 = .ok (.aload_n 0, 1) := by decide +kernel
theorem d_Ci_whyBlocked_1 : decode b_Ci_whyBlocked 1 = .ok (.getfield 22, 3) := by decide +kernel
theorem d_Ci_whyBlocked_4 : decode b_Ci_whyBlocked 4 = .ok (.ifCond .ne 5, 3) := by decide +kernel
theorem d_Ci_whyBlocked_7 : decode b_Ci_whyBlocked 7 = .ok (.iconst 1, 1) := by decide +kernel
theorem d_Ci_whyBlocked_8 : decode b_Ci_whyBlocked 8 = .ok (.ireturn, 1) := by decide +kernel
theorem d_Ci_whyBlocked_9 : decode b_Ci_whyBlocked 9 = .ok (.aload_n 0, 1) := by decide +kernel
theorem d_Ci_whyBlocked_10 : decode b_Ci_whyBlocked 10 = .ok (.invokevirtual 129, 3) := by decide +kernel
theorem d_Ci_whyBlocked_13 : decode b_Ci_whyBlocked 13 = .ok (.aload_n 0, 1) := by decide +kernel
theorem d_Ci_whyBlocked_14 : decode b_Ci_whyBlocked 14 = .ok (.getfield 7, 3) := by decide +kernel
theorem d_Ci_whyBlocked_17 : decode b_Ci_whyBlocked 17 = .ok (.getfield 133, 3) := by decide +kernel
theorem d_Ci_whyBlocked_20 : decode b_Ci_whyBlocked 20 = .ok (.i2l, 1) := by decide +kernel
theorem d_Ci_whyBlocked_21 : decode b_Ci_whyBlocked 21 = .ok (.lcmp, 1) := by decide +kernel
theorem d_Ci_whyBlocked_22 : decode b_Ci_whyBlocked 22 = .ok (.ifCond .le 7, 3) := by decide +kernel
theorem d_Ci_whyBlocked_25 : decode b_Ci_whyBlocked 25 = .ok (.iconst 2, 1) := by decide +kernel
theorem d_Ci_whyBlocked_26 : decode b_Ci_whyBlocked 26 = .ok (.goto 4, 3) := by decide +kernel
theorem d_Ci_whyBlocked_29 : decode b_Ci_whyBlocked 29 = .ok (.iconst 0, 1) := by decide +kernel
theorem d_Ci_whyBlocked_30 : decode b_Ci_whyBlocked 30 = .ok (.ireturn, 1) := by decide +kernel
theorem d_Ci_draw_0 : decode b_Ci_draw 0 = .ok (.aload_n 0, 1) := by decide +kernel
theorem d_Ci_draw_1 : decode b_Ci_draw 1 = .ok (.aload_n 0, 1) := by decide +kernel
theorem d_Ci_draw_2 : decode b_Ci_draw 2 = .ok (.getfield 43, 3) := by decide +kernel
theorem d_Ci_draw_5 : decode b_Ci_draw 5 = .ok (.ldc 136, 2) := by decide +kernel
theorem d_Ci_draw_7 : decode b_Ci_draw 7 = .ok (.imul, 1) := by decide +kernel
theorem d_Ci_draw_8 : decode b_Ci_draw 8 = .ok (.sipush 12345, 3) := by decide +kernel
theorem d_Ci_draw_11 : decode b_Ci_draw 11 = .ok (.iadd, 1) := by decide +kernel
theorem d_Ci_draw_12 : decode b_Ci_draw 12 = .ok (.putfield 43, 3) := by decide +kernel
theorem d_Ci_draw_15 : decode b_Ci_draw 15 = .ok (.iload_n 1, 1) := by decide +kernel
theorem d_Ci_draw_16 : decode b_Ci_draw 16 = .ok (.iconst 1, 1) := by decide +kernel
theorem d_Ci_draw_17 : decode b_Ci_draw 17 = .ok (.if_icmp .ge 7, 3) := by decide +kernel
theorem d_Ci_draw_20 : decode b_Ci_draw 20 = .ok (.iconst 0, 1) := by decide +kernel
theorem d_Ci_draw_21 : decode b_Ci_draw 21 = .ok (.goto 12, 3) := by decide +kernel
theorem d_Ci_draw_24 : decode b_Ci_draw 24 = .ok (.aload_n 0, 1) := by decide +kernel
theorem d_Ci_draw_25 : decode b_Ci_draw 25 = .ok (.getfield 43, 3) := by decide +kernel
theorem d_Ci_draw_28 : decode b_Ci_draw 28 = .ok (.bipush 16, 2) := by decide +kernel
theorem d_Ci_draw_30 : decode b_Ci_draw 30 = .ok (.iushr, 1) := by decide +kernel
theorem d_Ci_draw_31 : decode b_Ci_draw 31 = .ok (.iload_n 1, 1) := by decide +kernel
theorem d_Ci_draw_32 : decode b_Ci_draw 32 = .ok (.irem, 1) := by decide +kernel
theorem d_Ci_draw_33 : decode b_Ci_draw 33 = .ok (.ireturn, 1) := by decide +kernel
theorem d_Ci_tick_0 : decode b_Ci_tick 0 = .ok (.iload_n 1, 1) := by decide +kernel
theorem d_Ci_tick_1 : decode b_Ci_tick 1 = .ok (.ifCond .eq 10, 3) := by decide +kernel
theorem d_Ci_tick_4 : decode b_Ci_tick 4 = .ok (.aload_n 0, 1) := by decide +kernel
theorem d_Ci_tick_5 : decode b_Ci_tick 5 = .ok (.invokevirtual 129, 3) := by decide +kernel
theorem d_Ci_tick_8 : decode b_Ci_tick 8 = .ok (.goto 4, 3) := by decide +kernel
theorem d_Ci_tick_11 : decode b_Ci_tick 11 = .ok (.lconst 0, 1) := by decide +kernel
theorem d_Ci_tick_12 : decode b_Ci_tick 12 = .ok (.lstore_n 2, 1) := by decide +kernel
theorem d_Ci_tick_13 : decode b_Ci_tick 13 = .ok (.lload_n 2, 1) := by decide +kernel
theorem d_Ci_tick_14 : decode b_Ci_tick 14 = .ok (.aload_n 0, 1) := by decide +kernel
theorem d_Ci_tick_15 : decode b_Ci_tick 15 = .ok (.getfield 103, 3) := by decide +kernel
theorem d_Ci_tick_18 : decode b_Ci_tick 18 = .ok (.invokestatic 137, 3) := by decide +kernel
theorem d_Ci_tick_21 : decode b_Ci_tick 21 = .ok (.lstore 4, 2) := by decide +kernel
theorem d_Ci_tick_23 : decode b_Ci_tick 23 = .ok (.lload_n 2, 1) := by decide +kernel
theorem d_Ci_tick_24 : decode b_Ci_tick 24 = .ok (.aload_n 0, 1) := by decide +kernel
theorem d_Ci_tick_25 : decode b_Ci_tick 25 = .ok (.getfield 106, 3) := by decide +kernel
theorem d_Ci_tick_28 : decode b_Ci_tick 28 = .ok (.invokestatic 137, 3) := by decide +kernel
theorem d_Ci_tick_31 : decode b_Ci_tick 31 = .ok (.lstore 6, 2) := by decide +kernel
theorem d_Ci_tick_33 : decode b_Ci_tick 33 = .ok (.aload_n 0, 1) := by decide +kernel
theorem d_Ci_tick_34 : decode b_Ci_tick 34 = .ok (.aload_n 0, 1) := by decide +kernel
theorem d_Ci_tick_35 : decode b_Ci_tick 35 = .ok (.getfield 7, 3) := by decide +kernel
theorem d_Ci_tick_38 : decode b_Ci_tick 38 = .ok (.getfield 88, 3) := by decide +kernel
theorem d_Ci_tick_41 : decode b_Ci_tick 41 = .ok (.aload_n 0, 1) := by decide +kernel
theorem d_Ci_tick_42 : decode b_Ci_tick 42 = .ok (.getfield 27, 3) := by decide +kernel
theorem d_Ci_tick_45 : decode b_Ci_tick 45 = .ok (.lload 4, 2) := by decide +kernel
theorem d_Ci_tick_47 : decode b_Ci_tick 47 = .ok (.invokevirtual 141, 3) := by decide +kernel
theorem d_Ci_tick_50 : decode b_Ci_tick 50 = .ok (.putfield 27, 3) := by decide +kernel
theorem d_Ci_tick_53 : decode b_Ci_tick 53 = .ok (.aload_n 0, 1) := by decide +kernel
theorem d_Ci_tick_54 : decode b_Ci_tick 54 = .ok (.aload_n 0, 1) := by decide +kernel
theorem d_Ci_tick_55 : decode b_Ci_tick 55 = .ok (.getfield 7, 3) := by decide +kernel
theorem d_Ci_tick_58 : decode b_Ci_tick 58 = .ok (.getfield 97, 3) := by decide +kernel
theorem d_Ci_tick_61 : decode b_Ci_tick 61 = .ok (.aload_n 0, 1) := by decide +kernel
theorem d_Ci_tick_62 : decode b_Ci_tick 62 = .ok (.getfield 30, 3) := by decide +kernel
theorem d_Ci_tick_65 : decode b_Ci_tick 65 = .ok (.lload 6, 2) := by decide +kernel
theorem d_Ci_tick_67 : decode b_Ci_tick 67 = .ok (.invokevirtual 141, 3) := by decide +kernel
theorem d_Ci_tick_70 : decode b_Ci_tick 70 = .ok (.putfield 30, 3) := by decide +kernel
theorem d_Ci_tick_73 : decode b_Ci_tick 73 = .ok (.aload_n 0, 1) := by decide +kernel
theorem d_Ci_tick_74 : decode b_Ci_tick 74 = .ok (.dup, 1) := by decide +kernel
theorem d_Ci_tick_75 : decode b_Ci_tick 75 = .ok (.getfield 46, 3) := by decide +kernel
theorem d_Ci_tick_78 : decode b_Ci_tick 78 = .ok (.lload 4, 2) := by decide +kernel
theorem d_Ci_tick_80 : decode b_Ci_tick 80 = .ok (.ladd, 1) := by decide +kernel
theorem d_Ci_tick_81 : decode b_Ci_tick 81 = .ok (.putfield 46, 3) := by decide +kernel
theorem d_Ci_tick_84 : decode b_Ci_tick 84 = .ok (.aload_n 0, 1) := by decide +kernel
theorem d_Ci_tick_85 : decode b_Ci_tick 85 = .ok (.getfield 36, 3) := by decide +kernel
theorem d_Ci_tick_88 : decode b_Ci_tick 88 = .ok (.aload_n 0, 1) := by decide +kernel
theorem d_Ci_tick_89 : decode b_Ci_tick 89 = .ok (.iconst 2, 1) := by decide +kernel
theorem d_Ci_tick_90 : decode b_Ci_tick 90 = .ok (.aload_n 0, 1) := by decide +kernel
theorem d_Ci_tick_91 : decode b_Ci_tick 91 = .ok (.getfield 7, 3) := by decide +kernel
theorem d_Ci_tick_94 : decode b_Ci_tick 94 = .ok (.getfield 145, 3) := by decide +kernel
theorem d_Ci_tick_97 : decode b_Ci_tick 97 = .ok (.imul, 1) := by decide +kernel
theorem d_Ci_tick_98 : decode b_Ci_tick 98 = .ok (.iconst 1, 1) := by decide +kernel
theorem d_Ci_tick_99 : decode b_Ci_tick 99 = .ok (.iadd, 1) := by decide +kernel
theorem d_Ci_tick_100 : decode b_Ci_tick 100 = .ok (.invokevirtual 148, 3) := by decide +kernel
theorem d_Ci_tick_103 : decode b_Ci_tick 103 = .ok (.iadd, 1) := by decide +kernel
theorem d_Ci_tick_104 : decode b_Ci_tick 104 = .ok (.aload_n 0, 1) := by decide +kernel
theorem d_Ci_tick_105 : decode b_Ci_tick 105 = .ok (.getfield 7, 3) := by decide +kernel
theorem d_Ci_tick_108 : decode b_Ci_tick 108 = .ok (.getfield 145, 3) := by decide +kernel
theorem d_Ci_tick_111 : decode b_Ci_tick 111 = .ok (.isub, 1) := by decide +kernel
theorem d_Ci_tick_112 : decode b_Ci_tick 112 = .ok (.istore 8, 2) := by decide +kernel
theorem d_Ci_tick_114 : decode b_Ci_tick 114 = .ok (.iload 8, 2) := by decide +kernel
theorem d_Ci_tick_116 : decode b_Ci_tick 116 = .ok (.ldc 151, 2) := by decide +kernel
theorem d_Ci_tick_118 : decode b_Ci_tick 118 = .ok (.if_icmp .le 7, 3) := by decide +kernel
theorem d_Ci_tick_121 : decode b_Ci_tick 121 = .ok (.ldc 151, 2) := by decide +kernel
theorem d_Ci_tick_123 : decode b_Ci_tick 123 = .ok (.istore 8, 2) := by decide +kernel
theorem d_Ci_tick_125 : decode b_Ci_tick 125 = .ok (.aload_n 0, 1) := by decide +kernel
theorem d_Ci_tick_126 : decode b_Ci_tick 126 = .ok (.iload 8, 2) := by decide +kernel
theorem d_Ci_tick_128 : decode b_Ci_tick 128 = .ok (.ldc 152, 2) := by decide +kernel
theorem d_Ci_tick_130 : decode b_Ci_tick 130 = .ok (.if_icmp .ge 8, 3) := by decide +kernel
theorem d_Ci_tick_133 : decode b_Ci_tick 133 = .ok (.ldc 152, 2) := by decide +kernel
theorem d_Ci_tick_135 : decode b_Ci_tick 135 = .ok (.goto 5, 3) := by decide +kernel
theorem d_Ci_tick_138 : decode b_Ci_tick 138 = .ok (.iload 8, 2) := by decide +kernel
theorem d_Ci_tick_140 : decode b_Ci_tick 140 = .ok (.putfield 36, 3) := by decide +kernel
theorem d_Ci_tick_143 : decode b_Ci_tick 143 = .ok (.aload_n 0, 1) := by decide +kernel
theorem d_Ci_tick_144 : decode b_Ci_tick 144 = .ok (.dup, 1) := by decide +kernel
theorem d_Ci_tick_145 : decode b_Ci_tick 145 = .ok (.getfield 37, 3) := by decide +kernel
theorem d_Ci_tick_148 : decode b_Ci_tick 148 = .ok (.iconst 1, 1) := by decide +kernel
theorem d_Ci_tick_149 : decode b_Ci_tick 149 = .ok (.iadd, 1) := by decide +kernel
theorem d_Ci_tick_150 : decode b_Ci_tick 150 = .ok (.putfield 37, 3) := by decide +kernel
theorem d_Ci_tick_153 : decode b_Ci_tick 153 = .ok (.aload_n 0, 1) := by decide +kernel
theorem d_Ci_tick_154 : decode b_Ci_tick 154 = .ok (.invokevirtual 76, 3) := by decide +kernel
theorem d_Ci_tick_157 : decode b_Ci_tick 157 = .ok (.return_, 1) := by decide +kernel
theorem d_Ci_toldValue_0 : decode b_Ci_toldValue 0 = .ok (.aload_n 0, 1) := by decide +kernel
theorem d_Ci_toldValue_1 : decode b_Ci_toldValue 1 = .ok (.getfield 61, 3) := by decide +kernel
theorem d_Ci_toldValue_4 : decode b_Ci_toldValue 4 = .ok (.invokestatic 153, 3) := by decide +kernel
theorem d_Ci_toldValue_7 : decode b_Ci_toldValue 7 = .ok (.i2l, 1) := by decide +kernel
theorem d_Ci_toldValue_8 : decode b_Ci_toldValue 8 = .ok (.lstore_n 1, 1) := by decide +kernel
theorem d_Ci_toldValue_9 : decode b_Ci_toldValue 9 = .ok (.lload_n 1, 1) := by decide +kernel
theorem d_Ci_toldValue_10 : decode b_Ci_toldValue 10 = .ok (.lconst 0, 1) := by decide +kernel
theorem d_Ci_toldValue_11 : decode b_Ci_toldValue 11 = .ok (.lcmp, 1) := by decide +kernel
theorem d_Ci_toldValue_12 : decode b_Ci_toldValue 12 = .ok (.ifCond .ne 7, 3) := by decide +kernel
theorem d_Ci_toldValue_15 : decode b_Ci_toldValue 15 = .ok (.lconst 0, 1) := by decide +kernel
theorem d_Ci_toldValue_16 : decode b_Ci_toldValue 16 = .ok (.goto 28, 3) := by decide +kernel
theorem d_Ci_toldValue_19 : decode b_Ci_toldValue 19 = .ok (.aload_n 0, 1) := by decide +kernel
theorem d_Ci_toldValue_20 : decode b_Ci_toldValue 20 = .ok (.getfield 67, 3) := by decide +kernel
theorem d_Ci_toldValue_23 : decode b_Ci_toldValue 23 = .ok (.i2l, 1) := by decide +kernel
theorem d_Ci_toldValue_24 : decode b_Ci_toldValue 24 = .ok (.aload_n 0, 1) := by decide +kernel
theorem d_Ci_toldValue_25 : decode b_Ci_toldValue 25 = .ok (.getfield 7, 3) := by decide +kernel
theorem d_Ci_toldValue_28 : decode b_Ci_toldValue 28 = .ok (.getfield 156, 3) := by decide +kernel
theorem d_Ci_toldValue_31 : decode b_Ci_toldValue 31 = .ok (.i2l, 1) := by decide +kernel
theorem d_Ci_toldValue_32 : decode b_Ci_toldValue 32 = .ok (.lmul, 1) := by decide +kernel
theorem d_Ci_toldValue_33 : decode b_Ci_toldValue 33 = .ok (.aload_n 0, 1) := by decide +kernel
theorem d_Ci_toldValue_34 : decode b_Ci_toldValue 34 = .ok (.getfield 64, 3) := by decide +kernel
theorem d_Ci_toldValue_37 : decode b_Ci_toldValue 37 = .ok (.invokestatic 153, 3) := by decide +kernel
theorem d_Ci_toldValue_40 : decode b_Ci_toldValue 40 = .ok (.i2l, 1) := by decide +kernel
theorem d_Ci_toldValue_41 : decode b_Ci_toldValue 41 = .ok (.lmul, 1) := by decide +kernel
theorem d_Ci_toldValue_42 : decode b_Ci_toldValue 42 = .ok (.lload_n 1, 1) := by decide +kernel
theorem d_Ci_toldValue_43 : decode b_Ci_toldValue 43 = .ok (.ldiv, 1) := by decide +kernel
theorem d_Ci_toldValue_44 : decode b_Ci_toldValue 44 = .ok (.lreturn, 1) := by decide +kernel
theorem d_Ci_scaled_0 : decode b_Ci_scaled 0 = .ok (.aload_n 0, 1) := by decide +kernel
theorem d_Ci_scaled_1 : decode b_Ci_scaled 1 = .ok (.getfield 7, 3) := by decide +kernel
theorem d_Ci_scaled_4 : decode b_Ci_scaled 4 = .ok (.aload_n 0, 1) := by decide +kernel
theorem d_Ci_scaled_5 : decode b_Ci_scaled 5 = .ok (.getfield 61, 3) := by decide +kernel
theorem d_Ci_scaled_8 : decode b_Ci_scaled 8 = .ok (.invokevirtual 79, 3) := by decide +kernel
theorem d_Ci_scaled_11 : decode b_Ci_scaled 11 = .ok (.i2l, 1) := by decide +kernel
theorem d_Ci_scaled_12 : decode b_Ci_scaled 12 = .ok (.lstore_n 3, 1) := by decide +kernel
theorem d_Ci_scaled_13 : decode b_Ci_scaled 13 = .ok (.lload_n 3, 1) := by decide +kernel
theorem d_Ci_scaled_14 : decode b_Ci_scaled 14 = .ok (.lconst 0, 1) := by decide +kernel
theorem d_Ci_scaled_15 : decode b_Ci_scaled 15 = .ok (.lcmp, 1) := by decide +kernel
theorem d_Ci_scaled_16 : decode b_Ci_scaled 16 = .ok (.ifCond .ne 7, 3) := by decide +kernel
theorem d_Ci_scaled_19 : decode b_Ci_scaled 19 = .ok (.lconst 0, 1) := by decide +kernel
theorem d_Ci_scaled_20 : decode b_Ci_scaled 20 = .ok (.goto 19, 3) := by decide +kernel
theorem d_Ci_scaled_23 : decode b_Ci_scaled 23 = .ok (.lload_n 1, 1) := by decide +kernel
theorem d_Ci_scaled_24 : decode b_Ci_scaled 24 = .ok (.aload_n 0, 1) := by decide +kernel
theorem d_Ci_scaled_25 : decode b_Ci_scaled 25 = .ok (.getfield 7, 3) := by decide +kernel
theorem d_Ci_scaled_28 : decode b_Ci_scaled 28 = .ok (.aload_n 0, 1) := by decide +kernel
theorem d_Ci_scaled_29 : decode b_Ci_scaled 29 = .ok (.getfield 64, 3) := by decide +kernel
theorem d_Ci_scaled_32 : decode b_Ci_scaled 32 = .ok (.invokevirtual 79, 3) := by decide +kernel
theorem d_Ci_scaled_35 : decode b_Ci_scaled 35 = .ok (.i2l, 1) := by decide +kernel
theorem d_Ci_scaled_36 : decode b_Ci_scaled 36 = .ok (.lmul, 1) := by decide +kernel
theorem d_Ci_scaled_37 : decode b_Ci_scaled 37 = .ok (.lload_n 3, 1) := by decide +kernel
theorem d_Ci_scaled_38 : decode b_Ci_scaled 38 = .ok (.ldiv, 1) := by decide +kernel
theorem d_Ci_scaled_39 : decode b_Ci_scaled 39 = .ok (.lreturn, 1) := by decide +kernel
theorem d_Ci_correctedValue_0 : decode b_Ci_correctedValue 0 = .ok (.aload_n 0, 1) := by decide +kernel
theorem d_Ci_correctedValue_1 : decode b_Ci_correctedValue 1 = .ok (.getfield 50, 3) := by decide +kernel
theorem d_Ci_correctedValue_4 : decode b_Ci_correctedValue 4 = .ok (.iconst 3, 1) := by decide +kernel
theorem d_Ci_correctedValue_5 : decode b_Ci_correctedValue 5 = .ok (.if_icmp .ne 31, 3) := by decide +kernel
theorem d_Ci_correctedValue_8 : decode b_Ci_correctedValue 8 = .ok (.aload_n 0, 1) := by decide +kernel
theorem d_Ci_correctedValue_9 : decode b_Ci_correctedValue 9 = .ok (.aload_n 0, 1) := by decide +kernel
theorem d_Ci_correctedValue_10 : decode b_Ci_correctedValue 10 = .ok (.getfield 73, 3) := by decide +kernel
theorem d_Ci_correctedValue_13 : decode b_Ci_correctedValue 13 = .ok (.i2l, 1) := by decide +kernel
theorem d_Ci_correctedValue_14 : decode b_Ci_correctedValue 14 = .ok (.aload_n 0, 1) := by decide +kernel
theorem d_Ci_correctedValue_15 : decode b_Ci_correctedValue 15 = .ok (.getfield 7, 3) := by decide +kernel
theorem d_Ci_correctedValue_18 : decode b_Ci_correctedValue 18 = .ok (.getfield 112, 3) := by decide +kernel
theorem d_Ci_correctedValue_21 : decode b_Ci_correctedValue 21 = .ok (.i2l, 1) := by decide +kernel
theorem d_Ci_correctedValue_22 : decode b_Ci_correctedValue 22 = .ok (.ladd, 1) := by decide +kernel
theorem d_Ci_correctedValue_23 : decode b_Ci_correctedValue 23 = .ok (.invokevirtual 159, 3) := by decide +kernel
theorem d_Ci_correctedValue_26 : decode b_Ci_correctedValue 26 = .ok (.aload_n 0, 1) := by decide +kernel
theorem d_Ci_correctedValue_27 : decode b_Ci_correctedValue 27 = .ok (.getfield 7, 3) := by decide +kernel
theorem d_Ci_correctedValue_30 : decode b_Ci_correctedValue 30 = .ok (.getfield 109, 3) := by decide +kernel
theorem d_Ci_correctedValue_33 : decode b_Ci_correctedValue 33 = .ok (.i2l, 1) := by decide +kernel
theorem d_Ci_correctedValue_34 : decode b_Ci_correctedValue 34 = .ok (.lsub, 1) := by decide +kernel
theorem d_Ci_correctedValue_35 : decode b_Ci_correctedValue 35 = .ok (.lreturn, 1) := by decide +kernel
theorem d_Ci_correctedValue_36 : decode b_Ci_correctedValue 36 = .ok (.aload_n 0, 1) := by decide +kernel
theorem d_Ci_correctedValue_37 : decode b_Ci_correctedValue 37 = .ok (.aload_n 0, 1) := by decide +kernel
theorem d_Ci_correctedValue_38 : decode b_Ci_correctedValue 38 = .ok (.getfield 73, 3) := by decide +kernel
theorem d_Ci_correctedValue_41 : decode b_Ci_correctedValue 41 = .ok (.i2l, 1) := by decide +kernel
theorem d_Ci_correctedValue_42 : decode b_Ci_correctedValue 42 = .ok (.invokevirtual 159, 3) := by decide +kernel
theorem d_Ci_correctedValue_45 : decode b_Ci_correctedValue 45 = .ok (.aload_n 0, 1) := by decide +kernel
theorem d_Ci_correctedValue_46 : decode b_Ci_correctedValue 46 = .ok (.getfield 7, 3) := by decide +kernel
theorem d_Ci_correctedValue_49 : decode b_Ci_correctedValue 49 = .ok (.getfield 109, 3) := by decide +kernel
theorem d_Ci_correctedValue_52 : decode b_Ci_correctedValue 52 = .ok (.i2l, 1) := by decide +kernel
theorem d_Ci_correctedValue_53 : decode b_Ci_correctedValue 53 = .ok (.lsub, 1) := by decide +kernel
theorem d_Ci_correctedValue_54 : decode b_Ci_correctedValue 54 = .ok (.aload_n 0, 1) := by decide +kernel
theorem d_Ci_correctedValue_55 : decode b_Ci_correctedValue 55 = .ok (.getfield 7, 3) := by decide +kernel
theorem d_Ci_correctedValue_58 : decode b_Ci_correctedValue 58 = .ok (.getfield 112, 3) := by decide +kernel
theorem d_Ci_correctedValue_61 : decode b_Ci_correctedValue 61 = .ok (.i2l, 1) := by decide +kernel
theorem d_Ci_correctedValue_62 : decode b_Ci_correctedValue 62 = .ok (.lsub, 1) := by decide +kernel
theorem d_Ci_correctedValue_63 : decode b_Ci_correctedValue 63 = .ok (.lreturn, 1) := by decide +kernel
theorem d_He_init_0 : decode b_He_init 0 = .ok (.aload_n 0, 1) := by decide +kernel
theorem d_He_init_1 : decode b_He_init 1 = .ok (.invokespecial 1, 3) := by decide +kernel
theorem d_He_init_4 : decode b_He_init 4 = .ok (.return_, 1) := by decide +kernel
theorem d_He_clear_0 : decode b_He_clear 0 = .ok (.aload_n 0, 1) := by decide +kernel
theorem d_He_clear_1 : decode b_He_clear 1 = .ok (.iconst 0, 1) := by decide +kernel
theorem d_He_clear_2 : decode b_He_clear 2 = .ok (.putfield 7, 3) := by decide +kernel
theorem d_He_clear_5 : decode b_He_clear 5 = .ok (.aload_n 0, 1) := by decide +kernel
theorem d_He_clear_6 : decode b_He_clear 6 = .ok (.iconst 0, 1) := by decide +kernel
theorem d_He_clear_7 : decode b_He_clear 7 = .ok (.putfield 13, 3) := by decide +kernel
theorem d_He_clear_10 : decode b_He_clear 10 = .ok (.aload_n 0, 1) := by decide +kernel
theorem d_He_clear_11 : decode b_He_clear 11 = .ok (.iconst 0, 1) := by decide +kernel
theorem d_He_clear_12 : decode b_He_clear 12 = .ok (.putfield 16, 3) := by decide +kernel
theorem d_He_clear_15 : decode b_He_clear 15 = .ok (.return_, 1) := by decide +kernel
theorem d_He_copy_0 : decode b_He_copy 0 = .ok (.aload_n 0, 1) := by decide +kernel
theorem d_He_copy_1 : decode b_He_copy 1 = .ok (.aload_n 1, 1) := by decide +kernel
theorem d_He_copy_2 : decode b_He_copy 2 = .ok (.getfield 7, 3) := by decide +kernel
theorem d_He_copy_5 : decode b_He_copy 5 = .ok (.putfield 7, 3) := by decide +kernel
theorem d_He_copy_8 : decode b_He_copy 8 = .ok (.aload_n 0, 1) := by decide +kernel
theorem d_He_copy_9 : decode b_He_copy 9 = .ok (.aload_n 1, 1) := by decide +kernel
theorem d_He_copy_10 : decode b_He_copy 10 = .ok (.getfield 13, 3) := by decide +kernel
theorem d_He_copy_13 : decode b_He_copy 13 = .ok (.putfield 13, 3) := by decide +kernel
theorem d_He_copy_16 : decode b_He_copy 16 = .ok (.aload_n 0, 1) := by decide +kernel
theorem d_He_copy_17 : decode b_He_copy 17 = .ok (.aload_n 1, 1) := by decide +kernel
theorem d_He_copy_18 : decode b_He_copy 18 = .ok (.getfield 16, 3) := by decide +kernel
theorem d_He_copy_21 : decode b_He_copy 21 = .ok (.putfield 16, 3) := by decide +kernel
theorem d_He_copy_24 : decode b_He_copy 24 = .ok (.return_, 1) := by decide +kernel
theorem d_He_behindTick_0 : decode b_He_behindTick 0 = .ok (.iload_n 1, 1) := by decide +kernel
theorem d_He_behindTick_1 : decode b_He_behindTick 1 = .ok (.i2l, 1) := by decide +kernel
theorem d_He_behindTick_2 : decode b_He_behindTick 2 = .ok (.lload_n 2, 1) := by decide +kernel
theorem d_He_behindTick_3 : decode b_He_behindTick 3 = .ok (.aload_n 0, 1) := by decide +kernel
theorem d_He_behindTick_4 : decode b_He_behindTick 4 = .ok (.getfield 13, 3) := by decide +kernel
theorem d_He_behindTick_7 : decode b_He_behindTick 7 = .ok (.i2l, 1) := by decide +kernel
theorem d_He_behindTick_8 : decode b_He_behindTick 8 = .ok (.lmul, 1) := by decide +kernel
theorem d_He_behindTick_9 : decode b_He_behindTick 9 = .ok (.ldc2_w 19, 3) := by decide +kernel
theorem d_He_behindTick_12 : decode b_He_behindTick 12 = .ok (.ldiv, 1) := by decide +kernel
theorem d_He_behindTick_13 : decode b_He_behindTick 13 = .ok (.ladd, 1) := by decide +kernel
theorem d_He_behindTick_14 : decode b_He_behindTick 14 = .ok (.iload_n 1, 1) := by decide +kernel
theorem d_He_behindTick_15 : decode b_He_behindTick 15 = .ok (.i2l, 1) := by decide +kernel
theorem d_He_behindTick_16 : decode b_He_behindTick 16 = .ok (.aload_n 0, 1) := by decide +kernel
theorem d_He_behindTick_17 : decode b_He_behindTick 17 = .ok (.getfield 16, 3) := by decide +kernel
theorem d_He_behindTick_20 : decode b_He_behindTick 20 = .ok (.i2l, 1) := by decide +kernel
theorem d_He_behindTick_21 : decode b_He_behindTick 21 = .ok (.lmul, 1) := by decide +kernel
theorem d_He_behindTick_22 : decode b_He_behindTick 22 = .ok (.ldc2_w 21, 3) := by decide +kernel
theorem d_He_behindTick_25 : decode b_He_behindTick 25 = .ok (.ldiv, 1) := by decide +kernel
theorem d_He_behindTick_26 : decode b_He_behindTick 26 = .ok (.lsub, 1) := by decide +kernel
theorem d_He_behindTick_27 : decode b_He_behindTick 27 = .ok (.lstore 4, 2) := by decide +kernel
theorem d_He_behindTick_29 : decode b_He_behindTick 29 = .ok (.lload 4, 2) := by decide +kernel
theorem d_He_behindTick_31 : decode b_He_behindTick 31 = .ok (.lconst 0, 1) := by decide +kernel
theorem d_He_behindTick_32 : decode b_He_behindTick 32 = .ok (.lcmp, 1) := by decide +kernel
theorem d_He_behindTick_33 : decode b_He_behindTick 33 = .ok (.ifCond .ge 5, 3) := by decide +kernel
theorem d_He_behindTick_36 : decode b_He_behindTick 36 = .ok (.iconst 0, 1) := by decide +kernel
theorem d_He_behindTick_37 : decode b_He_behindTick 37 = .ok (.ireturn, 1) := by decide +kernel
theorem d_He_behindTick_38 : decode b_He_behindTick 38 = .ok (.lload 4, 2) := by decide +kernel
theorem d_He_behindTick_40 : decode b_He_behindTick 40 = .ok (.ldc2_w 23, 3) := by decide +kernel
theorem d_He_behindTick_43 : decode b_He_behindTick 43 = .ok (.lcmp, 1) := by decide +kernel
theorem d_He_behindTick_44 : decode b_He_behindTick 44 = .ok (.ifCond .le 8, 3) := by decide +kernel
theorem d_He_behindTick_47 : decode b_He_behindTick 47 = .ok (.ldc 25, 2) := by decide +kernel
theorem d_He_behindTick_49 : decode b_He_behindTick 49 = .ok (.goto 6, 3) := by decide +kernel
theorem d_He_behindTick_52 : decode b_He_behindTick 52 = .ok (.lload 4, 2) := by decide +kernel
theorem d_He_behindTick_54 : decode b_He_behindTick 54 = .ok (.l2i, 1) := by decide +kernel
theorem d_He_behindTick_55 : decode b_He_behindTick 55 = .ok (.ireturn, 1) := by decide +kernel
theorem d_Pa_init_0 : decode b_Pa_init 0 = .ok (.aload_n 0, 1) := by decide +kernel
theorem d_Pa_init_1 : decode b_Pa_init 1 = .ok (.invokespecial 3, 3) := by decide +kernel
theorem d_Pa_init_4 : decode b_Pa_init 4 = .ok (.aload_n 0, 1) := by decide +kernel
theorem d_Pa_init_5 : decode b_Pa_init 5 = .ok (.iconst 4, 1) := by decide +kernel
theorem d_Pa_init_6 : decode b_Pa_init 6 = .ok (.newarray .int, 2) := by decide +kernel
theorem d_Pa_init_8 : decode b_Pa_init 8 = .ok (.putfield 9, 3) := by decide +kernel
theorem d_Pa_init_11 : decode b_Pa_init 11 = .ok (.aload_n 0, 1) := by decide +kernel
theorem d_Pa_init_12 : decode b_Pa_init 12 = .ok (.iconst 5, 1) := by decide +kernel
theorem d_Pa_init_13 : decode b_Pa_init 13 = .ok (.newarray .int, 2) := by decide +kernel
theorem d_Pa_init_15 : decode b_Pa_init 15 = .ok (.putfield 15, 3) := by decide +kernel
theorem d_Pa_init_18 : decode b_Pa_init 18 = .ok (.aload_n 0, 1) := by decide +kernel
theorem d_Pa_init_19 : decode b_Pa_init 19 = .ok (.new 18, 3) := by decide +kernel
theorem d_Pa_init_22 : decode b_Pa_init 22 = .ok (.dup, 1) := by decide +kernel
theorem d_Pa_init_23 : decode b_Pa_init 23 = .ok (.invokespecial 20, 3) := by decide +kernel
theorem d_Pa_init_26 : decode b_Pa_init 26 = .ok (.putfield 21, 3) := by decide +kernel
theorem d_Pa_init_29 : decode b_Pa_init 29 = .ok (.aload_n 0, 1) := by decide +kernel
theorem d_Pa_init_30 : decode b_Pa_init 30 = .ok (.new 18, 3) := by decide +kernel
theorem d_Pa_init_33 : decode b_Pa_init 33 = .ok (.dup, 1) := by decide +kernel
theorem d_Pa_init_34 : decode b_Pa_init 34 = .ok (.invokespecial 20, 3) := by decide +kernel
theorem d_Pa_init_37 : decode b_Pa_init 37 = .ok (.putfield 25, 3) := by decide +kernel
theorem d_Pa_init_40 : decode b_Pa_init 40 = .ok (.aload_n 0, 1) := by decide +kernel
theorem d_Pa_init_41 : decode b_Pa_init 41 = .ok (.invokevirtual 28, 3) := by decide +kernel
theorem d_Pa_init_44 : decode b_Pa_init 44 = .ok (.return_, 1) := by decide +kernel
theorem d_Pa_clear_0 : decode b_Pa_clear 0 = .ok (.aload_n 0, 1) := by decide +kernel
theorem d_Pa_clear_1 : decode b_Pa_clear 1 = .ok (.iconst 2, 1) := by decide +kernel
theorem d_Pa_clear_2 : decode b_Pa_clear 2 = .ok (.putfield 31, 3) := by decide +kernel
theorem d_Pa_clear_5 : decode b_Pa_clear 5 = .ok (.aload_n 0, 1) := by decide +kernel
theorem d_Pa_clear_6 : decode b_Pa_clear 6 = .ok (.iconst 1, 1) := by decide +kernel
theorem d_Pa_clear_7 : decode b_Pa_clear 7 = .ok (.putfield 35, 3) := by decide +kernel
theorem d_Pa_clear_10 : decode b_Pa_clear 10 = .ok (.aload_n 0, 1) := by decide +kernel
theorem d_Pa_clear_11 : decode b_Pa_clear 11 = .ok (.iconst 0, 1) := by decide +kernel
theorem d_Pa_clear_12 : decode b_Pa_clear 12 = .ok (.putfield 38, 3) := by decide +kernel
theorem d_Pa_clear_15 : decode b_Pa_clear 15 = .ok (.iconst 0, 1) := by decide +kernel
theorem d_Pa_clear_16 : decode b_Pa_clear 16 = .ok (.istore_n 1, 1) := by decide +kernel
theorem d_Pa_clear_17 : decode b_Pa_clear 17 = .ok (.iload_n 1, 1) := by decide +kernel
theorem d_Pa_clear_18 : decode b_Pa_clear 18 = .ok (.aload_n 0, 1) := by decide +kernel
theorem d_Pa_clear_19 : decode b_Pa_clear 19 = .ok (.getfield 9, 3) := by decide +kernel
theorem d_Pa_clear_22 : decode b_Pa_clear 22 = .ok (.arraylength, 1) := by decide +kernel
theorem d_Pa_clear_23 : decode b_Pa_clear 23 = .ok (.if_icmp .ge 16, 3) := by decide +kernel
theorem d_Pa_clear_26 : decode b_Pa_clear 26 = .ok (.aload_n 0, 1) := by decide +kernel
theorem d_Pa_clear_27 : decode b_Pa_clear 27 = .ok (.getfield 9, 3) := by decide +kernel
theorem d_Pa_clear_30 : decode b_Pa_clear 30 = .ok (.iload_n 1, 1) := by decide +kernel
theorem d_Pa_clear_31 : decode b_Pa_clear 31 = .ok (.iconst 0, 1) := by decide +kernel
theorem d_Pa_clear_32 : decode b_Pa_clear 32 = .ok (.iastore, 1) := by decide +kernel
theorem d_Pa_clear_33 : decode b_Pa_clear 33 = .ok (.iinc 1 1, 3) := by decide +kernel
theorem d_Pa_clear_36 : decode b_Pa_clear 36 = .ok (.goto (-19), 3) := by decide +kernel
theorem d_Pa_clear_39 : decode b_Pa_clear 39 = .ok (.iconst 0, 1) := by decide +kernel
theorem d_Pa_clear_40 : decode b_Pa_clear 40 = .ok (.istore_n 1, 1) := by decide +kernel
theorem d_Pa_clear_41 : decode b_Pa_clear 41 = .ok (.iload_n 1, 1) := by decide +kernel
theorem d_Pa_clear_42 : decode b_Pa_clear 42 = .ok (.aload_n 0, 1) := by decide +kernel
theorem d_Pa_clear_43 : decode b_Pa_clear 43 = .ok (.getfield 15, 3) := by decide +kernel
theorem d_Pa_clear_46 : decode b_Pa_clear 46 = .ok (.arraylength, 1) := by decide +kernel
theorem d_Pa_clear_47 : decode b_Pa_clear 47 = .ok (.if_icmp .ge 16, 3) := by decide +kernel
theorem d_Pa_clear_50 : decode b_Pa_clear 50 = .ok (.aload_n 0, 1) := by decide +kernel
theorem d_Pa_clear_51 : decode b_Pa_clear 51 = .ok (.getfield 15, 3) := by decide +kernel
theorem d_Pa_clear_54 : decode b_Pa_clear 54 = .ok (.iload_n 1, 1) := by decide +kernel
theorem d_Pa_clear_55 : decode b_Pa_clear 55 = .ok (.iconst 0, 1) := by decide +kernel
theorem d_Pa_clear_56 : decode b_Pa_clear 56 = .ok (.iastore, 1) := by decide +kernel
theorem d_Pa_clear_57 : decode b_Pa_clear 57 = .ok (.iinc 1 1, 3) := by decide +kernel
theorem d_Pa_clear_60 : decode b_Pa_clear 60 = .ok (.goto (-19), 3) := by decide +kernel
theorem d_Pa_clear_63 : decode b_Pa_clear 63 = .ok (.aload_n 0, 1) := by decide +kernel
theorem d_Pa_clear_64 : decode b_Pa_clear 64 = .ok (.sipush 1000, 3) := by decide +kernel
theorem d_Pa_clear_67 : decode b_Pa_clear 67 = .ok (.putfield 41, 3) := by decide +kernel
theorem d_Pa_clear_70 : decode b_Pa_clear 70 = .ok (.aload_n 0, 1) := by decide +kernel
theorem d_Pa_clear_71 : decode b_Pa_clear 71 = .ok (.getfield 21, 3) := by decide +kernel
theorem d_Pa_clear_74 : decode b_Pa_clear 74 = .ok (.invokevirtual 44, 3) := by decide +kernel
theorem d_Pa_clear_77 : decode b_Pa_clear 77 = .ok (.aload_n 0, 1) := by decide +kernel
theorem d_Pa_clear_78 : decode b_Pa_clear 78 = .ok (.getfield 25, 3) := by decide +kernel
theorem d_Pa_clear_81 : decode b_Pa_clear 81 = .ok (.invokevirtual 44, 3) := by decide +kernel
theorem d_Pa_clear_84 : decode b_Pa_clear 84 = .ok (.aload_n 0, 1) := by decide +kernel
theorem d_Pa_clear_85 : decode b_Pa_clear 85 = .ok (.iconst 0, 1) := by decide +kernel
theorem d_Pa_clear_86 : decode b_Pa_clear 86 = .ok (.putfield 45, 3) := by decide +kernel
theorem d_Pa_clear_89 : decode b_Pa_clear 89 = .ok (.aload_n 0, 1) := by decide +kernel
theorem d_Pa_clear_90 : decode b_Pa_clear 90 = .ok (.iconst 0, 1) := by decide +kernel
theorem d_Pa_clear_91 : decode b_Pa_clear 91 = .ok (.putfield 48, 3) := by decide +kernel
theorem d_Pa_clear_94 : decode b_Pa_clear 94 = .ok (.aload_n 0, 1) := by decide +kernel
theorem d_Pa_clear_95 : decode b_Pa_clear 95 = .ok (.iconst 0, 1) := by decide +kernel
theorem d_Pa_clear_96 : decode b_Pa_clear 96 = .ok (.putfield 51, 3) := by decide +kernel
theorem d_Pa_clear_99 : decode b_Pa_clear 99 = .ok (.aload_n 0, 1) := by decide +kernel
theorem d_Pa_clear_100 : decode b_Pa_clear 100 = .ok (.sipush 1000, 3) := by decide +kernel
theorem d_Pa_clear_103 : decode b_Pa_clear 103 = .ok (.putfield 54, 3) := by decide +kernel
theorem d_Pa_clear_106 : decode b_Pa_clear 106 = .ok (.aload_n 0, 1) := by decide +kernel
theorem d_Pa_clear_107 : decode b_Pa_clear 107 = .ok (.ldc 57, 2) := by decide +kernel
theorem d_Pa_clear_109 : decode b_Pa_clear 109 = .ok (.putfield 58, 3) := by decide +kernel
theorem d_Pa_clear_112 : decode b_Pa_clear 112 = .ok (.aload_n 0, 1) := by decide +kernel
theorem d_Pa_clear_113 : decode b_Pa_clear 113 = .ok (.ldc 61, 2) := by decide +kernel
theorem d_Pa_clear_115 : decode b_Pa_clear 115 = .ok (.putfield 62, 3) := by decide +kernel
theorem d_Pa_clear_118 : decode b_Pa_clear 118 = .ok (.aload_n 0, 1) := by decide +kernel
theorem d_Pa_clear_119 : decode b_Pa_clear 119 = .ok (.iconst 0, 1) := by decide +kernel
theorem d_Pa_clear_120 : decode b_Pa_clear 120 = .ok (.putfield 65, 3) := by decide +kernel
theorem d_Pa_clear_123 : decode b_Pa_clear 123 = .ok (.aload_n 0, 1) := by decide +kernel
theorem d_Pa_clear_124 : decode b_Pa_clear 124 = .ok (.iconst 0, 1) := by decide +kernel
theorem d_Pa_clear_125 : decode b_Pa_clear 125 = .ok (.putfield 68, 3) := by decide +kernel
theorem d_Pa_clear_128 : decode b_Pa_clear 128 = .ok (.aload_n 0, 1) := by decide +kernel
theorem d_Pa_clear_129 : decode b_Pa_clear 129 = .ok (.iconst 0, 1) := by decide +kernel
theorem d_Pa_clear_130 : decode b_Pa_clear 130 = .ok (.putfield 71, 3) := by decide +kernel
theorem d_Pa_clear_133 : decode b_Pa_clear 133 = .ok (.aload_n 0, 1) := by decide +kernel
theorem d_Pa_clear_134 : decode b_Pa_clear 134 = .ok (.iconst 1, 1) := by decide +kernel
theorem d_Pa_clear_135 : decode b_Pa_clear 135 = .ok (.putfield 74, 3) := by decide +kernel
theorem d_Pa_clear_138 : decode b_Pa_clear 138 = .ok (.return_, 1) := by decide +kernel
theorem d_Pa_copy_0 : decode b_Pa_copy 0 = .ok (.aload_n 0, 1) := by decide +kernel
theorem d_Pa_copy_1 : decode b_Pa_copy 1 = .ok (.aload_n 1, 1) := by decide +kernel
theorem d_Pa_copy_2 : decode b_Pa_copy 2 = .ok (.getfield 31, 3) := by decide +kernel
theorem d_Pa_copy_5 : decode b_Pa_copy 5 = .ok (.putfield 31, 3) := by decide +kernel
theorem d_Pa_copy_8 : decode b_Pa_copy 8 = .ok (.aload_n 0, 1) := by decide +kernel
theorem d_Pa_copy_9 : decode b_Pa_copy 9 = .ok (.aload_n 1, 1) := by decide +kernel
theorem d_Pa_copy_10 : decode b_Pa_copy 10 = .ok (.getfield 35, 3) := by decide +kernel
theorem d_Pa_copy_13 : decode b_Pa_copy 13 = .ok (.putfield 35, 3) := by decide +kernel
theorem d_Pa_copy_16 : decode b_Pa_copy 16 = .ok (.aload_n 0, 1) := by decide +kernel
theorem d_Pa_copy_17 : decode b_Pa_copy 17 = .ok (.aload_n 1, 1) := by decide +kernel
theorem d_Pa_copy_18 : decode b_Pa_copy 18 = .ok (.getfield 38, 3) := by decide +kernel
theorem d_Pa_copy_21 : decode b_Pa_copy 21 = .ok (.putfield 38, 3) := by decide +kernel
theorem d_Pa_copy_24 : decode b_Pa_copy 24 = .ok (.iconst 0, 1) := by decide +kernel
theorem d_Pa_copy_25 : decode b_Pa_copy 25 = .ok (.istore_n 2, 1) := by decide +kernel
theorem d_Pa_copy_26 : decode b_Pa_copy 26 = .ok (.iload_n 2, 1) := by decide +kernel
theorem d_Pa_copy_27 : decode b_Pa_copy 27 = .ok (.aload_n 0, 1) := by decide +kernel
theorem d_Pa_copy_28 : decode b_Pa_copy 28 = .ok (.getfield 9, 3) := by decide +kernel
theorem d_Pa_copy_31 : decode b_Pa_copy 31 = .ok (.arraylength, 1) := by decide +kernel
theorem d_Pa_copy_32 : decode b_Pa_copy 32 = .ok (.if_icmp .ge 20, 3) := by decide +kernel
theorem d_Pa_copy_35 : decode b_Pa_copy 35 = .ok (.aload_n 0, 1) := by decide +kernel
theorem d_Pa_copy_36 : decode b_Pa_copy 36 = .ok (.getfield 9, 3) := by decide +kernel
theorem d_Pa_copy_39 : decode b_Pa_copy 39 = .ok (.iload_n 2, 1) := by decide +kernel
theorem d_Pa_copy_40 : decode b_Pa_copy 40 = .ok (.aload_n 1, 1) := by decide +kernel
theorem d_Pa_copy_41 : decode b_Pa_copy 41 = .ok (.iload_n 2, 1) := by decide +kernel
theorem d_Pa_copy_42 : decode b_Pa_copy 42 = .ok (.invokevirtual 77, 3) := by decide +kernel
theorem d_Pa_copy_45 : decode b_Pa_copy 45 = .ok (.iastore, 1) := by decide +kernel
theorem d_Pa_copy_46 : decode b_Pa_copy 46 = .ok (.iinc 2 1, 3) := by decide +kernel
theorem d_Pa_copy_49 : decode b_Pa_copy 49 = .ok (.goto (-23), 3) := by decide +kernel
theorem d_Pa_copy_52 : decode b_Pa_copy 52 = .ok (.iconst 0, 1) := by decide +kernel
theorem d_Pa_copy_53 : decode b_Pa_copy 53 = .ok (.istore_n 2, 1) := by decide +kernel
theorem d_Pa_copy_54 : decode b_Pa_copy 54 = .ok (.iload_n 2, 1) := by decide +kernel
theorem d_Pa_copy_55 : decode b_Pa_copy 55 = .ok (.aload_n 0, 1) := by decide +kernel
theorem d_Pa_copy_56 : decode b_Pa_copy 56 = .ok (.getfield 15, 3) := by decide +kernel
theorem d_Pa_copy_59 : decode b_Pa_copy 59 = .ok (.arraylength, 1) := by decide +kernel
theorem d_Pa_copy_60 : decode b_Pa_copy 60 = .ok (.if_icmp .ge 20, 3) := by decide +kernel
theorem d_Pa_copy_63 : decode b_Pa_copy 63 = .ok (.aload_n 0, 1) := by decide +kernel
theorem d_Pa_copy_64 : decode b_Pa_copy 64 = .ok (.getfield 15, 3) := by decide +kernel
theorem d_Pa_copy_67 : decode b_Pa_copy 67 = .ok (.iload_n 2, 1) := by decide +kernel
theorem d_Pa_copy_68 : decode b_Pa_copy 68 = .ok (.aload_n 1, 1) := by decide +kernel
theorem d_Pa_copy_69 : decode b_Pa_copy 69 = .ok (.iload_n 2, 1) := by decide +kernel
theorem d_Pa_copy_70 : decode b_Pa_copy 70 = .ok (.invokevirtual 81, 3) := by decide +kernel
theorem d_Pa_copy_73 : decode b_Pa_copy 73 = .ok (.iastore, 1) := by decide +kernel
theorem d_Pa_copy_74 : decode b_Pa_copy 74 = .ok (.iinc 2 1, 3) := by decide +kernel
theorem d_Pa_copy_77 : decode b_Pa_copy 77 = .ok (.goto (-23), 3) := by decide +kernel
theorem d_Pa_copy_80 : decode b_Pa_copy 80 = .ok (.aload_n 0, 1) := by decide +kernel
theorem d_Pa_copy_81 : decode b_Pa_copy 81 = .ok (.aload_n 1, 1) := by decide +kernel
theorem d_Pa_copy_82 : decode b_Pa_copy 82 = .ok (.getfield 41, 3) := by decide +kernel
theorem d_Pa_copy_85 : decode b_Pa_copy 85 = .ok (.putfield 41, 3) := by decide +kernel
theorem d_Pa_copy_88 : decode b_Pa_copy 88 = .ok (.aload_n 0, 1) := by decide +kernel
theorem d_Pa_copy_89 : decode b_Pa_copy 89 = .ok (.getfield 21, 3) := by decide +kernel
theorem d_Pa_copy_92 : decode b_Pa_copy 92 = .ok (.aload_n 1, 1) := by decide +kernel
theorem d_Pa_copy_93 : decode b_Pa_copy 93 = .ok (.getfield 21, 3) := by decide +kernel
theorem d_Pa_copy_96 : decode b_Pa_copy 96 = .ok (.invokevirtual 84, 3) := by decide +kernel
theorem d_Pa_copy_99 : decode b_Pa_copy 99 = .ok (.aload_n 0, 1) := by decide +kernel
theorem d_Pa_copy_100 : decode b_Pa_copy 100 = .ok (.getfield 25, 3) := by decide +kernel
theorem d_Pa_copy_103 : decode b_Pa_copy 103 = .ok (.aload_n 1, 1) := by decide +kernel
theorem d_Pa_copy_104 : decode b_Pa_copy 104 = .ok (.getfield 25, 3) := by decide +kernel
theorem d_Pa_copy_107 : decode b_Pa_copy 107 = .ok (.invokevirtual 84, 3) := by decide +kernel
theorem d_Pa_copy_110 : decode b_Pa_copy 110 = .ok (.aload_n 0, 1) := by decide +kernel
theorem d_Pa_copy_111 : decode b_Pa_copy 111 = .ok (.aload_n 1, 1) := by decide +kernel
theorem d_Pa_copy_112 : decode b_Pa_copy 112 = .ok (.getfield 45, 3) := by decide +kernel
theorem d_Pa_copy_115 : decode b_Pa_copy 115 = .ok (.putfield 45, 3) := by decide +kernel
theorem d_Pa_copy_118 : decode b_Pa_copy 118 = .ok (.aload_n 0, 1) := by decide +kernel
theorem d_Pa_copy_119 : decode b_Pa_copy 119 = .ok (.aload_n 1, 1) := by decide +kernel
theorem d_Pa_copy_120 : decode b_Pa_copy 120 = .ok (.getfield 48, 3) := by decide +kernel
theorem d_Pa_copy_123 : decode b_Pa_copy 123 = .ok (.putfield 48, 3) := by decide +kernel
theorem d_Pa_copy_126 : decode b_Pa_copy 126 = .ok (.aload_n 0, 1) := by decide +kernel
theorem d_Pa_copy_127 : decode b_Pa_copy 127 = .ok (.aload_n 1, 1) := by decide +kernel
theorem d_Pa_copy_128 : decode b_Pa_copy 128 = .ok (.getfield 51, 3) := by decide +kernel
theorem d_Pa_copy_131 : decode b_Pa_copy 131 = .ok (.putfield 51, 3) := by decide +kernel
theorem d_Pa_copy_134 : decode b_Pa_copy 134 = .ok (.aload_n 0, 1) := by decide +kernel
theorem d_Pa_copy_135 : decode b_Pa_copy 135 = .ok (.aload_n 1, 1) := by decide +kernel
theorem d_Pa_copy_136 : decode b_Pa_copy 136 = .ok (.getfield 54, 3) := by decide +kernel
theorem d_Pa_copy_139 : decode b_Pa_copy 139 = .ok (.putfield 54, 3) := by decide +kernel
theorem d_Pa_copy_142 : decode b_Pa_copy 142 = .ok (.aload_n 0, 1) := by decide +kernel
theorem d_Pa_copy_143 : decode b_Pa_copy 143 = .ok (.aload_n 1, 1) := by decide +kernel
theorem d_Pa_copy_144 : decode b_Pa_copy 144 = .ok (.getfield 58, 3) := by decide +kernel
theorem d_Pa_copy_147 : decode b_Pa_copy 147 = .ok (.putfield 58, 3) := by decide +kernel
theorem d_Pa_copy_150 : decode b_Pa_copy 150 = .ok (.aload_n 0, 1) := by decide +kernel
theorem d_Pa_copy_151 : decode b_Pa_copy 151 = .ok (.aload_n 1, 1) := by decide +kernel
theorem d_Pa_copy_152 : decode b_Pa_copy 152 = .ok (.getfield 62, 3) := by decide +kernel
theorem d_Pa_copy_155 : decode b_Pa_copy 155 = .ok (.putfield 62, 3) := by decide +kernel
theorem d_Pa_copy_158 : decode b_Pa_copy 158 = .ok (.aload_n 0, 1) := by decide +kernel
theorem d_Pa_copy_159 : decode b_Pa_copy 159 = .ok (.aload_n 1, 1) := by decide +kernel
theorem d_Pa_copy_160 : decode b_Pa_copy 160 = .ok (.getfield 65, 3) := by decide +kernel
theorem d_Pa_copy_163 : decode b_Pa_copy 163 = .ok (.putfield 65, 3) := by decide +kernel
theorem d_Pa_copy_166 : decode b_Pa_copy 166 = .ok (.aload_n 0, 1) := by decide +kernel
theorem d_Pa_copy_167 : decode b_Pa_copy 167 = .ok (.aload_n 1, 1) := by decide +kernel
theorem d_Pa_copy_168 : decode b_Pa_copy 168 = .ok (.getfield 68, 3) := by decide +kernel
theorem d_Pa_copy_171 : decode b_Pa_copy 171 = .ok (.putfield 68, 3) := by decide +kernel
theorem d_Pa_copy_174 : decode b_Pa_copy 174 = .ok (.aload_n 0, 1) := by decide +kernel
theorem d_Pa_copy_175 : decode b_Pa_copy 175 = .ok (.aload_n 1, 1) := by decide +kernel
theorem d_Pa_copy_176 : decode b_Pa_copy 176 = .ok (.getfield 71, 3) := by decide +kernel
theorem d_Pa_copy_179 : decode b_Pa_copy 179 = .ok (.putfield 71, 3) := by decide +kernel
theorem d_Pa_copy_182 : decode b_Pa_copy 182 = .ok (.aload_n 0, 1) := by decide +kernel
theorem d_Pa_copy_183 : decode b_Pa_copy 183 = .ok (.aload_n 1, 1) := by decide +kernel
theorem d_Pa_copy_184 : decode b_Pa_copy 184 = .ok (.getfield 74, 3) := by decide +kernel
theorem d_Pa_copy_187 : decode b_Pa_copy 187 = .ok (.putfield 74, 3) := by decide +kernel
theorem d_Pa_copy_190 : decode b_Pa_copy 190 = .ok (.return_, 1) := by decide +kernel
theorem d_Pa_tenTo_0 : decode b_Pa_tenTo 0 = .ok (.iconst 1, 1) := by decide +kernel
theorem d_Pa_tenTo_1 : decode b_Pa_tenTo 1 = .ok (.istore_n 1, 1) := by decide +kernel
theorem d_Pa_tenTo_2 : decode b_Pa_tenTo 2 = .ok (.iconst 0, 1) := by decide +kernel
theorem d_Pa_tenTo_3 : decode b_Pa_tenTo 3 = .ok (.istore_n 2, 1) := by decide +kernel
theorem d_Pa_tenTo_4 : decode b_Pa_tenTo 4 = .ok (.iload_n 2, 1) := by decide +kernel
theorem d_Pa_tenTo_5 : decode b_Pa_tenTo 5 = .ok (.iload_n 0, 1) := by decide +kernel
theorem d_Pa_tenTo_6 : decode b_Pa_tenTo 6 = .ok (.if_icmp .ge 20, 3) := by decide +kernel
theorem d_Pa_tenTo_9 : decode b_Pa_tenTo 9 = .ok (.iload_n 2, 1) := by decide +kernel
theorem d_Pa_tenTo_10 : decode b_Pa_tenTo 10 = .ok (.bipush 9, 2) := by decide +kernel
theorem d_Pa_tenTo_12 : decode b_Pa_tenTo 12 = .ok (.if_icmp .ge 14, 3) := by decide +kernel
theorem d_Pa_tenTo_15 : decode b_Pa_tenTo 15 = .ok (.iload_n 1, 1) := by decide +kernel
theorem d_Pa_tenTo_16 : decode b_Pa_tenTo 16 = .ok (.bipush 10, 2) := by decide +kernel
theorem d_Pa_tenTo_18 : decode b_Pa_tenTo 18 = .ok (.imul, 1) := by decide +kernel
theorem d_Pa_tenTo_19 : decode b_Pa_tenTo 19 = .ok (.istore_n 1, 1) := by decide +kernel
theorem d_Pa_tenTo_20 : decode b_Pa_tenTo 20 = .ok (.iinc 2 1, 3) := by decide +kernel
theorem d_Pa_tenTo_23 : decode b_Pa_tenTo 23 = .ok (.goto (-19), 3) := by decide +kernel
theorem d_Pa_tenTo_26 : decode b_Pa_tenTo 26 = .ok (.iload_n 1, 1) := by decide +kernel
theorem d_Pa_tenTo_27 : decode b_Pa_tenTo 27 = .ok (.ireturn, 1) := by decide +kernel
theorem d_Pa_nominalOf_0 : decode b_Pa_nominalOf 0 = .ok (.iload_n 0, 1) := by decide +kernel
theorem d_Pa_nominalOf_1 : decode b_Pa_nominalOf 1 = .ok (.ifCond .lt 19, 3) := by decide +kernel
theorem d_Pa_nominalOf_4 : decode b_Pa_nominalOf 4 = .ok (.iload_n 0, 1) := by decide +kernel
theorem d_Pa_nominalOf_5 : decode b_Pa_nominalOf 5 = .ok (.getstatic 88, 3) := by decide +kernel
theorem d_Pa_nominalOf_8 : decode b_Pa_nominalOf 8 = .ok (.arraylength, 1) := by decide +kernel
theorem d_Pa_nominalOf_9 : decode b_Pa_nominalOf 9 = .ok (.if_icmp .ge 11, 3) := by decide +kernel
theorem d_Pa_nominalOf_12 : decode b_Pa_nominalOf 12 = .ok (.getstatic 88, 3) := by decide +kernel
theorem d_Pa_nominalOf_15 : decode b_Pa_nominalOf 15 = .ok (.iload_n 0, 1) := by decide +kernel
theorem d_Pa_nominalOf_16 : decode b_Pa_nominalOf 16 = .ok (.iaload, 1) := by decide +kernel
theorem d_Pa_nominalOf_17 : decode b_Pa_nominalOf 17 = .ok (.goto 4, 3) := by decide +kernel
theorem d_Pa_nominalOf_20 : decode b_Pa_nominalOf 20 = .ok (.iconst 0, 1) := by decide +kernel
theorem d_Pa_nominalOf_21 : decode b_Pa_nominalOf 21 = .ok (.ireturn, 1) := by decide +kernel
theorem d_Pa_settings_0 : decode b_Pa_settings 0 = .ok (.aload_n 0, 1) := by decide +kernel
theorem d_Pa_settings_1 : decode b_Pa_settings 1 = .ok (.getfield 31, 3) := by decide +kernel
theorem d_Pa_settings_4 : decode b_Pa_settings 4 = .ok (.invokestatic 91, 3) := by decide +kernel
theorem d_Pa_settings_7 : decode b_Pa_settings 7 = .ok (.ireturn, 1) := by decide +kernel
theorem d_Pa_weightOf_0 : decode b_Pa_weightOf 0 = .ok (.aload_n 0, 1) := by decide +kernel
theorem d_Pa_weightOf_1 : decode b_Pa_weightOf 1 = .ok (.getfield 31, 3) := by decide +kernel
theorem d_Pa_weightOf_4 : decode b_Pa_weightOf 4 = .ok (.iconst 1, 1) := by decide +kernel
theorem d_Pa_weightOf_5 : decode b_Pa_weightOf 5 = .ok (.isub, 1) := by decide +kernel
theorem d_Pa_weightOf_6 : decode b_Pa_weightOf 6 = .ok (.iload_n 1, 1) := by decide +kernel
theorem d_Pa_weightOf_7 : decode b_Pa_weightOf 7 = .ok (.isub, 1) := by decide +kernel
theorem d_Pa_weightOf_8 : decode b_Pa_weightOf 8 = .ok (.invokestatic 91, 3) := by decide +kernel
theorem d_Pa_weightOf_11 : decode b_Pa_weightOf 11 = .ok (.ireturn, 1) := by decide +kernel
theorem d_Pa_stepOf_0 : decode b_Pa_stepOf 0 = .ok (.aload_n 0, 1) := by decide +kernel
theorem d_Pa_stepOf_1 : decode b_Pa_stepOf 1 = .ok (.getfield 35, 3) := by decide +kernel
theorem d_Pa_stepOf_4 : decode b_Pa_stepOf 4 = .ok (.aload_n 0, 1) := by decide +kernel
theorem d_Pa_stepOf_5 : decode b_Pa_stepOf 5 = .ok (.iload_n 1, 1) := by decide +kernel
theorem d_Pa_stepOf_6 : decode b_Pa_stepOf 6 = .ok (.invokevirtual 94, 3) := by decide +kernel
theorem d_Pa_stepOf_9 : decode b_Pa_stepOf 9 = .ok (.imul, 1) := by decide +kernel
theorem d_Pa_stepOf_10 : decode b_Pa_stepOf 10 = .ok (.ireturn, 1) := by decide +kernel
theorem d_Pa_digitOf_0 : decode b_Pa_digitOf 0 = .ok (.aload_n 0, 1) := by decide +kernel
theorem d_Pa_digitOf_1 : decode b_Pa_digitOf 1 = .ok (.iload_n 2, 1) := by decide +kernel
theorem d_Pa_digitOf_2 : decode b_Pa_digitOf 2 = .ok (.invokevirtual 94, 3) := by decide +kernel
theorem d_Pa_digitOf_5 : decode b_Pa_digitOf 5 = .ok (.istore_n 3, 1) := by decide +kernel
theorem d_Pa_digitOf_6 : decode b_Pa_digitOf 6 = .ok (.iload_n 3, 1) := by decide +kernel
theorem d_Pa_digitOf_7 : decode b_Pa_digitOf 7 = .ok (.iconst 1, 1) := by decide +kernel
theorem d_Pa_digitOf_8 : decode b_Pa_digitOf 8 = .ok (.if_icmp .ge 7, 3) := by decide +kernel
theorem d_Pa_digitOf_11 : decode b_Pa_digitOf 11 = .ok (.iconst 0, 1) := by decide +kernel
theorem d_Pa_digitOf_12 : decode b_Pa_digitOf 12 = .ok (.goto 9, 3) := by decide +kernel
theorem d_Pa_digitOf_15 : decode b_Pa_digitOf 15 = .ok (.iload_n 1, 1) := by decide +kernel
theorem d_Pa_digitOf_16 : decode b_Pa_digitOf 16 = .ok (.iload_n 3, 1) := by decide +kernel
theorem d_Pa_digitOf_17 : decode b_Pa_digitOf 17 = .ok (.idiv, 1) := by decide +kernel
theorem d_Pa_digitOf_18 : decode b_Pa_digitOf 18 = .ok (.bipush 10, 2) := by decide +kernel
theorem d_Pa_digitOf_20 : decode b_Pa_digitOf 20 = .ok (.irem, 1) := by decide +kernel
theorem d_Pa_digitOf_21 : decode b_Pa_digitOf 21 = .ok (.ireturn, 1) := by decide +kernel
theorem d_Pa_errorOfDecade_0 : decode b_Pa_errorOfDecade 0 = .ok (.iload_n 1, 1) := by decide +kernel
theorem d_Pa_errorOfDecade_1 : decode b_Pa_errorOfDecade 1 = .ok (.ifCond .lt 21, 3) := by decide +kernel
theorem d_Pa_errorOfDecade_4 : decode b_Pa_errorOfDecade 4 = .ok (.iload_n 1, 1) := by decide +kernel
theorem d_Pa_errorOfDecade_5 : decode b_Pa_errorOfDecade 5 = .ok (.aload_n 0, 1) := by decide +kernel
theorem d_Pa_errorOfDecade_6 : decode b_Pa_errorOfDecade 6 = .ok (.getfield 9, 3) := by decide +kernel
theorem d_Pa_errorOfDecade_9 : decode b_Pa_errorOfDecade 9 = .ok (.arraylength, 1) := by decide +kernel
theorem d_Pa_errorOfDecade_10 : decode b_Pa_errorOfDecade 10 = .ok (.if_icmp .ge 12, 3) := by decide +kernel
theorem d_Pa_errorOfDecade_13 : decode b_Pa_errorOfDecade 13 = .ok (.aload_n 0, 1) := by decide +kernel
theorem d_Pa_errorOfDecade_14 : decode b_Pa_errorOfDecade 14 = .ok (.getfield 9, 3) := by decide +kernel
theorem d_Pa_errorOfDecade_17 : decode b_Pa_errorOfDecade 17 = .ok (.iload_n 1, 1) := by decide +kernel
theorem d_Pa_errorOfDecade_18 : decode b_Pa_errorOfDecade 18 = .ok (.iaload, 1) := by decide +kernel
theorem d_Pa_errorOfDecade_19 : decode b_Pa_errorOfDecade 19 = .ok (.goto 4, 3) := by decide +kernel
theorem d_Pa_errorOfDecade_22 : decode b_Pa_errorOfDecade 22 = .ok (.iconst 0, 1) := by decide +kernel
theorem d_Pa_errorOfDecade_23 : decode b_Pa_errorOfDecade 23 = .ok (.ireturn, 1) := by decide +kernel
theorem d_Pa_setErrorOfDecade_0 : decode b_Pa_setErrorOfDecade 0 = .ok (.iload_n 1, 1) := by decide +kernel
theorem d_Pa_setErrorOfDecade_1 : decode b_Pa_setErrorOfDecade 1 = .ok (.ifCond .lt 19, 3) := by decide +kernel
theorem d_Pa_setErrorOfDecade_4 : decode b_Pa_setErrorOfDecade 4 = .ok (.iload_n 1, 1) := by decide +kernel
theorem d_Pa_setErrorOfDecade_5 : decode b_Pa_setErrorOfDecade 5 = .ok (.aload_n 0, 1) := by decide +kernel
theorem d_Pa_setErrorOfDecade_6 : decode b_Pa_setErrorOfDecade 6 = .ok (.getfield 9, 3) := by decide +kernel
theorem d_Pa_setErrorOfDecade_9 : decode b_Pa_setErrorOfDecade 9 = .ok (.arraylength, 1) := by decide +kernel
theorem d_Pa_setErrorOfDecade_10 : decode b_Pa_setErrorOfDecade 10 = .ok (.if_icmp .ge 10, 3) := by decide +kernel
theorem d_Pa_setErrorOfDecade_13 : decode b_Pa_setErrorOfDecade 13 = .ok (.aload_n 0, 1) := by decide +kernel
theorem d_Pa_setErrorOfDecade_14 : decode b_Pa_setErrorOfDecade 14 = .ok (.getfield 9, 3) := by decide +kernel
theorem d_Pa_setErrorOfDecade_17 : decode b_Pa_setErrorOfDecade 17 = .ok (.iload_n 1, 1) := by decide +kernel
theorem d_Pa_setErrorOfDecade_18 : decode b_Pa_setErrorOfDecade 18 = .ok (.iload_n 2, 1) := by decide +kernel
theorem d_Pa_setErrorOfDecade_19 : decode b_Pa_setErrorOfDecade 19 = .ok (.iastore, 1) := by decide +kernel
theorem d_Pa_setErrorOfDecade_20 : decode b_Pa_setErrorOfDecade 20 = .ok (.return_, 1) := by decide +kernel
theorem d_Pa_errorOfKind_0 : decode b_Pa_errorOfKind 0 = .ok (.iload_n 1, 1) := by decide +kernel
theorem d_Pa_errorOfKind_1 : decode b_Pa_errorOfKind 1 = .ok (.ifCond .lt 21, 3) := by decide +kernel
theorem d_Pa_errorOfKind_4 : decode b_Pa_errorOfKind 4 = .ok (.iload_n 1, 1) := by decide +kernel
theorem d_Pa_errorOfKind_5 : decode b_Pa_errorOfKind 5 = .ok (.aload_n 0, 1) := by decide +kernel
theorem d_Pa_errorOfKind_6 : decode b_Pa_errorOfKind 6 = .ok (.getfield 15, 3) := by decide +kernel
theorem d_Pa_errorOfKind_9 : decode b_Pa_errorOfKind 9 = .ok (.arraylength, 1) := by decide +kernel
theorem d_Pa_errorOfKind_10 : decode b_Pa_errorOfKind 10 = .ok (.if_icmp .ge 12, 3) := by decide +kernel
theorem d_Pa_errorOfKind_13 : decode b_Pa_errorOfKind 13 = .ok (.aload_n 0, 1) := by decide +kernel
theorem d_Pa_errorOfKind_14 : decode b_Pa_errorOfKind 14 = .ok (.getfield 15, 3) := by decide +kernel
theorem d_Pa_errorOfKind_17 : decode b_Pa_errorOfKind 17 = .ok (.iload_n 1, 1) := by decide +kernel
theorem d_Pa_errorOfKind_18 : decode b_Pa_errorOfKind 18 = .ok (.iaload, 1) := by decide +kernel
theorem d_Pa_errorOfKind_19 : decode b_Pa_errorOfKind 19 = .ok (.goto 4, 3) := by decide +kernel
theorem d_Pa_errorOfKind_22 : decode b_Pa_errorOfKind 22 = .ok (.iconst 0, 1) := by decide +kernel
theorem d_Pa_errorOfKind_23 : decode b_Pa_errorOfKind 23 = .ok (.ireturn, 1) := by decide +kernel
theorem d_Pa_setErrorOfKind_0 : decode b_Pa_setErrorOfKind 0 = .ok (.iload_n 1, 1) := by decide +kernel
theorem d_Pa_setErrorOfKind_1 : decode b_Pa_setErrorOfKind 1 = .ok (.ifCond .lt 19, 3) := by decide +kernel
theorem d_Pa_setErrorOfKind_4 : decode b_Pa_setErrorOfKind 4 = .ok (.iload_n 1, 1) := by decide +kernel
theorem d_Pa_setErrorOfKind_5 : decode b_Pa_setErrorOfKind 5 = .ok (.aload_n 0, 1) := by decide +kernel
theorem d_Pa_setErrorOfKind_6 : decode b_Pa_setErrorOfKind 6 = .ok (.getfield 15, 3) := by decide +kernel
theorem d_Pa_setErrorOfKind_9 : decode b_Pa_setErrorOfKind 9 = .ok (.arraylength, 1) := by decide +kernel
theorem d_Pa_setErrorOfKind_10 : decode b_Pa_setErrorOfKind 10 = .ok (.if_icmp .ge 10, 3) := by decide +kernel
theorem d_Pa_setErrorOfKind_13 : decode b_Pa_setErrorOfKind 13 = .ok (.aload_n 0, 1) := by decide +kernel
theorem d_Pa_setErrorOfKind_14 : decode b_Pa_setErrorOfKind 14 = .ok (.getfield 15, 3) := by decide +kernel
theorem d_Pa_setErrorOfKind_17 : decode b_Pa_setErrorOfKind 17 = .ok (.iload_n 1, 1) := by decide +kernel
theorem d_Pa_setErrorOfKind_18 : decode b_Pa_setErrorOfKind 18 = .ok (.iload_n 2, 1) := by decide +kernel
theorem d_Pa_setErrorOfKind_19 : decode b_Pa_setErrorOfKind 19 = .ok (.iastore, 1) := by decide +kernel
theorem d_Pa_setErrorOfKind_20 : decode b_Pa_setErrorOfKind 20 = .ok (.return_, 1) := by decide +kernel
theorem d_Pa_valueOfKind_0 : decode b_Pa_valueOfKind 0 = .ok (.iload_n 1, 1) := by decide +kernel
theorem d_Pa_valueOfKind_1 : decode b_Pa_valueOfKind 1 = .ok (.ifCond .lt 20, 3) := by decide +kernel
theorem d_Pa_valueOfKind_4 : decode b_Pa_valueOfKind 4 = .ok (.iload_n 1, 1) := by decide +kernel
theorem d_Pa_valueOfKind_5 : decode b_Pa_valueOfKind 5 = .ok (.getstatic 88, 3) := by decide +kernel
theorem d_Pa_valueOfKind_8 : decode b_Pa_valueOfKind 8 = .ok (.arraylength, 1) := by decide +kernel
theorem d_Pa_valueOfKind_9 : decode b_Pa_valueOfKind 9 = .ok (.if_icmp .ge 12, 3) := by decide +kernel
theorem d_Pa_valueOfKind_12 : decode b_Pa_valueOfKind 12 = .ok (.iload_n 1, 1) := by decide +kernel
theorem d_Pa_valueOfKind_13 : decode b_Pa_valueOfKind 13 = .ok (.aload_n 0, 1) := by decide +kernel
theorem d_Pa_valueOfKind_14 : decode b_Pa_valueOfKind 14 = .ok (.getfield 15, 3) := by decide +kernel
theorem d_Pa_valueOfKind_17 : decode b_Pa_valueOfKind 17 = .ok (.arraylength, 1) := by decide +kernel
theorem d_Pa_valueOfKind_18 : decode b_Pa_valueOfKind 18 = .ok (.if_icmp .lt 5, 3) := by decide +kernel
theorem d_Pa_valueOfKind_21 : decode b_Pa_valueOfKind 21 = .ok (.iconst 0, 1) := by decide +kernel
theorem d_Pa_valueOfKind_22 : decode b_Pa_valueOfKind 22 = .ok (.ireturn, 1) := by decide +kernel
theorem d_Pa_valueOfKind_23 : decode b_Pa_valueOfKind 23 = .ok (.getstatic 88, 3) := by decide +kernel
theorem d_Pa_valueOfKind_26 : decode b_Pa_valueOfKind 26 = .ok (.iload_n 1, 1) := by decide +kernel
theorem d_Pa_valueOfKind_27 : decode b_Pa_valueOfKind 27 = .ok (.iaload, 1) := by decide +kernel
theorem d_Pa_valueOfKind_28 : decode b_Pa_valueOfKind 28 = .ok (.i2l, 1) := by decide +kernel
theorem d_Pa_valueOfKind_29 : decode b_Pa_valueOfKind 29 = .ok (.lstore_n 2, 1) := by decide +kernel
theorem d_Pa_valueOfKind_30 : decode b_Pa_valueOfKind 30 = .ok (.lload_n 2, 1) := by decide +kernel
theorem d_Pa_valueOfKind_31 : decode b_Pa_valueOfKind 31 = .ok (.lload_n 2, 1) := by decide +kernel
theorem d_Pa_valueOfKind_32 : decode b_Pa_valueOfKind 32 = .ok (.aload_n 0, 1) := by decide +kernel
theorem d_Pa_valueOfKind_33 : decode b_Pa_valueOfKind 33 = .ok (.getfield 15, 3) := by decide +kernel
theorem d_Pa_valueOfKind_36 : decode b_Pa_valueOfKind 36 = .ok (.iload_n 1, 1) := by decide +kernel
theorem d_Pa_valueOfKind_37 : decode b_Pa_valueOfKind 37 = .ok (.iaload, 1) := by decide +kernel
theorem d_Pa_valueOfKind_38 : decode b_Pa_valueOfKind 38 = .ok (.i2l, 1) := by decide +kernel
theorem d_Pa_valueOfKind_39 : decode b_Pa_valueOfKind 39 = .ok (.lmul, 1) := by decide +kernel
theorem d_Pa_valueOfKind_40 : decode b_Pa_valueOfKind 40 = .ok (.ldc2_w 97, 3) := by decide +kernel
theorem d_Pa_valueOfKind_43 : decode b_Pa_valueOfKind 43 = .ok (.ldiv, 1) := by decide +kernel
theorem d_Pa_valueOfKind_44 : decode b_Pa_valueOfKind 44 = .ok (.ladd, 1) := by decide +kernel
theorem d_Pa_valueOfKind_45 : decode b_Pa_valueOfKind 45 = .ok (.l2i, 1) := by decide +kernel
theorem d_Pa_valueOfKind_46 : decode b_Pa_valueOfKind 46 = .ok (.ireturn, 1) := by decide +kernel
theorem d_Pa_coldAt_0 : decode b_Pa_coldAt 0 = .ok (.lconst 0, 1) := by decide +kernel
theorem d_Pa_coldAt_1 : decode b_Pa_coldAt 1 = .ok (.lstore_n 2, 1) := by decide +kernel
theorem d_Pa_coldAt_2 : decode b_Pa_coldAt 2 = .ok (.aload_n 0, 1) := by decide +kernel
theorem d_Pa_coldAt_3 : decode b_Pa_coldAt 3 = .ok (.getfield 35, 3) := by decide +kernel
theorem d_Pa_coldAt_6 : decode b_Pa_coldAt 6 = .ok (.i2l, 1) := by decide +kernel
theorem d_Pa_coldAt_7 : decode b_Pa_coldAt 7 = .ok (.lstore 4, 2) := by decide +kernel
theorem d_Pa_coldAt_9 : decode b_Pa_coldAt 9 = .ok (.iload_n 1, 1) := by decide +kernel
theorem d_Pa_coldAt_10 : decode b_Pa_coldAt 10 = .ok (.istore 6, 2) := by decide +kernel
theorem d_Pa_coldAt_12 : decode b_Pa_coldAt 12 = .ok (.aload_n 0, 1) := by decide +kernel
theorem d_Pa_coldAt_13 : decode b_Pa_coldAt 13 = .ok (.getfield 31, 3) := by decide +kernel
theorem d_Pa_coldAt_16 : decode b_Pa_coldAt 16 = .ok (.iconst 1, 1) := by decide +kernel
theorem d_Pa_coldAt_17 : decode b_Pa_coldAt 17 = .ok (.isub, 1) := by decide +kernel
theorem d_Pa_coldAt_18 : decode b_Pa_coldAt 18 = .ok (.istore 7, 2) := by decide +kernel
theorem d_Pa_coldAt_20 : decode b_Pa_coldAt 20 = .ok (.iload 7, 2) := by decide +kernel
theorem d_Pa_coldAt_22 : decode b_Pa_coldAt 22 = .ok (.ifCond .lt 66, 3) := by decide +kernel
theorem d_Pa_coldAt_25 : decode b_Pa_coldAt 25 = .ok (.iload 7, 2) := by decide +kernel
theorem d_Pa_coldAt_27 : decode b_Pa_coldAt 27 = .ok (.aload_n 0, 1) := by decide +kernel
theorem d_Pa_coldAt_28 : decode b_Pa_coldAt 28 = .ok (.getfield 9, 3) := by decide +kernel
theorem d_Pa_coldAt_31 : decode b_Pa_coldAt 31 = .ok (.arraylength, 1) := by decide +kernel
theorem d_Pa_coldAt_32 : decode b_Pa_coldAt 32 = .ok (.if_icmp .ge 13, 3) := by decide +kernel
theorem d_Pa_coldAt_35 : decode b_Pa_coldAt 35 = .ok (.aload_n 0, 1) := by decide +kernel
theorem d_Pa_coldAt_36 : decode b_Pa_coldAt 36 = .ok (.getfield 9, 3) := by decide +kernel
theorem d_Pa_coldAt_39 : decode b_Pa_coldAt 39 = .ok (.iload 7, 2) := by decide +kernel
theorem d_Pa_coldAt_41 : decode b_Pa_coldAt 41 = .ok (.iaload, 1) := by decide +kernel
theorem d_Pa_coldAt_42 : decode b_Pa_coldAt 42 = .ok (.goto 4, 3) := by decide +kernel
theorem d_Pa_coldAt_45 : decode b_Pa_coldAt 45 = .ok (.iconst 0, 1) := by decide +kernel
theorem d_Pa_coldAt_46 : decode b_Pa_coldAt 46 = .ok (.istore 8, 2) := by decide +kernel
theorem d_Pa_coldAt_48 : decode b_Pa_coldAt 48 = .ok (.lload_n 2, 1) := by decide +kernel
theorem d_Pa_coldAt_49 : decode b_Pa_coldAt 49 = .ok (.iload 6, 2) := by decide +kernel
theorem d_Pa_coldAt_51 : decode b_Pa_coldAt 51 = .ok (.bipush 10, 2) := by decide +kernel
theorem d_Pa_coldAt_53 : decode b_Pa_coldAt 53 = .ok (.irem, 1) := by decide +kernel
theorem d_Pa_coldAt_54 : decode b_Pa_coldAt 54 = .ok (.i2l, 1) := by decide +kernel
theorem d_Pa_coldAt_55 : decode b_Pa_coldAt 55 = .ok (.lload 4, 2) := by decide +kernel
theorem d_Pa_coldAt_57 : decode b_Pa_coldAt 57 = .ok (.lmul, 1) := by decide +kernel
theorem d_Pa_coldAt_58 : decode b_Pa_coldAt 58 = .ok (.ldc 57, 2) := by decide +kernel
theorem d_Pa_coldAt_60 : decode b_Pa_coldAt 60 = .ok (.iload 8, 2) := by decide +kernel
theorem d_Pa_coldAt_62 : decode b_Pa_coldAt 62 = .ok (.iadd, 1) := by decide +kernel
theorem d_Pa_coldAt_63 : decode b_Pa_coldAt 63 = .ok (.i2l, 1) := by decide +kernel
theorem d_Pa_coldAt_64 : decode b_Pa_coldAt 64 = .ok (.lmul, 1) := by decide +kernel
theorem d_Pa_coldAt_65 : decode b_Pa_coldAt 65 = .ok (.ladd, 1) := by decide +kernel
theorem d_Pa_coldAt_66 : decode b_Pa_coldAt 66 = .ok (.lstore_n 2, 1) := by decide +kernel
theorem d_Pa_coldAt_67 : decode b_Pa_coldAt 67 = .ok (.iload 6, 2) := by decide +kernel
theorem d_Pa_coldAt_69 : decode b_Pa_coldAt 69 = .ok (.bipush 10, 2) := by decide +kernel
theorem d_Pa_coldAt_71 : decode b_Pa_coldAt 71 = .ok (.idiv, 1) := by decide +kernel
theorem d_Pa_coldAt_72 : decode b_Pa_coldAt 72 = .ok (.istore 6, 2) := by decide +kernel
theorem d_Pa_coldAt_74 : decode b_Pa_coldAt 74 = .ok (.lload 4, 2) := by decide +kernel
theorem d_Pa_coldAt_76 : decode b_Pa_coldAt 76 = .ok (.ldc2_w 99, 3) := by decide +kernel
theorem d_Pa_coldAt_79 : decode b_Pa_coldAt 79 = .ok (.lmul, 1) := by decide +kernel
theorem d_Pa_coldAt_80 : decode b_Pa_coldAt 80 = .ok (.lstore 4, 2) := by decide +kernel
theorem d_Pa_coldAt_82 : decode b_Pa_coldAt 82 = .ok (.iinc 7 (-1), 3) := by decide +kernel
theorem d_Pa_coldAt_85 : decode b_Pa_coldAt 85 = .ok (.goto (-65), 3) := by decide +kernel
theorem d_Pa_coldAt_88 : decode b_Pa_coldAt 88 = .ok (.lload_n 2, 1) := by decide +kernel
theorem d_Pa_coldAt_89 : decode b_Pa_coldAt 89 = .ok (.ldc2_w 97, 3) := by decide +kernel
theorem d_Pa_coldAt_92 : decode b_Pa_coldAt 92 = .ok (.ldiv, 1) := by decide +kernel
theorem d_Pa_coldAt_93 : decode b_Pa_coldAt 93 = .ok (.l2i, 1) := by decide +kernel
theorem d_Pa_coldAt_94 : decode b_Pa_coldAt 94 = .ok (.aload_n 0, 1) := by decide +kernel
theorem d_Pa_coldAt_95 : decode b_Pa_coldAt 95 = .ok (.getfield 38, 3) := by decide +kernel
theorem d_Pa_coldAt_98 : decode b_Pa_coldAt 98 = .ok (.iadd, 1) := by decide +kernel
theorem d_Pa_coldAt_99 : decode b_Pa_coldAt 99 = .ok (.ireturn, 1) := by decide +kernel
theorem d_Pr_init_0 : decode b_Pr_init 0 = .ok (.aload_n 0, 1) := by decide +kernel
theorem d_Pr_init_1 : decode b_Pr_init 1 = .ok (.invokespecial 3, 3) := by decide +kernel
theorem d_Pr_init_4 : decode b_Pr_init 4 = .ok (.aload_n 0, 1) := by decide +kernel
theorem d_Pr_init_5 : decode b_Pr_init 5 = .ok (.bipush 30, 2) := by decide +kernel
theorem d_Pr_init_7 : decode b_Pr_init 7 = .ok (.newarray .int, 2) := by decide +kernel
theorem d_Pr_init_9 : decode b_Pr_init 9 = .ok (.putfield 11, 3) := by decide +kernel
theorem d_Pr_init_12 : decode b_Pr_init 12 = .ok (.aload_n 0, 1) := by decide +kernel
theorem d_Pr_init_13 : decode b_Pr_init 13 = .ok (.bipush 30, 2) := by decide +kernel
theorem d_Pr_init_15 : decode b_Pr_init 15 = .ok (.newarray .int, 2) := by decide +kernel
theorem d_Pr_init_17 : decode b_Pr_init 17 = .ok (.putfield 15, 3) := by decide +kernel
theorem d_Pr_init_20 : decode b_Pr_init 20 = .ok (.aload_n 0, 1) := by decide +kernel
theorem d_Pr_init_21 : decode b_Pr_init 21 = .ok (.bipush 30, 2) := by decide +kernel
theorem d_Pr_init_23 : decode b_Pr_init 23 = .ok (.newarray .int, 2) := by decide +kernel
theorem d_Pr_init_25 : decode b_Pr_init 25 = .ok (.putfield 18, 3) := by decide +kernel
theorem d_Pr_init_28 : decode b_Pr_init 28 = .ok (.aload_n 0, 1) := by decide +kernel
theorem d_Pr_init_29 : decode b_Pr_init 29 = .ok (.bipush 30, 2) := by decide +kernel
theorem d_Pr_init_31 : decode b_Pr_init 31 = .ok (.newarray .int, 2) := by decide +kernel
theorem d_Pr_init_33 : decode b_Pr_init 33 = .ok (.putfield 21, 3) := by decide +kernel
theorem d_Pr_init_36 : decode b_Pr_init 36 = .ok (.aload_n 0, 1) := by decide +kernel
theorem d_Pr_init_37 : decode b_Pr_init 37 = .ok (.iconst 2, 1) := by decide +kernel
theorem d_Pr_init_38 : decode b_Pr_init 38 = .ok (.newarray .int, 2) := by decide +kernel
theorem d_Pr_init_40 : decode b_Pr_init 40 = .ok (.putfield 24, 3) := by decide +kernel
theorem d_Pr_init_43 : decode b_Pr_init 43 = .ok (.aload_n 0, 1) := by decide +kernel
theorem d_Pr_init_44 : decode b_Pr_init 44 = .ok (.iconst 2, 1) := by decide +kernel
theorem d_Pr_init_45 : decode b_Pr_init 45 = .ok (.newarray .int, 2) := by decide +kernel
theorem d_Pr_init_47 : decode b_Pr_init 47 = .ok (.putfield 27, 3) := by decide +kernel
theorem d_Pr_init_50 : decode b_Pr_init 50 = .ok (.aload_n 0, 1) := by decide +kernel
theorem d_Pr_init_51 : decode b_Pr_init 51 = .ok (.aload_n 1, 1) := by decide +kernel
theorem d_Pr_init_52 : decode b_Pr_init 52 = .ok (.putfield 30, 3) := by decide +kernel
theorem d_Pr_init_55 : decode b_Pr_init 55 = .ok (.return_, 1) := by decide +kernel
theorem d_Pr_orderOf_0 : decode b_Pr_orderOf 0 = .ok (.aload_n 0, 1) := by decide +kernel
theorem d_Pr_orderOf_1 : decode b_Pr_orderOf 1 = .ok (.getfield 11, 3) := by decide +kernel
theorem d_Pr_orderOf_4 : decode b_Pr_orderOf 4 = .ok (.iload_n 1, 1) := by decide +kernel
theorem d_Pr_orderOf_5 : decode b_Pr_orderOf 5 = .ok (.invokestatic 34, 3) := by decide +kernel
theorem d_Pr_orderOf_8 : decode b_Pr_orderOf 8 = .ok (.ireturn, 1) := by decide +kernel
theorem d_Pr_firstOf_0 : decode b_Pr_firstOf 0 = .ok (.aload_n 0, 1) := by decide +kernel
theorem d_Pr_firstOf_1 : decode b_Pr_firstOf 1 = .ok (.getfield 15, 3) := by decide +kernel
theorem d_Pr_firstOf_4 : decode b_Pr_firstOf 4 = .ok (.iload_n 1, 1) := by decide +kernel
theorem d_Pr_firstOf_5 : decode b_Pr_firstOf 5 = .ok (.invokestatic 34, 3) := by decide +kernel
theorem d_Pr_firstOf_8 : decode b_Pr_firstOf 8 = .ok (.ireturn, 1) := by decide +kernel
theorem d_Pr_secondOf_0 : decode b_Pr_secondOf 0 = .ok (.aload_n 0, 1) := by decide +kernel
theorem d_Pr_secondOf_1 : decode b_Pr_secondOf 1 = .ok (.getfield 18, 3) := by decide +kernel
theorem d_Pr_secondOf_4 : decode b_Pr_secondOf 4 = .ok (.iload_n 1, 1) := by decide +kernel
theorem d_Pr_secondOf_5 : decode b_Pr_secondOf 5 = .ok (.invokestatic 34, 3) := by decide +kernel
theorem d_Pr_secondOf_8 : decode b_Pr_secondOf 8 = .ok (.ireturn, 1) := by decide +kernel
theorem d_Pr_inRow_0 : decode b_Pr_inRow 0 = .ok (.iload_n 1, 1) := by decide +kernel
theorem d_Pr_inRow_1 : decode b_Pr_inRow 1 = .ok (.ifCond .lt 15, 3) := by decide +kernel
theorem d_Pr_inRow_4 : decode b_Pr_inRow 4 = .ok (.iload_n 1, 1) := by decide +kernel
theorem d_Pr_inRow_5 : decode b_Pr_inRow 5 = .ok (.aload_n 0, 1) := by decide +kernel
theorem d_Pr_inRow_6 : decode b_Pr_inRow 6 = .ok (.arraylength, 1) := by decide +kernel
theorem d_Pr_inRow_7 : decode b_Pr_inRow 7 = .ok (.if_icmp .ge 9, 3) := by decide +kernel
theorem d_Pr_inRow_10 : decode b_Pr_inRow 10 = .ok (.aload_n 0, 1) := by decide +kernel
theorem d_Pr_inRow_11 : decode b_Pr_inRow 11 = .ok (.iload_n 1, 1) := by decide +kernel
theorem d_Pr_inRow_12 : decode b_Pr_inRow 12 = .ok (.iaload, 1) := by decide +kernel
theorem d_Pr_inRow_13 : decode b_Pr_inRow 13 = .ok (.goto 4, 3) := by decide +kernel
theorem d_Pr_inRow_16 : decode b_Pr_inRow 16 = .ok (.iconst (-1), 1) := by decide +kernel
theorem d_Pr_inRow_17 : decode b_Pr_inRow 17 = .ok (.ireturn, 1) := by decide +kernel
theorem d_Pr_understood_0 : decode b_Pr_understood 0 = .ok (.aload_n 0, 1) := by decide +kernel
theorem d_Pr_understood_1 : decode b_Pr_understood 1 = .ok (.iconst 0, 1) := by decide +kernel
theorem d_Pr_understood_2 : decode b_Pr_understood 2 = .ok (.putfield 38, 3) := by decide +kernel
theorem d_Pr_understood_5 : decode b_Pr_understood 5 = .ok (.aload_n 0, 1) := by decide +kernel
theorem d_Pr_understood_6 : decode b_Pr_understood 6 = .ok (.iconst 0, 1) := by decide +kernel
theorem d_Pr_understood_7 : decode b_Pr_understood 7 = .ok (.putfield 42, 3) := by decide +kernel
theorem d_Pr_understood_10 : decode b_Pr_understood 10 = .ok (.aload_n 0, 1) := by decide +kernel
theorem d_Pr_understood_11 : decode b_Pr_understood 11 = .ok (.getfield 30, 3) := by decide +kernel
theorem d_Pr_understood_14 : decode b_Pr_understood 14 = .ok (.invokevirtual 45, 3) := by decide +kernel
theorem d_Pr_understood_17 : decode b_Pr_understood 17 = .ok (.iconst 0, 1) := by decide +kernel
theorem d_Pr_understood_18 : decode b_Pr_understood 18 = .ok (.istore_n 1, 1) := by decide +kernel
theorem d_Pr_understood_19 : decode b_Pr_understood 19 = .ok (.iload_n 1, 1) := by decide +kernel
theorem d_Pr_understood_20 : decode b_Pr_understood 20 = .ok (.sipush 600, 3) := by decide +kernel
theorem d_Pr_understood_23 : decode b_Pr_understood 23 = .ok (.if_icmp .ge 59, 3) := by decide +kernel
theorem d_Pr_understood_26 : decode b_Pr_understood 26 = .ok (.aload_n 0, 1) := by decide +kernel
theorem d_Pr_understood_27 : decode b_Pr_understood 27 = .ok (.getfield 30, 3) := by decide +kernel
theorem d_Pr_understood_30 : decode b_Pr_understood 30 = .ok (.getfield 50, 3) := by decide +kernel
theorem d_Pr_understood_33 : decode b_Pr_understood 33 = .ok (.ifCond .ne 49, 3) := by decide +kernel
theorem d_Pr_understood_36 : decode b_Pr_understood 36 = .ok (.aload_n 0, 1) := by decide +kernel
theorem d_Pr_understood_37 : decode b_Pr_understood 37 = .ok (.getfield 30, 3) := by decide +kernel
theorem d_Pr_understood_40 : decode b_Pr_understood 40 = .ok (.getfield 53, 3) := by decide +kernel
theorem d_Pr_understood_43 : decode b_Pr_understood 43 = .ok (.ifCond .eq 39, 3) := by decide +kernel
theorem d_Pr_understood_46 : decode b_Pr_understood 46 = .ok (.aload_n 0, 1) := by decide +kernel
theorem d_Pr_understood_47 : decode b_Pr_understood 47 = .ok (.getfield 42, 3) := by decide +kernel
theorem d_Pr_understood_50 : decode b_Pr_understood 50 = .ok (.ifCond .le 22, 3) := by decide +kernel
theorem d_Pr_understood_53 : decode b_Pr_understood 53 = .ok (.aload_n 0, 1) := by decide +kernel
theorem d_Pr_understood_54 : decode b_Pr_understood 54 = .ok (.getfield 30, 3) := by decide +kernel
theorem d_Pr_understood_57 : decode b_Pr_understood 57 = .ok (.getfield 53, 3) := by decide +kernel
theorem d_Pr_understood_60 : decode b_Pr_understood 60 = .ok (.bipush 41, 2) := by decide +kernel
theorem d_Pr_understood_62 : decode b_Pr_understood 62 = .ok (.if_icmp .ne 10, 3) := by decide +kernel
theorem d_Pr_understood_65 : decode b_Pr_understood 65 = .ok (.aload_n 0, 1) := by decide +kernel
theorem d_Pr_understood_66 : decode b_Pr_understood 66 = .ok (.invokevirtual 56, 3) := by decide +kernel
theorem d_Pr_understood_69 : decode b_Pr_understood 69 = .ok (.goto 7, 3) := by decide +kernel
theorem d_Pr_understood_72 : decode b_Pr_understood 72 = .ok (.aload_n 0, 1) := by decide +kernel
theorem d_Pr_understood_73 : decode b_Pr_understood 73 = .ok (.invokevirtual 59, 3) := by decide +kernel
theorem d_Pr_understood_76 : decode b_Pr_understood 76 = .ok (.iinc 1 1, 3) := by decide +kernel
theorem d_Pr_understood_79 : decode b_Pr_understood 79 = .ok (.goto (-60), 3) := by decide +kernel
theorem d_Pr_understood_82 : decode b_Pr_understood 82 = .ok (.aload_n 0, 1) := by decide +kernel
theorem d_Pr_understood_83 : decode b_Pr_understood 83 = .ok (.getfield 42, 3) := by decide +kernel
theorem d_Pr_understood_86 : decode b_Pr_understood 86 = .ok (.ifCond .le 11, 3) := by decide +kernel
theorem d_Pr_understood_89 : decode b_Pr_understood 89 = .ok (.aload_n 0, 1) := by decide +kernel
theorem d_Pr_understood_90 : decode b_Pr_understood 90 = .ok (.getfield 30, 3) := by decide +kernel
theorem d_Pr_understood_93 : decode b_Pr_understood 93 = .ok (.iconst 1, 1) := by decide +kernel
theorem d_Pr_understood_94 : decode b_Pr_understood 94 = .ok (.invokevirtual 62, 3) := by decide +kernel
theorem d_Pr_understood_97 : decode b_Pr_understood 97 = .ok (.aload_n 0, 1) := by decide +kernel
theorem d_Pr_understood_98 : decode b_Pr_understood 98 = .ok (.getfield 30, 3) := by decide +kernel
theorem d_Pr_understood_101 : decode b_Pr_understood 101 = .ok (.getfield 50, 3) := by decide +kernel
theorem d_Pr_understood_104 : decode b_Pr_understood 104 = .ok (.ifCond .ne 7, 3) := by decide +kernel
theorem d_Pr_understood_107 : decode b_Pr_understood 107 = .ok (.iconst 1, 1) := by decide +kernel
theorem d_Pr_understood_108 : decode b_Pr_understood 108 = .ok (.goto 4, 3) := by decide +kernel
theorem d_Pr_understood_111 : decode b_Pr_understood 111 = .ok (.iconst 0, 1) := by decide +kernel
theorem d_Pr_understood_112 : decode b_Pr_understood 112 = .ok (.ireturn, 1) := by decide +kernel
theorem d_Pr_closeBracket_0 : decode b_Pr_closeBracket 0 = .ok (.aload_n 0, 1) := by decide +kernel
theorem d_Pr_closeBracket_1 : decode b_Pr_closeBracket 1 = .ok (.getfield 30, 3) := by decide +kernel
theorem d_Pr_closeBracket_4 : decode b_Pr_closeBracket 4 = .ok (.bipush 41, 2) := by decide +kernel
theorem d_Pr_closeBracket_6 : decode b_Pr_closeBracket 6 = .ok (.invokevirtual 66, 3) := by decide +kernel
theorem d_Pr_closeBracket_9 : decode b_Pr_closeBracket 9 = .ok (.aload_n 0, 1) := by decide +kernel
theorem d_Pr_closeBracket_10 : decode b_Pr_closeBracket 10 = .ok (.dup, 1) := by decide +kernel
theorem d_Pr_closeBracket_11 : decode b_Pr_closeBracket 11 = .ok (.getfield 42, 3) := by decide +kernel
theorem d_Pr_closeBracket_14 : decode b_Pr_closeBracket 14 = .ok (.iconst 1, 1) := by decide +kernel
theorem d_Pr_closeBracket_15 : decode b_Pr_closeBracket 15 = .ok (.isub, 1) := by decide +kernel
theorem d_Pr_closeBracket_16 : decode b_Pr_closeBracket 16 = .ok (.putfield 42, 3) := by decide +kernel
theorem d_Pr_closeBracket_19 : decode b_Pr_closeBracket 19 = .ok (.aload_n 0, 1) := by decide +kernel
theorem d_Pr_closeBracket_20 : decode b_Pr_closeBracket 20 = .ok (.getfield 24, 3) := by decide +kernel
theorem d_Pr_closeBracket_23 : decode b_Pr_closeBracket 23 = .ok (.aload_n 0, 1) := by decide +kernel
theorem d_Pr_closeBracket_24 : decode b_Pr_closeBracket 24 = .ok (.getfield 42, 3) := by decide +kernel
theorem d_Pr_closeBracket_27 : decode b_Pr_closeBracket 27 = .ok (.invokestatic 34, 3) := by decide +kernel
theorem d_Pr_closeBracket_30 : decode b_Pr_closeBracket 30 = .ok (.istore_n 1, 1) := by decide +kernel
theorem d_Pr_closeBracket_31 : decode b_Pr_closeBracket 31 = .ok (.iload_n 1, 1) := by decide +kernel
theorem d_Pr_closeBracket_32 : decode b_Pr_closeBracket 32 = .ok (.ifCond .lt 22, 3) := by decide +kernel
theorem d_Pr_closeBracket_35 : decode b_Pr_closeBracket 35 = .ok (.iload_n 1, 1) := by decide +kernel
theorem d_Pr_closeBracket_36 : decode b_Pr_closeBracket 36 = .ok (.aload_n 0, 1) := by decide +kernel
theorem d_Pr_closeBracket_37 : decode b_Pr_closeBracket 37 = .ok (.getfield 21, 3) := by decide +kernel
theorem d_Pr_closeBracket_40 : decode b_Pr_closeBracket 40 = .ok (.arraylength, 1) := by decide +kernel
theorem d_Pr_closeBracket_41 : decode b_Pr_closeBracket 41 = .ok (.if_icmp .ge 13, 3) := by decide +kernel
theorem d_Pr_closeBracket_44 : decode b_Pr_closeBracket 44 = .ok (.aload_n 0, 1) := by decide +kernel
theorem d_Pr_closeBracket_45 : decode b_Pr_closeBracket 45 = .ok (.getfield 21, 3) := by decide +kernel
theorem d_Pr_closeBracket_48 : decode b_Pr_closeBracket 48 = .ok (.iload_n 1, 1) := by decide +kernel
theorem d_Pr_closeBracket_49 : decode b_Pr_closeBracket 49 = .ok (.aload_n 0, 1) := by decide +kernel
theorem d_Pr_closeBracket_50 : decode b_Pr_closeBracket 50 = .ok (.getfield 38, 3) := by decide +kernel
theorem d_Pr_closeBracket_53 : decode b_Pr_closeBracket 53 = .ok (.iastore, 1) := by decide +kernel
theorem d_Pr_closeBracket_54 : decode b_Pr_closeBracket 54 = .ok (.aload_n 0, 1) := by decide +kernel
theorem d_Pr_closeBracket_55 : decode b_Pr_closeBracket 55 = .ok (.getfield 30, 3) := by decide +kernel
theorem d_Pr_closeBracket_58 : decode b_Pr_closeBracket 58 = .ok (.bipush 59, 2) := by decide +kernel
theorem d_Pr_closeBracket_60 : decode b_Pr_closeBracket 60 = .ok (.invokevirtual 66, 3) := by decide +kernel
theorem d_Pr_closeBracket_63 : decode b_Pr_closeBracket 63 = .ok (.return_, 1) := by decide +kernel
theorem d_Pr_takeStep_0 : decode b_Pr_takeStep 0 = .ok (.aload_n 0, 1) := by decide +kernel
theorem d_Pr_takeStep_1 : decode b_Pr_takeStep 1 = .ok (.invokevirtual 70, 3) := by decide +kernel
theorem d_Pr_takeStep_4 : decode b_Pr_takeStep 4 = .ok (.istore_n 1, 1) := by decide +kernel
theorem d_Pr_takeStep_5 : decode b_Pr_takeStep 5 = .ok (.iload_n 1, 1) := by decide +kernel
theorem d_Pr_takeStep_6 : decode b_Pr_takeStep 6 = .ok (.iconst (-1), 1) := by decide +kernel
theorem d_Pr_takeStep_7 : decode b_Pr_takeStep 7 = .ok (.if_icmp .ne 12, 3) := by decide +kernel
theorem d_Pr_takeStep_10 : decode b_Pr_takeStep 10 = .ok (.aload_n 0, 1) := by decide +kernel
theorem d_Pr_takeStep_11 : decode b_Pr_takeStep 11 = .ok (.getfield 30, 3) := by decide +kernel
theorem d_Pr_takeStep_14 : decode b_Pr_takeStep 14 = .ok (.iconst 1, 1) := by decide +kernel
theorem d_Pr_takeStep_15 : decode b_Pr_takeStep 15 = .ok (.invokevirtual 62, 3) := by decide +kernel
theorem d_Pr_takeStep_18 : decode b_Pr_takeStep 18 = .ok (.return_, 1) := by decide +kernel
theorem d_Pr_takeStep_19 : decode b_Pr_takeStep 19 = .ok (.aload_n 0, 1) := by decide +kernel
theorem d_Pr_takeStep_20 : decode b_Pr_takeStep 20 = .ok (.getfield 38, 3) := by decide +kernel
theorem d_Pr_takeStep_23 : decode b_Pr_takeStep 23 = .ok (.bipush 30, 2) := by decide +kernel
theorem d_Pr_takeStep_25 : decode b_Pr_takeStep 25 = .ok (.if_icmp .lt 12, 3) := by decide +kernel
theorem d_Pr_takeStep_28 : decode b_Pr_takeStep 28 = .ok (.aload_n 0, 1) := by decide +kernel
theorem d_Pr_takeStep_29 : decode b_Pr_takeStep 29 = .ok (.getfield 30, 3) := by decide +kernel
theorem d_Pr_takeStep_32 : decode b_Pr_takeStep 32 = .ok (.iconst 4, 1) := by decide +kernel
theorem d_Pr_takeStep_33 : decode b_Pr_takeStep 33 = .ok (.invokevirtual 62, 3) := by decide +kernel
theorem d_Pr_takeStep_36 : decode b_Pr_takeStep 36 = .ok (.return_, 1) := by decide +kernel
theorem d_Pr_takeStep_37 : decode b_Pr_takeStep 37 = .ok (.aload_n 0, 1) := by decide +kernel
theorem d_Pr_takeStep_38 : decode b_Pr_takeStep 38 = .ok (.getfield 38, 3) := by decide +kernel
theorem d_Pr_takeStep_41 : decode b_Pr_takeStep 41 = .ok (.istore_n 2, 1) := by decide +kernel
theorem d_Pr_takeStep_42 : decode b_Pr_takeStep 42 = .ok (.aload_n 0, 1) := by decide +kernel
theorem d_Pr_takeStep_43 : decode b_Pr_takeStep 43 = .ok (.dup, 1) := by decide +kernel
theorem d_Pr_takeStep_44 : decode b_Pr_takeStep 44 = .ok (.getfield 38, 3) := by decide +kernel
theorem d_Pr_takeStep_47 : decode b_Pr_takeStep 47 = .ok (.iconst 1, 1) := by decide +kernel
theorem d_Pr_takeStep_48 : decode b_Pr_takeStep 48 = .ok (.iadd, 1) := by decide +kernel
theorem d_Pr_takeStep_49 : decode b_Pr_takeStep 49 = .ok (.putfield 38, 3) := by decide +kernel
theorem d_Pr_takeStep_52 : decode b_Pr_takeStep 52 = .ok (.aload_n 0, 1) := by decide +kernel
theorem d_Pr_takeStep_53 : decode b_Pr_takeStep 53 = .ok (.getfield 11, 3) := by decide +kernel
theorem d_Pr_takeStep_56 : decode b_Pr_takeStep 56 = .ok (.iload_n 2, 1) := by decide +kernel
theorem d_Pr_takeStep_57 : decode b_Pr_takeStep 57 = .ok (.iload_n 1, 1) := by decide +kernel
theorem d_Pr_takeStep_58 : decode b_Pr_takeStep 58 = .ok (.iastore, 1) := by decide +kernel
theorem d_Pr_takeStep_59 : decode b_Pr_takeStep 59 = .ok (.aload_n 0, 1) := by decide +kernel
theorem d_Pr_takeStep_60 : decode b_Pr_takeStep 60 = .ok (.getfield 30, 3) := by decide +kernel
theorem d_Pr_takeStep_63 : decode b_Pr_takeStep 63 = .ok (.invokevirtual 74, 3) := by decide +kernel
theorem d_Pr_takeStep_66 : decode b_Pr_takeStep 66 = .ok (.aload_n 0, 1) := by decide +kernel
theorem d_Pr_takeStep_67 : decode b_Pr_takeStep 67 = .ok (.iload_n 2, 1) := by decide +kernel
theorem d_Pr_takeStep_68 : decode b_Pr_takeStep 68 = .ok (.iload_n 1, 1) := by decide +kernel
theorem d_Pr_takeStep_69 : decode b_Pr_takeStep 69 = .ok (.invokevirtual 77, 3) := by decide +kernel
theorem d_Pr_takeStep_72 : decode b_Pr_takeStep 72 = .ok (.iload_n 1, 1) := by decide +kernel
theorem d_Pr_takeStep_73 : decode b_Pr_takeStep 73 = .ok (.bipush 8, 2) := by decide +kernel
theorem d_Pr_takeStep_75 : decode b_Pr_takeStep 75 = .ok (.if_icmp .eq 9, 3) := by decide +kernel
theorem d_Pr_takeStep_78 : decode b_Pr_takeStep 78 = .ok (.iload_n 1, 1) := by decide +kernel
theorem d_Pr_takeStep_79 : decode b_Pr_takeStep 79 = .ok (.bipush 9, 2) := by decide +kernel
theorem d_Pr_takeStep_81 : decode b_Pr_takeStep 81 = .ok (.if_icmp .ne 11, 3) := by decide +kernel
theorem d_Pr_takeStep_84 : decode b_Pr_takeStep 84 = .ok (.aload_n 0, 1) := by decide +kernel
theorem d_Pr_takeStep_85 : decode b_Pr_takeStep 85 = .ok (.iload_n 2, 1) := by decide +kernel
theorem d_Pr_takeStep_86 : decode b_Pr_takeStep 86 = .ok (.invokevirtual 81, 3) := by decide +kernel
theorem d_Pr_takeStep_89 : decode b_Pr_takeStep 89 = .ok (.goto 12, 3) := by decide +kernel
theorem d_Pr_takeStep_92 : decode b_Pr_takeStep 92 = .ok (.aload_n 0, 1) := by decide +kernel
theorem d_Pr_takeStep_93 : decode b_Pr_takeStep 93 = .ok (.getfield 30, 3) := by decide +kernel
theorem d_Pr_takeStep_96 : decode b_Pr_takeStep 96 = .ok (.bipush 59, 2) := by decide +kernel
theorem d_Pr_takeStep_98 : decode b_Pr_takeStep 98 = .ok (.invokevirtual 66, 3) := by decide +kernel
theorem d_Pr_takeStep_101 : decode b_Pr_takeStep 101 = .ok (.return_, 1) := by decide +kernel
theorem d_Pr_orderHere_0 : decode b_Pr_orderHere 0 = .ok (.iconst 0, 1) := by decide +kernel
theorem d_Pr_orderHere_1 : decode b_Pr_orderHere 1 = .ok (.istore_n 1, 1) := by decide +kernel
theorem d_Pr_orderHere_2 : decode b_Pr_orderHere 2 = .ok (.iload_n 1, 1) := by decide +kernel
theorem d_Pr_orderHere_3 : decode b_Pr_orderHere 3 = .ok (.bipush 9, 2) := by decide +kernel
theorem d_Pr_orderHere_5 : decode b_Pr_orderHere 5 = .ok (.if_icmp .gt 25, 3) := by decide +kernel
theorem d_Pr_orderHere_8 : decode b_Pr_orderHere 8 = .ok (.aload_n 0, 1) := by decide +kernel
theorem d_Pr_orderHere_9 : decode b_Pr_orderHere 9 = .ok (.getfield 30, 3) := by decide +kernel
theorem d_Pr_orderHere_12 : decode b_Pr_orderHere 12 = .ok (.iload_n 1, 1) := by decide +kernel
theorem d_Pr_orderHere_13 : decode b_Pr_orderHere 13 = .ok (.invokestatic 84, 3) := by decide +kernel
theorem d_Pr_orderHere_16 : decode b_Pr_orderHere 16 = .ok (.invokevirtual 88, 3) := by decide +kernel
theorem d_Pr_orderHere_19 : decode b_Pr_orderHere 19 = .ok (.ifCond .eq 5, 3) := by decide +kernel
theorem d_Pr_orderHere_22 : decode b_Pr_orderHere 22 = .ok (.iload_n 1, 1) := by decide +kernel
theorem d_Pr_orderHere_23 : decode b_Pr_orderHere 23 = .ok (.ireturn, 1) := by decide +kernel
theorem d_Pr_orderHere_24 : decode b_Pr_orderHere 24 = .ok (.iinc 1 1, 3) := by decide +kernel
theorem d_Pr_orderHere_27 : decode b_Pr_orderHere 27 = .ok (.goto (-25), 3) := by decide +kernel
theorem d_Pr_orderHere_30 : decode b_Pr_orderHere 30 = .ok (.iconst (-1), 1) := by decide +kernel
theorem d_Pr_orderHere_31 : decode b_Pr_orderHere 31 = .ok (.ireturn, 1) := by decide +kernel
theorem d_Pr_wordOf_0 : decode b_Pr_wordOf 0 = .ok (.iload_n 0, 1) := by decide +kernel
theorem d_Pr_wordOf_1 : decode b_Pr_wordOf 1 = .ok (.tableswitch 78 0 8 #[51, 54, 57, 60, 63, 66, 69, 72, 75], 51) := by decide +kernel
theorem d_Pr_wordOf_52 : decode b_Pr_wordOf 52 = .ok (.ldc 92, 2) := by decide +kernel
theorem d_Pr_wordOf_54 : decode b_Pr_wordOf 54 = .ok (.areturn, 1) := by decide +kernel
theorem d_Pr_wordOf_55 : decode b_Pr_wordOf 55 = .ok (.ldc 94, 2) := by decide +kernel
theorem d_Pr_wordOf_57 : decode b_Pr_wordOf 57 = .ok (.areturn, 1) := by decide +kernel
theorem d_Pr_wordOf_58 : decode b_Pr_wordOf 58 = .ok (.ldc 96, 2) := by decide +kernel
theorem d_Pr_wordOf_60 : decode b_Pr_wordOf 60 = .ok (.areturn, 1) := by decide +kernel
theorem d_Pr_wordOf_61 : decode b_Pr_wordOf 61 = .ok (.ldc 98, 2) := by decide +kernel
theorem d_Pr_wordOf_63 : decode b_Pr_wordOf 63 = .ok (.areturn, 1) := by decide +kernel
theorem d_Pr_wordOf_64 : decode b_Pr_wordOf 64 = .ok (.ldc 100, 2) := by decide +kernel
theorem d_Pr_wordOf_66 : decode b_Pr_wordOf 66 = .ok (.areturn, 1) := by decide +kernel
theorem d_Pr_wordOf_67 : decode b_Pr_wordOf 67 = .ok (.ldc 102, 2) := by decide +kernel
theorem d_Pr_wordOf_69 : decode b_Pr_wordOf 69 = .ok (.areturn, 1) := by decide +kernel
theorem d_Pr_wordOf_70 : decode b_Pr_wordOf 70 = .ok (.ldc 104, 2) := by decide +kernel
theorem d_Pr_wordOf_72 : decode b_Pr_wordOf 72 = .ok (.areturn, 1) := by decide +kernel
theorem d_Pr_wordOf_73 : decode b_Pr_wordOf 73 = .ok (.ldc 106, 2) := by decide +kernel
theorem d_Pr_wordOf_75 : decode b_Pr_wordOf 75 = .ok (.areturn, 1) := by decide +kernel
theorem d_Pr_wordOf_76 : decode b_Pr_wordOf 76 = .ok (.ldc 108, 2) := by decide +kernel
theorem d_Pr_wordOf_78 : decode b_Pr_wordOf 78 = .ok (.areturn, 1) := by decide +kernel
theorem d_Pr_wordOf_79 : decode b_Pr_wordOf 79 = .ok (.ldc 110, 2) := by decide +kernel
theorem d_Pr_wordOf_81 : decode b_Pr_wordOf 81 = .ok (.areturn, 1) := by decide +kernel
theorem d_Pr_takeNumbers_0 : decode b_Pr_takeNumbers 0 = .ok (.iload_n 1, 1) := by decide +kernel
theorem d_Pr_takeNumbers_1 : decode b_Pr_takeNumbers 1 = .ok (.ifCond .lt 21, 3) := by decide +kernel
theorem d_Pr_takeNumbers_4 : decode b_Pr_takeNumbers 4 = .ok (.iload_n 1, 1) := by decide +kernel
theorem d_Pr_takeNumbers_5 : decode b_Pr_takeNumbers 5 = .ok (.aload_n 0, 1) := by decide +kernel
theorem d_Pr_takeNumbers_6 : decode b_Pr_takeNumbers 6 = .ok (.getfield 15, 3) := by decide +kernel
theorem d_Pr_takeNumbers_9 : decode b_Pr_takeNumbers 9 = .ok (.arraylength, 1) := by decide +kernel
theorem d_Pr_takeNumbers_10 : decode b_Pr_takeNumbers 10 = .ok (.if_icmp .ge 12, 3) := by decide +kernel
theorem d_Pr_takeNumbers_13 : decode b_Pr_takeNumbers 13 = .ok (.iload_n 1, 1) := by decide +kernel
theorem d_Pr_takeNumbers_14 : decode b_Pr_takeNumbers 14 = .ok (.aload_n 0, 1) := by decide +kernel
theorem d_Pr_takeNumbers_15 : decode b_Pr_takeNumbers 15 = .ok (.getfield 18, 3) := by decide +kernel
theorem d_Pr_takeNumbers_18 : decode b_Pr_takeNumbers 18 = .ok (.arraylength, 1) := by decide +kernel
theorem d_Pr_takeNumbers_19 : decode b_Pr_takeNumbers 19 = .ok (.if_icmp .lt 4, 3) := by decide +kernel
theorem d_Pr_takeNumbers_22 : decode b_Pr_takeNumbers 22 = .ok (.return_, 1) := by decide +kernel
theorem d_Pr_takeNumbers_23 : decode b_Pr_takeNumbers 23 = .ok (.aload_n 0, 1) := by decide +kernel
theorem d_Pr_takeNumbers_24 : decode b_Pr_takeNumbers 24 = .ok (.getfield 15, 3) := by decide +kernel
theorem d_Pr_takeNumbers_27 : decode b_Pr_takeNumbers 27 = .ok (.iload_n 1, 1) := by decide +kernel
theorem d_Pr_takeNumbers_28 : decode b_Pr_takeNumbers 28 = .ok (.iconst 0, 1) := by decide +kernel
theorem d_Pr_takeNumbers_29 : decode b_Pr_takeNumbers 29 = .ok (.iastore, 1) := by decide +kernel
theorem d_Pr_takeNumbers_30 : decode b_Pr_takeNumbers 30 = .ok (.aload_n 0, 1) := by decide +kernel
theorem d_Pr_takeNumbers_31 : decode b_Pr_takeNumbers 31 = .ok (.getfield 18, 3) := by decide +kernel
theorem d_Pr_takeNumbers_34 : decode b_Pr_takeNumbers 34 = .ok (.iload_n 1, 1) := by decide +kernel
theorem d_Pr_takeNumbers_35 : decode b_Pr_takeNumbers 35 = .ok (.iconst 0, 1) := by decide +kernel
theorem d_Pr_takeNumbers_36 : decode b_Pr_takeNumbers 36 = .ok (.iastore, 1) := by decide +kernel
theorem d_Pr_takeNumbers_37 : decode b_Pr_takeNumbers 37 = .ok (.iload_n 2, 1) := by decide +kernel
theorem d_Pr_takeNumbers_38 : decode b_Pr_takeNumbers 38 = .ok (.tableswitch 261 0 9 #[54, 87, 107, 261, 127, 145, 164, 202, 183, 231], 54) := by decide +kernel
theorem d_Pr_takeNumbers_92 : decode b_Pr_takeNumbers 92 = .ok (.aload_n 0, 1) := by decide +kernel
theorem d_Pr_takeNumbers_93 : decode b_Pr_takeNumbers 93 = .ok (.getfield 15, 3) := by decide +kernel
theorem d_Pr_takeNumbers_96 : decode b_Pr_takeNumbers 96 = .ok (.iload_n 1, 1) := by decide +kernel
theorem d_Pr_takeNumbers_97 : decode b_Pr_takeNumbers 97 = .ok (.aload_n 0, 1) := by decide +kernel
theorem d_Pr_takeNumbers_98 : decode b_Pr_takeNumbers 98 = .ok (.getfield 30, 3) := by decide +kernel
theorem d_Pr_takeNumbers_101 : decode b_Pr_takeNumbers 101 = .ok (.iconst 0, 1) := by decide +kernel
theorem d_Pr_takeNumbers_102 : decode b_Pr_takeNumbers 102 = .ok (.iconst 4, 1) := by decide +kernel
theorem d_Pr_takeNumbers_103 : decode b_Pr_takeNumbers 103 = .ok (.invokevirtual 112, 3) := by decide +kernel
theorem d_Pr_takeNumbers_106 : decode b_Pr_takeNumbers 106 = .ok (.iastore, 1) := by decide +kernel
theorem d_Pr_takeNumbers_107 : decode b_Pr_takeNumbers 107 = .ok (.aload_n 0, 1) := by decide +kernel
theorem d_Pr_takeNumbers_108 : decode b_Pr_takeNumbers 108 = .ok (.getfield 18, 3) := by decide +kernel
theorem d_Pr_takeNumbers_111 : decode b_Pr_takeNumbers 111 = .ok (.iload_n 1, 1) := by decide +kernel
theorem d_Pr_takeNumbers_112 : decode b_Pr_takeNumbers 112 = .ok (.aload_n 0, 1) := by decide +kernel
theorem d_Pr_takeNumbers_113 : decode b_Pr_takeNumbers 113 = .ok (.getfield 30, 3) := by decide +kernel
theorem d_Pr_takeNumbers_116 : decode b_Pr_takeNumbers 116 = .ok (.iconst 0, 1) := by decide +kernel
theorem d_Pr_takeNumbers_117 : decode b_Pr_takeNumbers 117 = .ok (.iconst 4, 1) := by decide +kernel
theorem d_Pr_takeNumbers_118 : decode b_Pr_takeNumbers 118 = .ok (.invokevirtual 112, 3) := by decide +kernel
theorem d_Pr_takeNumbers_121 : decode b_Pr_takeNumbers 121 = .ok (.iastore, 1) := by decide +kernel
theorem d_Pr_takeNumbers_122 : decode b_Pr_takeNumbers 122 = .ok (.goto 177, 3) := by decide +kernel
theorem d_Pr_takeNumbers_125 : decode b_Pr_takeNumbers 125 = .ok (.aload_n 0, 1) := by decide +kernel
theorem d_Pr_takeNumbers_126 : decode b_Pr_takeNumbers 126 = .ok (.getfield 15, 3) := by decide +kernel
theorem d_Pr_takeNumbers_129 : decode b_Pr_takeNumbers 129 = .ok (.iload_n 1, 1) := by decide +kernel
theorem d_Pr_takeNumbers_130 : decode b_Pr_takeNumbers 130 = .ok (.aload_n 0, 1) := by decide +kernel
theorem d_Pr_takeNumbers_131 : decode b_Pr_takeNumbers 131 = .ok (.getfield 30, 3) := by decide +kernel
theorem d_Pr_takeNumbers_134 : decode b_Pr_takeNumbers 134 = .ok (.iconst 0, 1) := by decide +kernel
theorem d_Pr_takeNumbers_135 : decode b_Pr_takeNumbers 135 = .ok (.sipush 20000, 3) := by decide +kernel
theorem d_Pr_takeNumbers_138 : decode b_Pr_takeNumbers 138 = .ok (.invokevirtual 112, 3) := by decide +kernel
theorem d_Pr_takeNumbers_141 : decode b_Pr_takeNumbers 141 = .ok (.iastore, 1) := by decide +kernel
theorem d_Pr_takeNumbers_142 : decode b_Pr_takeNumbers 142 = .ok (.goto 157, 3) := by decide +kernel
theorem d_Pr_takeNumbers_145 : decode b_Pr_takeNumbers 145 = .ok (.aload_n 0, 1) := by decide +kernel
theorem d_Pr_takeNumbers_146 : decode b_Pr_takeNumbers 146 = .ok (.getfield 15, 3) := by decide +kernel
theorem d_Pr_takeNumbers_149 : decode b_Pr_takeNumbers 149 = .ok (.iload_n 1, 1) := by decide +kernel
theorem d_Pr_takeNumbers_150 : decode b_Pr_takeNumbers 150 = .ok (.aload_n 0, 1) := by decide +kernel
theorem d_Pr_takeNumbers_151 : decode b_Pr_takeNumbers 151 = .ok (.getfield 30, 3) := by decide +kernel
theorem d_Pr_takeNumbers_154 : decode b_Pr_takeNumbers 154 = .ok (.iconst 0, 1) := by decide +kernel
theorem d_Pr_takeNumbers_155 : decode b_Pr_takeNumbers 155 = .ok (.sipush 9999, 3) := by decide +kernel
theorem d_Pr_takeNumbers_158 : decode b_Pr_takeNumbers 158 = .ok (.invokevirtual 112, 3) := by decide +kernel
theorem d_Pr_takeNumbers_161 : decode b_Pr_takeNumbers 161 = .ok (.iastore, 1) := by decide +kernel
theorem d_Pr_takeNumbers_162 : decode b_Pr_takeNumbers 162 = .ok (.goto 137, 3) := by decide +kernel
theorem d_Pr_takeNumbers_165 : decode b_Pr_takeNumbers 165 = .ok (.aload_n 0, 1) := by decide +kernel
theorem d_Pr_takeNumbers_166 : decode b_Pr_takeNumbers 166 = .ok (.getfield 15, 3) := by decide +kernel
theorem d_Pr_takeNumbers_169 : decode b_Pr_takeNumbers 169 = .ok (.iload_n 1, 1) := by decide +kernel
theorem d_Pr_takeNumbers_170 : decode b_Pr_takeNumbers 170 = .ok (.aload_n 0, 1) := by decide +kernel
theorem d_Pr_takeNumbers_171 : decode b_Pr_takeNumbers 171 = .ok (.getfield 30, 3) := by decide +kernel
theorem d_Pr_takeNumbers_174 : decode b_Pr_takeNumbers 174 = .ok (.iconst 2, 1) := by decide +kernel
theorem d_Pr_takeNumbers_175 : decode b_Pr_takeNumbers 175 = .ok (.iconst 3, 1) := by decide +kernel
theorem d_Pr_takeNumbers_176 : decode b_Pr_takeNumbers 176 = .ok (.invokevirtual 112, 3) := by decide +kernel
theorem d_Pr_takeNumbers_179 : decode b_Pr_takeNumbers 179 = .ok (.iastore, 1) := by decide +kernel
theorem d_Pr_takeNumbers_180 : decode b_Pr_takeNumbers 180 = .ok (.goto 119, 3) := by decide +kernel
theorem d_Pr_takeNumbers_183 : decode b_Pr_takeNumbers 183 = .ok (.aload_n 0, 1) := by decide +kernel
theorem d_Pr_takeNumbers_184 : decode b_Pr_takeNumbers 184 = .ok (.getfield 15, 3) := by decide +kernel
theorem d_Pr_takeNumbers_187 : decode b_Pr_takeNumbers 187 = .ok (.iload_n 1, 1) := by decide +kernel
theorem d_Pr_takeNumbers_188 : decode b_Pr_takeNumbers 188 = .ok (.aload_n 0, 1) := by decide +kernel
theorem d_Pr_takeNumbers_189 : decode b_Pr_takeNumbers 189 = .ok (.getfield 30, 3) := by decide +kernel
theorem d_Pr_takeNumbers_192 : decode b_Pr_takeNumbers 192 = .ok (.iconst 1, 1) := by decide +kernel
theorem d_Pr_takeNumbers_193 : decode b_Pr_takeNumbers 193 = .ok (.bipush 99, 2) := by decide +kernel
theorem d_Pr_takeNumbers_195 : decode b_Pr_takeNumbers 195 = .ok (.invokevirtual 112, 3) := by decide +kernel
theorem d_Pr_takeNumbers_198 : decode b_Pr_takeNumbers 198 = .ok (.iastore, 1) := by decide +kernel
theorem d_Pr_takeNumbers_199 : decode b_Pr_takeNumbers 199 = .ok (.goto 100, 3) := by decide +kernel
theorem d_Pr_takeNumbers_202 : decode b_Pr_takeNumbers 202 = .ok (.aload_n 0, 1) := by decide +kernel
theorem d_Pr_takeNumbers_203 : decode b_Pr_takeNumbers 203 = .ok (.getfield 15, 3) := by decide +kernel
theorem d_Pr_takeNumbers_206 : decode b_Pr_takeNumbers 206 = .ok (.iload_n 1, 1) := by decide +kernel
theorem d_Pr_takeNumbers_207 : decode b_Pr_takeNumbers 207 = .ok (.aload_n 0, 1) := by decide +kernel
theorem d_Pr_takeNumbers_208 : decode b_Pr_takeNumbers 208 = .ok (.getfield 30, 3) := by decide +kernel
theorem d_Pr_takeNumbers_211 : decode b_Pr_takeNumbers 211 = .ok (.iconst 1, 1) := by decide +kernel
theorem d_Pr_takeNumbers_212 : decode b_Pr_takeNumbers 212 = .ok (.bipush 20, 2) := by decide +kernel
theorem d_Pr_takeNumbers_214 : decode b_Pr_takeNumbers 214 = .ok (.invokevirtual 112, 3) := by decide +kernel
theorem d_Pr_takeNumbers_217 : decode b_Pr_takeNumbers 217 = .ok (.iastore, 1) := by decide +kernel
theorem d_Pr_takeNumbers_218 : decode b_Pr_takeNumbers 218 = .ok (.goto 81, 3) := by decide +kernel
theorem d_Pr_takeNumbers_221 : decode b_Pr_takeNumbers 221 = .ok (.aload_n 0, 1) := by decide +kernel
theorem d_Pr_takeNumbers_222 : decode b_Pr_takeNumbers 222 = .ok (.getfield 15, 3) := by decide +kernel
theorem d_Pr_takeNumbers_225 : decode b_Pr_takeNumbers 225 = .ok (.iload_n 1, 1) := by decide +kernel
theorem d_Pr_takeNumbers_226 : decode b_Pr_takeNumbers 226 = .ok (.aload_n 0, 1) := by decide +kernel
theorem d_Pr_takeNumbers_227 : decode b_Pr_takeNumbers 227 = .ok (.getfield 30, 3) := by decide +kernel
theorem d_Pr_takeNumbers_230 : decode b_Pr_takeNumbers 230 = .ok (.iconst 0, 1) := by decide +kernel
theorem d_Pr_takeNumbers_231 : decode b_Pr_takeNumbers 231 = .ok (.bipush 20, 2) := by decide +kernel
theorem d_Pr_takeNumbers_233 : decode b_Pr_takeNumbers 233 = .ok (.invokevirtual 112, 3) := by decide +kernel
theorem d_Pr_takeNumbers_236 : decode b_Pr_takeNumbers 236 = .ok (.iastore, 1) := by decide +kernel
theorem d_Pr_takeNumbers_237 : decode b_Pr_takeNumbers 237 = .ok (.goto 62, 3) := by decide +kernel
theorem d_Pr_takeNumbers_240 : decode b_Pr_takeNumbers 240 = .ok (.aload_n 0, 1) := by decide +kernel
theorem d_Pr_takeNumbers_241 : decode b_Pr_takeNumbers 241 = .ok (.getfield 30, 3) := by decide +kernel
theorem d_Pr_takeNumbers_244 : decode b_Pr_takeNumbers 244 = .ok (.ldc 116, 2) := by decide +kernel
theorem d_Pr_takeNumbers_246 : decode b_Pr_takeNumbers 246 = .ok (.invokevirtual 88, 3) := by decide +kernel
theorem d_Pr_takeNumbers_249 : decode b_Pr_takeNumbers 249 = .ok (.ifCond .eq 50, 3) := by decide +kernel
theorem d_Pr_takeNumbers_252 : decode b_Pr_takeNumbers 252 = .ok (.aload_n 0, 1) := by decide +kernel
theorem d_Pr_takeNumbers_253 : decode b_Pr_takeNumbers 253 = .ok (.getfield 15, 3) := by decide +kernel
theorem d_Pr_takeNumbers_256 : decode b_Pr_takeNumbers 256 = .ok (.iload_n 1, 1) := by decide +kernel
theorem d_Pr_takeNumbers_257 : decode b_Pr_takeNumbers 257 = .ok (.iconst 1, 1) := by decide +kernel
theorem d_Pr_takeNumbers_258 : decode b_Pr_takeNumbers 258 = .ok (.iastore, 1) := by decide +kernel
theorem d_Pr_takeNumbers_259 : decode b_Pr_takeNumbers 259 = .ok (.aload_n 0, 1) := by decide +kernel
theorem d_Pr_takeNumbers_260 : decode b_Pr_takeNumbers 260 = .ok (.getfield 30, 3) := by decide +kernel
theorem d_Pr_takeNumbers_263 : decode b_Pr_takeNumbers 263 = .ok (.invokevirtual 74, 3) := by decide +kernel
theorem d_Pr_takeNumbers_266 : decode b_Pr_takeNumbers 266 = .ok (.goto 33, 3) := by decide +kernel
theorem d_Pr_takeNumbers_269 : decode b_Pr_takeNumbers 269 = .ok (.aload_n 0, 1) := by decide +kernel
theorem d_Pr_takeNumbers_270 : decode b_Pr_takeNumbers 270 = .ok (.getfield 30, 3) := by decide +kernel
theorem d_Pr_takeNumbers_273 : decode b_Pr_takeNumbers 273 = .ok (.ldc 118, 2) := by decide +kernel
theorem d_Pr_takeNumbers_275 : decode b_Pr_takeNumbers 275 = .ok (.invokevirtual 88, 3) := by decide +kernel
theorem d_Pr_takeNumbers_278 : decode b_Pr_takeNumbers 278 = .ok (.ifCond .ne 11, 3) := by decide +kernel
theorem d_Pr_takeNumbers_281 : decode b_Pr_takeNumbers 281 = .ok (.aload_n 0, 1) := by decide +kernel
theorem d_Pr_takeNumbers_282 : decode b_Pr_takeNumbers 282 = .ok (.getfield 30, 3) := by decide +kernel
theorem d_Pr_takeNumbers_285 : decode b_Pr_takeNumbers 285 = .ok (.iconst 1, 1) := by decide +kernel
theorem d_Pr_takeNumbers_286 : decode b_Pr_takeNumbers 286 = .ok (.invokevirtual 62, 3) := by decide +kernel
theorem d_Pr_takeNumbers_289 : decode b_Pr_takeNumbers 289 = .ok (.aload_n 0, 1) := by decide +kernel
theorem d_Pr_takeNumbers_290 : decode b_Pr_takeNumbers 290 = .ok (.getfield 30, 3) := by decide +kernel
theorem d_Pr_takeNumbers_293 : decode b_Pr_takeNumbers 293 = .ok (.invokevirtual 74, 3) := by decide +kernel
theorem d_Pr_takeNumbers_296 : decode b_Pr_takeNumbers 296 = .ok (.goto 3, 3) := by decide +kernel
theorem d_Pr_takeNumbers_299 : decode b_Pr_takeNumbers 299 = .ok (.return_, 1) := by decide +kernel
theorem d_Pr_openBracket_0 : decode b_Pr_openBracket 0 = .ok (.aload_n 0, 1) := by decide +kernel
theorem d_Pr_openBracket_1 : decode b_Pr_openBracket 1 = .ok (.getfield 30, 3) := by decide +kernel
theorem d_Pr_openBracket_4 : decode b_Pr_openBracket 4 = .ok (.getfield 53, 3) := by decide +kernel
theorem d_Pr_openBracket_7 : decode b_Pr_openBracket 7 = .ok (.bipush 40, 2) := by decide +kernel
theorem d_Pr_openBracket_9 : decode b_Pr_openBracket 9 = .ok (.if_icmp .ne 19, 3) := by decide +kernel
theorem d_Pr_openBracket_12 : decode b_Pr_openBracket 12 = .ok (.aload_n 0, 1) := by decide +kernel
theorem d_Pr_openBracket_13 : decode b_Pr_openBracket 13 = .ok (.getfield 42, 3) := by decide +kernel
theorem d_Pr_openBracket_16 : decode b_Pr_openBracket 16 = .ok (.iconst 2, 1) := by decide +kernel
theorem d_Pr_openBracket_17 : decode b_Pr_openBracket 17 = .ok (.if_icmp .lt 11, 3) := by decide +kernel
theorem d_Pr_openBracket_20 : decode b_Pr_openBracket 20 = .ok (.aload_n 0, 1) := by decide +kernel
theorem d_Pr_openBracket_21 : decode b_Pr_openBracket 21 = .ok (.getfield 30, 3) := by decide +kernel
theorem d_Pr_openBracket_24 : decode b_Pr_openBracket 24 = .ok (.iconst 3, 1) := by decide +kernel
theorem d_Pr_openBracket_25 : decode b_Pr_openBracket 25 = .ok (.invokevirtual 62, 3) := by decide +kernel
theorem d_Pr_openBracket_28 : decode b_Pr_openBracket 28 = .ok (.aload_n 0, 1) := by decide +kernel
theorem d_Pr_openBracket_29 : decode b_Pr_openBracket 29 = .ok (.getfield 30, 3) := by decide +kernel
theorem d_Pr_openBracket_32 : decode b_Pr_openBracket 32 = .ok (.bipush 40, 2) := by decide +kernel
theorem d_Pr_openBracket_34 : decode b_Pr_openBracket 34 = .ok (.invokevirtual 66, 3) := by decide +kernel
theorem d_Pr_openBracket_37 : decode b_Pr_openBracket 37 = .ok (.aload_n 0, 1) := by decide +kernel
theorem d_Pr_openBracket_38 : decode b_Pr_openBracket 38 = .ok (.getfield 42, 3) := by decide +kernel
theorem d_Pr_openBracket_41 : decode b_Pr_openBracket 41 = .ok (.ifCond .lt 35, 3) := by decide +kernel
theorem d_Pr_openBracket_44 : decode b_Pr_openBracket 44 = .ok (.aload_n 0, 1) := by decide +kernel
theorem d_Pr_openBracket_45 : decode b_Pr_openBracket 45 = .ok (.getfield 42, 3) := by decide +kernel
theorem d_Pr_openBracket_48 : decode b_Pr_openBracket 48 = .ok (.aload_n 0, 1) := by decide +kernel
theorem d_Pr_openBracket_49 : decode b_Pr_openBracket 49 = .ok (.getfield 24, 3) := by decide +kernel
theorem d_Pr_openBracket_52 : decode b_Pr_openBracket 52 = .ok (.arraylength, 1) := by decide +kernel
theorem d_Pr_openBracket_53 : decode b_Pr_openBracket 53 = .ok (.if_icmp .ge 23, 3) := by decide +kernel
theorem d_Pr_openBracket_56 : decode b_Pr_openBracket 56 = .ok (.aload_n 0, 1) := by decide +kernel
theorem d_Pr_openBracket_57 : decode b_Pr_openBracket 57 = .ok (.getfield 24, 3) := by decide +kernel
theorem d_Pr_openBracket_60 : decode b_Pr_openBracket 60 = .ok (.aload_n 0, 1) := by decide +kernel
theorem d_Pr_openBracket_61 : decode b_Pr_openBracket 61 = .ok (.getfield 42, 3) := by decide +kernel
theorem d_Pr_openBracket_64 : decode b_Pr_openBracket 64 = .ok (.iload_n 1, 1) := by decide +kernel
theorem d_Pr_openBracket_65 : decode b_Pr_openBracket 65 = .ok (.iastore, 1) := by decide +kernel
theorem d_Pr_openBracket_66 : decode b_Pr_openBracket 66 = .ok (.aload_n 0, 1) := by decide +kernel
theorem d_Pr_openBracket_67 : decode b_Pr_openBracket 67 = .ok (.dup, 1) := by decide +kernel
theorem d_Pr_openBracket_68 : decode b_Pr_openBracket 68 = .ok (.getfield 42, 3) := by decide +kernel
theorem d_Pr_openBracket_71 : decode b_Pr_openBracket 71 = .ok (.iconst 1, 1) := by decide +kernel
theorem d_Pr_openBracket_72 : decode b_Pr_openBracket 72 = .ok (.iadd, 1) := by decide +kernel
theorem d_Pr_openBracket_73 : decode b_Pr_openBracket 73 = .ok (.putfield 42, 3) := by decide +kernel
theorem d_Pr_openBracket_76 : decode b_Pr_openBracket 76 = .ok (.return_, 1) := by decide +kernel
theorem d_Pr_start_0 : decode b_Pr_start 0 = .ok (.aload_n 0, 1) := by decide +kernel
theorem d_Pr_start_1 : decode b_Pr_start 1 = .ok (.iconst 0, 1) := by decide +kernel
theorem d_Pr_start_2 : decode b_Pr_start 2 = .ok (.putfield 120, 3) := by decide +kernel
theorem d_Pr_start_5 : decode b_Pr_start 5 = .ok (.aload_n 0, 1) := by decide +kernel
theorem d_Pr_start_6 : decode b_Pr_start 6 = .ok (.iconst 0, 1) := by decide +kernel
theorem d_Pr_start_7 : decode b_Pr_start 7 = .ok (.putfield 42, 3) := by decide +kernel
theorem d_Pr_start_10 : decode b_Pr_start 10 = .ok (.return_, 1) := by decide +kernel
theorem d_Pr_next_0 : decode b_Pr_next 0 = .ok (.iconst 0, 1) := by decide +kernel
theorem d_Pr_next_1 : decode b_Pr_next 1 = .ok (.istore_n 2, 1) := by decide +kernel
theorem d_Pr_next_2 : decode b_Pr_next 2 = .ok (.iload_n 2, 1) := by decide +kernel
theorem d_Pr_next_3 : decode b_Pr_next 3 = .ok (.ldc 123, 2) := by decide +kernel
theorem d_Pr_next_5 : decode b_Pr_next 5 = .ok (.if_icmp .ge 165, 3) := by decide +kernel
theorem d_Pr_next_8 : decode b_Pr_next 8 = .ok (.aload_n 0, 1) := by decide +kernel
theorem d_Pr_next_9 : decode b_Pr_next 9 = .ok (.getfield 42, 3) := by decide +kernel
theorem d_Pr_next_12 : decode b_Pr_next 12 = .ok (.ifCond .le 19, 3) := by decide +kernel
theorem d_Pr_next_15 : decode b_Pr_next 15 = .ok (.aload_n 0, 1) := by decide +kernel
theorem d_Pr_next_16 : decode b_Pr_next 16 = .ok (.getfield 24, 3) := by decide +kernel
theorem d_Pr_next_19 : decode b_Pr_next 19 = .ok (.aload_n 0, 1) := by decide +kernel
theorem d_Pr_next_20 : decode b_Pr_next 20 = .ok (.getfield 42, 3) := by decide +kernel
theorem d_Pr_next_23 : decode b_Pr_next 23 = .ok (.iconst 1, 1) := by decide +kernel
theorem d_Pr_next_24 : decode b_Pr_next 24 = .ok (.isub, 1) := by decide +kernel
theorem d_Pr_next_25 : decode b_Pr_next 25 = .ok (.invokestatic 34, 3) := by decide +kernel
theorem d_Pr_next_28 : decode b_Pr_next 28 = .ok (.goto 4, 3) := by decide +kernel
theorem d_Pr_next_31 : decode b_Pr_next 31 = .ok (.iconst (-1), 1) := by decide +kernel
theorem d_Pr_next_32 : decode b_Pr_next 32 = .ok (.istore_n 3, 1) := by decide +kernel
theorem d_Pr_next_33 : decode b_Pr_next 33 = .ok (.iload_n 3, 1) := by decide +kernel
theorem d_Pr_next_34 : decode b_Pr_next 34 = .ok (.iconst (-1), 1) := by decide +kernel
theorem d_Pr_next_35 : decode b_Pr_next 35 = .ok (.if_icmp .eq 26, 3) := by decide +kernel
theorem d_Pr_next_38 : decode b_Pr_next 38 = .ok (.aload_n 0, 1) := by decide +kernel
theorem d_Pr_next_39 : decode b_Pr_next 39 = .ok (.getfield 120, 3) := by decide +kernel
theorem d_Pr_next_42 : decode b_Pr_next 42 = .ok (.aload_n 0, 1) := by decide +kernel
theorem d_Pr_next_43 : decode b_Pr_next 43 = .ok (.getfield 21, 3) := by decide +kernel
theorem d_Pr_next_46 : decode b_Pr_next 46 = .ok (.iload_n 3, 1) := by decide +kernel
theorem d_Pr_next_47 : decode b_Pr_next 47 = .ok (.invokestatic 34, 3) := by decide +kernel
theorem d_Pr_next_50 : decode b_Pr_next 50 = .ok (.if_icmp .ne 11, 3) := by decide +kernel
theorem d_Pr_next_53 : decode b_Pr_next 53 = .ok (.aload_n 0, 1) := by decide +kernel
theorem d_Pr_next_54 : decode b_Pr_next 54 = .ok (.iload_n 3, 1) := by decide +kernel
theorem d_Pr_next_55 : decode b_Pr_next 55 = .ok (.invokevirtual 124, 3) := by decide +kernel
theorem d_Pr_next_58 : decode b_Pr_next 58 = .ok (.goto 106, 3) := by decide +kernel
theorem d_Pr_next_61 : decode b_Pr_next 61 = .ok (.aload_n 0, 1) := by decide +kernel
theorem d_Pr_next_62 : decode b_Pr_next 62 = .ok (.getfield 120, 3) := by decide +kernel
theorem d_Pr_next_65 : decode b_Pr_next 65 = .ok (.ifCond .lt 14, 3) := by decide +kernel
theorem d_Pr_next_68 : decode b_Pr_next 68 = .ok (.aload_n 0, 1) := by decide +kernel
theorem d_Pr_next_69 : decode b_Pr_next 69 = .ok (.getfield 120, 3) := by decide +kernel
theorem d_Pr_next_72 : decode b_Pr_next 72 = .ok (.aload_n 0, 1) := by decide +kernel
theorem d_Pr_next_73 : decode b_Pr_next 73 = .ok (.getfield 38, 3) := by decide +kernel
theorem d_Pr_next_76 : decode b_Pr_next 76 = .ok (.if_icmp .lt 5, 3) := by decide +kernel
theorem d_Pr_next_79 : decode b_Pr_next 79 = .ok (.iconst (-1), 1) := by decide +kernel
theorem d_Pr_next_80 : decode b_Pr_next 80 = .ok (.ireturn, 1) := by decide +kernel
theorem d_Pr_next_81 : decode b_Pr_next 81 = .ok (.aload_n 0, 1) := by decide +kernel
theorem d_Pr_next_82 : decode b_Pr_next 82 = .ok (.getfield 11, 3) := by decide +kernel
theorem d_Pr_next_85 : decode b_Pr_next 85 = .ok (.aload_n 0, 1) := by decide +kernel
theorem d_Pr_next_86 : decode b_Pr_next 86 = .ok (.getfield 120, 3) := by decide +kernel
theorem d_Pr_next_89 : decode b_Pr_next 89 = .ok (.invokestatic 34, 3) := by decide +kernel
theorem d_Pr_next_92 : decode b_Pr_next 92 = .ok (.bipush 8, 2) := by decide +kernel
theorem d_Pr_next_94 : decode b_Pr_next 94 = .ok (.if_icmp .ne 21, 3) := by decide +kernel
theorem d_Pr_next_97 : decode b_Pr_next 97 = .ok (.aload_n 0, 1) := by decide +kernel
theorem d_Pr_next_98 : decode b_Pr_next 98 = .ok (.aload_n 0, 1) := by decide +kernel
theorem d_Pr_next_99 : decode b_Pr_next 99 = .ok (.getfield 15, 3) := by decide +kernel
theorem d_Pr_next_102 : decode b_Pr_next 102 = .ok (.aload_n 0, 1) := by decide +kernel
theorem d_Pr_next_103 : decode b_Pr_next 103 = .ok (.getfield 120, 3) := by decide +kernel
theorem d_Pr_next_106 : decode b_Pr_next 106 = .ok (.invokestatic 34, 3) := by decide +kernel
theorem d_Pr_next_109 : decode b_Pr_next 109 = .ok (.invokevirtual 127, 3) := by decide +kernel
theorem d_Pr_next_112 : decode b_Pr_next 112 = .ok (.goto 52, 3) := by decide +kernel
theorem d_Pr_next_115 : decode b_Pr_next 115 = .ok (.aload_n 0, 1) := by decide +kernel
theorem d_Pr_next_116 : decode b_Pr_next 116 = .ok (.getfield 11, 3) := by decide +kernel
theorem d_Pr_next_119 : decode b_Pr_next 119 = .ok (.aload_n 0, 1) := by decide +kernel
theorem d_Pr_next_120 : decode b_Pr_next 120 = .ok (.getfield 120, 3) := by decide +kernel
theorem d_Pr_next_123 : decode b_Pr_next 123 = .ok (.invokestatic 34, 3) := by decide +kernel
theorem d_Pr_next_126 : decode b_Pr_next 126 = .ok (.bipush 9, 2) := by decide +kernel
theorem d_Pr_next_128 : decode b_Pr_next 128 = .ok (.if_icmp .ne 19, 3) := by decide +kernel
theorem d_Pr_next_131 : decode b_Pr_next 131 = .ok (.aload_n 0, 1) := by decide +kernel
theorem d_Pr_next_132 : decode b_Pr_next 132 = .ok (.iload_n 1, 1) := by decide +kernel
theorem d_Pr_next_133 : decode b_Pr_next 133 = .ok (.ifCond .eq 7, 3) := by decide +kernel
theorem d_Pr_next_136 : decode b_Pr_next 136 = .ok (.iconst 0, 1) := by decide +kernel
theorem d_Pr_next_137 : decode b_Pr_next 137 = .ok (.goto 4, 3) := by decide +kernel
theorem d_Pr_next_140 : decode b_Pr_next 140 = .ok (.iconst 1, 1) := by decide +kernel
theorem d_Pr_next_141 : decode b_Pr_next 141 = .ok (.invokevirtual 127, 3) := by decide +kernel
theorem d_Pr_next_144 : decode b_Pr_next 144 = .ok (.goto 20, 3) := by decide +kernel
theorem d_Pr_next_147 : decode b_Pr_next 147 = .ok (.aload_n 0, 1) := by decide +kernel
theorem d_Pr_next_148 : decode b_Pr_next 148 = .ok (.dup, 1) := by decide +kernel
theorem d_Pr_next_149 : decode b_Pr_next 149 = .ok (.getfield 120, 3) := by decide +kernel
theorem d_Pr_next_152 : decode b_Pr_next 152 = .ok (.iconst 1, 1) := by decide +kernel
theorem d_Pr_next_153 : decode b_Pr_next 153 = .ok (.iadd, 1) := by decide +kernel
theorem d_Pr_next_154 : decode b_Pr_next 154 = .ok (.putfield 120, 3) := by decide +kernel
theorem d_Pr_next_157 : decode b_Pr_next 157 = .ok (.aload_n 0, 1) := by decide +kernel
theorem d_Pr_next_158 : decode b_Pr_next 158 = .ok (.getfield 120, 3) := by decide +kernel
theorem d_Pr_next_161 : decode b_Pr_next 161 = .ok (.iconst 1, 1) := by decide +kernel
theorem d_Pr_next_162 : decode b_Pr_next 162 = .ok (.isub, 1) := by decide +kernel
theorem d_Pr_next_163 : decode b_Pr_next 163 = .ok (.ireturn, 1) := by decide +kernel
theorem d_Pr_next_164 : decode b_Pr_next 164 = .ok (.iinc 2 1, 3) := by decide +kernel
theorem d_Pr_next_167 : decode b_Pr_next 167 = .ok (.goto (-165), 3) := by decide +kernel
theorem d_Pr_next_170 : decode b_Pr_next 170 = .ok (.iconst (-1), 1) := by decide +kernel
theorem d_Pr_next_171 : decode b_Pr_next 171 = .ok (.ireturn, 1) := by decide +kernel
theorem d_Pr_enter_0 : decode b_Pr_enter 0 = .ok (.iload_n 1, 1) := by decide +kernel
theorem d_Pr_enter_1 : decode b_Pr_enter 1 = .ok (.ifCond .le 80, 3) := by decide +kernel
theorem d_Pr_enter_4 : decode b_Pr_enter 4 = .ok (.aload_n 0, 1) := by decide +kernel
theorem d_Pr_enter_5 : decode b_Pr_enter 5 = .ok (.getfield 42, 3) := by decide +kernel
theorem d_Pr_enter_8 : decode b_Pr_enter 8 = .ok (.ifCond .lt 73, 3) := by decide +kernel
theorem d_Pr_enter_11 : decode b_Pr_enter 11 = .ok (.aload_n 0, 1) := by decide +kernel
theorem d_Pr_enter_12 : decode b_Pr_enter 12 = .ok (.getfield 42, 3) := by decide +kernel
theorem d_Pr_enter_15 : decode b_Pr_enter 15 = .ok (.aload_n 0, 1) := by decide +kernel
theorem d_Pr_enter_16 : decode b_Pr_enter 16 = .ok (.getfield 24, 3) := by decide +kernel
theorem d_Pr_enter_19 : decode b_Pr_enter 19 = .ok (.arraylength, 1) := by decide +kernel
theorem d_Pr_enter_20 : decode b_Pr_enter 20 = .ok (.if_icmp .ge 61, 3) := by decide +kernel
theorem d_Pr_enter_23 : decode b_Pr_enter 23 = .ok (.aload_n 0, 1) := by decide +kernel
theorem d_Pr_enter_24 : decode b_Pr_enter 24 = .ok (.getfield 42, 3) := by decide +kernel
theorem d_Pr_enter_27 : decode b_Pr_enter 27 = .ok (.aload_n 0, 1) := by decide +kernel
theorem d_Pr_enter_28 : decode b_Pr_enter 28 = .ok (.getfield 27, 3) := by decide +kernel
theorem d_Pr_enter_31 : decode b_Pr_enter 31 = .ok (.arraylength, 1) := by decide +kernel
theorem d_Pr_enter_32 : decode b_Pr_enter 32 = .ok (.if_icmp .ge 49, 3) := by decide +kernel
theorem d_Pr_enter_35 : decode b_Pr_enter 35 = .ok (.aload_n 0, 1) := by decide +kernel
theorem d_Pr_enter_36 : decode b_Pr_enter 36 = .ok (.getfield 24, 3) := by decide +kernel
theorem d_Pr_enter_39 : decode b_Pr_enter 39 = .ok (.aload_n 0, 1) := by decide +kernel
theorem d_Pr_enter_40 : decode b_Pr_enter 40 = .ok (.getfield 42, 3) := by decide +kernel
theorem d_Pr_enter_43 : decode b_Pr_enter 43 = .ok (.aload_n 0, 1) := by decide +kernel
theorem d_Pr_enter_44 : decode b_Pr_enter 44 = .ok (.getfield 120, 3) := by decide +kernel
theorem d_Pr_enter_47 : decode b_Pr_enter 47 = .ok (.iastore, 1) := by decide +kernel
theorem d_Pr_enter_48 : decode b_Pr_enter 48 = .ok (.aload_n 0, 1) := by decide +kernel
theorem d_Pr_enter_49 : decode b_Pr_enter 49 = .ok (.getfield 27, 3) := by decide +kernel
theorem d_Pr_enter_52 : decode b_Pr_enter 52 = .ok (.aload_n 0, 1) := by decide +kernel
theorem d_Pr_enter_53 : decode b_Pr_enter 53 = .ok (.getfield 42, 3) := by decide +kernel
theorem d_Pr_enter_56 : decode b_Pr_enter 56 = .ok (.iload_n 1, 1) := by decide +kernel
theorem d_Pr_enter_57 : decode b_Pr_enter 57 = .ok (.iastore, 1) := by decide +kernel
theorem d_Pr_enter_58 : decode b_Pr_enter 58 = .ok (.aload_n 0, 1) := by decide +kernel
theorem d_Pr_enter_59 : decode b_Pr_enter 59 = .ok (.dup, 1) := by decide +kernel
theorem d_Pr_enter_60 : decode b_Pr_enter 60 = .ok (.getfield 42, 3) := by decide +kernel
theorem d_Pr_enter_63 : decode b_Pr_enter 63 = .ok (.iconst 1, 1) := by decide +kernel
theorem d_Pr_enter_64 : decode b_Pr_enter 64 = .ok (.iadd, 1) := by decide +kernel
theorem d_Pr_enter_65 : decode b_Pr_enter 65 = .ok (.putfield 42, 3) := by decide +kernel
theorem d_Pr_enter_68 : decode b_Pr_enter 68 = .ok (.aload_n 0, 1) := by decide +kernel
theorem d_Pr_enter_69 : decode b_Pr_enter 69 = .ok (.dup, 1) := by decide +kernel
theorem d_Pr_enter_70 : decode b_Pr_enter 70 = .ok (.getfield 120, 3) := by decide +kernel
theorem d_Pr_enter_73 : decode b_Pr_enter 73 = .ok (.iconst 1, 1) := by decide +kernel
theorem d_Pr_enter_74 : decode b_Pr_enter 74 = .ok (.iadd, 1) := by decide +kernel
theorem d_Pr_enter_75 : decode b_Pr_enter 75 = .ok (.putfield 120, 3) := by decide +kernel
theorem d_Pr_enter_78 : decode b_Pr_enter 78 = .ok (.goto 18, 3) := by decide +kernel
theorem d_Pr_enter_81 : decode b_Pr_enter 81 = .ok (.aload_n 0, 1) := by decide +kernel
theorem d_Pr_enter_82 : decode b_Pr_enter 82 = .ok (.aload_n 0, 1) := by decide +kernel
theorem d_Pr_enter_83 : decode b_Pr_enter 83 = .ok (.getfield 21, 3) := by decide +kernel
theorem d_Pr_enter_86 : decode b_Pr_enter 86 = .ok (.aload_n 0, 1) := by decide +kernel
theorem d_Pr_enter_87 : decode b_Pr_enter 87 = .ok (.getfield 120, 3) := by decide +kernel
theorem d_Pr_enter_90 : decode b_Pr_enter 90 = .ok (.invokestatic 34, 3) := by decide +kernel
theorem d_Pr_enter_93 : decode b_Pr_enter 93 = .ok (.putfield 120, 3) := by decide +kernel
theorem d_Pr_enter_96 : decode b_Pr_enter 96 = .ok (.return_, 1) := by decide +kernel
theorem d_Pr_endTurn_0 : decode b_Pr_endTurn 0 = .ok (.aload_n 0, 1) := by decide +kernel
theorem d_Pr_endTurn_1 : decode b_Pr_endTurn 1 = .ok (.getfield 42, 3) := by decide +kernel
theorem d_Pr_endTurn_4 : decode b_Pr_endTurn 4 = .ok (.iconst 1, 1) := by decide +kernel
theorem d_Pr_endTurn_5 : decode b_Pr_endTurn 5 = .ok (.isub, 1) := by decide +kernel
theorem d_Pr_endTurn_6 : decode b_Pr_endTurn 6 = .ok (.istore_n 2, 1) := by decide +kernel
theorem d_Pr_endTurn_7 : decode b_Pr_endTurn 7 = .ok (.iload_n 2, 1) := by decide +kernel
theorem d_Pr_endTurn_8 : decode b_Pr_endTurn 8 = .ok (.ifCond .lt 42, 3) := by decide +kernel
theorem d_Pr_endTurn_11 : decode b_Pr_endTurn 11 = .ok (.iload_n 2, 1) := by decide +kernel
theorem d_Pr_endTurn_12 : decode b_Pr_endTurn 12 = .ok (.aload_n 0, 1) := by decide +kernel
theorem d_Pr_endTurn_13 : decode b_Pr_endTurn 13 = .ok (.getfield 27, 3) := by decide +kernel
theorem d_Pr_endTurn_16 : decode b_Pr_endTurn 16 = .ok (.arraylength, 1) := by decide +kernel
theorem d_Pr_endTurn_17 : decode b_Pr_endTurn 17 = .ok (.if_icmp .ge 33, 3) := by decide +kernel
theorem d_Pr_endTurn_20 : decode b_Pr_endTurn 20 = .ok (.aload_n 0, 1) := by decide +kernel
theorem d_Pr_endTurn_21 : decode b_Pr_endTurn 21 = .ok (.getfield 27, 3) := by decide +kernel
theorem d_Pr_endTurn_24 : decode b_Pr_endTurn 24 = .ok (.iload_n 2, 1) := by decide +kernel
theorem d_Pr_endTurn_25 : decode b_Pr_endTurn 25 = .ok (.iaload, 1) := by decide +kernel
theorem d_Pr_endTurn_26 : decode b_Pr_endTurn 26 = .ok (.iconst 1, 1) := by decide +kernel
theorem d_Pr_endTurn_27 : decode b_Pr_endTurn 27 = .ok (.if_icmp .le 23, 3) := by decide +kernel
theorem d_Pr_endTurn_30 : decode b_Pr_endTurn 30 = .ok (.aload_n 0, 1) := by decide +kernel
theorem d_Pr_endTurn_31 : decode b_Pr_endTurn 31 = .ok (.getfield 27, 3) := by decide +kernel
theorem d_Pr_endTurn_34 : decode b_Pr_endTurn 34 = .ok (.iload_n 2, 1) := by decide +kernel
theorem d_Pr_endTurn_35 : decode b_Pr_endTurn 35 = .ok (.dup2, 1) := by decide +kernel
theorem d_Pr_endTurn_36 : decode b_Pr_endTurn 36 = .ok (.iaload, 1) := by decide +kernel
theorem d_Pr_endTurn_37 : decode b_Pr_endTurn 37 = .ok (.iconst 1, 1) := by decide +kernel
theorem d_Pr_endTurn_38 : decode b_Pr_endTurn 38 = .ok (.isub, 1) := by decide +kernel
theorem d_Pr_endTurn_39 : decode b_Pr_endTurn 39 = .ok (.iastore, 1) := by decide +kernel
theorem d_Pr_endTurn_40 : decode b_Pr_endTurn 40 = .ok (.aload_n 0, 1) := by decide +kernel
theorem d_Pr_endTurn_41 : decode b_Pr_endTurn 41 = .ok (.iload_n 1, 1) := by decide +kernel
theorem d_Pr_endTurn_42 : decode b_Pr_endTurn 42 = .ok (.iconst 1, 1) := by decide +kernel
theorem d_Pr_endTurn_43 : decode b_Pr_endTurn 43 = .ok (.iadd, 1) := by decide +kernel
theorem d_Pr_endTurn_44 : decode b_Pr_endTurn 44 = .ok (.putfield 120, 3) := by decide +kernel
theorem d_Pr_endTurn_47 : decode b_Pr_endTurn 47 = .ok (.goto 8, 3) := by decide +kernel
theorem d_Pr_endTurn_50 : decode b_Pr_endTurn 50 = .ok (.aload_n 0, 1) := by decide +kernel
theorem d_Pr_endTurn_51 : decode b_Pr_endTurn 51 = .ok (.iload_n 2, 1) := by decide +kernel
theorem d_Pr_endTurn_52 : decode b_Pr_endTurn 52 = .ok (.putfield 42, 3) := by decide +kernel
theorem d_Pr_endTurn_55 : decode b_Pr_endTurn 55 = .ok (.return_, 1) := by decide +kernel
theorem d_Se_init_0 : decode b_Se_init 0 = .ok (.aload_n 0, 1) := by decide +kernel
theorem d_Se_init_1 : decode b_Se_init 1 = .ok (.invokespecial 3, 3) := by decide +kernel
theorem d_Se_init_4 : decode b_Se_init 4 = .ok (.aload_n 0, 1) := by decide +kernel
theorem d_Se_init_5 : decode b_Se_init 5 = .ok (.aload_n 1, 1) := by decide +kernel
theorem d_Se_init_6 : decode b_Se_init 6 = .ok (.putfield 9, 3) := by decide +kernel
theorem d_Se_init_9 : decode b_Se_init 9 = .ok (.aload_n 0, 1) := by decide +kernel
theorem d_Se_init_10 : decode b_Se_init 10 = .ok (.new 15, 3) := by decide +kernel
theorem d_Se_init_13 : decode b_Se_init 13 = .ok (.dup, 1) := by decide +kernel
theorem d_Se_init_14 : decode b_Se_init 14 = .ok (.aload_n 1, 1) := by decide +kernel
theorem d_Se_init_15 : decode b_Se_init 15 = .ok (.invokespecial 17, 3) := by decide +kernel
theorem d_Se_init_18 : decode b_Se_init 18 = .ok (.putfield 20, 3) := by decide +kernel
theorem d_Se_init_21 : decode b_Se_init 21 = .ok (.return_, 1) := by decide +kernel
theorem d_Se_deflectionAt_0 : decode b_Se_deflectionAt 0 = .ok (.aload_n 0, 1) := by decide +kernel
theorem d_Se_deflectionAt_1 : decode b_Se_deflectionAt 1 = .ok (.getfield 20, 3) := by decide +kernel
theorem d_Se_deflectionAt_4 : decode b_Se_deflectionAt 4 = .ok (.iconst 0, 1) := by decide +kernel
theorem d_Se_deflectionAt_5 : decode b_Se_deflectionAt 5 = .ok (.putfield 24, 3) := by decide +kernel
theorem d_Se_deflectionAt_8 : decode b_Se_deflectionAt 8 = .ok (.aload_n 0, 1) := by decide +kernel
theorem d_Se_deflectionAt_9 : decode b_Se_deflectionAt 9 = .ok (.getfield 20, 3) := by decide +kernel
theorem d_Se_deflectionAt_12 : decode b_Se_deflectionAt 12 = .ok (.iload_n 1, 1) := by decide +kernel
theorem d_Se_deflectionAt_13 : decode b_Se_deflectionAt 13 = .ok (.invokevirtual 28, 3) := by decide +kernel
theorem d_Se_deflectionAt_16 : decode b_Se_deflectionAt 16 = .ok (.aload_n 0, 1) := by decide +kernel
theorem d_Se_deflectionAt_17 : decode b_Se_deflectionAt 17 = .ok (.getfield 20, 3) := by decide +kernel
theorem d_Se_deflectionAt_20 : decode b_Se_deflectionAt 20 = .ok (.invokevirtual 32, 3) := by decide +kernel
theorem d_Se_deflectionAt_23 : decode b_Se_deflectionAt 23 = .ok (.lreturn, 1) := by decide +kernel
theorem d_Se_amountAt_0 : decode b_Se_amountAt 0 = .ok (.aload_n 0, 1) := by decide +kernel
theorem d_Se_amountAt_1 : decode b_Se_amountAt 1 = .ok (.iload_n 1, 1) := by decide +kernel
theorem d_Se_amountAt_2 : decode b_Se_amountAt 2 = .ok (.invokevirtual 36, 3) := by decide +kernel
theorem d_Se_amountAt_5 : decode b_Se_amountAt 5 = .ok (.invokestatic 40, 3) := by decide +kernel
theorem d_Se_amountAt_8 : decode b_Se_amountAt 8 = .ok (.lreturn, 1) := by decide +kernel
theorem d_Se_idealSetting_0 : decode b_Se_idealSetting 0 = .ok (.iconst 0, 1) := by decide +kernel
theorem d_Se_idealSetting_1 : decode b_Se_idealSetting 1 = .ok (.istore_n 1, 1) := by decide +kernel
theorem d_Se_idealSetting_2 : decode b_Se_idealSetting 2 = .ok (.iconst 0, 1) := by decide +kernel
theorem d_Se_idealSetting_3 : decode b_Se_idealSetting 3 = .ok (.istore_n 2, 1) := by decide +kernel
theorem d_Se_idealSetting_4 : decode b_Se_idealSetting 4 = .ok (.iload_n 2, 1) := by decide +kernel
theorem d_Se_idealSetting_5 : decode b_Se_idealSetting 5 = .ok (.aload_n 0, 1) := by decide +kernel
theorem d_Se_idealSetting_6 : decode b_Se_idealSetting 6 = .ok (.getfield 9, 3) := by decide +kernel
theorem d_Se_idealSetting_9 : decode b_Se_idealSetting 9 = .ok (.getfield 46, 3) := by decide +kernel
theorem d_Se_idealSetting_12 : decode b_Se_idealSetting 12 = .ok (.if_icmp .ge 66, 3) := by decide +kernel
theorem d_Se_idealSetting_15 : decode b_Se_idealSetting 15 = .ok (.aload_n 0, 1) := by decide +kernel
theorem d_Se_idealSetting_16 : decode b_Se_idealSetting 16 = .ok (.getfield 9, 3) := by decide +kernel
theorem d_Se_idealSetting_19 : decode b_Se_idealSetting 19 = .ok (.iload_n 2, 1) := by decide +kernel
theorem d_Se_idealSetting_20 : decode b_Se_idealSetting 20 = .ok (.invokevirtual 52, 3) := by decide +kernel
theorem d_Se_idealSetting_23 : decode b_Se_idealSetting 23 = .ok (.istore_n 3, 1) := by decide +kernel
theorem d_Se_idealSetting_24 : decode b_Se_idealSetting 24 = .ok (.iconst 1, 1) := by decide +kernel
theorem d_Se_idealSetting_25 : decode b_Se_idealSetting 25 = .ok (.istore 4, 2) := by decide +kernel
theorem d_Se_idealSetting_27 : decode b_Se_idealSetting 27 = .ok (.iload 4, 2) := by decide +kernel
theorem d_Se_idealSetting_29 : decode b_Se_idealSetting 29 = .ok (.bipush 9, 2) := by decide +kernel
theorem d_Se_idealSetting_31 : decode b_Se_idealSetting 31 = .ok (.if_icmp .gt 41, 3) := by decide +kernel
theorem d_Se_idealSetting_34 : decode b_Se_idealSetting 34 = .ok (.aload_n 0, 1) := by decide +kernel
theorem d_Se_idealSetting_35 : decode b_Se_idealSetting 35 = .ok (.iload_n 1, 1) := by decide +kernel
theorem d_Se_idealSetting_36 : decode b_Se_idealSetting 36 = .ok (.iload_n 3, 1) := by decide +kernel
theorem d_Se_idealSetting_37 : decode b_Se_idealSetting 37 = .ok (.iadd, 1) := by decide +kernel
theorem d_Se_idealSetting_38 : decode b_Se_idealSetting 38 = .ok (.invokevirtual 36, 3) := by decide +kernel
theorem d_Se_idealSetting_41 : decode b_Se_idealSetting 41 = .ok (.lstore 5, 2) := by decide +kernel
theorem d_Se_idealSetting_43 : decode b_Se_idealSetting 43 = .ok (.lload 5, 2) := by decide +kernel
theorem d_Se_idealSetting_45 : decode b_Se_idealSetting 45 = .ok (.lconst 0, 1) := by decide +kernel
theorem d_Se_idealSetting_46 : decode b_Se_idealSetting 46 = .ok (.lcmp, 1) := by decide +kernel
theorem d_Se_idealSetting_47 : decode b_Se_idealSetting 47 = .ok (.ifCond .ge 6, 3) := by decide +kernel
theorem d_Se_idealSetting_50 : decode b_Se_idealSetting 50 = .ok (.goto 22, 3) := by decide +kernel
theorem d_Se_idealSetting_53 : decode b_Se_idealSetting 53 = .ok (.iload_n 1, 1) := by decide +kernel
theorem d_Se_idealSetting_54 : decode b_Se_idealSetting 54 = .ok (.iload_n 3, 1) := by decide +kernel
theorem d_Se_idealSetting_55 : decode b_Se_idealSetting 55 = .ok (.iadd, 1) := by decide +kernel
theorem d_Se_idealSetting_56 : decode b_Se_idealSetting 56 = .ok (.istore_n 1, 1) := by decide +kernel
theorem d_Se_idealSetting_57 : decode b_Se_idealSetting 57 = .ok (.lload 5, 2) := by decide +kernel
theorem d_Se_idealSetting_59 : decode b_Se_idealSetting 59 = .ok (.lconst 0, 1) := by decide +kernel
theorem d_Se_idealSetting_60 : decode b_Se_idealSetting 60 = .ok (.lcmp, 1) := by decide +kernel
theorem d_Se_idealSetting_61 : decode b_Se_idealSetting 61 = .ok (.ifCond .ne 5, 3) := by decide +kernel
theorem d_Se_idealSetting_64 : decode b_Se_idealSetting 64 = .ok (.iload_n 1, 1) := by decide +kernel
theorem d_Se_idealSetting_65 : decode b_Se_idealSetting 65 = .ok (.ireturn, 1) := by decide +kernel
theorem d_Se_idealSetting_66 : decode b_Se_idealSetting 66 = .ok (.iinc 4 1, 3) := by decide +kernel
theorem d_Se_idealSetting_69 : decode b_Se_idealSetting 69 = .ok (.goto (-42), 3) := by decide +kernel
theorem d_Se_idealSetting_72 : decode b_Se_idealSetting 72 = .ok (.iinc 2 1, 3) := by decide +kernel
theorem d_Se_idealSetting_75 : decode b_Se_idealSetting 75 = .ok (.goto (-71), 3) := by decide +kernel
theorem d_Se_idealSetting_78 : decode b_Se_idealSetting 78 = .ok (.iload_n 1, 1) := by decide +kernel
theorem d_Se_idealSetting_79 : decode b_Se_idealSetting 79 = .ok (.ireturn, 1) := by decide +kernel
theorem d_Se_bestSetting_0 : decode b_Se_bestSetting 0 = .ok (.aload_n 0, 1) := by decide +kernel
theorem d_Se_bestSetting_1 : decode b_Se_bestSetting 1 = .ok (.getfield 9, 3) := by decide +kernel
theorem d_Se_bestSetting_4 : decode b_Se_bestSetting 4 = .ok (.invokevirtual 56, 3) := by decide +kernel
theorem d_Se_bestSetting_7 : decode b_Se_bestSetting 7 = .ok (.istore_n 1, 1) := by decide +kernel
theorem d_Se_bestSetting_8 : decode b_Se_bestSetting 8 = .ok (.iconst 0, 1) := by decide +kernel
theorem d_Se_bestSetting_9 : decode b_Se_bestSetting 9 = .ok (.istore_n 2, 1) := by decide +kernel
theorem d_Se_bestSetting_10 : decode b_Se_bestSetting 10 = .ok (.aload_n 0, 1) := by decide +kernel
theorem d_Se_bestSetting_11 : decode b_Se_bestSetting 11 = .ok (.aload_n 0, 1) := by decide +kernel
theorem d_Se_bestSetting_12 : decode b_Se_bestSetting 12 = .ok (.invokevirtual 60, 3) := by decide +kernel
theorem d_Se_bestSetting_15 : decode b_Se_bestSetting 15 = .ok (.invokevirtual 63, 3) := by decide +kernel
theorem d_Se_bestSetting_18 : decode b_Se_bestSetting 18 = .ok (.lconst 1, 1) := by decide +kernel
theorem d_Se_bestSetting_19 : decode b_Se_bestSetting 19 = .ok (.ladd, 1) := by decide +kernel
theorem d_Se_bestSetting_20 : decode b_Se_bestSetting 20 = .ok (.lstore_n 3, 1) := by decide +kernel
theorem d_Se_bestSetting_21 : decode b_Se_bestSetting 21 = .ok (.iconst 0, 1) := by decide +kernel
theorem d_Se_bestSetting_22 : decode b_Se_bestSetting 22 = .ok (.istore 5, 2) := by decide +kernel
theorem d_Se_bestSetting_24 : decode b_Se_bestSetting 24 = .ok (.iload 5, 2) := by decide +kernel
theorem d_Se_bestSetting_26 : decode b_Se_bestSetting 26 = .ok (.iload_n 1, 1) := by decide +kernel
theorem d_Se_bestSetting_27 : decode b_Se_bestSetting 27 = .ok (.if_icmp .ge 60, 3) := by decide +kernel
theorem d_Se_bestSetting_30 : decode b_Se_bestSetting 30 = .ok (.lload_n 3, 1) := by decide +kernel
theorem d_Se_bestSetting_31 : decode b_Se_bestSetting 31 = .ok (.lconst 0, 1) := by decide +kernel
theorem d_Se_bestSetting_32 : decode b_Se_bestSetting 32 = .ok (.lcmp, 1) := by decide +kernel
theorem d_Se_bestSetting_33 : decode b_Se_bestSetting 33 = .ok (.ifCond .le 54, 3) := by decide +kernel
theorem d_Se_bestSetting_36 : decode b_Se_bestSetting 36 = .ok (.aload_n 0, 1) := by decide +kernel
theorem d_Se_bestSetting_37 : decode b_Se_bestSetting 37 = .ok (.iload 5, 2) := by decide +kernel
theorem d_Se_bestSetting_39 : decode b_Se_bestSetting 39 = .ok (.invokevirtual 36, 3) := by decide +kernel
theorem d_Se_bestSetting_42 : decode b_Se_bestSetting 42 = .ok (.lstore 6, 2) := by decide +kernel
theorem d_Se_bestSetting_44 : decode b_Se_bestSetting 44 = .ok (.lload 6, 2) := by decide +kernel
theorem d_Se_bestSetting_46 : decode b_Se_bestSetting 46 = .ok (.invokestatic 40, 3) := by decide +kernel
theorem d_Se_bestSetting_49 : decode b_Se_bestSetting 49 = .ok (.lload_n 3, 1) := by decide +kernel
theorem d_Se_bestSetting_50 : decode b_Se_bestSetting 50 = .ok (.lcmp, 1) := by decide +kernel
theorem d_Se_bestSetting_51 : decode b_Se_bestSetting 51 = .ok (.ifCond .ge 12, 3) := by decide +kernel
theorem d_Se_bestSetting_54 : decode b_Se_bestSetting 54 = .ok (.iload 5, 2) := by decide +kernel
theorem d_Se_bestSetting_56 : decode b_Se_bestSetting 56 = .ok (.istore_n 2, 1) := by decide +kernel
theorem d_Se_bestSetting_57 : decode b_Se_bestSetting 57 = .ok (.lload 6, 2) := by decide +kernel
theorem d_Se_bestSetting_59 : decode b_Se_bestSetting 59 = .ok (.invokestatic 40, 3) := by decide +kernel
theorem d_Se_bestSetting_62 : decode b_Se_bestSetting 62 = .ok (.lstore_n 3, 1) := by decide +kernel
theorem d_Se_bestSetting_63 : decode b_Se_bestSetting 63 = .ok (.iload 5, 2) := by decide +kernel
theorem d_Se_bestSetting_65 : decode b_Se_bestSetting 65 = .ok (.iconst 0, 1) := by decide +kernel
theorem d_Se_bestSetting_66 : decode b_Se_bestSetting 66 = .ok (.aload_n 0, 1) := by decide +kernel
theorem d_Se_bestSetting_67 : decode b_Se_bestSetting 67 = .ok (.iload 5, 2) := by decide +kernel
theorem d_Se_bestSetting_69 : decode b_Se_bestSetting 69 = .ok (.lload 6, 2) := by decide +kernel
theorem d_Se_bestSetting_72 : decode b_Se_bestSetting 72 = .ok (.invokevirtual 66, 3) := by decide +kernel
theorem d_Se_bestSetting_78 : decode b_Se_bestSetting 78 = .ok (.iadd, 1) := by decide +kernel
theorem d_Se_bestSetting_79 : decode b_Se_bestSetting 79 = .ok (.istore 5, 2) := by decide +kernel
theorem d_Se_bestSetting_81 : decode b_Se_bestSetting 81 = .ok (.iinc 5 1, 3) := by decide +kernel
theorem d_Se_bestSetting_87 : decode b_Se_bestSetting 87 = .ok (.iload_n 2, 1) := by decide +kernel
theorem d_Se_bestSetting_88 : decode b_Se_bestSetting 88 = .ok (.ireturn, 1) := by decide +kernel
theorem d_Se_bestSetting_71 : decode b_Se_bestSetting 71 = .ok (.lload_n 3, 1) := by decide +kernel
theorem d_Se_bestSetting_75 : decode b_Se_bestSetting 75 = .ok (.invokestatic 70, 3) := by decide +kernel
theorem d_Se_bestSetting_84 : decode b_Se_bestSetting 84 = .ok (.goto (-60), 3) := by decide +kernel
theorem d_Se_countBelow_0 : decode b_Se_countBelow 0 = .ok (.aload_n 0, 1) := by decide +kernel
theorem d_Se_countBelow_1 : decode b_Se_countBelow 1 = .ok (.getfield 9, 3) := by decide +kernel
theorem d_Se_countBelow_4 : decode b_Se_countBelow 4 = .ok (.invokevirtual 56, 3) := by decide +kernel
theorem d_Se_countBelow_7 : decode b_Se_countBelow 7 = .ok (.istore_n 3, 1) := by decide +kernel
theorem d_Se_countBelow_8 : decode b_Se_countBelow 8 = .ok (.iconst 0, 1) := by decide +kernel
theorem d_Se_countBelow_9 : decode b_Se_countBelow 9 = .ok (.istore 4, 2) := by decide +kernel
theorem d_Se_countBelow_11 : decode b_Se_countBelow 11 = .ok (.iconst 0, 1) := by decide +kernel
theorem d_Se_countBelow_12 : decode b_Se_countBelow 12 = .ok (.istore 5, 2) := by decide +kernel
theorem d_Se_countBelow_14 : decode b_Se_countBelow 14 = .ok (.iload 5, 2) := by decide +kernel
theorem d_Se_countBelow_16 : decode b_Se_countBelow 16 = .ok (.iload_n 3, 1) := by decide +kernel
theorem d_Se_countBelow_17 : decode b_Se_countBelow 17 = .ok (.if_icmp .ge 54, 3) := by decide +kernel
theorem d_Se_countBelow_20 : decode b_Se_countBelow 20 = .ok (.lload_n 1, 1) := by decide +kernel
theorem d_Se_countBelow_21 : decode b_Se_countBelow 21 = .ok (.lconst 0, 1) := by decide +kernel
theorem d_Se_countBelow_22 : decode b_Se_countBelow 22 = .ok (.lcmp, 1) := by decide +kernel
theorem d_Se_countBelow_23 : decode b_Se_countBelow 23 = .ok (.ifCond .le 48, 3) := by decide +kernel
theorem d_Se_countBelow_26 : decode b_Se_countBelow 26 = .ok (.aload_n 0, 1) := by decide +kernel
theorem d_Se_countBelow_27 : decode b_Se_countBelow 27 = .ok (.iload 5, 2) := by decide +kernel
theorem d_Se_countBelow_29 : decode b_Se_countBelow 29 = .ok (.invokevirtual 36, 3) := by decide +kernel
theorem d_Se_countBelow_32 : decode b_Se_countBelow 32 = .ok (.lstore 6, 2) := by decide +kernel
theorem d_Se_countBelow_34 : decode b_Se_countBelow 34 = .ok (.lload 6, 2) := by decide +kernel
theorem d_Se_countBelow_36 : decode b_Se_countBelow 36 = .ok (.invokestatic 40, 3) := by decide +kernel
theorem d_Se_countBelow_39 : decode b_Se_countBelow 39 = .ok (.lload_n 1, 1) := by decide +kernel
theorem d_Se_countBelow_40 : decode b_Se_countBelow 40 = .ok (.lcmp, 1) := by decide +kernel
theorem d_Se_countBelow_41 : decode b_Se_countBelow 41 = .ok (.ifCond .ge 6, 3) := by decide +kernel
theorem d_Se_countBelow_44 : decode b_Se_countBelow 44 = .ok (.iinc 4 1, 3) := by decide +kernel
theorem d_Se_countBelow_47 : decode b_Se_countBelow 47 = .ok (.iload 5, 2) := by decide +kernel
theorem d_Se_countBelow_49 : decode b_Se_countBelow 49 = .ok (.iconst 0, 1) := by decide +kernel
theorem d_Se_countBelow_50 : decode b_Se_countBelow 50 = .ok (.aload_n 0, 1) := by decide +kernel
theorem d_Se_countBelow_51 : decode b_Se_countBelow 51 = .ok (.iload 5, 2) := by decide +kernel
theorem d_Se_countBelow_53 : decode b_Se_countBelow 53 = .ok (.lload 6, 2) := by decide +kernel
theorem d_Se_countBelow_56 : decode b_Se_countBelow 56 = .ok (.invokevirtual 66, 3) := by decide +kernel
theorem d_Se_countBelow_62 : decode b_Se_countBelow 62 = .ok (.iadd, 1) := by decide +kernel
theorem d_Se_countBelow_63 : decode b_Se_countBelow 63 = .ok (.istore 5, 2) := by decide +kernel
theorem d_Se_countBelow_65 : decode b_Se_countBelow 65 = .ok (.iinc 5 1, 3) := by decide +kernel
theorem d_Se_countBelow_68 : decode b_Se_countBelow 68 = .ok (.goto (-54), 3) := by decide +kernel
theorem d_Se_countBelow_71 : decode b_Se_countBelow 71 = .ok (.iload 4, 2) := by decide +kernel
theorem d_Se_countBelow_73 : decode b_Se_countBelow 73 = .ok (.ireturn, 1) := by decide +kernel
theorem d_Se_countBelow_55 : decode b_Se_countBelow 55 = .ok (.lload_n 1, 1) := by decide +kernel
theorem d_Se_countBelow_59 : decode b_Se_countBelow 59 = .ok (.invokestatic 70, 3) := by decide +kernel
theorem d_Se_alikeBehind_0 : decode b_Se_alikeBehind 0 = .ok (.lload_n 2, 1) := by decide +kernel
theorem d_Se_alikeBehind_1 : decode b_Se_alikeBehind 1 = .ok (.lload 4, 2) := by decide +kernel
theorem d_Se_alikeBehind_3 : decode b_Se_alikeBehind 3 = .ok (.invokestatic 74, 3) := by decide +kernel
theorem d_Se_alikeBehind_6 : decode b_Se_alikeBehind 6 = .ok (.istore 6, 2) := by decide +kernel
theorem d_Se_alikeBehind_8 : decode b_Se_alikeBehind 8 = .ok (.aload_n 0, 1) := by decide +kernel
theorem d_Se_alikeBehind_9 : decode b_Se_alikeBehind 9 = .ok (.getfield 9, 3) := by decide +kernel
theorem d_Se_alikeBehind_12 : decode b_Se_alikeBehind 12 = .ok (.invokevirtual 56, 3) := by decide +kernel
theorem d_Se_alikeBehind_15 : decode b_Se_alikeBehind 15 = .ok (.istore 7, 2) := by decide +kernel
theorem d_Se_alikeBehind_17 : decode b_Se_alikeBehind 17 = .ok (.iload 7, 2) := by decide +kernel
theorem d_Se_alikeBehind_19 : decode b_Se_alikeBehind 19 = .ok (.iconst 1, 1) := by decide +kernel
theorem d_Se_alikeBehind_20 : decode b_Se_alikeBehind 20 = .ok (.if_icmp .le 53, 3) := by decide +kernel
theorem d_Se_alikeBehind_23 : decode b_Se_alikeBehind 23 = .ok (.iload 6, 2) := by decide +kernel
theorem d_Se_alikeBehind_25 : decode b_Se_alikeBehind 25 = .ok (.ifCond .eq 48, 3) := by decide +kernel
theorem d_Se_alikeBehind_28 : decode b_Se_alikeBehind 28 = .ok (.iload_n 1, 1) := by decide +kernel
theorem d_Se_alikeBehind_29 : decode b_Se_alikeBehind 29 = .ok (.iload 7, 2) := by decide +kernel
theorem d_Se_alikeBehind_31 : decode b_Se_alikeBehind 31 = .ok (.irem, 1) := by decide +kernel
theorem d_Se_alikeBehind_32 : decode b_Se_alikeBehind 32 = .ok (.ifCond .ne 31, 3) := by decide +kernel
theorem d_Se_alikeBehind_35 : decode b_Se_alikeBehind 35 = .ok (.iload 6, 2) := by decide +kernel
theorem d_Se_alikeBehind_37 : decode b_Se_alikeBehind 37 = .ok (.ifCond .lt 21, 3) := by decide +kernel
theorem d_Se_alikeBehind_40 : decode b_Se_alikeBehind 40 = .ok (.aload_n 0, 1) := by decide +kernel
theorem d_Se_alikeBehind_41 : decode b_Se_alikeBehind 41 = .ok (.iload_n 1, 1) := by decide +kernel
theorem d_Se_alikeBehind_42 : decode b_Se_alikeBehind 42 = .ok (.iload 7, 2) := by decide +kernel
theorem d_Se_alikeBehind_44 : decode b_Se_alikeBehind 44 = .ok (.iadd, 1) := by decide +kernel
theorem d_Se_alikeBehind_45 : decode b_Se_alikeBehind 45 = .ok (.iconst 1, 1) := by decide +kernel
theorem d_Se_alikeBehind_46 : decode b_Se_alikeBehind 46 = .ok (.isub, 1) := by decide +kernel
theorem d_Se_alikeBehind_47 : decode b_Se_alikeBehind 47 = .ok (.invokevirtual 36, 3) := by decide +kernel
theorem d_Se_alikeBehind_50 : decode b_Se_alikeBehind 50 = .ok (.lload 4, 2) := by decide +kernel
theorem d_Se_alikeBehind_52 : decode b_Se_alikeBehind 52 = .ok (.invokestatic 74, 3) := by decide +kernel
theorem d_Se_alikeBehind_55 : decode b_Se_alikeBehind 55 = .ok (.ifCond .le 8, 3) := by decide +kernel
theorem d_Se_alikeBehind_58 : decode b_Se_alikeBehind 58 = .ok (.iload 7, 2) := by decide +kernel
theorem d_Se_alikeBehind_60 : decode b_Se_alikeBehind 60 = .ok (.iconst 1, 1) := by decide +kernel
theorem d_Se_alikeBehind_61 : decode b_Se_alikeBehind 61 = .ok (.isub, 1) := by decide +kernel
theorem d_Se_alikeBehind_62 : decode b_Se_alikeBehind 62 = .ok (.ireturn, 1) := by decide +kernel
theorem d_Se_alikeBehind_63 : decode b_Se_alikeBehind 63 = .ok (.iload 7, 2) := by decide +kernel
theorem d_Se_alikeBehind_65 : decode b_Se_alikeBehind 65 = .ok (.bipush 10, 2) := by decide +kernel
theorem d_Se_alikeBehind_67 : decode b_Se_alikeBehind 67 = .ok (.idiv, 1) := by decide +kernel
theorem d_Se_alikeBehind_68 : decode b_Se_alikeBehind 68 = .ok (.istore 7, 2) := by decide +kernel
theorem d_Se_alikeBehind_70 : decode b_Se_alikeBehind 70 = .ok (.goto (-53), 3) := by decide +kernel
theorem d_Se_alikeBehind_73 : decode b_Se_alikeBehind 73 = .ok (.iconst 0, 1) := by decide +kernel
theorem d_Se_alikeBehind_74 : decode b_Se_alikeBehind 74 = .ok (.ireturn, 1) := by decide +kernel
theorem d_Se_sideOf_0 : decode b_Se_sideOf 0 = .ok (.lload_n 0, 1) := by decide +kernel
theorem d_Se_sideOf_1 : decode b_Se_sideOf 1 = .ok (.lload_n 2, 1) := by decide +kernel
theorem d_Se_sideOf_2 : decode b_Se_sideOf 2 = .ok (.lcmp, 1) := by decide +kernel
theorem d_Se_sideOf_3 : decode b_Se_sideOf 3 = .ok (.ifCond .lt 5, 3) := by decide +kernel
theorem d_Se_sideOf_6 : decode b_Se_sideOf 6 = .ok (.iconst 1, 1) := by decide +kernel
theorem d_Se_sideOf_7 : decode b_Se_sideOf 7 = .ok (.ireturn, 1) := by decide +kernel
theorem d_Se_sideOf_8 : decode b_Se_sideOf 8 = .ok (.lload_n 0, 1) := by decide +kernel
theorem d_Se_sideOf_9 : decode b_Se_sideOf 9 = .ok (.lload_n 2, 1) := by decide +kernel
theorem d_Se_sideOf_10 : decode b_Se_sideOf 10 = .ok (.lneg, 1) := by decide +kernel
theorem d_Se_sideOf_11 : decode b_Se_sideOf 11 = .ok (.lcmp, 1) := by decide +kernel
theorem d_Se_sideOf_12 : decode b_Se_sideOf 12 = .ok (.ifCond .gt 7, 3) := by decide +kernel
theorem d_Se_sideOf_15 : decode b_Se_sideOf 15 = .ok (.iconst (-1), 1) := by decide +kernel
theorem d_Se_sideOf_16 : decode b_Se_sideOf 16 = .ok (.goto 4, 3) := by decide +kernel
theorem d_Se_sideOf_19 : decode b_Se_sideOf 19 = .ok (.iconst 0, 1) := by decide +kernel
theorem d_Se_sideOf_20 : decode b_Se_sideOf 20 = .ok (.ireturn, 1) := by decide +kernel
theorem d_Se_armsOfBest_0 : decode b_Se_armsOfBest 0 = .ok (.iconst 0, 1) := by decide +kernel
theorem d_Se_armsOfBest_1 : decode b_Se_armsOfBest 1 = .ok (.istore_n 1, 1) := by decide +kernel
theorem d_Se_armsOfBest_2 : decode b_Se_armsOfBest 2 = .ok (.ldc2_w 80, 3) := by decide +kernel
theorem d_Se_armsOfBest_5 : decode b_Se_armsOfBest 5 = .ok (.lstore_n 2, 1) := by decide +kernel
theorem d_Se_armsOfBest_6 : decode b_Se_armsOfBest 6 = .ok (.iconst 0, 1) := by decide +kernel
theorem d_Se_armsOfBest_7 : decode b_Se_armsOfBest 7 = .ok (.istore 4, 2) := by decide +kernel
theorem d_Se_armsOfBest_9 : decode b_Se_armsOfBest 9 = .ok (.iload 4, 2) := by decide +kernel
theorem d_Se_armsOfBest_11 : decode b_Se_armsOfBest 11 = .ok (.iconst 5, 1) := by decide +kernel
theorem d_Se_armsOfBest_12 : decode b_Se_armsOfBest 12 = .ok (.if_icmp .ge 86, 3) := by decide +kernel
theorem d_Se_armsOfBest_15 : decode b_Se_armsOfBest 15 = .ok (.iconst 0, 1) := by decide +kernel
theorem d_Se_armsOfBest_16 : decode b_Se_armsOfBest 16 = .ok (.istore 5, 2) := by decide +kernel
theorem d_Se_armsOfBest_18 : decode b_Se_armsOfBest 18 = .ok (.iload 5, 2) := by decide +kernel
theorem d_Se_armsOfBest_20 : decode b_Se_armsOfBest 20 = .ok (.iconst 5, 1) := by decide +kernel
theorem d_Se_armsOfBest_21 : decode b_Se_armsOfBest 21 = .ok (.if_icmp .ge 71, 3) := by decide +kernel
theorem d_Se_armsOfBest_24 : decode b_Se_armsOfBest 24 = .ok (.aload_n 0, 1) := by decide +kernel
theorem d_Se_armsOfBest_25 : decode b_Se_armsOfBest 25 = .ok (.getfield 20, 3) := by decide +kernel
theorem d_Se_armsOfBest_28 : decode b_Se_armsOfBest 28 = .ok (.iload 4, 2) := by decide +kernel
theorem d_Se_armsOfBest_30 : decode b_Se_armsOfBest 30 = .ok (.iload 5, 2) := by decide +kernel
theorem d_Se_armsOfBest_32 : decode b_Se_armsOfBest 32 = .ok (.invokevirtual 82, 3) := by decide +kernel
theorem d_Se_armsOfBest_35 : decode b_Se_armsOfBest 35 = .ok (.aload_n 0, 1) := by decide +kernel
theorem d_Se_armsOfBest_36 : decode b_Se_armsOfBest 36 = .ok (.getfield 20, 3) := by decide +kernel
theorem d_Se_armsOfBest_39 : decode b_Se_armsOfBest 39 = .ok (.aload_n 0, 1) := by decide +kernel
theorem d_Se_armsOfBest_40 : decode b_Se_armsOfBest 40 = .ok (.invokevirtual 86, 3) := by decide +kernel
theorem d_Se_armsOfBest_43 : decode b_Se_armsOfBest 43 = .ok (.invokevirtual 28, 3) := by decide +kernel
theorem d_Se_armsOfBest_46 : decode b_Se_armsOfBest 46 = .ok (.aload_n 0, 1) := by decide +kernel
theorem d_Se_armsOfBest_47 : decode b_Se_armsOfBest 47 = .ok (.getfield 20, 3) := by decide +kernel
theorem d_Se_armsOfBest_50 : decode b_Se_armsOfBest 50 = .ok (.invokevirtual 89, 3) := by decide +kernel
theorem d_Se_armsOfBest_53 : decode b_Se_armsOfBest 53 = .ok (.aload_n 0, 1) := by decide +kernel
theorem d_Se_armsOfBest_54 : decode b_Se_armsOfBest 54 = .ok (.getfield 20, 3) := by decide +kernel
theorem d_Se_armsOfBest_57 : decode b_Se_armsOfBest 57 = .ok (.getfield 92, 3) := by decide +kernel
theorem d_Se_armsOfBest_60 : decode b_Se_armsOfBest 60 = .ok (.i2l, 1) := by decide +kernel
theorem d_Se_armsOfBest_61 : decode b_Se_armsOfBest 61 = .ok (.lsub, 1) := by decide +kernel
theorem d_Se_armsOfBest_62 : decode b_Se_armsOfBest 62 = .ok (.invokestatic 40, 3) := by decide +kernel
theorem d_Se_armsOfBest_65 : decode b_Se_armsOfBest 65 = .ok (.lstore 6, 2) := by decide +kernel
theorem d_Se_armsOfBest_67 : decode b_Se_armsOfBest 67 = .ok (.lload 6, 2) := by decide +kernel
theorem d_Se_armsOfBest_69 : decode b_Se_armsOfBest 69 = .ok (.lload_n 2, 1) := by decide +kernel
theorem d_Se_armsOfBest_70 : decode b_Se_armsOfBest 70 = .ok (.lcmp, 1) := by decide +kernel
theorem d_Se_armsOfBest_71 : decode b_Se_armsOfBest 71 = .ok (.ifCond .ge 15, 3) := by decide +kernel
theorem d_Se_armsOfBest_74 : decode b_Se_armsOfBest 74 = .ok (.lload 6, 2) := by decide +kernel
theorem d_Se_armsOfBest_76 : decode b_Se_armsOfBest 76 = .ok (.lstore_n 2, 1) := by decide +kernel
theorem d_Se_armsOfBest_77 : decode b_Se_armsOfBest 77 = .ok (.bipush 10, 2) := by decide +kernel
theorem d_Se_armsOfBest_79 : decode b_Se_armsOfBest 79 = .ok (.iload 4, 2) := by decide +kernel
theorem d_Se_armsOfBest_81 : decode b_Se_armsOfBest 81 = .ok (.imul, 1) := by decide +kernel
theorem d_Se_armsOfBest_82 : decode b_Se_armsOfBest 82 = .ok (.iload 5, 2) := by decide +kernel
theorem d_Se_armsOfBest_84 : decode b_Se_armsOfBest 84 = .ok (.iadd, 1) := by decide +kernel
theorem d_Se_armsOfBest_85 : decode b_Se_armsOfBest 85 = .ok (.istore_n 1, 1) := by decide +kernel
theorem d_Se_armsOfBest_86 : decode b_Se_armsOfBest 86 = .ok (.iinc 5 1, 3) := by decide +kernel
theorem d_Se_armsOfBest_89 : decode b_Se_armsOfBest 89 = .ok (.goto (-71), 3) := by decide +kernel
theorem d_Se_armsOfBest_92 : decode b_Se_armsOfBest 92 = .ok (.iinc 4 1, 3) := by decide +kernel
theorem d_Se_armsOfBest_95 : decode b_Se_armsOfBest 95 = .ok (.goto (-86), 3) := by decide +kernel
theorem d_Se_armsOfBest_98 : decode b_Se_armsOfBest 98 = .ok (.iload_n 1, 1) := by decide +kernel
theorem d_Se_armsOfBest_99 : decode b_Se_armsOfBest 99 = .ok (.ireturn, 1) := by decide +kernel
theorem d_Se_naiveValue_0 : decode b_Se_naiveValue 0 = .ok (.aload_n 0, 1) := by decide +kernel
theorem d_Se_naiveValue_1 : decode b_Se_naiveValue 1 = .ok (.getfield 20, 3) := by decide +kernel
theorem d_Se_naiveValue_4 : decode b_Se_naiveValue 4 = .ok (.aload_n 0, 1) := by decide +kernel
theorem d_Se_naiveValue_5 : decode b_Se_naiveValue 5 = .ok (.invokevirtual 86, 3) := by decide +kernel
theorem d_Se_naiveValue_8 : decode b_Se_naiveValue 8 = .ok (.invokevirtual 28, 3) := by decide +kernel
theorem d_Se_naiveValue_11 : decode b_Se_naiveValue 11 = .ok (.aload_n 0, 1) := by decide +kernel
theorem d_Se_naiveValue_12 : decode b_Se_naiveValue 12 = .ok (.getfield 20, 3) := by decide +kernel
theorem d_Se_naiveValue_15 : decode b_Se_naiveValue 15 = .ok (.aload_n 0, 1) := by decide +kernel
theorem d_Se_naiveValue_16 : decode b_Se_naiveValue 16 = .ok (.getfield 20, 3) := by decide +kernel
theorem d_Se_naiveValue_19 : decode b_Se_naiveValue 19 = .ok (.getfield 95, 3) := by decide +kernel
theorem d_Se_naiveValue_22 : decode b_Se_naiveValue 22 = .ok (.i2l, 1) := by decide +kernel
theorem d_Se_naiveValue_23 : decode b_Se_naiveValue 23 = .ok (.invokevirtual 98, 3) := by decide +kernel
theorem d_Se_naiveValue_26 : decode b_Se_naiveValue 26 = .ok (.lreturn, 1) := by decide +kernel
theorem d_Se_ticksToSteady_0 : decode b_Se_ticksToSteady 0 = .ok (.iconst 0, 1) := by decide +kernel
theorem d_Se_ticksToSteady_1 : decode b_Se_ticksToSteady 1 = .ok (.istore_n 2, 1) := by decide +kernel
theorem d_Se_ticksToSteady_2 : decode b_Se_ticksToSteady 2 = .ok (.iload_n 2, 1) := by decide +kernel
theorem d_Se_ticksToSteady_3 : decode b_Se_ticksToSteady 3 = .ok (.sipush 300, 3) := by decide +kernel
theorem d_Se_ticksToSteady_6 : decode b_Se_ticksToSteady 6 = .ok (.if_icmp .gt 59, 3) := by decide +kernel
theorem d_Se_ticksToSteady_9 : decode b_Se_ticksToSteady 9 = .ok (.aload_n 0, 1) := by decide +kernel
theorem d_Se_ticksToSteady_10 : decode b_Se_ticksToSteady 10 = .ok (.getfield 20, 3) := by decide +kernel
theorem d_Se_ticksToSteady_13 : decode b_Se_ticksToSteady 13 = .ok (.getfield 101, 3) := by decide +kernel
theorem d_Se_ticksToSteady_16 : decode b_Se_ticksToSteady 16 = .ok (.istore_n 3, 1) := by decide +kernel
theorem d_Se_ticksToSteady_17 : decode b_Se_ticksToSteady 17 = .ok (.aload_n 0, 1) := by decide +kernel
theorem d_Se_ticksToSteady_18 : decode b_Se_ticksToSteady 18 = .ok (.getfield 20, 3) := by decide +kernel
theorem d_Se_ticksToSteady_21 : decode b_Se_ticksToSteady 21 = .ok (.getfield 104, 3) := by decide +kernel
theorem d_Se_ticksToSteady_24 : decode b_Se_ticksToSteady 24 = .ok (.istore 4, 2) := by decide +kernel
theorem d_Se_ticksToSteady_26 : decode b_Se_ticksToSteady 26 = .ok (.aload_n 0, 1) := by decide +kernel
theorem d_Se_ticksToSteady_27 : decode b_Se_ticksToSteady 27 = .ok (.getfield 20, 3) := by decide +kernel
theorem d_Se_ticksToSteady_30 : decode b_Se_ticksToSteady 30 = .ok (.iload_n 1, 1) := by decide +kernel
theorem d_Se_ticksToSteady_31 : decode b_Se_ticksToSteady 31 = .ok (.invokevirtual 107, 3) := by decide +kernel
theorem d_Se_ticksToSteady_34 : decode b_Se_ticksToSteady 34 = .ok (.aload_n 0, 1) := by decide +kernel
theorem d_Se_ticksToSteady_35 : decode b_Se_ticksToSteady 35 = .ok (.getfield 20, 3) := by decide +kernel
theorem d_Se_ticksToSteady_38 : decode b_Se_ticksToSteady 38 = .ok (.getfield 101, 3) := by decide +kernel
theorem d_Se_ticksToSteady_41 : decode b_Se_ticksToSteady 41 = .ok (.iload_n 3, 1) := by decide +kernel
theorem d_Se_ticksToSteady_42 : decode b_Se_ticksToSteady 42 = .ok (.if_icmp .ne 17, 3) := by decide +kernel
theorem d_Se_ticksToSteady_45 : decode b_Se_ticksToSteady 45 = .ok (.aload_n 0, 1) := by decide +kernel
theorem d_Se_ticksToSteady_46 : decode b_Se_ticksToSteady 46 = .ok (.getfield 20, 3) := by decide +kernel
theorem d_Se_ticksToSteady_49 : decode b_Se_ticksToSteady 49 = .ok (.getfield 104, 3) := by decide +kernel
theorem d_Se_ticksToSteady_52 : decode b_Se_ticksToSteady 52 = .ok (.iload 4, 2) := by decide +kernel
theorem d_Se_ticksToSteady_54 : decode b_Se_ticksToSteady 54 = .ok (.if_icmp .ne 5, 3) := by decide +kernel
theorem d_Se_ticksToSteady_57 : decode b_Se_ticksToSteady 57 = .ok (.iload_n 2, 1) := by decide +kernel
theorem d_Se_ticksToSteady_58 : decode b_Se_ticksToSteady 58 = .ok (.ireturn, 1) := by decide +kernel
theorem d_Se_ticksToSteady_59 : decode b_Se_ticksToSteady 59 = .ok (.iinc 2 1, 3) := by decide +kernel
theorem d_Se_ticksToSteady_62 : decode b_Se_ticksToSteady 62 = .ok (.goto (-60), 3) := by decide +kernel
theorem d_Se_ticksToSteady_65 : decode b_Se_ticksToSteady 65 = .ok (.iconst (-1), 1) := by decide +kernel
theorem d_Se_ticksToSteady_66 : decode b_Se_ticksToSteady 66 = .ok (.ireturn, 1) := by decide +kernel
theorem d_Su_init_0 : decode b_Su_init 0 = .ok (.aload_n 0, 1) := by decide +kernel
theorem d_Su_init_1 : decode b_Su_init 1 = .ok (.invokespecial 3, 3) := by decide +kernel
theorem d_Su_init_4 : decode b_Su_init 4 = .ok (.aload_n 0, 1) := by decide +kernel
theorem d_Su_init_5 : decode b_Su_init 5 = .ok (.new 9, 3) := by decide +kernel
theorem d_Su_init_8 : decode b_Su_init 8 = .ok (.dup, 1) := by decide +kernel
theorem d_Su_init_9 : decode b_Su_init 9 = .ok (.invokespecial 11, 3) := by decide +kernel
theorem d_Su_init_12 : decode b_Su_init 12 = .ok (.putfield 12, 3) := by decide +kernel
theorem d_Su_init_15 : decode b_Su_init 15 = .ok (.aload_n 0, 1) := by decide +kernel
theorem d_Su_init_16 : decode b_Su_init 16 = .ok (.aload_n 1, 1) := by decide +kernel
theorem d_Su_init_17 : decode b_Su_init 17 = .ok (.putfield 18, 3) := by decide +kernel
theorem d_Su_init_20 : decode b_Su_init 20 = .ok (.return_, 1) := by decide +kernel
theorem d_Su_understood_0 : decode b_Su_understood 0 = .ok (.aload_n 0, 1) := by decide +kernel
theorem d_Su_understood_1 : decode b_Su_understood 1 = .ok (.getfield 12, 3) := by decide +kernel
theorem d_Su_understood_4 : decode b_Su_understood 4 = .ok (.invokevirtual 22, 3) := by decide +kernel
theorem d_Su_understood_7 : decode b_Su_understood 7 = .ok (.aload_n 0, 1) := by decide +kernel
theorem d_Su_understood_8 : decode b_Su_understood 8 = .ok (.iconst 0, 1) := by decide +kernel
theorem d_Su_understood_9 : decode b_Su_understood 9 = .ok (.putfield 25, 3) := by decide +kernel
theorem d_Su_understood_12 : decode b_Su_understood 12 = .ok (.aload_n 0, 1) := by decide +kernel
theorem d_Su_understood_13 : decode b_Su_understood 13 = .ok (.getfield 18, 3) := by decide +kernel
theorem d_Su_understood_16 : decode b_Su_understood 16 = .ok (.invokevirtual 29, 3) := by decide +kernel
theorem d_Su_understood_19 : decode b_Su_understood 19 = .ok (.aload_n 0, 1) := by decide +kernel
theorem d_Su_understood_20 : decode b_Su_understood 20 = .ok (.invokevirtual 34, 3) := by decide +kernel
theorem d_Su_understood_23 : decode b_Su_understood 23 = .ok (.iconst 0, 1) := by decide +kernel
theorem d_Su_understood_24 : decode b_Su_understood 24 = .ok (.istore_n 1, 1) := by decide +kernel
theorem d_Su_understood_25 : decode b_Su_understood 25 = .ok (.iload_n 1, 1) := by decide +kernel
theorem d_Su_understood_26 : decode b_Su_understood 26 = .ok (.sipush 600, 3) := by decide +kernel
theorem d_Su_understood_29 : decode b_Su_understood 29 = .ok (.if_icmp .ge 32, 3) := by decide +kernel
theorem d_Su_understood_32 : decode b_Su_understood 32 = .ok (.aload_n 0, 1) := by decide +kernel
theorem d_Su_understood_33 : decode b_Su_understood 33 = .ok (.getfield 18, 3) := by decide +kernel
theorem d_Su_understood_36 : decode b_Su_understood 36 = .ok (.getfield 37, 3) := by decide +kernel
theorem d_Su_understood_39 : decode b_Su_understood 39 = .ok (.bipush 59, 2) := by decide +kernel
theorem d_Su_understood_41 : decode b_Su_understood 41 = .ok (.if_icmp .ne 20, 3) := by decide +kernel
theorem d_Su_understood_44 : decode b_Su_understood 44 = .ok (.aload_n 0, 1) := by decide +kernel
theorem d_Su_understood_45 : decode b_Su_understood 45 = .ok (.getfield 18, 3) := by decide +kernel
theorem d_Su_understood_48 : decode b_Su_understood 48 = .ok (.invokevirtual 40, 3) := by decide +kernel
theorem d_Su_understood_51 : decode b_Su_understood 51 = .ok (.aload_n 0, 1) := by decide +kernel
theorem d_Su_understood_52 : decode b_Su_understood 52 = .ok (.invokevirtual 34, 3) := by decide +kernel
theorem d_Su_understood_55 : decode b_Su_understood 55 = .ok (.iinc 1 1, 3) := by decide +kernel
theorem d_Su_understood_58 : decode b_Su_understood 58 = .ok (.goto (-33), 3) := by decide +kernel
theorem d_Su_understood_61 : decode b_Su_understood 61 = .ok (.aload_n 0, 1) := by decide +kernel
theorem d_Su_understood_62 : decode b_Su_understood 62 = .ok (.getfield 18, 3) := by decide +kernel
theorem d_Su_understood_65 : decode b_Su_understood 65 = .ok (.getfield 37, 3) := by decide +kernel
theorem d_Su_understood_68 : decode b_Su_understood 68 = .ok (.ifCond .eq 14, 3) := by decide +kernel
theorem d_Su_understood_71 : decode b_Su_understood 71 = .ok (.aload_n 0, 1) := by decide +kernel
theorem d_Su_understood_72 : decode b_Su_understood 72 = .ok (.getfield 18, 3) := by decide +kernel
theorem d_Su_understood_75 : decode b_Su_understood 75 = .ok (.iconst 1, 1) := by decide +kernel
theorem d_Su_understood_76 : decode b_Su_understood 76 = .ok (.invokevirtual 43, 3) := by decide +kernel
theorem d_Su_understood_79 : decode b_Su_understood 79 = .ok (.goto 29, 3) := by decide +kernel
theorem d_Su_understood_82 : decode b_Su_understood 82 = .ok (.aload_n 0, 1) := by decide +kernel
theorem d_Su_understood_83 : decode b_Su_understood 83 = .ok (.getfield 25, 3) := by decide +kernel
theorem d_Su_understood_86 : decode b_Su_understood 86 = .ok (.iconst 1, 1) := by decide +kernel
theorem d_Su_understood_87 : decode b_Su_understood 87 = .ok (.iand, 1) := by decide +kernel
theorem d_Su_understood_88 : decode b_Su_understood 88 = .ok (.ifCond .eq 12, 3) := by decide +kernel
theorem d_Su_understood_91 : decode b_Su_understood 91 = .ok (.aload_n 0, 1) := by decide +kernel
theorem d_Su_understood_92 : decode b_Su_understood 92 = .ok (.getfield 25, 3) := by decide +kernel
theorem d_Su_understood_95 : decode b_Su_understood 95 = .ok (.iconst 2, 1) := by decide +kernel
theorem d_Su_understood_96 : decode b_Su_understood 96 = .ok (.iand, 1) := by decide +kernel
theorem d_Su_understood_97 : decode b_Su_understood 97 = .ok (.ifCond .ne 11, 3) := by decide +kernel
theorem d_Su_understood_100 : decode b_Su_understood 100 = .ok (.aload_n 0, 1) := by decide +kernel
theorem d_Su_understood_101 : decode b_Su_understood 101 = .ok (.getfield 18, 3) := by decide +kernel
theorem d_Su_understood_104 : decode b_Su_understood 104 = .ok (.iconst 4, 1) := by decide +kernel
theorem d_Su_understood_105 : decode b_Su_understood 105 = .ok (.invokevirtual 43, 3) := by decide +kernel
theorem d_Su_understood_108 : decode b_Su_understood 108 = .ok (.aload_n 0, 1) := by decide +kernel
theorem d_Su_understood_109 : decode b_Su_understood 109 = .ok (.getfield 18, 3) := by decide +kernel
theorem d_Su_understood_112 : decode b_Su_understood 112 = .ok (.getfield 47, 3) := by decide +kernel
theorem d_Su_understood_115 : decode b_Su_understood 115 = .ok (.ifCond .ne 7, 3) := by decide +kernel
theorem d_Su_understood_118 : decode b_Su_understood 118 = .ok (.iconst 1, 1) := by decide +kernel
theorem d_Su_understood_119 : decode b_Su_understood 119 = .ok (.goto 4, 3) := by decide +kernel
theorem d_Su_understood_122 : decode b_Su_understood 122 = .ok (.iconst 0, 1) := by decide +kernel
theorem d_Su_understood_123 : decode b_Su_understood 123 = .ok (.ireturn, 1) := by decide +kernel
theorem d_Su_takeStatement_0 : decode b_Su_takeStatement 0 = .ok (.aload_n 0, 1) := by decide +kernel
theorem d_Su_takeStatement_1 : decode b_Su_takeStatement 1 = .ok (.getfield 18, 3) := by decide +kernel
theorem d_Su_takeStatement_4 : decode b_Su_takeStatement 4 = .ok (.ldc 50, 2) := by decide +kernel
theorem d_Su_takeStatement_6 : decode b_Su_takeStatement 6 = .ok (.invokevirtual 52, 3) := by decide +kernel
theorem d_Su_takeStatement_9 : decode b_Su_takeStatement 9 = .ok (.ifCond .eq 10, 3) := by decide +kernel
theorem d_Su_takeStatement_12 : decode b_Su_takeStatement 12 = .ok (.aload_n 0, 1) := by decide +kernel
theorem d_Su_takeStatement_13 : decode b_Su_takeStatement 13 = .ok (.invokevirtual 56, 3) := by decide +kernel
theorem d_Su_takeStatement_16 : decode b_Su_takeStatement 16 = .ok (.goto 220, 3) := by decide +kernel
theorem d_Su_takeStatement_19 : decode b_Su_takeStatement 19 = .ok (.aload_n 0, 1) := by decide +kernel
theorem d_Su_takeStatement_20 : decode b_Su_takeStatement 20 = .ok (.getfield 18, 3) := by decide +kernel
theorem d_Su_takeStatement_23 : decode b_Su_takeStatement 23 = .ok (.ldc 59, 2) := by decide +kernel
theorem d_Su_takeStatement_25 : decode b_Su_takeStatement 25 = .ok (.invokevirtual 52, 3) := by decide +kernel
theorem d_Su_takeStatement_28 : decode b_Su_takeStatement 28 = .ok (.ifCond .eq 10, 3) := by decide +kernel
theorem d_Su_takeStatement_31 : decode b_Su_takeStatement 31 = .ok (.aload_n 0, 1) := by decide +kernel
theorem d_Su_takeStatement_32 : decode b_Su_takeStatement 32 = .ok (.invokevirtual 61, 3) := by decide +kernel
theorem d_Su_takeStatement_35 : decode b_Su_takeStatement 35 = .ok (.goto 201, 3) := by decide +kernel
theorem d_Su_takeStatement_38 : decode b_Su_takeStatement 38 = .ok (.aload_n 0, 1) := by decide +kernel
theorem d_Su_takeStatement_39 : decode b_Su_takeStatement 39 = .ok (.getfield 18, 3) := by decide +kernel
theorem d_Su_takeStatement_42 : decode b_Su_takeStatement 42 = .ok (.ldc 64, 2) := by decide +kernel
theorem d_Su_takeStatement_44 : decode b_Su_takeStatement 44 = .ok (.invokevirtual 52, 3) := by decide +kernel
theorem d_Su_takeStatement_47 : decode b_Su_takeStatement 47 = .ok (.ifCond .eq 30, 3) := by decide +kernel
theorem d_Su_takeStatement_50 : decode b_Su_takeStatement 50 = .ok (.aload_n 0, 1) := by decide +kernel
theorem d_Su_takeStatement_51 : decode b_Su_takeStatement 51 = .ok (.iconst 2, 1) := by decide +kernel
theorem d_Su_takeStatement_52 : decode b_Su_takeStatement 52 = .ok (.invokevirtual 66, 3) := by decide +kernel
theorem d_Su_takeStatement_55 : decode b_Su_takeStatement 55 = .ok (.aload_n 0, 1) := by decide +kernel
theorem d_Su_takeStatement_56 : decode b_Su_takeStatement 56 = .ok (.getfield 12, 3) := by decide +kernel
theorem d_Su_takeStatement_59 : decode b_Su_takeStatement 59 = .ok (.aload_n 0, 1) := by decide +kernel
theorem d_Su_takeStatement_60 : decode b_Su_takeStatement 60 = .ok (.getfield 18, 3) := by decide +kernel
theorem d_Su_takeStatement_63 : decode b_Su_takeStatement 63 = .ok (.sipush 1000, 3) := by decide +kernel
theorem d_Su_takeStatement_66 : decode b_Su_takeStatement 66 = .ok (.ldc 69, 2) := by decide +kernel
theorem d_Su_takeStatement_68 : decode b_Su_takeStatement 68 = .ok (.invokevirtual 70, 3) := by decide +kernel
theorem d_Su_takeStatement_71 : decode b_Su_takeStatement 71 = .ok (.putfield 74, 3) := by decide +kernel
theorem d_Su_takeStatement_74 : decode b_Su_takeStatement 74 = .ok (.goto 162, 3) := by decide +kernel
theorem d_Su_takeStatement_77 : decode b_Su_takeStatement 77 = .ok (.aload_n 0, 1) := by decide +kernel
theorem d_Su_takeStatement_78 : decode b_Su_takeStatement 78 = .ok (.getfield 18, 3) := by decide +kernel
theorem d_Su_takeStatement_81 : decode b_Su_takeStatement 81 = .ok (.ldc 77, 2) := by decide +kernel
theorem d_Su_takeStatement_83 : decode b_Su_takeStatement 83 = .ok (.invokevirtual 52, 3) := by decide +kernel
theorem d_Su_takeStatement_86 : decode b_Su_takeStatement 86 = .ok (.ifCond .eq 10, 3) := by decide +kernel
theorem d_Su_takeStatement_89 : decode b_Su_takeStatement 89 = .ok (.aload_n 0, 1) := by decide +kernel
theorem d_Su_takeStatement_90 : decode b_Su_takeStatement 90 = .ok (.invokevirtual 79, 3) := by decide +kernel
theorem d_Su_takeStatement_93 : decode b_Su_takeStatement 93 = .ok (.goto 143, 3) := by decide +kernel
theorem d_Su_takeStatement_96 : decode b_Su_takeStatement 96 = .ok (.aload_n 0, 1) := by decide +kernel
theorem d_Su_takeStatement_97 : decode b_Su_takeStatement 97 = .ok (.getfield 18, 3) := by decide +kernel
theorem d_Su_takeStatement_100 : decode b_Su_takeStatement 100 = .ok (.ldc 82, 2) := by decide +kernel
theorem d_Su_takeStatement_102 : decode b_Su_takeStatement 102 = .ok (.invokevirtual 52, 3) := by decide +kernel
theorem d_Su_takeStatement_105 : decode b_Su_takeStatement 105 = .ok (.ifCond .eq 10, 3) := by decide +kernel
theorem d_Su_takeStatement_108 : decode b_Su_takeStatement 108 = .ok (.aload_n 0, 1) := by decide +kernel
theorem d_Su_takeStatement_109 : decode b_Su_takeStatement 109 = .ok (.invokevirtual 84, 3) := by decide +kernel
theorem d_Su_takeStatement_112 : decode b_Su_takeStatement 112 = .ok (.goto 124, 3) := by decide +kernel
theorem d_Su_takeStatement_115 : decode b_Su_takeStatement 115 = .ok (.aload_n 0, 1) := by decide +kernel
theorem d_Su_takeStatement_116 : decode b_Su_takeStatement 116 = .ok (.getfield 18, 3) := by decide +kernel
theorem d_Su_takeStatement_119 : decode b_Su_takeStatement 119 = .ok (.ldc 87, 2) := by decide +kernel
theorem d_Su_takeStatement_121 : decode b_Su_takeStatement 121 = .ok (.invokevirtual 52, 3) := by decide +kernel
theorem d_Su_takeStatement_124 : decode b_Su_takeStatement 124 = .ok (.ifCond .eq 47, 3) := by decide +kernel
theorem d_Su_takeStatement_127 : decode b_Su_takeStatement 127 = .ok (.aload_n 0, 1) := by decide +kernel
theorem d_Su_takeStatement_128 : decode b_Su_takeStatement 128 = .ok (.bipush 8, 2) := by decide +kernel
theorem d_Su_takeStatement_130 : decode b_Su_takeStatement 130 = .ok (.invokevirtual 66, 3) := by decide +kernel
theorem d_Su_takeStatement_133 : decode b_Su_takeStatement 133 = .ok (.aload_n 0, 1) := by decide +kernel
theorem d_Su_takeStatement_134 : decode b_Su_takeStatement 134 = .ok (.getfield 12, 3) := by decide +kernel
theorem d_Su_takeStatement_137 : decode b_Su_takeStatement 137 = .ok (.aload_n 0, 1) := by decide +kernel
theorem d_Su_takeStatement_138 : decode b_Su_takeStatement 138 = .ok (.getfield 18, 3) := by decide +kernel
theorem d_Su_takeStatement_141 : decode b_Su_takeStatement 141 = .ok (.iconst 0, 1) := by decide +kernel
theorem d_Su_takeStatement_142 : decode b_Su_takeStatement 142 = .ok (.sipush 20000, 3) := by decide +kernel
theorem d_Su_takeStatement_145 : decode b_Su_takeStatement 145 = .ok (.invokevirtual 70, 3) := by decide +kernel
theorem d_Su_takeStatement_148 : decode b_Su_takeStatement 148 = .ok (.putfield 89, 3) := by decide +kernel
theorem d_Su_takeStatement_151 : decode b_Su_takeStatement 151 = .ok (.aload_n 0, 1) := by decide +kernel
theorem d_Su_takeStatement_152 : decode b_Su_takeStatement 152 = .ok (.getfield 12, 3) := by decide +kernel
theorem d_Su_takeStatement_155 : decode b_Su_takeStatement 155 = .ok (.aload_n 0, 1) := by decide +kernel
theorem d_Su_takeStatement_156 : decode b_Su_takeStatement 156 = .ok (.getfield 18, 3) := by decide +kernel
theorem d_Su_takeStatement_159 : decode b_Su_takeStatement 159 = .ok (.iconst 1, 1) := by decide +kernel
theorem d_Su_takeStatement_160 : decode b_Su_takeStatement 160 = .ok (.ldc 92, 2) := by decide +kernel
theorem d_Su_takeStatement_162 : decode b_Su_takeStatement 162 = .ok (.invokevirtual 70, 3) := by decide +kernel
theorem d_Su_takeStatement_165 : decode b_Su_takeStatement 165 = .ok (.putfield 93, 3) := by decide +kernel
theorem d_Su_takeStatement_168 : decode b_Su_takeStatement 168 = .ok (.goto 68, 3) := by decide +kernel
theorem d_Su_takeStatement_171 : decode b_Su_takeStatement 171 = .ok (.aload_n 0, 1) := by decide +kernel
theorem d_Su_takeStatement_172 : decode b_Su_takeStatement 172 = .ok (.getfield 18, 3) := by decide +kernel
theorem d_Su_takeStatement_175 : decode b_Su_takeStatement 175 = .ok (.ldc 96, 2) := by decide +kernel
theorem d_Su_takeStatement_177 : decode b_Su_takeStatement 177 = .ok (.invokevirtual 52, 3) := by decide +kernel
theorem d_Su_takeStatement_180 : decode b_Su_takeStatement 180 = .ok (.ifCond .eq 10, 3) := by decide +kernel
theorem d_Su_takeStatement_183 : decode b_Su_takeStatement 183 = .ok (.aload_n 0, 1) := by decide +kernel
theorem d_Su_takeStatement_184 : decode b_Su_takeStatement 184 = .ok (.invokevirtual 98, 3) := by decide +kernel
theorem d_Su_takeStatement_187 : decode b_Su_takeStatement 187 = .ok (.goto 49, 3) := by decide +kernel
theorem d_Su_takeStatement_190 : decode b_Su_takeStatement 190 = .ok (.aload_n 0, 1) := by decide +kernel
theorem d_Su_takeStatement_191 : decode b_Su_takeStatement 191 = .ok (.getfield 18, 3) := by decide +kernel
theorem d_Su_takeStatement_194 : decode b_Su_takeStatement 194 = .ok (.ldc 101, 2) := by decide +kernel
theorem d_Su_takeStatement_196 : decode b_Su_takeStatement 196 = .ok (.invokevirtual 52, 3) := by decide +kernel
theorem d_Su_takeStatement_199 : decode b_Su_takeStatement 199 = .ok (.ifCond .eq 29, 3) := by decide +kernel
theorem d_Su_takeStatement_202 : decode b_Su_takeStatement 202 = .ok (.aload_n 0, 1) := by decide +kernel
theorem d_Su_takeStatement_203 : decode b_Su_takeStatement 203 = .ok (.bipush 32, 2) := by decide +kernel
theorem d_Su_takeStatement_205 : decode b_Su_takeStatement 205 = .ok (.invokevirtual 66, 3) := by decide +kernel
theorem d_Su_takeStatement_208 : decode b_Su_takeStatement 208 = .ok (.aload_n 0, 1) := by decide +kernel
theorem d_Su_takeStatement_209 : decode b_Su_takeStatement 209 = .ok (.getfield 12, 3) := by decide +kernel
theorem d_Su_takeStatement_212 : decode b_Su_takeStatement 212 = .ok (.aload_n 0, 1) := by decide +kernel
theorem d_Su_takeStatement_213 : decode b_Su_takeStatement 213 = .ok (.getfield 18, 3) := by decide +kernel
theorem d_Su_takeStatement_216 : decode b_Su_takeStatement 216 = .ok (.iconst 0, 1) := by decide +kernel
theorem d_Su_takeStatement_217 : decode b_Su_takeStatement 217 = .ok (.ldc 103, 2) := by decide +kernel
theorem d_Su_takeStatement_219 : decode b_Su_takeStatement 219 = .ok (.invokevirtual 70, 3) := by decide +kernel
theorem d_Su_takeStatement_222 : decode b_Su_takeStatement 222 = .ok (.putfield 104, 3) := by decide +kernel
theorem d_Su_takeStatement_225 : decode b_Su_takeStatement 225 = .ok (.goto 11, 3) := by decide +kernel
theorem d_Su_takeStatement_228 : decode b_Su_takeStatement 228 = .ok (.aload_n 0, 1) := by decide +kernel
theorem d_Su_takeStatement_229 : decode b_Su_takeStatement 229 = .ok (.getfield 18, 3) := by decide +kernel
theorem d_Su_takeStatement_232 : decode b_Su_takeStatement 232 = .ok (.iconst 1, 1) := by decide +kernel
theorem d_Su_takeStatement_233 : decode b_Su_takeStatement 233 = .ok (.invokevirtual 43, 3) := by decide +kernel
theorem d_Su_takeStatement_236 : decode b_Su_takeStatement 236 = .ok (.return_, 1) := by decide +kernel
theorem d_Su_takeOnce_0 : decode b_Su_takeOnce 0 = .ok (.aload_n 0, 1) := by decide +kernel
theorem d_Su_takeOnce_1 : decode b_Su_takeOnce 1 = .ok (.getfield 25, 3) := by decide +kernel
theorem d_Su_takeOnce_4 : decode b_Su_takeOnce 4 = .ok (.iload_n 1, 1) := by decide +kernel
theorem d_Su_takeOnce_5 : decode b_Su_takeOnce 5 = .ok (.iand, 1) := by decide +kernel
theorem d_Su_takeOnce_6 : decode b_Su_takeOnce 6 = .ok (.ifCond .eq 11, 3) := by decide +kernel
theorem d_Su_takeOnce_9 : decode b_Su_takeOnce 9 = .ok (.aload_n 0, 1) := by decide +kernel
theorem d_Su_takeOnce_10 : decode b_Su_takeOnce 10 = .ok (.getfield 18, 3) := by decide +kernel
theorem d_Su_takeOnce_13 : decode b_Su_takeOnce 13 = .ok (.iconst 3, 1) := by decide +kernel
theorem d_Su_takeOnce_14 : decode b_Su_takeOnce 14 = .ok (.invokevirtual 43, 3) := by decide +kernel
theorem d_Su_takeOnce_17 : decode b_Su_takeOnce 17 = .ok (.aload_n 0, 1) := by decide +kernel
theorem d_Su_takeOnce_18 : decode b_Su_takeOnce 18 = .ok (.dup, 1) := by decide +kernel
theorem d_Su_takeOnce_19 : decode b_Su_takeOnce 19 = .ok (.getfield 25, 3) := by decide +kernel
theorem d_Su_takeOnce_22 : decode b_Su_takeOnce 22 = .ok (.iload_n 1, 1) := by decide +kernel
theorem d_Su_takeOnce_23 : decode b_Su_takeOnce 23 = .ok (.ior, 1) := by decide +kernel
theorem d_Su_takeOnce_24 : decode b_Su_takeOnce 24 = .ok (.putfield 25, 3) := by decide +kernel
theorem d_Su_takeOnce_27 : decode b_Su_takeOnce 27 = .ok (.aload_n 0, 1) := by decide +kernel
theorem d_Su_takeOnce_28 : decode b_Su_takeOnce 28 = .ok (.getfield 18, 3) := by decide +kernel
theorem d_Su_takeOnce_31 : decode b_Su_takeOnce 31 = .ok (.invokevirtual 40, 3) := by decide +kernel
theorem d_Su_takeOnce_34 : decode b_Su_takeOnce 34 = .ok (.return_, 1) := by decide +kernel
theorem d_Su_takeBox_0 : decode b_Su_takeBox 0 = .ok (.aload_n 0, 1) := by decide +kernel
theorem d_Su_takeBox_1 : decode b_Su_takeBox 1 = .ok (.iconst 1, 1) := by decide +kernel
theorem d_Su_takeBox_2 : decode b_Su_takeBox 2 = .ok (.invokevirtual 66, 3) := by decide +kernel
theorem d_Su_takeBox_5 : decode b_Su_takeBox 5 = .ok (.aload_n 0, 1) := by decide +kernel
theorem d_Su_takeBox_6 : decode b_Su_takeBox 6 = .ok (.getfield 12, 3) := by decide +kernel
theorem d_Su_takeBox_9 : decode b_Su_takeBox 9 = .ok (.aload_n 0, 1) := by decide +kernel
theorem d_Su_takeBox_10 : decode b_Su_takeBox 10 = .ok (.getfield 18, 3) := by decide +kernel
theorem d_Su_takeBox_13 : decode b_Su_takeBox 13 = .ok (.iconst 0, 1) := by decide +kernel
theorem d_Su_takeBox_14 : decode b_Su_takeBox 14 = .ok (.iconst 4, 1) := by decide +kernel
theorem d_Su_takeBox_15 : decode b_Su_takeBox 15 = .ok (.invokevirtual 70, 3) := by decide +kernel
theorem d_Su_takeBox_18 : decode b_Su_takeBox 18 = .ok (.invokestatic 106, 3) := by decide +kernel
theorem d_Su_takeBox_21 : decode b_Su_takeBox 21 = .ok (.putfield 110, 3) := by decide +kernel
theorem d_Su_takeBox_24 : decode b_Su_takeBox 24 = .ok (.aload_n 0, 1) := by decide +kernel
theorem d_Su_takeBox_25 : decode b_Su_takeBox 25 = .ok (.getfield 12, 3) := by decide +kernel
theorem d_Su_takeBox_28 : decode b_Su_takeBox 28 = .ok (.aload_n 0, 1) := by decide +kernel
theorem d_Su_takeBox_29 : decode b_Su_takeBox 29 = .ok (.getfield 18, 3) := by decide +kernel
theorem d_Su_takeBox_32 : decode b_Su_takeBox 32 = .ok (.iconst 0, 1) := by decide +kernel
theorem d_Su_takeBox_33 : decode b_Su_takeBox 33 = .ok (.sipush 999, 3) := by decide +kernel
theorem d_Su_takeBox_36 : decode b_Su_takeBox 36 = .ok (.invokevirtual 70, 3) := by decide +kernel
theorem d_Su_takeBox_39 : decode b_Su_takeBox 39 = .ok (.putfield 113, 3) := by decide +kernel
theorem d_Su_takeBox_42 : decode b_Su_takeBox 42 = .ok (.iconst 0, 1) := by decide +kernel
theorem d_Su_takeBox_43 : decode b_Su_takeBox 43 = .ok (.istore_n 1, 1) := by decide +kernel
theorem d_Su_takeBox_44 : decode b_Su_takeBox 44 = .ok (.iload_n 1, 1) := by decide +kernel
theorem d_Su_takeBox_45 : decode b_Su_takeBox 45 = .ok (.iconst 4, 1) := by decide +kernel
theorem d_Su_takeBox_46 : decode b_Su_takeBox 46 = .ok (.if_icmp .ge 53, 3) := by decide +kernel
theorem d_Su_takeBox_49 : decode b_Su_takeBox 49 = .ok (.iload_n 1, 1) := by decide +kernel
theorem d_Su_takeBox_50 : decode b_Su_takeBox 50 = .ok (.iconst 2, 1) := by decide +kernel
theorem d_Su_takeBox_51 : decode b_Su_takeBox 51 = .ok (.if_icmp .lt 13, 3) := by decide +kernel
theorem d_Su_takeBox_54 : decode b_Su_takeBox 54 = .ok (.aload_n 0, 1) := by decide +kernel
theorem d_Su_takeBox_55 : decode b_Su_takeBox 55 = .ok (.getfield 18, 3) := by decide +kernel
theorem d_Su_takeBox_58 : decode b_Su_takeBox 58 = .ok (.invokevirtual 116, 3) := by decide +kernel
theorem d_Su_takeBox_61 : decode b_Su_takeBox 61 = .ok (.ifCond .eq 32, 3) := by decide +kernel
theorem d_Su_takeBox_64 : decode b_Su_takeBox 64 = .ok (.aload_n 0, 1) := by decide +kernel
theorem d_Su_takeBox_65 : decode b_Su_takeBox 65 = .ok (.getfield 12, 3) := by decide +kernel
theorem d_Su_takeBox_68 : decode b_Su_takeBox 68 = .ok (.iload_n 1, 1) := by decide +kernel
theorem d_Su_takeBox_69 : decode b_Su_takeBox 69 = .ok (.aload_n 0, 1) := by decide +kernel
theorem d_Su_takeBox_70 : decode b_Su_takeBox 70 = .ok (.getfield 18, 3) := by decide +kernel
theorem d_Su_takeBox_73 : decode b_Su_takeBox 73 = .ok (.ldc 120, 2) := by decide +kernel
theorem d_Su_takeBox_75 : decode b_Su_takeBox 75 = .ok (.ldc 121, 2) := by decide +kernel
theorem d_Su_takeBox_77 : decode b_Su_takeBox 77 = .ok (.invokevirtual 70, 3) := by decide +kernel
theorem d_Su_takeBox_80 : decode b_Su_takeBox 80 = .ok (.invokevirtual 122, 3) := by decide +kernel
theorem d_Su_takeBox_83 : decode b_Su_takeBox 83 = .ok (.aload_n 0, 1) := by decide +kernel
theorem d_Su_takeBox_84 : decode b_Su_takeBox 84 = .ok (.getfield 12, 3) := by decide +kernel
theorem d_Su_takeBox_87 : decode b_Su_takeBox 87 = .ok (.iload_n 1, 1) := by decide +kernel
theorem d_Su_takeBox_88 : decode b_Su_takeBox 88 = .ok (.iconst 1, 1) := by decide +kernel
theorem d_Su_takeBox_89 : decode b_Su_takeBox 89 = .ok (.iadd, 1) := by decide +kernel
theorem d_Su_takeBox_90 : decode b_Su_takeBox 90 = .ok (.putfield 126, 3) := by decide +kernel
theorem d_Su_takeBox_93 : decode b_Su_takeBox 93 = .ok (.iinc 1 1, 3) := by decide +kernel
theorem d_Su_takeBox_96 : decode b_Su_takeBox 96 = .ok (.goto (-52), 3) := by decide +kernel
theorem d_Su_takeBox_99 : decode b_Su_takeBox 99 = .ok (.return_, 1) := by decide +kernel
theorem d_Su_takeRatio_0 : decode b_Su_takeRatio 0 = .ok (.aload_n 0, 1) := by decide +kernel
theorem d_Su_takeRatio_1 : decode b_Su_takeRatio 1 = .ok (.getfield 18, 3) := by decide +kernel
theorem d_Su_takeRatio_4 : decode b_Su_takeRatio 4 = .ok (.invokevirtual 40, 3) := by decide +kernel
theorem d_Su_takeRatio_7 : decode b_Su_takeRatio 7 = .ok (.aload_n 0, 1) := by decide +kernel
theorem d_Su_takeRatio_8 : decode b_Su_takeRatio 8 = .ok (.getfield 18, 3) := by decide +kernel
theorem d_Su_takeRatio_11 : decode b_Su_takeRatio 11 = .ok (.getfield 129, 3) := by decide +kernel
theorem d_Su_takeRatio_14 : decode b_Su_takeRatio 14 = .ok (.istore_n 1, 1) := by decide +kernel
theorem d_Su_takeRatio_15 : decode b_Su_takeRatio 15 = .ok (.aload_n 0, 1) := by decide +kernel
theorem d_Su_takeRatio_16 : decode b_Su_takeRatio 16 = .ok (.getfield 18, 3) := by decide +kernel
theorem d_Su_takeRatio_19 : decode b_Su_takeRatio 19 = .ok (.iconst 0, 1) := by decide +kernel
theorem d_Su_takeRatio_20 : decode b_Su_takeRatio 20 = .ok (.iconst 4, 1) := by decide +kernel
theorem d_Su_takeRatio_21 : decode b_Su_takeRatio 21 = .ok (.invokevirtual 70, 3) := by decide +kernel
theorem d_Su_takeRatio_24 : decode b_Su_takeRatio 24 = .ok (.istore_n 2, 1) := by decide +kernel
theorem d_Su_takeRatio_25 : decode b_Su_takeRatio 25 = .ok (.sipush 256, 3) := by decide +kernel
theorem d_Su_takeRatio_28 : decode b_Su_takeRatio 28 = .ok (.iload_n 2, 1) := by decide +kernel
theorem d_Su_takeRatio_29 : decode b_Su_takeRatio 29 = .ok (.ishl, 1) := by decide +kernel
theorem d_Su_takeRatio_30 : decode b_Su_takeRatio 30 = .ok (.istore_n 3, 1) := by decide +kernel
theorem d_Su_takeRatio_31 : decode b_Su_takeRatio 31 = .ok (.aload_n 0, 1) := by decide +kernel
theorem d_Su_takeRatio_32 : decode b_Su_takeRatio 32 = .ok (.getfield 25, 3) := by decide +kernel
theorem d_Su_takeRatio_35 : decode b_Su_takeRatio 35 = .ok (.iload_n 3, 1) := by decide +kernel
theorem d_Su_takeRatio_36 : decode b_Su_takeRatio 36 = .ok (.iand, 1) := by decide +kernel
theorem d_Su_takeRatio_37 : decode b_Su_takeRatio 37 = .ok (.ifCond .eq 12, 3) := by decide +kernel
theorem d_Su_takeRatio_40 : decode b_Su_takeRatio 40 = .ok (.aload_n 0, 1) := by decide +kernel
theorem d_Su_takeRatio_41 : decode b_Su_takeRatio 41 = .ok (.getfield 18, 3) := by decide +kernel
theorem d_Su_takeRatio_44 : decode b_Su_takeRatio 44 = .ok (.iconst 3, 1) := by decide +kernel
theorem d_Su_takeRatio_45 : decode b_Su_takeRatio 45 = .ok (.iload_n 1, 1) := by decide +kernel
theorem d_Su_takeRatio_46 : decode b_Su_takeRatio 46 = .ok (.invokevirtual 132, 3) := by decide +kernel
theorem d_Su_takeRatio_49 : decode b_Su_takeRatio 49 = .ok (.aload_n 0, 1) := by decide +kernel
theorem d_Su_takeRatio_50 : decode b_Su_takeRatio 50 = .ok (.dup, 1) := by decide +kernel
theorem d_Su_takeRatio_51 : decode b_Su_takeRatio 51 = .ok (.getfield 25, 3) := by decide +kernel
theorem d_Su_takeRatio_54 : decode b_Su_takeRatio 54 = .ok (.iload_n 3, 1) := by decide +kernel
theorem d_Su_takeRatio_55 : decode b_Su_takeRatio 55 = .ok (.ior, 1) := by decide +kernel
theorem d_Su_takeRatio_56 : decode b_Su_takeRatio 56 = .ok (.putfield 25, 3) := by decide +kernel
theorem d_Su_takeRatio_59 : decode b_Su_takeRatio 59 = .ok (.aload_n 0, 1) := by decide +kernel
theorem d_Su_takeRatio_60 : decode b_Su_takeRatio 60 = .ok (.getfield 12, 3) := by decide +kernel
theorem d_Su_takeRatio_63 : decode b_Su_takeRatio 63 = .ok (.iload_n 2, 1) := by decide +kernel
theorem d_Su_takeRatio_64 : decode b_Su_takeRatio 64 = .ok (.aload_n 0, 1) := by decide +kernel
theorem d_Su_takeRatio_65 : decode b_Su_takeRatio 65 = .ok (.getfield 18, 3) := by decide +kernel
theorem d_Su_takeRatio_68 : decode b_Su_takeRatio 68 = .ok (.ldc 120, 2) := by decide +kernel
theorem d_Su_takeRatio_70 : decode b_Su_takeRatio 70 = .ok (.ldc 121, 2) := by decide +kernel
theorem d_Su_takeRatio_72 : decode b_Su_takeRatio 72 = .ok (.invokevirtual 70, 3) := by decide +kernel
theorem d_Su_takeRatio_75 : decode b_Su_takeRatio 75 = .ok (.invokevirtual 135, 3) := by decide +kernel
theorem d_Su_takeRatio_78 : decode b_Su_takeRatio 78 = .ok (.return_, 1) := by decide +kernel
theorem d_Su_takeWarm_0 : decode b_Su_takeWarm 0 = .ok (.aload_n 0, 1) := by decide +kernel
theorem d_Su_takeWarm_1 : decode b_Su_takeWarm 1 = .ok (.getfield 18, 3) := by decide +kernel
theorem d_Su_takeWarm_4 : decode b_Su_takeWarm 4 = .ok (.invokevirtual 40, 3) := by decide +kernel
theorem d_Su_takeWarm_7 : decode b_Su_takeWarm 7 = .ok (.aload_n 0, 1) := by decide +kernel
theorem d_Su_takeWarm_8 : decode b_Su_takeWarm 8 = .ok (.getfield 18, 3) := by decide +kernel
theorem d_Su_takeWarm_11 : decode b_Su_takeWarm 11 = .ok (.ldc 50, 2) := by decide +kernel
theorem d_Su_takeWarm_13 : decode b_Su_takeWarm 13 = .ok (.invokevirtual 52, 3) := by decide +kernel
theorem d_Su_takeWarm_16 : decode b_Su_takeWarm 16 = .ok (.istore_n 1, 1) := by decide +kernel
theorem d_Su_takeWarm_17 : decode b_Su_takeWarm 17 = .ok (.iload_n 1, 1) := by decide +kernel
theorem d_Su_takeWarm_18 : decode b_Su_takeWarm 18 = .ok (.ifCond .ne 23, 3) := by decide +kernel
theorem d_Su_takeWarm_21 : decode b_Su_takeWarm 21 = .ok (.aload_n 0, 1) := by decide +kernel
theorem d_Su_takeWarm_22 : decode b_Su_takeWarm 22 = .ok (.getfield 18, 3) := by decide +kernel
theorem d_Su_takeWarm_25 : decode b_Su_takeWarm 25 = .ok (.ldc 64, 2) := by decide +kernel
theorem d_Su_takeWarm_27 : decode b_Su_takeWarm 27 = .ok (.invokevirtual 52, 3) := by decide +kernel
theorem d_Su_takeWarm_30 : decode b_Su_takeWarm 30 = .ok (.ifCond .ne 11, 3) := by decide +kernel
theorem d_Su_takeWarm_33 : decode b_Su_takeWarm 33 = .ok (.aload_n 0, 1) := by decide +kernel
theorem d_Su_takeWarm_34 : decode b_Su_takeWarm 34 = .ok (.getfield 18, 3) := by decide +kernel
theorem d_Su_takeWarm_37 : decode b_Su_takeWarm 37 = .ok (.iconst 1, 1) := by decide +kernel
theorem d_Su_takeWarm_38 : decode b_Su_takeWarm 38 = .ok (.invokevirtual 43, 3) := by decide +kernel
theorem d_Su_takeWarm_41 : decode b_Su_takeWarm 41 = .ok (.aload_n 0, 1) := by decide +kernel
theorem d_Su_takeWarm_42 : decode b_Su_takeWarm 42 = .ok (.iload_n 1, 1) := by decide +kernel
theorem d_Su_takeWarm_43 : decode b_Su_takeWarm 43 = .ok (.ifCond .eq 9, 3) := by decide +kernel
theorem d_Su_takeWarm_46 : decode b_Su_takeWarm 46 = .ok (.sipush 128, 3) := by decide +kernel
theorem d_Su_takeWarm_49 : decode b_Su_takeWarm 49 = .ok (.goto 5, 3) := by decide +kernel
theorem d_Su_takeWarm_52 : decode b_Su_takeWarm 52 = .ok (.bipush 64, 2) := by decide +kernel
theorem d_Su_takeWarm_54 : decode b_Su_takeWarm 54 = .ok (.invokevirtual 66, 3) := by decide +kernel
theorem d_Su_takeWarm_57 : decode b_Su_takeWarm 57 = .ok (.iload_n 1, 1) := by decide +kernel
theorem d_Su_takeWarm_58 : decode b_Su_takeWarm 58 = .ok (.ifCond .eq 13, 3) := by decide +kernel
theorem d_Su_takeWarm_61 : decode b_Su_takeWarm 61 = .ok (.aload_n 0, 1) := by decide +kernel
theorem d_Su_takeWarm_62 : decode b_Su_takeWarm 62 = .ok (.getfield 12, 3) := by decide +kernel
theorem d_Su_takeWarm_65 : decode b_Su_takeWarm 65 = .ok (.getfield 138, 3) := by decide +kernel
theorem d_Su_takeWarm_68 : decode b_Su_takeWarm 68 = .ok (.goto 10, 3) := by decide +kernel
theorem d_Su_takeWarm_71 : decode b_Su_takeWarm 71 = .ok (.aload_n 0, 1) := by decide +kernel
theorem d_Su_takeWarm_72 : decode b_Su_takeWarm 72 = .ok (.getfield 12, 3) := by decide +kernel
theorem d_Su_takeWarm_75 : decode b_Su_takeWarm 75 = .ok (.getfield 141, 3) := by decide +kernel
theorem d_Su_takeWarm_78 : decode b_Su_takeWarm 78 = .ok (.astore_n 2, 1) := by decide +kernel
theorem d_Su_takeWarm_79 : decode b_Su_takeWarm 79 = .ok (.aload_n 2, 1) := by decide +kernel
theorem d_Su_takeWarm_80 : decode b_Su_takeWarm 80 = .ok (.aload_n 0, 1) := by decide +kernel
theorem d_Su_takeWarm_81 : decode b_Su_takeWarm 81 = .ok (.getfield 18, 3) := by decide +kernel
theorem d_Su_takeWarm_84 : decode b_Su_takeWarm 84 = .ok (.sipush (-4000), 3) := by decide +kernel
theorem d_Su_takeWarm_87 : decode b_Su_takeWarm 87 = .ok (.sipush 4000, 3) := by decide +kernel
theorem d_Su_takeWarm_90 : decode b_Su_takeWarm 90 = .ok (.invokevirtual 70, 3) := by decide +kernel
theorem d_Su_takeWarm_93 : decode b_Su_takeWarm 93 = .ok (.putfield 143, 3) := by decide +kernel
theorem d_Su_takeWarm_96 : decode b_Su_takeWarm 96 = .ok (.aload_n 2, 1) := by decide +kernel
theorem d_Su_takeWarm_97 : decode b_Su_takeWarm 97 = .ok (.aload_n 0, 1) := by decide +kernel
theorem d_Su_takeWarm_98 : decode b_Su_takeWarm 98 = .ok (.getfield 18, 3) := by decide +kernel
theorem d_Su_takeWarm_101 : decode b_Su_takeWarm 101 = .ok (.iconst 0, 1) := by decide +kernel
theorem d_Su_takeWarm_102 : decode b_Su_takeWarm 102 = .ok (.sipush 999, 3) := by decide +kernel
theorem d_Su_takeWarm_105 : decode b_Su_takeWarm 105 = .ok (.invokevirtual 70, 3) := by decide +kernel
theorem d_Su_takeWarm_108 : decode b_Su_takeWarm 108 = .ok (.putfield 148, 3) := by decide +kernel
theorem d_Su_takeWarm_111 : decode b_Su_takeWarm 111 = .ok (.aload_n 2, 1) := by decide +kernel
theorem d_Su_takeWarm_112 : decode b_Su_takeWarm 112 = .ok (.aload_n 0, 1) := by decide +kernel
theorem d_Su_takeWarm_113 : decode b_Su_takeWarm 113 = .ok (.getfield 18, 3) := by decide +kernel
theorem d_Su_takeWarm_116 : decode b_Su_takeWarm 116 = .ok (.iconst 0, 1) := by decide +kernel
theorem d_Su_takeWarm_117 : decode b_Su_takeWarm 117 = .ok (.bipush 99, 2) := by decide +kernel
theorem d_Su_takeWarm_119 : decode b_Su_takeWarm 119 = .ok (.invokevirtual 70, 3) := by decide +kernel
theorem d_Su_takeWarm_122 : decode b_Su_takeWarm 122 = .ok (.putfield 151, 3) := by decide +kernel
theorem d_Su_takeWarm_125 : decode b_Su_takeWarm 125 = .ok (.return_, 1) := by decide +kernel
theorem d_Su_takeLeads_0 : decode b_Su_takeLeads 0 = .ok (.aload_n 0, 1) := by decide +kernel
theorem d_Su_takeLeads_1 : decode b_Su_takeLeads 1 = .ok (.iconst 4, 1) := by decide +kernel
theorem d_Su_takeLeads_2 : decode b_Su_takeLeads 2 = .ok (.invokevirtual 66, 3) := by decide +kernel
theorem d_Su_takeLeads_5 : decode b_Su_takeLeads 5 = .ok (.aload_n 0, 1) := by decide +kernel
theorem d_Su_takeLeads_6 : decode b_Su_takeLeads 6 = .ok (.getfield 12, 3) := by decide +kernel
theorem d_Su_takeLeads_9 : decode b_Su_takeLeads 9 = .ok (.aload_n 0, 1) := by decide +kernel
theorem d_Su_takeLeads_10 : decode b_Su_takeLeads 10 = .ok (.getfield 18, 3) := by decide +kernel
theorem d_Su_takeLeads_13 : decode b_Su_takeLeads 13 = .ok (.iconst 0, 1) := by decide +kernel
theorem d_Su_takeLeads_14 : decode b_Su_takeLeads 14 = .ok (.ldc 103, 2) := by decide +kernel
theorem d_Su_takeLeads_16 : decode b_Su_takeLeads 16 = .ok (.invokevirtual 70, 3) := by decide +kernel
theorem d_Su_takeLeads_19 : decode b_Su_takeLeads 19 = .ok (.putfield 154, 3) := by decide +kernel
theorem d_Su_takeLeads_22 : decode b_Su_takeLeads 22 = .ok (.aload_n 0, 1) := by decide +kernel
theorem d_Su_takeLeads_23 : decode b_Su_takeLeads 23 = .ok (.getfield 12, 3) := by decide +kernel
theorem d_Su_takeLeads_26 : decode b_Su_takeLeads 26 = .ok (.aload_n 0, 1) := by decide +kernel
theorem d_Su_takeLeads_27 : decode b_Su_takeLeads 27 = .ok (.getfield 18, 3) := by decide +kernel
theorem d_Su_takeLeads_30 : decode b_Su_takeLeads 30 = .ok (.iconst 0, 1) := by decide +kernel
theorem d_Su_takeLeads_31 : decode b_Su_takeLeads 31 = .ok (.ldc 103, 2) := by decide +kernel
theorem d_Su_takeLeads_33 : decode b_Su_takeLeads 33 = .ok (.invokevirtual 70, 3) := by decide +kernel
theorem d_Su_takeLeads_36 : decode b_Su_takeLeads 36 = .ok (.putfield 157, 3) := by decide +kernel
theorem d_Su_takeLeads_39 : decode b_Su_takeLeads 39 = .ok (.aload_n 0, 1) := by decide +kernel
theorem d_Su_takeLeads_40 : decode b_Su_takeLeads 40 = .ok (.getfield 12, 3) := by decide +kernel
theorem d_Su_takeLeads_43 : decode b_Su_takeLeads 43 = .ok (.aload_n 0, 1) := by decide +kernel
theorem d_Su_takeLeads_44 : decode b_Su_takeLeads 44 = .ok (.getfield 18, 3) := by decide +kernel
theorem d_Su_takeLeads_47 : decode b_Su_takeLeads 47 = .ok (.iconst 0, 1) := by decide +kernel
theorem d_Su_takeLeads_48 : decode b_Su_takeLeads 48 = .ok (.ldc 103, 2) := by decide +kernel
theorem d_Su_takeLeads_50 : decode b_Su_takeLeads 50 = .ok (.invokevirtual 70, 3) := by decide +kernel
theorem d_Su_takeLeads_53 : decode b_Su_takeLeads 53 = .ok (.putfield 160, 3) := by decide +kernel
theorem d_Su_takeLeads_56 : decode b_Su_takeLeads 56 = .ok (.return_, 1) := by decide +kernel
theorem d_Su_takeDetector_0 : decode b_Su_takeDetector 0 = .ok (.aload_n 0, 1) := by decide +kernel
theorem d_Su_takeDetector_1 : decode b_Su_takeDetector 1 = .ok (.bipush 16, 2) := by decide +kernel
theorem d_Su_takeDetector_3 : decode b_Su_takeDetector 3 = .ok (.invokevirtual 66, 3) := by decide +kernel
theorem d_Su_takeDetector_6 : decode b_Su_takeDetector 6 = .ok (.aload_n 0, 1) := by decide +kernel
theorem d_Su_takeDetector_7 : decode b_Su_takeDetector 7 = .ok (.getfield 12, 3) := by decide +kernel
theorem d_Su_takeDetector_10 : decode b_Su_takeDetector 10 = .ok (.aload_n 0, 1) := by decide +kernel
theorem d_Su_takeDetector_11 : decode b_Su_takeDetector 11 = .ok (.getfield 18, 3) := by decide +kernel
theorem d_Su_takeDetector_14 : decode b_Su_takeDetector 14 = .ok (.iconst 1, 1) := by decide +kernel
theorem d_Su_takeDetector_15 : decode b_Su_takeDetector 15 = .ok (.ldc 163, 2) := by decide +kernel
theorem d_Su_takeDetector_17 : decode b_Su_takeDetector 17 = .ok (.invokevirtual 70, 3) := by decide +kernel
theorem d_Su_takeDetector_20 : decode b_Su_takeDetector 20 = .ok (.putfield 164, 3) := by decide +kernel
theorem d_Su_takeDetector_23 : decode b_Su_takeDetector 23 = .ok (.aload_n 0, 1) := by decide +kernel
theorem d_Su_takeDetector_24 : decode b_Su_takeDetector 24 = .ok (.getfield 12, 3) := by decide +kernel
theorem d_Su_takeDetector_27 : decode b_Su_takeDetector 27 = .ok (.aload_n 0, 1) := by decide +kernel
theorem d_Su_takeDetector_28 : decode b_Su_takeDetector 28 = .ok (.getfield 18, 3) := by decide +kernel
theorem d_Su_takeDetector_31 : decode b_Su_takeDetector 31 = .ok (.iconst 0, 1) := by decide +kernel
theorem d_Su_takeDetector_32 : decode b_Su_takeDetector 32 = .ok (.sipush 9999, 3) := by decide +kernel
theorem d_Su_takeDetector_35 : decode b_Su_takeDetector 35 = .ok (.invokevirtual 70, 3) := by decide +kernel
theorem d_Su_takeDetector_38 : decode b_Su_takeDetector 38 = .ok (.putfield 167, 3) := by decide +kernel
theorem d_Su_takeDetector_41 : decode b_Su_takeDetector 41 = .ok (.aload_n 0, 1) := by decide +kernel
theorem d_Su_takeDetector_42 : decode b_Su_takeDetector 42 = .ok (.getfield 12, 3) := by decide +kernel
theorem d_Su_takeDetector_45 : decode b_Su_takeDetector 45 = .ok (.aload_n 0, 1) := by decide +kernel
theorem d_Su_takeDetector_46 : decode b_Su_takeDetector 46 = .ok (.getfield 18, 3) := by decide +kernel
theorem d_Su_takeDetector_49 : decode b_Su_takeDetector 49 = .ok (.iconst 0, 1) := by decide +kernel
theorem d_Su_takeDetector_50 : decode b_Su_takeDetector 50 = .ok (.sipush 999, 3) := by decide +kernel
theorem d_Su_takeDetector_53 : decode b_Su_takeDetector 53 = .ok (.invokevirtual 70, 3) := by decide +kernel
theorem d_Su_takeDetector_56 : decode b_Su_takeDetector 56 = .ok (.putfield 170, 3) := by decide +kernel
theorem d_Su_takeDetector_59 : decode b_Su_takeDetector 59 = .ok (.aload_n 0, 1) := by decide +kernel
theorem d_Su_takeDetector_60 : decode b_Su_takeDetector 60 = .ok (.getfield 12, 3) := by decide +kernel
theorem d_Su_takeDetector_63 : decode b_Su_takeDetector 63 = .ok (.aload_n 0, 1) := by decide +kernel
theorem d_Su_takeDetector_64 : decode b_Su_takeDetector 64 = .ok (.getfield 18, 3) := by decide +kernel
theorem d_Su_takeDetector_67 : decode b_Su_takeDetector 67 = .ok (.ldc 173, 2) := by decide +kernel
theorem d_Su_takeDetector_69 : decode b_Su_takeDetector 69 = .ok (.ldc 103, 2) := by decide +kernel
theorem d_Su_takeDetector_71 : decode b_Su_takeDetector 71 = .ok (.invokevirtual 70, 3) := by decide +kernel
theorem d_Su_takeDetector_74 : decode b_Su_takeDetector 74 = .ok (.putfield 174, 3) := by decide +kernel
theorem d_Su_takeDetector_77 : decode b_Su_takeDetector 77 = .ok (.return_, 1) := by decide +kernel
theorem d_Te_init_0 : decode b_Te_init 0 = .ok (.aload_n 0, 1) := by decide +kernel
theorem d_Te_init_1 : decode b_Te_init 1 = .ok (.invokespecial 3, 3) := by decide +kernel
theorem d_Te_init_4 : decode b_Te_init 4 = .ok (.aload_n 0, 1) := by decide +kernel
theorem d_Te_init_5 : decode b_Te_init 5 = .ok (.sipush 600, 3) := by decide +kernel
theorem d_Te_init_8 : decode b_Te_init 8 = .ok (.newarray .byte, 2) := by decide +kernel
theorem d_Te_init_10 : decode b_Te_init 10 = .ok (.putfield 11, 3) := by decide +kernel
theorem d_Te_init_13 : decode b_Te_init 13 = .ok (.aload_n 0, 1) := by decide +kernel
theorem d_Te_init_14 : decode b_Te_init 14 = .ok (.iconst (-1), 1) := by decide +kernel
theorem d_Te_init_15 : decode b_Te_init 15 = .ok (.putfield 15, 3) := by decide +kernel
theorem d_Te_init_18 : decode b_Te_init 18 = .ok (.return_, 1) := by decide +kernel
theorem d_Te_bytesOf_0 : decode b_Te_bytesOf 0 = .ok (.iconst 0, 1) := by decide +kernel
theorem d_Te_bytesOf_1 : decode b_Te_bytesOf 1 = .ok (.istore_n 1, 1) := by decide +kernel
theorem d_Te_bytesOf_2 : decode b_Te_bytesOf 2 = .ok (.bipush 24, 2) := by decide +kernel
theorem d_Te_bytesOf_4 : decode b_Te_bytesOf 4 = .ok (.istore_n 2, 1) := by decide +kernel
theorem d_Te_bytesOf_5 : decode b_Te_bytesOf 5 = .ok (.iload_n 2, 1) := by decide +kernel
theorem d_Te_bytesOf_6 : decode b_Te_bytesOf 6 = .ok (.ifCond .lt 22, 3) := by decide +kernel
theorem d_Te_bytesOf_9 : decode b_Te_bytesOf 9 = .ok (.iload_n 0, 1) := by decide +kernel
theorem d_Te_bytesOf_10 : decode b_Te_bytesOf 10 = .ok (.iload_n 2, 1) := by decide +kernel
theorem d_Te_bytesOf_11 : decode b_Te_bytesOf 11 = .ok (.iushr, 1) := by decide +kernel
theorem d_Te_bytesOf_12 : decode b_Te_bytesOf 12 = .ok (.sipush 255, 3) := by decide +kernel
theorem d_Te_bytesOf_15 : decode b_Te_bytesOf 15 = .ok (.iand, 1) := by decide +kernel
theorem d_Te_bytesOf_16 : decode b_Te_bytesOf 16 = .ok (.ifCond .eq 6, 3) := by decide +kernel
theorem d_Te_bytesOf_19 : decode b_Te_bytesOf 19 = .ok (.iinc 1 1, 3) := by decide +kernel
theorem d_Te_bytesOf_22 : decode b_Te_bytesOf 22 = .ok (.iinc 2 (-8), 3) := by decide +kernel
theorem d_Te_bytesOf_25 : decode b_Te_bytesOf 25 = .ok (.goto (-20), 3) := by decide +kernel
theorem d_Te_bytesOf_28 : decode b_Te_bytesOf 28 = .ok (.iload_n 1, 1) := by decide +kernel
theorem d_Te_bytesOf_29 : decode b_Te_bytesOf 29 = .ok (.ireturn, 1) := by decide +kernel
theorem d_Te_append_0 : decode b_Te_append 0 = .ok (.bipush 24, 2) := by decide +kernel
theorem d_Te_append_2 : decode b_Te_append 2 = .ok (.istore_n 2, 1) := by decide +kernel
theorem d_Te_append_3 : decode b_Te_append 3 = .ok (.iload_n 2, 1) := by decide +kernel
theorem d_Te_append_4 : decode b_Te_append 4 = .ok (.ifCond .lt 54, 3) := by decide +kernel
theorem d_Te_append_7 : decode b_Te_append 7 = .ok (.iload_n 1, 1) := by decide +kernel
theorem d_Te_append_8 : decode b_Te_append 8 = .ok (.iload_n 2, 1) := by decide +kernel
theorem d_Te_append_9 : decode b_Te_append 9 = .ok (.iushr, 1) := by decide +kernel
theorem d_Te_append_10 : decode b_Te_append 10 = .ok (.sipush 255, 3) := by decide +kernel
theorem d_Te_append_13 : decode b_Te_append 13 = .ok (.iand, 1) := by decide +kernel
theorem d_Te_append_14 : decode b_Te_append 14 = .ok (.istore_n 3, 1) := by decide +kernel
theorem d_Te_append_15 : decode b_Te_append 15 = .ok (.iload_n 3, 1) := by decide +kernel
theorem d_Te_append_16 : decode b_Te_append 16 = .ok (.ifCond .eq 36, 3) := by decide +kernel
theorem d_Te_append_19 : decode b_Te_append 19 = .ok (.aload_n 0, 1) := by decide +kernel
theorem d_Te_append_20 : decode b_Te_append 20 = .ok (.getfield 19, 3) := by decide +kernel
theorem d_Te_append_23 : decode b_Te_append 23 = .ok (.aload_n 0, 1) := by decide +kernel
theorem d_Te_append_24 : decode b_Te_append 24 = .ok (.getfield 11, 3) := by decide +kernel
theorem d_Te_append_27 : decode b_Te_append 27 = .ok (.arraylength, 1) := by decide +kernel
theorem d_Te_append_28 : decode b_Te_append 28 = .ok (.if_icmp .ge 24, 3) := by decide +kernel
theorem d_Te_append_31 : decode b_Te_append 31 = .ok (.aload_n 0, 1) := by decide +kernel
theorem d_Te_append_32 : decode b_Te_append 32 = .ok (.getfield 11, 3) := by decide +kernel
theorem d_Te_append_35 : decode b_Te_append 35 = .ok (.aload_n 0, 1) := by decide +kernel
theorem d_Te_append_36 : decode b_Te_append 36 = .ok (.getfield 19, 3) := by decide +kernel
theorem d_Te_append_39 : decode b_Te_append 39 = .ok (.iload_n 3, 1) := by decide +kernel
theorem d_Te_append_40 : decode b_Te_append 40 = .ok (.i2b, 1) := by decide +kernel
theorem d_Te_append_41 : decode b_Te_append 41 = .ok (.bastore, 1) := by decide +kernel
theorem d_Te_append_42 : decode b_Te_append 42 = .ok (.aload_n 0, 1) := by decide +kernel
theorem d_Te_append_43 : decode b_Te_append 43 = .ok (.dup, 1) := by decide +kernel
theorem d_Te_append_44 : decode b_Te_append 44 = .ok (.getfield 19, 3) := by decide +kernel
theorem d_Te_append_47 : decode b_Te_append 47 = .ok (.iconst 1, 1) := by decide +kernel
theorem d_Te_append_48 : decode b_Te_append 48 = .ok (.iadd, 1) := by decide +kernel
theorem d_Te_append_49 : decode b_Te_append 49 = .ok (.putfield 19, 3) := by decide +kernel
theorem d_Te_append_52 : decode b_Te_append 52 = .ok (.iinc 2 (-8), 3) := by decide +kernel
theorem d_Te_append_55 : decode b_Te_append 55 = .ok (.goto (-52), 3) := by decide +kernel
theorem d_Te_append_58 : decode b_Te_append 58 = .ok (.return_, 1) := by decide +kernel
theorem d_Te_empty_0 : decode b_Te_empty 0 = .ok (.aload_n 0, 1) := by decide +kernel
theorem d_Te_empty_1 : decode b_Te_empty 1 = .ok (.iconst 0, 1) := by decide +kernel
theorem d_Te_empty_2 : decode b_Te_empty 2 = .ok (.putfield 19, 3) := by decide +kernel
theorem d_Te_empty_5 : decode b_Te_empty 5 = .ok (.return_, 1) := by decide +kernel
theorem d_Te_begin_0 : decode b_Te_begin 0 = .ok (.aload_n 0, 1) := by decide +kernel
theorem d_Te_begin_1 : decode b_Te_begin 1 = .ok (.iconst 0, 1) := by decide +kernel
theorem d_Te_begin_2 : decode b_Te_begin 2 = .ok (.putfield 22, 3) := by decide +kernel
theorem d_Te_begin_5 : decode b_Te_begin 5 = .ok (.aload_n 0, 1) := by decide +kernel
theorem d_Te_begin_6 : decode b_Te_begin 6 = .ok (.iconst (-1), 1) := by decide +kernel
theorem d_Te_begin_7 : decode b_Te_begin 7 = .ok (.putfield 15, 3) := by decide +kernel
theorem d_Te_begin_10 : decode b_Te_begin 10 = .ok (.aload_n 0, 1) := by decide +kernel
theorem d_Te_begin_11 : decode b_Te_begin 11 = .ok (.iconst 0, 1) := by decide +kernel
theorem d_Te_begin_12 : decode b_Te_begin 12 = .ok (.putfield 25, 3) := by decide +kernel
theorem d_Te_begin_15 : decode b_Te_begin 15 = .ok (.aload_n 0, 1) := by decide +kernel
theorem d_Te_begin_16 : decode b_Te_begin 16 = .ok (.invokevirtual 28, 3) := by decide +kernel
theorem d_Te_begin_19 : decode b_Te_begin 19 = .ok (.return_, 1) := by decide +kernel
theorem d_Te_advance_0 : decode b_Te_advance 0 = .ok (.aload_n 0, 1) := by decide +kernel
theorem d_Te_advance_1 : decode b_Te_advance 1 = .ok (.getfield 22, 3) := by decide +kernel
theorem d_Te_advance_4 : decode b_Te_advance 4 = .ok (.ifCond .eq 4, 3) := by decide +kernel
theorem d_Te_advance_7 : decode b_Te_advance 7 = .ok (.return_, 1) := by decide +kernel
theorem d_Te_advance_8 : decode b_Te_advance 8 = .ok (.aload_n 0, 1) := by decide +kernel
theorem d_Te_advance_9 : decode b_Te_advance 9 = .ok (.getfield 25, 3) := by decide +kernel
theorem d_Te_advance_12 : decode b_Te_advance 12 = .ok (.istore_n 1, 1) := by decide +kernel
theorem d_Te_advance_13 : decode b_Te_advance 13 = .ok (.iload_n 1, 1) := by decide +kernel
theorem d_Te_advance_14 : decode b_Te_advance 14 = .ok (.aload_n 0, 1) := by decide +kernel
theorem d_Te_advance_15 : decode b_Te_advance 15 = .ok (.getfield 19, 3) := by decide +kernel
theorem d_Te_advance_18 : decode b_Te_advance 18 = .ok (.if_icmp .ge 19, 3) := by decide +kernel
theorem d_Te_advance_21 : decode b_Te_advance 21 = .ok (.aload_n 0, 1) := by decide +kernel
theorem d_Te_advance_22 : decode b_Te_advance 22 = .ok (.iload_n 1, 1) := by decide +kernel
theorem d_Te_advance_23 : decode b_Te_advance 23 = .ok (.invokevirtual 31, 3) := by decide +kernel
theorem d_Te_advance_26 : decode b_Te_advance 26 = .ok (.bipush 32, 2) := by decide +kernel
theorem d_Te_advance_28 : decode b_Te_advance 28 = .ok (.if_icmp .ne 9, 3) := by decide +kernel
theorem d_Te_advance_31 : decode b_Te_advance 31 = .ok (.iinc 1 1, 3) := by decide +kernel
theorem d_Te_advance_34 : decode b_Te_advance 34 = .ok (.goto (-21), 3) := by decide +kernel
theorem d_Te_advance_37 : decode b_Te_advance 37 = .ok (.aload_n 0, 1) := by decide +kernel
theorem d_Te_advance_38 : decode b_Te_advance 38 = .ok (.iload_n 1, 1) := by decide +kernel
theorem d_Te_advance_39 : decode b_Te_advance 39 = .ok (.putfield 35, 3) := by decide +kernel
theorem d_Te_advance_42 : decode b_Te_advance 42 = .ok (.aload_n 0, 1) := by decide +kernel
theorem d_Te_advance_43 : decode b_Te_advance 43 = .ok (.iload_n 1, 1) := by decide +kernel
theorem d_Te_advance_44 : decode b_Te_advance 44 = .ok (.aload_n 0, 1) := by decide +kernel
theorem d_Te_advance_45 : decode b_Te_advance 45 = .ok (.getfield 19, 3) := by decide +kernel
theorem d_Te_advance_48 : decode b_Te_advance 48 = .ok (.if_icmp .ge 11, 3) := by decide +kernel
theorem d_Te_advance_51 : decode b_Te_advance 51 = .ok (.aload_n 0, 1) := by decide +kernel
theorem d_Te_advance_52 : decode b_Te_advance 52 = .ok (.iload_n 1, 1) := by decide +kernel
theorem d_Te_advance_53 : decode b_Te_advance 53 = .ok (.invokevirtual 31, 3) := by decide +kernel
theorem d_Te_advance_56 : decode b_Te_advance 56 = .ok (.goto 4, 3) := by decide +kernel
theorem d_Te_advance_59 : decode b_Te_advance 59 = .ok (.iconst 0, 1) := by decide +kernel
theorem d_Te_advance_60 : decode b_Te_advance 60 = .ok (.putfield 38, 3) := by decide +kernel
theorem d_Te_advance_63 : decode b_Te_advance 63 = .ok (.iload_n 1, 1) := by decide +kernel
theorem d_Te_advance_64 : decode b_Te_advance 64 = .ok (.aload_n 0, 1) := by decide +kernel
theorem d_Te_advance_65 : decode b_Te_advance 65 = .ok (.getfield 19, 3) := by decide +kernel
theorem d_Te_advance_68 : decode b_Te_advance 68 = .ok (.if_icmp .ge 6, 3) := by decide +kernel
theorem d_Te_advance_71 : decode b_Te_advance 71 = .ok (.iinc 1 1, 3) := by decide +kernel
theorem d_Te_advance_74 : decode b_Te_advance 74 = .ok (.iload_n 1, 1) := by decide +kernel
theorem d_Te_advance_75 : decode b_Te_advance 75 = .ok (.aload_n 0, 1) := by decide +kernel
theorem d_Te_advance_76 : decode b_Te_advance 76 = .ok (.getfield 19, 3) := by decide +kernel
theorem d_Te_advance_79 : decode b_Te_advance 79 = .ok (.if_icmp .ge 39, 3) := by decide +kernel
theorem d_Te_advance_82 : decode b_Te_advance 82 = .ok (.aload_n 0, 1) := by decide +kernel
theorem d_Te_advance_83 : decode b_Te_advance 83 = .ok (.getfield 38, 3) := by decide +kernel
theorem d_Te_advance_86 : decode b_Te_advance 86 = .ok (.bipush 97, 2) := by decide +kernel
theorem d_Te_advance_88 : decode b_Te_advance 88 = .ok (.if_icmp .eq 12, 3) := by decide +kernel
theorem d_Te_advance_91 : decode b_Te_advance 91 = .ok (.aload_n 0, 1) := by decide +kernel
theorem d_Te_advance_92 : decode b_Te_advance 92 = .ok (.getfield 38, 3) := by decide +kernel
theorem d_Te_advance_95 : decode b_Te_advance 95 = .ok (.bipush 48, 2) := by decide +kernel
theorem d_Te_advance_97 : decode b_Te_advance 97 = .ok (.if_icmp .ne 21, 3) := by decide +kernel
theorem d_Te_advance_100 : decode b_Te_advance 100 = .ok (.aload_n 0, 1) := by decide +kernel
theorem d_Te_advance_101 : decode b_Te_advance 101 = .ok (.iload_n 1, 1) := by decide +kernel
theorem d_Te_advance_102 : decode b_Te_advance 102 = .ok (.invokevirtual 31, 3) := by decide +kernel
theorem d_Te_advance_105 : decode b_Te_advance 105 = .ok (.aload_n 0, 1) := by decide +kernel
theorem d_Te_advance_106 : decode b_Te_advance 106 = .ok (.getfield 38, 3) := by decide +kernel
theorem d_Te_advance_109 : decode b_Te_advance 109 = .ok (.if_icmp .ne 9, 3) := by decide +kernel
theorem d_Te_advance_112 : decode b_Te_advance 112 = .ok (.iinc 1 1, 3) := by decide +kernel
theorem d_Te_advance_115 : decode b_Te_advance 115 = .ok (.goto (-41), 3) := by decide +kernel
theorem d_Te_advance_118 : decode b_Te_advance 118 = .ok (.aload_n 0, 1) := by decide +kernel
theorem d_Te_advance_119 : decode b_Te_advance 119 = .ok (.iload_n 1, 1) := by decide +kernel
theorem d_Te_advance_120 : decode b_Te_advance 120 = .ok (.putfield 25, 3) := by decide +kernel
theorem d_Te_advance_123 : decode b_Te_advance 123 = .ok (.return_, 1) := by decide +kernel
theorem d_Te_fail_0 : decode b_Te_fail 0 = .ok (.aload_n 0, 1) := by decide +kernel
theorem d_Te_fail_1 : decode b_Te_fail 1 = .ok (.iload_n 1, 1) := by decide +kernel
theorem d_Te_fail_2 : decode b_Te_fail 2 = .ok (.aload_n 0, 1) := by decide +kernel
theorem d_Te_fail_3 : decode b_Te_fail 3 = .ok (.getfield 35, 3) := by decide +kernel
theorem d_Te_fail_6 : decode b_Te_fail 6 = .ok (.invokevirtual 41, 3) := by decide +kernel
theorem d_Te_fail_9 : decode b_Te_fail 9 = .ok (.return_, 1) := by decide +kernel
theorem d_Te_failAt_0 : decode b_Te_failAt 0 = .ok (.aload_n 0, 1) := by decide +kernel
theorem d_Te_failAt_1 : decode b_Te_failAt 1 = .ok (.getfield 22, 3) := by decide +kernel
theorem d_Te_failAt_4 : decode b_Te_failAt 4 = .ok (.ifCond .ne 18, 3) := by decide +kernel
theorem d_Te_failAt_7 : decode b_Te_failAt 7 = .ok (.aload_n 0, 1) := by decide +kernel
theorem d_Te_failAt_8 : decode b_Te_failAt 8 = .ok (.iload_n 1, 1) := by decide +kernel
theorem d_Te_failAt_9 : decode b_Te_failAt 9 = .ok (.putfield 22, 3) := by decide +kernel
theorem d_Te_failAt_12 : decode b_Te_failAt 12 = .ok (.aload_n 0, 1) := by decide +kernel
theorem d_Te_failAt_13 : decode b_Te_failAt 13 = .ok (.iload_n 2, 1) := by decide +kernel
theorem d_Te_failAt_14 : decode b_Te_failAt 14 = .ok (.putfield 15, 3) := by decide +kernel
theorem d_Te_failAt_17 : decode b_Te_failAt 17 = .ok (.aload_n 0, 1) := by decide +kernel
theorem d_Te_failAt_18 : decode b_Te_failAt 18 = .ok (.iconst 1, 1) := by decide +kernel
theorem d_Te_failAt_19 : decode b_Te_failAt 19 = .ok (.putfield 38, 3) := by decide +kernel
theorem d_Te_failAt_22 : decode b_Te_failAt 22 = .ok (.return_, 1) := by decide +kernel
theorem d_Te_isWord_0 : decode b_Te_isWord 0 = .ok (.aload_n 0, 1) := by decide +kernel
theorem d_Te_isWord_1 : decode b_Te_isWord 1 = .ok (.getfield 38, 3) := by decide +kernel
theorem d_Te_isWord_4 : decode b_Te_isWord 4 = .ok (.bipush 97, 2) := by decide +kernel
theorem d_Te_isWord_6 : decode b_Te_isWord 6 = .ok (.if_icmp .ne 19, 3) := by decide +kernel
theorem d_Te_isWord_9 : decode b_Te_isWord 9 = .ok (.aload_n 0, 1) := by decide +kernel
theorem d_Te_isWord_10 : decode b_Te_isWord 10 = .ok (.getfield 25, 3) := by decide +kernel
theorem d_Te_isWord_13 : decode b_Te_isWord 13 = .ok (.aload_n 0, 1) := by decide +kernel
theorem d_Te_isWord_14 : decode b_Te_isWord 14 = .ok (.getfield 35, 3) := by decide +kernel
theorem d_Te_isWord_17 : decode b_Te_isWord 17 = .ok (.isub, 1) := by decide +kernel
theorem d_Te_isWord_18 : decode b_Te_isWord 18 = .ok (.aload_n 1, 1) := by decide +kernel
theorem d_Te_isWord_19 : decode b_Te_isWord 19 = .ok (.invokevirtual 45, 3) := by decide +kernel
theorem d_Te_isWord_22 : decode b_Te_isWord 22 = .ok (.if_icmp .eq 5, 3) := by decide +kernel
theorem d_Te_isWord_25 : decode b_Te_isWord 25 = .ok (.iconst 0, 1) := by decide +kernel
theorem d_Te_isWord_26 : decode b_Te_isWord 26 = .ok (.ireturn, 1) := by decide +kernel
theorem d_Te_isWord_27 : decode b_Te_isWord 27 = .ok (.iconst 0, 1) := by decide +kernel
theorem d_Te_isWord_28 : decode b_Te_isWord 28 = .ok (.istore_n 2, 1) := by decide +kernel
theorem d_Te_isWord_29 : decode b_Te_isWord 29 = .ok (.iload_n 2, 1) := by decide +kernel
theorem d_Te_isWord_30 : decode b_Te_isWord 30 = .ok (.aload_n 1, 1) := by decide +kernel
theorem d_Te_isWord_31 : decode b_Te_isWord 31 = .ok (.invokevirtual 45, 3) := by decide +kernel
theorem d_Te_isWord_34 : decode b_Te_isWord 34 = .ok (.if_icmp .ge 29, 3) := by decide +kernel
theorem d_Te_isWord_37 : decode b_Te_isWord 37 = .ok (.aload_n 0, 1) := by decide +kernel
theorem d_Te_isWord_38 : decode b_Te_isWord 38 = .ok (.aload_n 0, 1) := by decide +kernel
theorem d_Te_isWord_39 : decode b_Te_isWord 39 = .ok (.getfield 35, 3) := by decide +kernel
theorem d_Te_isWord_42 : decode b_Te_isWord 42 = .ok (.iload_n 2, 1) := by decide +kernel
theorem d_Te_isWord_43 : decode b_Te_isWord 43 = .ok (.iadd, 1) := by decide +kernel
theorem d_Te_isWord_44 : decode b_Te_isWord 44 = .ok (.invokevirtual 50, 3) := by decide +kernel
theorem d_Te_isWord_47 : decode b_Te_isWord 47 = .ok (.aload_n 1, 1) := by decide +kernel
theorem d_Te_isWord_48 : decode b_Te_isWord 48 = .ok (.iload_n 2, 1) := by decide +kernel
theorem d_Te_isWord_49 : decode b_Te_isWord 49 = .ok (.invokevirtual 53, 3) := by decide +kernel
theorem d_Te_isWord_52 : decode b_Te_isWord 52 = .ok (.if_icmp .eq 5, 3) := by decide +kernel
theorem d_Te_isWord_55 : decode b_Te_isWord 55 = .ok (.iconst 0, 1) := by decide +kernel
theorem d_Te_isWord_56 : decode b_Te_isWord 56 = .ok (.ireturn, 1) := by decide +kernel
theorem d_Te_isWord_57 : decode b_Te_isWord 57 = .ok (.iinc 2 1, 3) := by decide +kernel
theorem d_Te_isWord_60 : decode b_Te_isWord 60 = .ok (.goto (-31), 3) := by decide +kernel
theorem d_Te_isWord_63 : decode b_Te_isWord 63 = .ok (.iconst 1, 1) := by decide +kernel
theorem d_Te_isWord_64 : decode b_Te_isWord 64 = .ok (.ireturn, 1) := by decide +kernel
theorem d_Te_takeSign_0 : decode b_Te_takeSign 0 = .ok (.aload_n 0, 1) := by decide +kernel
theorem d_Te_takeSign_1 : decode b_Te_takeSign 1 = .ok (.getfield 38, 3) := by decide +kernel
theorem d_Te_takeSign_4 : decode b_Te_takeSign 4 = .ok (.iload_n 1, 1) := by decide +kernel
theorem d_Te_takeSign_5 : decode b_Te_takeSign 5 = .ok (.if_icmp .eq 8, 3) := by decide +kernel
theorem d_Te_takeSign_8 : decode b_Te_takeSign 8 = .ok (.aload_n 0, 1) := by decide +kernel
theorem d_Te_takeSign_9 : decode b_Te_takeSign 9 = .ok (.iconst 1, 1) := by decide +kernel
theorem d_Te_takeSign_10 : decode b_Te_takeSign 10 = .ok (.invokevirtual 57, 3) := by decide +kernel
theorem d_Te_takeSign_13 : decode b_Te_takeSign 13 = .ok (.aload_n 0, 1) := by decide +kernel
theorem d_Te_takeSign_14 : decode b_Te_takeSign 14 = .ok (.invokevirtual 28, 3) := by decide +kernel
theorem d_Te_takeSign_17 : decode b_Te_takeSign 17 = .ok (.return_, 1) := by decide +kernel
theorem d_Te_atSigned_0 : decode b_Te_atSigned 0 = .ok (.aload_n 0, 1) := by decide +kernel
theorem d_Te_atSigned_1 : decode b_Te_atSigned 1 = .ok (.getfield 38, 3) := by decide +kernel
theorem d_Te_atSigned_4 : decode b_Te_atSigned 4 = .ok (.bipush 48, 2) := by decide +kernel
theorem d_Te_atSigned_6 : decode b_Te_atSigned 6 = .ok (.if_icmp .eq 12, 3) := by decide +kernel
theorem d_Te_atSigned_9 : decode b_Te_atSigned 9 = .ok (.aload_n 0, 1) := by decide +kernel
theorem d_Te_atSigned_10 : decode b_Te_atSigned 10 = .ok (.getfield 38, 3) := by decide +kernel
theorem d_Te_atSigned_13 : decode b_Te_atSigned 13 = .ok (.bipush 45, 2) := by decide +kernel
theorem d_Te_atSigned_15 : decode b_Te_atSigned 15 = .ok (.if_icmp .ne 7, 3) := by decide +kernel
theorem d_Te_atSigned_18 : decode b_Te_atSigned 18 = .ok (.iconst 1, 1) := by decide +kernel
theorem d_Te_atSigned_19 : decode b_Te_atSigned 19 = .ok (.goto 4, 3) := by decide +kernel
theorem d_Te_atSigned_22 : decode b_Te_atSigned 22 = .ok (.iconst 0, 1) := by decide +kernel
theorem d_Te_atSigned_23 : decode b_Te_atSigned 23 = .ok (.ireturn, 1) := by decide +kernel
theorem d_Te_number_0 : decode b_Te_number 0 = .ok (.iload_n 1, 1) := by decide +kernel
theorem d_Te_number_1 : decode b_Te_number 1 = .ok (.ifCond .ge 16, 3) := by decide +kernel
theorem d_Te_number_4 : decode b_Te_number 4 = .ok (.aload_n 0, 1) := by decide +kernel
theorem d_Te_number_5 : decode b_Te_number 5 = .ok (.getfield 38, 3) := by decide +kernel
theorem d_Te_number_8 : decode b_Te_number 8 = .ok (.bipush 45, 2) := by decide +kernel
theorem d_Te_number_10 : decode b_Te_number 10 = .ok (.if_icmp .ne 7, 3) := by decide +kernel
theorem d_Te_number_13 : decode b_Te_number 13 = .ok (.iconst 1, 1) := by decide +kernel
theorem d_Te_number_14 : decode b_Te_number 14 = .ok (.goto 4, 3) := by decide +kernel
theorem d_Te_number_17 : decode b_Te_number 17 = .ok (.iconst 0, 1) := by decide +kernel
theorem d_Te_number_18 : decode b_Te_number 18 = .ok (.istore_n 3, 1) := by decide +kernel
theorem d_Te_number_19 : decode b_Te_number 19 = .ok (.iload_n 3, 1) := by decide +kernel
theorem d_Te_number_20 : decode b_Te_number 20 = .ok (.ifCond .eq 7, 3) := by decide +kernel
theorem d_Te_number_23 : decode b_Te_number 23 = .ok (.aload_n 0, 1) := by decide +kernel
theorem d_Te_number_24 : decode b_Te_number 24 = .ok (.invokevirtual 28, 3) := by decide +kernel
theorem d_Te_number_27 : decode b_Te_number 27 = .ok (.aload_n 0, 1) := by decide +kernel
theorem d_Te_number_28 : decode b_Te_number 28 = .ok (.getfield 38, 3) := by decide +kernel
theorem d_Te_number_31 : decode b_Te_number 31 = .ok (.bipush 48, 2) := by decide +kernel
theorem d_Te_number_33 : decode b_Te_number 33 = .ok (.if_icmp .eq 10, 3) := by decide +kernel
theorem d_Te_number_36 : decode b_Te_number 36 = .ok (.aload_n 0, 1) := by decide +kernel
theorem d_Te_number_37 : decode b_Te_number 37 = .ok (.iconst 1, 1) := by decide +kernel
theorem d_Te_number_38 : decode b_Te_number 38 = .ok (.invokevirtual 57, 3) := by decide +kernel
theorem d_Te_number_41 : decode b_Te_number 41 = .ok (.iload_n 1, 1) := by decide +kernel
theorem d_Te_number_42 : decode b_Te_number 42 = .ok (.ireturn, 1) := by decide +kernel
theorem d_Te_number_43 : decode b_Te_number 43 = .ok (.iconst 0, 1) := by decide +kernel
theorem d_Te_number_44 : decode b_Te_number 44 = .ok (.istore 4, 2) := by decide +kernel
theorem d_Te_number_46 : decode b_Te_number 46 = .ok (.aload_n 0, 1) := by decide +kernel
theorem d_Te_number_47 : decode b_Te_number 47 = .ok (.getfield 35, 3) := by decide +kernel
theorem d_Te_number_50 : decode b_Te_number 50 = .ok (.istore 5, 2) := by decide +kernel
theorem d_Te_number_52 : decode b_Te_number 52 = .ok (.iload 5, 2) := by decide +kernel
theorem d_Te_number_54 : decode b_Te_number 54 = .ok (.aload_n 0, 1) := by decide +kernel
theorem d_Te_number_55 : decode b_Te_number 55 = .ok (.getfield 25, 3) := by decide +kernel
theorem d_Te_number_58 : decode b_Te_number 58 = .ok (.if_icmp .ge 38, 3) := by decide +kernel
theorem d_Te_number_61 : decode b_Te_number 61 = .ok (.iload 5, 2) := by decide +kernel
theorem d_Te_number_63 : decode b_Te_number 63 = .ok (.aload_n 0, 1) := by decide +kernel
theorem d_Te_number_64 : decode b_Te_number 64 = .ok (.getfield 35, 3) := by decide +kernel
theorem d_Te_number_67 : decode b_Te_number 67 = .ok (.bipush 9, 2) := by decide +kernel
theorem d_Te_number_69 : decode b_Te_number 69 = .ok (.iadd, 1) := by decide +kernel
theorem d_Te_number_70 : decode b_Te_number 70 = .ok (.if_icmp .ge 26, 3) := by decide +kernel
theorem d_Te_number_73 : decode b_Te_number 73 = .ok (.bipush 10, 2) := by decide +kernel
theorem d_Te_number_75 : decode b_Te_number 75 = .ok (.iload 4, 2) := by decide +kernel
theorem d_Te_number_77 : decode b_Te_number 77 = .ok (.imul, 1) := by decide +kernel
theorem d_Te_number_78 : decode b_Te_number 78 = .ok (.aload_n 0, 1) := by decide +kernel
theorem d_Te_number_79 : decode b_Te_number 79 = .ok (.iload 5, 2) := by decide +kernel
theorem d_Te_number_81 : decode b_Te_number 81 = .ok (.invokevirtual 50, 3) := by decide +kernel
theorem d_Te_number_84 : decode b_Te_number 84 = .ok (.bipush 48, 2) := by decide +kernel
theorem d_Te_number_86 : decode b_Te_number 86 = .ok (.isub, 1) := by decide +kernel
theorem d_Te_number_87 : decode b_Te_number 87 = .ok (.iadd, 1) := by decide +kernel
theorem d_Te_number_88 : decode b_Te_number 88 = .ok (.istore 4, 2) := by decide +kernel
theorem d_Te_number_90 : decode b_Te_number 90 = .ok (.iinc 5 1, 3) := by decide +kernel
theorem d_Te_number_93 : decode b_Te_number 93 = .ok (.goto (-41), 3) := by decide +kernel
theorem d_Te_number_96 : decode b_Te_number 96 = .ok (.iload_n 3, 1) := by decide +kernel
theorem d_Te_number_97 : decode b_Te_number 97 = .ok (.ifCond .eq 9, 3) := by decide +kernel
theorem d_Te_number_100 : decode b_Te_number 100 = .ok (.iload 4, 2) := by decide +kernel
theorem d_Te_number_102 : decode b_Te_number 102 = .ok (.ineg, 1) := by decide +kernel
theorem d_Te_number_103 : decode b_Te_number 103 = .ok (.goto 5, 3) := by decide +kernel
theorem d_Te_number_106 : decode b_Te_number 106 = .ok (.iload 4, 2) := by decide +kernel
theorem d_Te_number_108 : decode b_Te_number 108 = .ok (.istore 4, 2) := by decide +kernel
theorem d_Te_number_110 : decode b_Te_number 110 = .ok (.aload_n 0, 1) := by decide +kernel
theorem d_Te_number_111 : decode b_Te_number 111 = .ok (.getfield 25, 3) := by decide +kernel
theorem d_Te_number_114 : decode b_Te_number 114 = .ok (.aload_n 0, 1) := by decide +kernel
theorem d_Te_number_115 : decode b_Te_number 115 = .ok (.getfield 35, 3) := by decide +kernel
theorem d_Te_number_118 : decode b_Te_number 118 = .ok (.isub, 1) := by decide +kernel
theorem d_Te_number_119 : decode b_Te_number 119 = .ok (.bipush 9, 2) := by decide +kernel
theorem d_Te_number_121 : decode b_Te_number 121 = .ok (.if_icmp .gt 15, 3) := by decide +kernel
theorem d_Te_number_124 : decode b_Te_number 124 = .ok (.iload 4, 2) := by decide +kernel
theorem d_Te_number_126 : decode b_Te_number 126 = .ok (.iload_n 1, 1) := by decide +kernel
theorem d_Te_number_127 : decode b_Te_number 127 = .ok (.if_icmp .lt 9, 3) := by decide +kernel
theorem d_Te_number_130 : decode b_Te_number 130 = .ok (.iload 4, 2) := by decide +kernel
theorem d_Te_number_132 : decode b_Te_number 132 = .ok (.iload_n 2, 1) := by decide +kernel
theorem d_Te_number_133 : decode b_Te_number 133 = .ok (.if_icmp .le 10, 3) := by decide +kernel
theorem d_Te_number_136 : decode b_Te_number 136 = .ok (.aload_n 0, 1) := by decide +kernel
theorem d_Te_number_137 : decode b_Te_number 137 = .ok (.iconst 2, 1) := by decide +kernel
theorem d_Te_number_138 : decode b_Te_number 138 = .ok (.invokevirtual 57, 3) := by decide +kernel
theorem d_Te_number_141 : decode b_Te_number 141 = .ok (.iload_n 1, 1) := by decide +kernel
theorem d_Te_number_142 : decode b_Te_number 142 = .ok (.ireturn, 1) := by decide +kernel
theorem d_Te_number_143 : decode b_Te_number 143 = .ok (.aload_n 0, 1) := by decide +kernel
theorem d_Te_number_144 : decode b_Te_number 144 = .ok (.invokevirtual 28, 3) := by decide +kernel
theorem d_Te_number_147 : decode b_Te_number 147 = .ok (.iload 4, 2) := by decide +kernel
theorem d_Te_number_149 : decode b_Te_number 149 = .ok (.ireturn, 1) := by decide +kernel
theorem d_Te_byteAt_0 : decode b_Te_byteAt 0 = .ok (.iload_n 1, 1) := by decide +kernel
theorem d_Te_byteAt_1 : decode b_Te_byteAt 1 = .ok (.ifCond .lt 21, 3) := by decide +kernel
theorem d_Te_byteAt_4 : decode b_Te_byteAt 4 = .ok (.iload_n 1, 1) := by decide +kernel
theorem d_Te_byteAt_5 : decode b_Te_byteAt 5 = .ok (.aload_n 0, 1) := by decide +kernel
theorem d_Te_byteAt_6 : decode b_Te_byteAt 6 = .ok (.getfield 11, 3) := by decide +kernel
theorem d_Te_byteAt_9 : decode b_Te_byteAt 9 = .ok (.arraylength, 1) := by decide +kernel
theorem d_Te_byteAt_10 : decode b_Te_byteAt 10 = .ok (.if_icmp .ge 12, 3) := by decide +kernel
theorem d_Te_byteAt_13 : decode b_Te_byteAt 13 = .ok (.aload_n 0, 1) := by decide +kernel
theorem d_Te_byteAt_14 : decode b_Te_byteAt 14 = .ok (.getfield 11, 3) := by decide +kernel
theorem d_Te_byteAt_17 : decode b_Te_byteAt 17 = .ok (.iload_n 1, 1) := by decide +kernel
theorem d_Te_byteAt_18 : decode b_Te_byteAt 18 = .ok (.baload, 1) := by decide +kernel
theorem d_Te_byteAt_19 : decode b_Te_byteAt 19 = .ok (.goto 4, 3) := by decide +kernel
theorem d_Te_byteAt_22 : decode b_Te_byteAt 22 = .ok (.iconst 0, 1) := by decide +kernel
theorem d_Te_byteAt_23 : decode b_Te_byteAt 23 = .ok (.ireturn, 1) := by decide +kernel
theorem d_Te_kindAt_0 : decode b_Te_kindAt 0 = .ok (.iload_n 1, 1) := by decide +kernel
theorem d_Te_kindAt_1 : decode b_Te_kindAt 1 = .ok (.ifCond .lt 21, 3) := by decide +kernel
theorem d_Te_kindAt_4 : decode b_Te_kindAt 4 = .ok (.iload_n 1, 1) := by decide +kernel
theorem d_Te_kindAt_5 : decode b_Te_kindAt 5 = .ok (.aload_n 0, 1) := by decide +kernel
theorem d_Te_kindAt_6 : decode b_Te_kindAt 6 = .ok (.getfield 11, 3) := by decide +kernel
theorem d_Te_kindAt_9 : decode b_Te_kindAt 9 = .ok (.arraylength, 1) := by decide +kernel
theorem d_Te_kindAt_10 : decode b_Te_kindAt 10 = .ok (.if_icmp .ge 12, 3) := by decide +kernel
theorem d_Te_kindAt_13 : decode b_Te_kindAt 13 = .ok (.aload_n 0, 1) := by decide +kernel
theorem d_Te_kindAt_14 : decode b_Te_kindAt 14 = .ok (.getfield 11, 3) := by decide +kernel
theorem d_Te_kindAt_17 : decode b_Te_kindAt 17 = .ok (.iload_n 1, 1) := by decide +kernel
theorem d_Te_kindAt_18 : decode b_Te_kindAt 18 = .ok (.baload, 1) := by decide +kernel
theorem d_Te_kindAt_19 : decode b_Te_kindAt 19 = .ok (.goto 4, 3) := by decide +kernel
theorem d_Te_kindAt_22 : decode b_Te_kindAt 22 = .ok (.iconst 0, 1) := by decide +kernel
theorem d_Te_kindAt_23 : decode b_Te_kindAt 23 = .ok (.istore_n 2, 1) := by decide +kernel
theorem d_Te_kindAt_24 : decode b_Te_kindAt 24 = .ok (.iload_n 2, 1) := by decide +kernel
theorem d_Te_kindAt_25 : decode b_Te_kindAt 25 = .ok (.bipush 97, 2) := by decide +kernel
theorem d_Te_kindAt_27 : decode b_Te_kindAt 27 = .ok (.if_icmp .lt 12, 3) := by decide +kernel
theorem d_Te_kindAt_30 : decode b_Te_kindAt 30 = .ok (.iload_n 2, 1) := by decide +kernel
theorem d_Te_kindAt_31 : decode b_Te_kindAt 31 = .ok (.bipush 122, 2) := by decide +kernel
theorem d_Te_kindAt_33 : decode b_Te_kindAt 33 = .ok (.if_icmp .gt 6, 3) := by decide +kernel
theorem d_Te_kindAt_36 : decode b_Te_kindAt 36 = .ok (.bipush 97, 2) := by decide +kernel
theorem d_Te_kindAt_38 : decode b_Te_kindAt 38 = .ok (.ireturn, 1) := by decide +kernel
theorem d_Te_kindAt_39 : decode b_Te_kindAt 39 = .ok (.iload_n 2, 1) := by decide +kernel
theorem d_Te_kindAt_40 : decode b_Te_kindAt 40 = .ok (.bipush 48, 2) := by decide +kernel
theorem d_Te_kindAt_42 : decode b_Te_kindAt 42 = .ok (.if_icmp .lt 12, 3) := by decide +kernel
theorem d_Te_kindAt_45 : decode b_Te_kindAt 45 = .ok (.iload_n 2, 1) := by decide +kernel
theorem d_Te_kindAt_46 : decode b_Te_kindAt 46 = .ok (.bipush 57, 2) := by decide +kernel
theorem d_Te_kindAt_48 : decode b_Te_kindAt 48 = .ok (.if_icmp .gt 6, 3) := by decide +kernel
theorem d_Te_kindAt_51 : decode b_Te_kindAt 51 = .ok (.bipush 48, 2) := by decide +kernel
theorem d_Te_kindAt_53 : decode b_Te_kindAt 53 = .ok (.ireturn, 1) := by decide +kernel
theorem d_Te_kindAt_54 : decode b_Te_kindAt 54 = .ok (.iload_n 2, 1) := by decide +kernel
theorem d_Te_kindAt_55 : decode b_Te_kindAt 55 = .ok (.bipush 32, 2) := by decide +kernel
theorem d_Te_kindAt_57 : decode b_Te_kindAt 57 = .ok (.if_icmp .eq 9, 3) := by decide +kernel
theorem d_Te_kindAt_60 : decode b_Te_kindAt 60 = .ok (.iload_n 2, 1) := by decide +kernel
theorem d_Te_kindAt_61 : decode b_Te_kindAt 61 = .ok (.bipush 10, 2) := by decide +kernel
theorem d_Te_kindAt_63 : decode b_Te_kindAt 63 = .ok (.if_icmp .ne 6, 3) := by decide +kernel
theorem d_Te_kindAt_66 : decode b_Te_kindAt 66 = .ok (.bipush 32, 2) := by decide +kernel
theorem d_Te_kindAt_68 : decode b_Te_kindAt 68 = .ok (.ireturn, 1) := by decide +kernel
theorem d_Te_kindAt_69 : decode b_Te_kindAt 69 = .ok (.iload_n 2, 1) := by decide +kernel
theorem d_Te_kindAt_70 : decode b_Te_kindAt 70 = .ok (.bipush 59, 2) := by decide +kernel
theorem d_Te_kindAt_72 : decode b_Te_kindAt 72 = .ok (.if_icmp .eq 21, 3) := by decide +kernel
theorem d_Te_kindAt_75 : decode b_Te_kindAt 75 = .ok (.iload_n 2, 1) := by decide +kernel
theorem d_Te_kindAt_76 : decode b_Te_kindAt 76 = .ok (.bipush 40, 2) := by decide +kernel
theorem d_Te_kindAt_78 : decode b_Te_kindAt 78 = .ok (.if_icmp .eq 15, 3) := by decide +kernel
theorem d_Te_kindAt_81 : decode b_Te_kindAt 81 = .ok (.iload_n 2, 1) := by decide +kernel
theorem d_Te_kindAt_82 : decode b_Te_kindAt 82 = .ok (.bipush 41, 2) := by decide +kernel
theorem d_Te_kindAt_84 : decode b_Te_kindAt 84 = .ok (.if_icmp .eq 9, 3) := by decide +kernel
theorem d_Te_kindAt_87 : decode b_Te_kindAt 87 = .ok (.iload_n 2, 1) := by decide +kernel
theorem d_Te_kindAt_88 : decode b_Te_kindAt 88 = .ok (.bipush 45, 2) := by decide +kernel
theorem d_Te_kindAt_90 : decode b_Te_kindAt 90 = .ok (.if_icmp .ne 7, 3) := by decide +kernel
theorem d_Te_kindAt_93 : decode b_Te_kindAt 93 = .ok (.iload_n 2, 1) := by decide +kernel
theorem d_Te_kindAt_94 : decode b_Te_kindAt 94 = .ok (.goto 4, 3) := by decide +kernel
theorem d_Te_kindAt_97 : decode b_Te_kindAt 97 = .ok (.iconst 1, 1) := by decide +kernel
theorem d_Te_kindAt_98 : decode b_Te_kindAt 98 = .ok (.ireturn, 1) := by decide +kernel
