theorem d_Db_init_0 : decode b_Db_init 0 = .ok (.aload_n 0, 1) := by decide +kernel
theorem d_Db_init_1 : decode b_Db_init 1 = .ok (.invokespecial 1, 3) := by decide +kernel
theorem d_Db_init_4 : decode b_Db_init 4 = .ok (.aload_n 0, 1) := by decide +kernel
theorem d_Db_init_5 : decode b_Db_init 5 = .ok (.new 7, 3) := by decide +kernel
theorem d_Db_init_8 : decode b_Db_init 8 = .ok (.dup, 1) := by decide +kernel
theorem d_Db_init_9 : decode b_Db_init 9 = .ok (.invokespecial 9, 3) := by decide +kernel
theorem d_Db_init_12 : decode b_Db_init 12 = .ok (.putfield 10, 3) := by decide +kernel
theorem d_Db_init_15 : decode b_Db_init 15 = .ok (.aload_n 0, 1) := by decide +kernel
theorem d_Db_init_16 : decode b_Db_init 16 = .ok (.new 16, 3) := by decide +kernel
theorem d_Db_init_19 : decode b_Db_init 19 = .ok (.dup, 1) := by decide +kernel
theorem d_Db_init_20 : decode b_Db_init 20 = .ok (.invokespecial 18, 3) := by decide +kernel
theorem d_Db_init_23 : decode b_Db_init 23 = .ok (.putfield 19, 3) := by decide +kernel
theorem d_Db_init_26 : decode b_Db_init 26 = .ok (.aload_n 0, 1) := by decide +kernel
theorem d_Db_init_27 : decode b_Db_init 27 = .ok (.new 23, 3) := by decide +kernel
theorem d_Db_init_30 : decode b_Db_init 30 = .ok (.dup, 1) := by decide +kernel
theorem d_Db_init_31 : decode b_Db_init 31 = .ok (.aload_n 0, 1) := by decide +kernel
theorem d_Db_init_32 : decode b_Db_init 32 = .ok (.getfield 10, 3) := by decide +kernel
theorem d_Db_init_35 : decode b_Db_init 35 = .ok (.invokespecial 25, 3) := by decide +kernel
theorem d_Db_init_38 : decode b_Db_init 38 = .ok (.putfield 28, 3) := by decide +kernel
theorem d_Db_init_41 : decode b_Db_init 41 = .ok (.aload_n 0, 1) := by decide +kernel
theorem d_Db_init_42 : decode b_Db_init 42 = .ok (.new 32, 3) := by decide +kernel
theorem d_Db_init_45 : decode b_Db_init 45 = .ok (.dup, 1) := by decide +kernel
theorem d_Db_init_46 : decode b_Db_init 46 = .ok (.aload_n 0, 1) := by decide +kernel
theorem d_Db_init_47 : decode b_Db_init 47 = .ok (.getfield 10, 3) := by decide +kernel
theorem d_Db_init_50 : decode b_Db_init 50 = .ok (.invokespecial 34, 3) := by decide +kernel
theorem d_Db_init_53 : decode b_Db_init 53 = .ok (.putfield 35, 3) := by decide +kernel
theorem d_Db_init_56 : decode b_Db_init 56 = .ok (.aload_n 0, 1) := by decide +kernel
theorem d_Db_init_57 : decode b_Db_init 57 = .ok (.new 39, 3) := by decide +kernel
theorem d_Db_init_60 : decode b_Db_init 60 = .ok (.dup, 1) := by decide +kernel
theorem d_Db_init_61 : decode b_Db_init 61 = .ok (.aload_n 0, 1) := by decide +kernel
theorem d_Db_init_62 : decode b_Db_init 62 = .ok (.getfield 19, 3) := by decide +kernel
theorem d_Db_init_65 : decode b_Db_init 65 = .ok (.invokespecial 41, 3) := by decide +kernel
theorem d_Db_init_68 : decode b_Db_init 68 = .ok (.putfield 44, 3) := by decide +kernel
theorem d_Db_init_71 : decode b_Db_init 71 = .ok (.aload_n 0, 1) := by decide +kernel
theorem d_Db_init_72 : decode b_Db_init 72 = .ok (.new 48, 3) := by decide +kernel
theorem d_Db_init_75 : decode b_Db_init 75 = .ok (.dup, 1) := by decide +kernel
theorem d_Db_init_76 : decode b_Db_init 76 = .ok (.aload_n 0, 1) := by decide +kernel
theorem d_Db_init_77 : decode b_Db_init 77 = .ok (.getfield 19, 3) := by decide +kernel
theorem d_Db_init_80 : decode b_Db_init 80 = .ok (.invokespecial 50, 3) := by decide +kernel
theorem d_Db_init_83 : decode b_Db_init 83 = .ok (.putfield 51, 3) := by decide +kernel
theorem d_Db_init_86 : decode b_Db_init 86 = .ok (.aload_n 0, 1) := by decide +kernel
theorem d_Db_init_87 : decode b_Db_init 87 = .ok (.new 55, 3) := by decide +kernel
theorem d_Db_init_90 : decode b_Db_init 90 = .ok (.dup, 1) := by decide +kernel
theorem d_Db_init_91 : decode b_Db_init 91 = .ok (.invokespecial 57, 3) := by decide +kernel
theorem d_Db_init_94 : decode b_Db_init 94 = .ok (.putfield 58, 3) := by decide +kernel
theorem d_Db_init_97 : decode b_Db_init 97 = .ok (.aload_n 0, 1) := by decide +kernel
theorem d_Db_init_98 : decode b_Db_init 98 = .ok (.bipush 8, 2) := by decide +kernel
theorem d_Db_init_100 : decode b_Db_init 100 = .ok (.anewarray 39, 3) := by decide +kernel
theorem d_Db_init_103 : decode b_Db_init 103 = .ok (.putfield 62, 3) := by decide +kernel
theorem d_Db_init_106 : decode b_Db_init 106 = .ok (.iconst 0, 1) := by decide +kernel
theorem d_Db_init_107 : decode b_Db_init 107 = .ok (.istore_n 1, 1) := by decide +kernel
theorem d_Db_init_108 : decode b_Db_init 108 = .ok (.iload_n 1, 1) := by decide +kernel
theorem d_Db_init_109 : decode b_Db_init 109 = .ok (.bipush 8, 2) := by decide +kernel
theorem d_Db_init_111 : decode b_Db_init 111 = .ok (.if_icmp .ge 26, 3) := by decide +kernel
theorem d_Db_init_114 : decode b_Db_init 114 = .ok (.aload_n 0, 1) := by decide +kernel
theorem d_Db_init_115 : decode b_Db_init 115 = .ok (.getfield 62, 3) := by decide +kernel
theorem d_Db_init_118 : decode b_Db_init 118 = .ok (.iload_n 1, 1) := by decide +kernel
theorem d_Db_init_119 : decode b_Db_init 119 = .ok (.new 39, 3) := by decide +kernel
theorem d_Db_init_122 : decode b_Db_init 122 = .ok (.dup, 1) := by decide +kernel
theorem d_Db_init_123 : decode b_Db_init 123 = .ok (.aload_n 0, 1) := by decide +kernel
theorem d_Db_init_124 : decode b_Db_init 124 = .ok (.getfield 19, 3) := by decide +kernel
theorem d_Db_init_127 : decode b_Db_init 127 = .ok (.invokespecial 41, 3) := by decide +kernel
theorem d_Db_init_130 : decode b_Db_init 130 = .ok (.aastore, 1) := by decide +kernel
theorem d_Db_init_131 : decode b_Db_init 131 = .ok (.iinc 1 1, 3) := by decide +kernel
theorem d_Db_init_134 : decode b_Db_init 134 = .ok (.goto (-26), 3) := by decide +kernel
theorem d_Db_init_137 : decode b_Db_init 137 = .ok (.aload_n 0, 1) := by decide +kernel
theorem d_Db_init_138 : decode b_Db_init 138 = .ok (.iconst 2, 1) := by decide +kernel
theorem d_Db_init_139 : decode b_Db_init 139 = .ok (.anewarray 39, 3) := by decide +kernel
theorem d_Db_init_142 : decode b_Db_init 142 = .ok (.putfield 66, 3) := by decide +kernel
theorem d_Db_init_145 : decode b_Db_init 145 = .ok (.iconst 0, 1) := by decide +kernel
theorem d_Db_init_146 : decode b_Db_init 146 = .ok (.istore_n 1, 1) := by decide +kernel
theorem d_Db_init_147 : decode b_Db_init 147 = .ok (.iload_n 1, 1) := by decide +kernel
theorem d_Db_init_148 : decode b_Db_init 148 = .ok (.iconst 2, 1) := by decide +kernel
theorem d_Db_init_149 : decode b_Db_init 149 = .ok (.if_icmp .ge 26, 3) := by decide +kernel
theorem d_Db_init_152 : decode b_Db_init 152 = .ok (.aload_n 0, 1) := by decide +kernel
theorem d_Db_init_153 : decode b_Db_init 153 = .ok (.getfield 66, 3) := by decide +kernel
theorem d_Db_init_156 : decode b_Db_init 156 = .ok (.iload_n 1, 1) := by decide +kernel
theorem d_Db_init_157 : decode b_Db_init 157 = .ok (.new 39, 3) := by decide +kernel
theorem d_Db_init_160 : decode b_Db_init 160 = .ok (.dup, 1) := by decide +kernel
theorem d_Db_init_161 : decode b_Db_init 161 = .ok (.aload_n 0, 1) := by decide +kernel
theorem d_Db_init_162 : decode b_Db_init 162 = .ok (.getfield 19, 3) := by decide +kernel
theorem d_Db_init_165 : decode b_Db_init 165 = .ok (.invokespecial 41, 3) := by decide +kernel
theorem d_Db_init_168 : decode b_Db_init 168 = .ok (.aastore, 1) := by decide +kernel
theorem d_Db_init_169 : decode b_Db_init 169 = .ok (.iinc 1 1, 3) := by decide +kernel
theorem d_Db_init_172 : decode b_Db_init 172 = .ok (.goto (-25), 3) := by decide +kernel
theorem d_Db_init_175 : decode b_Db_init 175 = .ok (.aload_n 0, 1) := by decide +kernel
theorem d_Db_init_176 : decode b_Db_init 176 = .ok (.iconst 2, 1) := by decide +kernel
theorem d_Db_init_177 : decode b_Db_init 177 = .ok (.newarray .boolean, 2) := by decide +kernel
theorem d_Db_init_179 : decode b_Db_init 179 = .ok (.putfield 69, 3) := by decide +kernel
theorem d_Db_init_182 : decode b_Db_init 182 = .ok (.return_, 1) := by decide +kernel
theorem d_Db_feed_0 : decode b_Db_feed 0 = .ok (.iload_n 1, 1) := by decide +kernel
theorem d_Db_feed_1 : decode b_Db_feed 1 = .ok (.invokestatic 73, 3) := by decide +kernel
theorem d_Db_feed_4 : decode b_Db_feed 4 = .ok (.iload_n 2, 1) := by decide +kernel
theorem d_Db_feed_5 : decode b_Db_feed 5 = .ok (.invokestatic 73, 3) := by decide +kernel
theorem d_Db_feed_8 : decode b_Db_feed 8 = .ok (.iadd, 1) := by decide +kernel
theorem d_Db_feed_9 : decode b_Db_feed 9 = .ok (.iload_n 3, 1) := by decide +kernel
theorem d_Db_feed_10 : decode b_Db_feed 10 = .ok (.invokestatic 73, 3) := by decide +kernel
theorem d_Db_feed_13 : decode b_Db_feed 13 = .ok (.iadd, 1) := by decide +kernel
theorem d_Db_feed_14 : decode b_Db_feed 14 = .ok (.iload 4, 2) := by decide +kernel
theorem d_Db_feed_16 : decode b_Db_feed 16 = .ok (.invokestatic 73, 3) := by decide +kernel
theorem d_Db_feed_19 : decode b_Db_feed 19 = .ok (.iadd, 1) := by decide +kernel
theorem d_Db_feed_20 : decode b_Db_feed 20 = .ok (.iload 5, 2) := by decide +kernel
theorem d_Db_feed_22 : decode b_Db_feed 22 = .ok (.invokestatic 73, 3) := by decide +kernel
theorem d_Db_feed_25 : decode b_Db_feed 25 = .ok (.iadd, 1) := by decide +kernel
theorem d_Db_feed_26 : decode b_Db_feed 26 = .ok (.istore 6, 2) := by decide +kernel
theorem d_Db_feed_28 : decode b_Db_feed 28 = .ok (.aload_n 0, 1) := by decide +kernel
theorem d_Db_feed_29 : decode b_Db_feed 29 = .ok (.getfield 10, 3) := by decide +kernel
theorem d_Db_feed_32 : decode b_Db_feed 32 = .ok (.getfield 77, 3) := by decide +kernel
theorem d_Db_feed_35 : decode b_Db_feed 35 = .ok (.iload 6, 2) := by decide +kernel
theorem d_Db_feed_37 : decode b_Db_feed 37 = .ok (.iadd, 1) := by decide +kernel
theorem d_Db_feed_38 : decode b_Db_feed 38 = .ok (.sipush 600, 3) := by decide +kernel
theorem d_Db_feed_41 : decode b_Db_feed 41 = .ok (.if_icmp .le 5, 3) := by decide +kernel
theorem d_Db_feed_44 : decode b_Db_feed 44 = .ok (.iconst (-1), 1) := by decide +kernel
theorem d_Db_feed_45 : decode b_Db_feed 45 = .ok (.ireturn, 1) := by decide +kernel
theorem d_Db_feed_46 : decode b_Db_feed 46 = .ok (.aload_n 0, 1) := by decide +kernel
theorem d_Db_feed_47 : decode b_Db_feed 47 = .ok (.getfield 10, 3) := by decide +kernel
theorem d_Db_feed_50 : decode b_Db_feed 50 = .ok (.iload_n 1, 1) := by decide +kernel
theorem d_Db_feed_51 : decode b_Db_feed 51 = .ok (.invokevirtual 81, 3) := by decide +kernel
theorem d_Db_feed_54 : decode b_Db_feed 54 = .ok (.aload_n 0, 1) := by decide +kernel
theorem d_Db_feed_55 : decode b_Db_feed 55 = .ok (.getfield 10, 3) := by decide +kernel
theorem d_Db_feed_58 : decode b_Db_feed 58 = .ok (.iload_n 2, 1) := by decide +kernel
theorem d_Db_feed_59 : decode b_Db_feed 59 = .ok (.invokevirtual 81, 3) := by decide +kernel
theorem d_Db_feed_62 : decode b_Db_feed 62 = .ok (.aload_n 0, 1) := by decide +kernel
theorem d_Db_feed_63 : decode b_Db_feed 63 = .ok (.getfield 10, 3) := by decide +kernel
theorem d_Db_feed_66 : decode b_Db_feed 66 = .ok (.iload_n 3, 1) := by decide +kernel
theorem d_Db_feed_67 : decode b_Db_feed 67 = .ok (.invokevirtual 81, 3) := by decide +kernel
theorem d_Db_feed_70 : decode b_Db_feed 70 = .ok (.aload_n 0, 1) := by decide +kernel
theorem d_Db_feed_71 : decode b_Db_feed 71 = .ok (.getfield 10, 3) := by decide +kernel
theorem d_Db_feed_74 : decode b_Db_feed 74 = .ok (.iload 4, 2) := by decide +kernel
theorem d_Db_feed_76 : decode b_Db_feed 76 = .ok (.invokevirtual 81, 3) := by decide +kernel
theorem d_Db_feed_79 : decode b_Db_feed 79 = .ok (.aload_n 0, 1) := by decide +kernel
theorem d_Db_feed_80 : decode b_Db_feed 80 = .ok (.getfield 10, 3) := by decide +kernel
theorem d_Db_feed_83 : decode b_Db_feed 83 = .ok (.iload 5, 2) := by decide +kernel
theorem d_Db_feed_85 : decode b_Db_feed 85 = .ok (.invokevirtual 81, 3) := by decide +kernel
theorem d_Db_feed_88 : decode b_Db_feed 88 = .ok (.aload_n 0, 1) := by decide +kernel
theorem d_Db_feed_89 : decode b_Db_feed 89 = .ok (.getfield 10, 3) := by decide +kernel
theorem d_Db_feed_92 : decode b_Db_feed 92 = .ok (.getfield 77, 3) := by decide +kernel
theorem d_Db_feed_95 : decode b_Db_feed 95 = .ok (.ireturn, 1) := by decide +kernel
theorem d_Db_load_0 : decode b_Db_load 0 = .ok (.aload_n 0, 1) := by decide +kernel
theorem d_Db_load_1 : decode b_Db_load 1 = .ok (.getfield 28, 3) := by decide +kernel
theorem d_Db_load_4 : decode b_Db_load 4 = .ok (.invokevirtual 85, 3) := by decide +kernel
theorem d_Db_load_7 : decode b_Db_load 7 = .ok (.istore_n 1, 1) := by decide +kernel
theorem d_Db_load_8 : decode b_Db_load 8 = .ok (.aload_n 0, 1) := by decide +kernel
theorem d_Db_load_9 : decode b_Db_load 9 = .ok (.getfield 10, 3) := by decide +kernel
theorem d_Db_load_12 : decode b_Db_load 12 = .ok (.invokevirtual 89, 3) := by decide +kernel
theorem d_Db_load_15 : decode b_Db_load 15 = .ok (.iload_n 1, 1) := by decide +kernel
theorem d_Db_load_16 : decode b_Db_load 16 = .ok (.ifCond .ne 14, 3) := by decide +kernel
theorem d_Db_load_19 : decode b_Db_load 19 = .ok (.bipush (-10), 2) := by decide +kernel
theorem d_Db_load_21 : decode b_Db_load 21 = .ok (.aload_n 0, 1) := by decide +kernel
theorem d_Db_load_22 : decode b_Db_load 22 = .ok (.getfield 10, 3) := by decide +kernel
theorem d_Db_load_25 : decode b_Db_load 25 = .ok (.getfield 92, 3) := by decide +kernel
theorem d_Db_load_28 : decode b_Db_load 28 = .ok (.isub, 1) := by decide +kernel
theorem d_Db_load_29 : decode b_Db_load 29 = .ok (.ireturn, 1) := by decide +kernel
theorem d_Db_load_30 : decode b_Db_load 30 = .ok (.aload_n 0, 1) := by decide +kernel
theorem d_Db_load_31 : decode b_Db_load 31 = .ok (.getfield 19, 3) := by decide +kernel
theorem d_Db_load_34 : decode b_Db_load 34 = .ok (.aload_n 0, 1) := by decide +kernel
theorem d_Db_load_35 : decode b_Db_load 35 = .ok (.getfield 28, 3) := by decide +kernel
theorem d_Db_load_38 : decode b_Db_load 38 = .ok (.getfield 95, 3) := by decide +kernel
theorem d_Db_load_41 : decode b_Db_load 41 = .ok (.invokevirtual 98, 3) := by decide +kernel
theorem d_Db_load_44 : decode b_Db_load 44 = .ok (.aload_n 0, 1) := by decide +kernel
theorem d_Db_load_45 : decode b_Db_load 45 = .ok (.getfield 44, 3) := by decide +kernel
theorem d_Db_load_48 : decode b_Db_load 48 = .ok (.invokevirtual 101, 3) := by decide +kernel
theorem d_Db_load_51 : decode b_Db_load 51 = .ok (.aload_n 0, 1) := by decide +kernel
theorem d_Db_load_52 : decode b_Db_load 52 = .ok (.invokevirtual 104, 3) := by decide +kernel
theorem d_Db_load_55 : decode b_Db_load 55 = .ok (.iconst 0, 1) := by decide +kernel
theorem d_Db_load_56 : decode b_Db_load 56 = .ok (.istore_n 2, 1) := by decide +kernel
theorem d_Db_load_57 : decode b_Db_load 57 = .ok (.iload_n 2, 1) := by decide +kernel
theorem d_Db_load_58 : decode b_Db_load 58 = .ok (.aload_n 0, 1) := by decide +kernel
theorem d_Db_load_59 : decode b_Db_load 59 = .ok (.getfield 69, 3) := by decide +kernel
theorem d_Db_load_62 : decode b_Db_load 62 = .ok (.arraylength, 1) := by decide +kernel
theorem d_Db_load_63 : decode b_Db_load 63 = .ok (.if_icmp .ge 16, 3) := by decide +kernel
theorem d_Db_load_66 : decode b_Db_load 66 = .ok (.aload_n 0, 1) := by decide +kernel
theorem d_Db_load_67 : decode b_Db_load 67 = .ok (.getfield 69, 3) := by decide +kernel
theorem d_Db_load_70 : decode b_Db_load 70 = .ok (.iload_n 2, 1) := by decide +kernel
theorem d_Db_load_71 : decode b_Db_load 71 = .ok (.iconst 0, 1) := by decide +kernel
theorem d_Db_load_72 : decode b_Db_load 72 = .ok (.bastore, 1) := by decide +kernel
theorem d_Db_load_73 : decode b_Db_load 73 = .ok (.iinc 2 1, 3) := by decide +kernel
theorem d_Db_load_76 : decode b_Db_load 76 = .ok (.goto (-19), 3) := by decide +kernel
theorem d_Db_load_79 : decode b_Db_load 79 = .ok (.aload_n 0, 1) := by decide +kernel
theorem d_Db_load_80 : decode b_Db_load 80 = .ok (.getfield 19, 3) := by decide +kernel
theorem d_Db_load_83 : decode b_Db_load 83 = .ok (.getfield 107, 3) := by decide +kernel
theorem d_Db_load_86 : decode b_Db_load 86 = .ok (.ireturn, 1) := by decide +kernel
theorem d_Db_run_0 : decode b_Db_run 0 = .ok (.aload_n 0, 1) := by decide +kernel
theorem d_Db_run_1 : decode b_Db_run 1 = .ok (.getfield 35, 3) := by decide +kernel
theorem d_Db_run_4 : decode b_Db_run 4 = .ok (.invokevirtual 110, 3) := by decide +kernel
theorem d_Db_run_7 : decode b_Db_run 7 = .ok (.istore_n 1, 1) := by decide +kernel
theorem d_Db_run_8 : decode b_Db_run 8 = .ok (.aload_n 0, 1) := by decide +kernel
theorem d_Db_run_9 : decode b_Db_run 9 = .ok (.getfield 10, 3) := by decide +kernel
theorem d_Db_run_12 : decode b_Db_run 12 = .ok (.invokevirtual 89, 3) := by decide +kernel
theorem d_Db_run_15 : decode b_Db_run 15 = .ok (.iload_n 1, 1) := by decide +kernel
theorem d_Db_run_16 : decode b_Db_run 16 = .ok (.ifCond .ne 14, 3) := by decide +kernel
theorem d_Db_run_19 : decode b_Db_run 19 = .ok (.bipush (-10), 2) := by decide +kernel
theorem d_Db_run_21 : decode b_Db_run 21 = .ok (.aload_n 0, 1) := by decide +kernel
theorem d_Db_run_22 : decode b_Db_run 22 = .ok (.getfield 10, 3) := by decide +kernel
theorem d_Db_run_25 : decode b_Db_run 25 = .ok (.getfield 92, 3) := by decide +kernel
theorem d_Db_run_28 : decode b_Db_run 28 = .ok (.isub, 1) := by decide +kernel
theorem d_Db_run_29 : decode b_Db_run 29 = .ok (.ireturn, 1) := by decide +kernel
theorem d_Db_run_30 : decode b_Db_run 30 = .ok (.aload_n 0, 1) := by decide +kernel
theorem d_Db_run_31 : decode b_Db_run 31 = .ok (.invokevirtual 111, 3) := by decide +kernel
theorem d_Db_run_34 : decode b_Db_run 34 = .ok (.aload_n 0, 1) := by decide +kernel
theorem d_Db_run_35 : decode b_Db_run 35 = .ok (.getfield 35, 3) := by decide +kernel
theorem d_Db_run_38 : decode b_Db_run 38 = .ok (.invokevirtual 114, 3) := by decide +kernel
theorem d_Db_run_41 : decode b_Db_run 41 = .ok (.iconst 0, 1) := by decide +kernel
theorem d_Db_run_42 : decode b_Db_run 42 = .ok (.istore_n 2, 1) := by decide +kernel
theorem d_Db_run_43 : decode b_Db_run 43 = .ok (.iconst 0, 1) := by decide +kernel
theorem d_Db_run_44 : decode b_Db_run 44 = .ok (.istore_n 3, 1) := by decide +kernel
theorem d_Db_run_45 : decode b_Db_run 45 = .ok (.iload_n 3, 1) := by decide +kernel
theorem d_Db_run_46 : decode b_Db_run 46 = .ok (.bipush 60, 2) := by decide +kernel
theorem d_Db_run_48 : decode b_Db_run 48 = .ok (.if_icmp .ge 45, 3) := by decide +kernel
theorem d_Db_run_51 : decode b_Db_run 51 = .ok (.aload_n 0, 1) := by decide +kernel
theorem d_Db_run_52 : decode b_Db_run 52 = .ok (.getfield 35, 3) := by decide +kernel
theorem d_Db_run_55 : decode b_Db_run 55 = .ok (.aload_n 0, 1) := by decide +kernel
theorem d_Db_run_56 : decode b_Db_run 56 = .ok (.getfield 44, 3) := by decide +kernel
theorem d_Db_run_59 : decode b_Db_run 59 = .ok (.invokevirtual 117, 3) := by decide +kernel
theorem d_Db_run_62 : decode b_Db_run 62 = .ok (.invokevirtual 120, 3) := by decide +kernel
theorem d_Db_run_65 : decode b_Db_run 65 = .ok (.istore 4, 2) := by decide +kernel
theorem d_Db_run_67 : decode b_Db_run 67 = .ok (.iload 4, 2) := by decide +kernel
theorem d_Db_run_69 : decode b_Db_run 69 = .ok (.iconst (-1), 1) := by decide +kernel
theorem d_Db_run_70 : decode b_Db_run 70 = .ok (.if_icmp .eq 12, 3) := by decide +kernel
theorem d_Db_run_73 : decode b_Db_run 73 = .ok (.aload_n 0, 1) := by decide +kernel
theorem d_Db_run_74 : decode b_Db_run 74 = .ok (.iload 4, 2) := by decide +kernel
theorem d_Db_run_76 : decode b_Db_run 76 = .ok (.invokevirtual 124, 3) := by decide +kernel
theorem d_Db_run_79 : decode b_Db_run 79 = .ok (.ifCond .ne 5, 3) := by decide +kernel
theorem d_Db_run_82 : decode b_Db_run 82 = .ok (.iload_n 2, 1) := by decide +kernel
theorem d_Db_run_83 : decode b_Db_run 83 = .ok (.ireturn, 1) := by decide +kernel
theorem d_Db_run_84 : decode b_Db_run 84 = .ok (.iinc 2 1, 3) := by decide +kernel
theorem d_Db_run_87 : decode b_Db_run 87 = .ok (.iinc 3 1, 3) := by decide +kernel
theorem d_Db_run_90 : decode b_Db_run 90 = .ok (.goto (-45), 3) := by decide +kernel
theorem d_Db_run_93 : decode b_Db_run 93 = .ok (.iload_n 2, 1) := by decide +kernel
theorem d_Db_run_94 : decode b_Db_run 94 = .ok (.ireturn, 1) := by decide +kernel
theorem d_Db_errorPosition_0 : decode b_Db_errorPosition 0 = .ok (.aload_n 0, 1) := by decide +kernel
theorem d_Db_errorPosition_1 : decode b_Db_errorPosition 1 = .ok (.getfield 10, 3) := by decide +kernel
theorem d_Db_errorPosition_4 : decode b_Db_errorPosition 4 = .ok (.getfield 128, 3) := by decide +kernel
theorem d_Db_errorPosition_7 : decode b_Db_errorPosition 7 = .ok (.ireturn, 1) := by decide +kernel
theorem d_Db_size_0 : decode b_Db_size 0 = .ok (.iload_n 1, 1) := by decide +kernel
theorem d_Db_size_1 : decode b_Db_size 1 = .ok (.iconst 0, 1) := by decide +kernel
theorem d_Db_size_2 : decode b_Db_size 2 = .ok (.bipush 19, 2) := by decide +kernel
theorem d_Db_size_4 : decode b_Db_size 4 = .ok (.invokestatic 131, 3) := by decide +kernel
theorem d_Db_size_7 : decode b_Db_size 7 = .ok (.iload_n 1, 1) := by decide +kernel
theorem d_Db_size_8 : decode b_Db_size 8 = .ok (.tableswitch 282 0 18 #[92, 100, 108, 116, 127, 135, 143, 151, 159, 170, 181, 192, 203, 222, 233, 244, 252, 260, 271], 92) := by decide +kernel
theorem d_Db_size_100 : decode b_Db_size 100 = .ok (.aload_n 0, 1) := by decide +kernel
theorem d_Db_size_101 : decode b_Db_size 101 = .ok (.getfield 19, 3) := by decide +kernel
theorem d_Db_size_104 : decode b_Db_size 104 = .ok (.getfield 107, 3) := by decide +kernel
theorem d_Db_size_107 : decode b_Db_size 107 = .ok (.ireturn, 1) := by decide +kernel
theorem d_Db_size_108 : decode b_Db_size 108 = .ok (.aload_n 0, 1) := by decide +kernel
theorem d_Db_size_109 : decode b_Db_size 109 = .ok (.getfield 19, 3) := by decide +kernel
theorem d_Db_size_112 : decode b_Db_size 112 = .ok (.getfield 135, 3) := by decide +kernel
theorem d_Db_size_115 : decode b_Db_size 115 = .ok (.ireturn, 1) := by decide +kernel
theorem d_Db_size_116 : decode b_Db_size 116 = .ok (.aload_n 0, 1) := by decide +kernel
theorem d_Db_size_117 : decode b_Db_size 117 = .ok (.getfield 19, 3) := by decide +kernel
theorem d_Db_size_120 : decode b_Db_size 120 = .ok (.getfield 138, 3) := by decide +kernel
theorem d_Db_size_123 : decode b_Db_size 123 = .ok (.ireturn, 1) := by decide +kernel
theorem d_Db_size_124 : decode b_Db_size 124 = .ok (.aload_n 0, 1) := by decide +kernel
theorem d_Db_size_125 : decode b_Db_size 125 = .ok (.getfield 44, 3) := by decide +kernel
theorem d_Db_size_128 : decode b_Db_size 128 = .ok (.getfield 141, 3) := by decide +kernel
theorem d_Db_size_131 : decode b_Db_size 131 = .ok (.getfield 145, 3) := by decide +kernel
theorem d_Db_size_134 : decode b_Db_size 134 = .ok (.ireturn, 1) := by decide +kernel
theorem d_Db_size_135 : decode b_Db_size 135 = .ok (.aload_n 0, 1) := by decide +kernel
theorem d_Db_size_136 : decode b_Db_size 136 = .ok (.getfield 19, 3) := by decide +kernel
theorem d_Db_size_139 : decode b_Db_size 139 = .ok (.getfield 150, 3) := by decide +kernel
theorem d_Db_size_142 : decode b_Db_size 142 = .ok (.ireturn, 1) := by decide +kernel
theorem d_Db_size_143 : decode b_Db_size 143 = .ok (.aload_n 0, 1) := by decide +kernel
theorem d_Db_size_144 : decode b_Db_size 144 = .ok (.getfield 19, 3) := by decide +kernel
theorem d_Db_size_147 : decode b_Db_size 147 = .ok (.getfield 153, 3) := by decide +kernel
theorem d_Db_size_150 : decode b_Db_size 150 = .ok (.ireturn, 1) := by decide +kernel
theorem d_Db_size_151 : decode b_Db_size 151 = .ok (.aload_n 0, 1) := by decide +kernel
theorem d_Db_size_152 : decode b_Db_size 152 = .ok (.getfield 19, 3) := by decide +kernel
theorem d_Db_size_155 : decode b_Db_size 155 = .ok (.getfield 156, 3) := by decide +kernel
theorem d_Db_size_158 : decode b_Db_size 158 = .ok (.ireturn, 1) := by decide +kernel
theorem d_Db_size_159 : decode b_Db_size 159 = .ok (.aload_n 0, 1) := by decide +kernel
theorem d_Db_size_160 : decode b_Db_size 160 = .ok (.getfield 19, 3) := by decide +kernel
theorem d_Db_size_163 : decode b_Db_size 163 = .ok (.getfield 159, 3) := by decide +kernel
theorem d_Db_size_166 : decode b_Db_size 166 = .ok (.ireturn, 1) := by decide +kernel
theorem d_Db_size_167 : decode b_Db_size 167 = .ok (.aload_n 0, 1) := by decide +kernel
theorem d_Db_size_168 : decode b_Db_size 168 = .ok (.getfield 44, 3) := by decide +kernel
theorem d_Db_size_171 : decode b_Db_size 171 = .ok (.getfield 141, 3) := by decide +kernel
theorem d_Db_size_174 : decode b_Db_size 174 = .ok (.getfield 162, 3) := by decide +kernel
theorem d_Db_size_177 : decode b_Db_size 177 = .ok (.ireturn, 1) := by decide +kernel
theorem d_Db_size_178 : decode b_Db_size 178 = .ok (.aload_n 0, 1) := by decide +kernel
theorem d_Db_size_179 : decode b_Db_size 179 = .ok (.getfield 44, 3) := by decide +kernel
theorem d_Db_size_182 : decode b_Db_size 182 = .ok (.getfield 141, 3) := by decide +kernel
theorem d_Db_size_185 : decode b_Db_size 185 = .ok (.getfield 165, 3) := by decide +kernel
theorem d_Db_size_188 : decode b_Db_size 188 = .ok (.ireturn, 1) := by decide +kernel
theorem d_Db_size_189 : decode b_Db_size 189 = .ok (.aload_n 0, 1) := by decide +kernel
theorem d_Db_size_190 : decode b_Db_size 190 = .ok (.getfield 44, 3) := by decide +kernel
theorem d_Db_size_193 : decode b_Db_size 193 = .ok (.getfield 141, 3) := by decide +kernel
theorem d_Db_size_196 : decode b_Db_size 196 = .ok (.getfield 168, 3) := by decide +kernel
theorem d_Db_size_199 : decode b_Db_size 199 = .ok (.ireturn, 1) := by decide +kernel
theorem d_Db_size_200 : decode b_Db_size 200 = .ok (.aload_n 0, 1) := by decide +kernel
theorem d_Db_size_201 : decode b_Db_size 201 = .ok (.getfield 44, 3) := by decide +kernel
theorem d_Db_size_204 : decode b_Db_size 204 = .ok (.getfield 141, 3) := by decide +kernel
theorem d_Db_size_207 : decode b_Db_size 207 = .ok (.getfield 171, 3) := by decide +kernel
theorem d_Db_size_210 : decode b_Db_size 210 = .ok (.ireturn, 1) := by decide +kernel
theorem d_Db_size_211 : decode b_Db_size 211 = .ok (.aload_n 0, 1) := by decide +kernel
theorem d_Db_size_212 : decode b_Db_size 212 = .ok (.getfield 44, 3) := by decide +kernel
theorem d_Db_size_215 : decode b_Db_size 215 = .ok (.getfield 141, 3) := by decide +kernel
theorem d_Db_size_218 : decode b_Db_size 218 = .ok (.getfield 174, 3) := by decide +kernel
theorem d_Db_size_221 : decode b_Db_size 221 = .ok (.ifCond .eq 7, 3) := by decide +kernel
theorem d_Db_size_224 : decode b_Db_size 224 = .ok (.iconst 1, 1) := by decide +kernel
theorem d_Db_size_225 : decode b_Db_size 225 = .ok (.goto 4, 3) := by decide +kernel
theorem d_Db_size_228 : decode b_Db_size 228 = .ok (.iconst 0, 1) := by decide +kernel
theorem d_Db_size_229 : decode b_Db_size 229 = .ok (.ireturn, 1) := by decide +kernel
theorem d_Db_size_230 : decode b_Db_size 230 = .ok (.aload_n 0, 1) := by decide +kernel
theorem d_Db_size_231 : decode b_Db_size 231 = .ok (.getfield 44, 3) := by decide +kernel
theorem d_Db_size_234 : decode b_Db_size 234 = .ok (.getfield 141, 3) := by decide +kernel
theorem d_Db_size_237 : decode b_Db_size 237 = .ok (.getfield 178, 3) := by decide +kernel
theorem d_Db_size_240 : decode b_Db_size 240 = .ok (.ireturn, 1) := by decide +kernel
theorem d_Db_size_241 : decode b_Db_size 241 = .ok (.aload_n 0, 1) := by decide +kernel
theorem d_Db_size_242 : decode b_Db_size 242 = .ok (.getfield 44, 3) := by decide +kernel
theorem d_Db_size_245 : decode b_Db_size 245 = .ok (.getfield 141, 3) := by decide +kernel
theorem d_Db_size_248 : decode b_Db_size 248 = .ok (.getfield 181, 3) := by decide +kernel
theorem d_Db_size_251 : decode b_Db_size 251 = .ok (.ireturn, 1) := by decide +kernel
theorem d_Db_size_252 : decode b_Db_size 252 = .ok (.aload_n 0, 1) := by decide +kernel
theorem d_Db_size_253 : decode b_Db_size 253 = .ok (.getfield 44, 3) := by decide +kernel
theorem d_Db_size_256 : decode b_Db_size 256 = .ok (.getfield 184, 3) := by decide +kernel
theorem d_Db_size_259 : decode b_Db_size 259 = .ok (.ireturn, 1) := by decide +kernel
theorem d_Db_size_260 : decode b_Db_size 260 = .ok (.aload_n 0, 1) := by decide +kernel
theorem d_Db_size_261 : decode b_Db_size 261 = .ok (.getfield 44, 3) := by decide +kernel
theorem d_Db_size_264 : decode b_Db_size 264 = .ok (.getfield 187, 3) := by decide +kernel
theorem d_Db_size_267 : decode b_Db_size 267 = .ok (.ireturn, 1) := by decide +kernel
theorem d_Db_size_268 : decode b_Db_size 268 = .ok (.aload_n 0, 1) := by decide +kernel
theorem d_Db_size_269 : decode b_Db_size 269 = .ok (.getfield 44, 3) := by decide +kernel
theorem d_Db_size_272 : decode b_Db_size 272 = .ok (.getfield 190, 3) := by decide +kernel
theorem d_Db_size_275 : decode b_Db_size 275 = .ok (.getfield 194, 3) := by decide +kernel
theorem d_Db_size_278 : decode b_Db_size 278 = .ok (.ireturn, 1) := by decide +kernel
theorem d_Db_size_279 : decode b_Db_size 279 = .ok (.aload_n 0, 1) := by decide +kernel
theorem d_Db_size_280 : decode b_Db_size 280 = .ok (.getfield 44, 3) := by decide +kernel
theorem d_Db_size_283 : decode b_Db_size 283 = .ok (.getfield 190, 3) := by decide +kernel
theorem d_Db_size_286 : decode b_Db_size 286 = .ok (.invokevirtual 199, 3) := by decide +kernel
theorem d_Db_size_289 : decode b_Db_size 289 = .ok (.ireturn, 1) := by decide +kernel
theorem d_Db_size_290 : decode b_Db_size 290 = .ok (.aload_n 0, 1) := by decide +kernel
theorem d_Db_size_291 : decode b_Db_size 291 = .ok (.getfield 203, 3) := by decide +kernel
theorem d_Db_size_294 : decode b_Db_size 294 = .ok (.ireturn, 1) := by decide +kernel
theorem d_Db_ratio_0 : decode b_Db_ratio 0 = .ok (.iload_n 1, 1) := by decide +kernel
theorem d_Db_ratio_1 : decode b_Db_ratio 1 = .ok (.iconst 5, 1) := by decide +kernel
theorem d_Db_ratio_2 : decode b_Db_ratio 2 = .ok (.invokestatic 206, 3) := by decide +kernel
theorem d_Db_ratio_5 : decode b_Db_ratio 5 = .ok (.iload_n 2, 1) := by decide +kernel
theorem d_Db_ratio_6 : decode b_Db_ratio 6 = .ok (.iconst 0, 1) := by decide +kernel
theorem d_Db_ratio_7 : decode b_Db_ratio 7 = .ok (.iconst 2, 1) := by decide +kernel
theorem d_Db_ratio_8 : decode b_Db_ratio 8 = .ok (.invokestatic 131, 3) := by decide +kernel
theorem d_Db_ratio_11 : decode b_Db_ratio 11 = .ok (.iload_n 2, 1) := by decide +kernel
theorem d_Db_ratio_12 : decode b_Db_ratio 12 = .ok (.lookupswitch 42 #[(0, 28), (1, 33)], 28) := by decide +kernel
theorem d_Db_ratio_40 : decode b_Db_ratio 40 = .ok (.iload_n 1, 1) := by decide +kernel
theorem d_Db_ratio_41 : decode b_Db_ratio 41 = .ok (.invokestatic 210, 3) := by decide +kernel
theorem d_Db_ratio_44 : decode b_Db_ratio 44 = .ok (.ireturn, 1) := by decide +kernel
theorem d_Db_ratio_45 : decode b_Db_ratio 45 = .ok (.aload_n 0, 1) := by decide +kernel
theorem d_Db_ratio_46 : decode b_Db_ratio 46 = .ok (.getfield 19, 3) := by decide +kernel
theorem d_Db_ratio_49 : decode b_Db_ratio 49 = .ok (.iload_n 1, 1) := by decide +kernel
theorem d_Db_ratio_50 : decode b_Db_ratio 50 = .ok (.invokevirtual 213, 3) := by decide +kernel
theorem d_Db_ratio_53 : decode b_Db_ratio 53 = .ok (.ireturn, 1) := by decide +kernel
theorem d_Db_ratio_54 : decode b_Db_ratio 54 = .ok (.aload_n 0, 1) := by decide +kernel
theorem d_Db_ratio_55 : decode b_Db_ratio 55 = .ok (.getfield 19, 3) := by decide +kernel
theorem d_Db_ratio_58 : decode b_Db_ratio 58 = .ok (.iload_n 1, 1) := by decide +kernel
theorem d_Db_ratio_59 : decode b_Db_ratio 59 = .ok (.invokevirtual 216, 3) := by decide +kernel
theorem d_Db_ratio_62 : decode b_Db_ratio 62 = .ok (.ireturn, 1) := by decide +kernel
theorem d_Db_decade_0 : decode b_Db_decade 0 = .ok (.iload_n 1, 1) := by decide +kernel
theorem d_Db_decade_1 : decode b_Db_decade 1 = .ok (.aload_n 0, 1) := by decide +kernel
theorem d_Db_decade_2 : decode b_Db_decade 2 = .ok (.getfield 19, 3) := by decide +kernel
theorem d_Db_decade_5 : decode b_Db_decade 5 = .ok (.getfield 107, 3) := by decide +kernel
theorem d_Db_decade_8 : decode b_Db_decade 8 = .ok (.invokestatic 206, 3) := by decide +kernel
theorem d_Db_decade_11 : decode b_Db_decade 11 = .ok (.iload_n 2, 1) := by decide +kernel
theorem d_Db_decade_12 : decode b_Db_decade 12 = .ok (.iconst 0, 1) := by decide +kernel
theorem d_Db_decade_13 : decode b_Db_decade 13 = .ok (.iconst 2, 1) := by decide +kernel
theorem d_Db_decade_14 : decode b_Db_decade 14 = .ok (.invokestatic 131, 3) := by decide +kernel
theorem d_Db_decade_17 : decode b_Db_decade 17 = .ok (.iload_n 2, 1) := by decide +kernel
theorem d_Db_decade_18 : decode b_Db_decade 18 = .ok (.lookupswitch 44 #[(0, 26), (1, 35)], 26) := by decide +kernel
theorem d_Db_decade_44 : decode b_Db_decade 44 = .ok (.aload_n 0, 1) := by decide +kernel
theorem d_Db_decade_45 : decode b_Db_decade 45 = .ok (.getfield 19, 3) := by decide +kernel
theorem d_Db_decade_48 : decode b_Db_decade 48 = .ok (.iload_n 1, 1) := by decide +kernel
theorem d_Db_decade_49 : decode b_Db_decade 49 = .ok (.invokevirtual 219, 3) := by decide +kernel
theorem d_Db_decade_52 : decode b_Db_decade 52 = .ok (.ireturn, 1) := by decide +kernel
theorem d_Db_decade_53 : decode b_Db_decade 53 = .ok (.aload_n 0, 1) := by decide +kernel
theorem d_Db_decade_54 : decode b_Db_decade 54 = .ok (.getfield 19, 3) := by decide +kernel
theorem d_Db_decade_57 : decode b_Db_decade 57 = .ok (.iload_n 1, 1) := by decide +kernel
theorem d_Db_decade_58 : decode b_Db_decade 58 = .ok (.invokevirtual 222, 3) := by decide +kernel
theorem d_Db_decade_61 : decode b_Db_decade 61 = .ok (.ireturn, 1) := by decide +kernel
theorem d_Db_decade_62 : decode b_Db_decade 62 = .ok (.aload_n 0, 1) := by decide +kernel
theorem d_Db_decade_63 : decode b_Db_decade 63 = .ok (.getfield 19, 3) := by decide +kernel
theorem d_Db_decade_66 : decode b_Db_decade 66 = .ok (.aload_n 0, 1) := by decide +kernel
theorem d_Db_decade_67 : decode b_Db_decade 67 = .ok (.getfield 44, 3) := by decide +kernel
theorem d_Db_decade_70 : decode b_Db_decade 70 = .ok (.getfield 141, 3) := by decide +kernel
theorem d_Db_decade_73 : decode b_Db_decade 73 = .ok (.getfield 181, 3) := by decide +kernel
theorem d_Db_decade_76 : decode b_Db_decade 76 = .ok (.iload_n 1, 1) := by decide +kernel
theorem d_Db_decade_77 : decode b_Db_decade 77 = .ok (.invokevirtual 225, 3) := by decide +kernel
theorem d_Db_decade_80 : decode b_Db_decade 80 = .ok (.ireturn, 1) := by decide +kernel
theorem d_Db_lead_0 : decode b_Db_lead 0 = .ok (.iload_n 1, 1) := by decide +kernel
theorem d_Db_lead_1 : decode b_Db_lead 1 = .ok (.iconst 3, 1) := by decide +kernel
theorem d_Db_lead_2 : decode b_Db_lead 2 = .ok (.invokestatic 206, 3) := by decide +kernel
theorem d_Db_lead_5 : decode b_Db_lead 5 = .ok (.iload_n 1, 1) := by decide +kernel
theorem d_Db_lead_6 : decode b_Db_lead 6 = .ok (.lookupswitch 42 #[(0, 26), (1, 34)], 26) := by decide +kernel
theorem d_Db_lead_32 : decode b_Db_lead 32 = .ok (.aload_n 0, 1) := by decide +kernel
theorem d_Db_lead_33 : decode b_Db_lead 33 = .ok (.getfield 19, 3) := by decide +kernel
theorem d_Db_lead_36 : decode b_Db_lead 36 = .ok (.getfield 229, 3) := by decide +kernel
theorem d_Db_lead_39 : decode b_Db_lead 39 = .ok (.ireturn, 1) := by decide +kernel
theorem d_Db_lead_40 : decode b_Db_lead 40 = .ok (.aload_n 0, 1) := by decide +kernel
theorem d_Db_lead_41 : decode b_Db_lead 41 = .ok (.getfield 19, 3) := by decide +kernel
theorem d_Db_lead_44 : decode b_Db_lead 44 = .ok (.getfield 232, 3) := by decide +kernel
theorem d_Db_lead_47 : decode b_Db_lead 47 = .ok (.ireturn, 1) := by decide +kernel
theorem d_Db_lead_48 : decode b_Db_lead 48 = .ok (.aload_n 0, 1) := by decide +kernel
theorem d_Db_lead_49 : decode b_Db_lead 49 = .ok (.getfield 19, 3) := by decide +kernel
theorem d_Db_lead_52 : decode b_Db_lead 52 = .ok (.getfield 235, 3) := by decide +kernel
theorem d_Db_lead_55 : decode b_Db_lead 55 = .ok (.ireturn, 1) := by decide +kernel
theorem d_Db_part_0 : decode b_Db_part 0 = .ok (.iload_n 2, 1) := by decide +kernel
theorem d_Db_part_1 : decode b_Db_part 1 = .ok (.iconst 0, 1) := by decide +kernel
theorem d_Db_part_2 : decode b_Db_part 2 = .ok (.bipush 6, 2) := by decide +kernel
theorem d_Db_part_4 : decode b_Db_part 4 = .ok (.invokestatic 131, 3) := by decide +kernel
theorem d_Db_part_7 : decode b_Db_part 7 = .ok (.aload_n 0, 1) := by decide +kernel
theorem d_Db_part_8 : decode b_Db_part 8 = .ok (.getfield 44, 3) := by decide +kernel
theorem d_Db_part_11 : decode b_Db_part 11 = .ok (.getfield 141, 3) := by decide +kernel
theorem d_Db_part_14 : decode b_Db_part 14 = .ok (.astore_n 3, 1) := by decide +kernel
theorem d_Db_part_15 : decode b_Db_part 15 = .ok (.iload_n 1, 1) := by decide +kernel
theorem d_Db_part_16 : decode b_Db_part 16 = .ok (.ifCond .eq 13, 3) := by decide +kernel
theorem d_Db_part_19 : decode b_Db_part 19 = .ok (.aload_n 0, 1) := by decide +kernel
theorem d_Db_part_20 : decode b_Db_part 20 = .ok (.getfield 19, 3) := by decide +kernel
theorem d_Db_part_23 : decode b_Db_part 23 = .ok (.getfield 238, 3) := by decide +kernel
theorem d_Db_part_26 : decode b_Db_part 26 = .ok (.goto 10, 3) := by decide +kernel
theorem d_Db_part_29 : decode b_Db_part 29 = .ok (.aload_n 0, 1) := by decide +kernel
theorem d_Db_part_30 : decode b_Db_part 30 = .ok (.getfield 19, 3) := by decide +kernel
theorem d_Db_part_33 : decode b_Db_part 33 = .ok (.getfield 242, 3) := by decide +kernel
theorem d_Db_part_36 : decode b_Db_part 36 = .ok (.astore 4, 2) := by decide +kernel
theorem d_Db_part_38 : decode b_Db_part 38 = .ok (.iload_n 2, 1) := by decide +kernel
theorem d_Db_part_39 : decode b_Db_part 39 = .ok (.tableswitch 106 0 5 #[37, 56, 72, 78, 84, 90], 37) := by decide +kernel
theorem d_Db_part_76 : decode b_Db_part 76 = .ok (.iload_n 1, 1) := by decide +kernel
theorem d_Db_part_77 : decode b_Db_part 77 = .ok (.ifCond .eq 10, 3) := by decide +kernel
theorem d_Db_part_80 : decode b_Db_part 80 = .ok (.aload_n 3, 1) := by decide +kernel
theorem d_Db_part_81 : decode b_Db_part 81 = .ok (.getfield 245, 3) := by decide +kernel
theorem d_Db_part_84 : decode b_Db_part 84 = .ok (.goto 10, 3) := by decide +kernel
theorem d_Db_part_87 : decode b_Db_part 87 = .ok (.aload_n 0, 1) := by decide +kernel
theorem d_Db_part_88 : decode b_Db_part 88 = .ok (.getfield 19, 3) := by decide +kernel
theorem d_Db_part_91 : decode b_Db_part 91 = .ok (.getfield 248, 3) := by decide +kernel
theorem d_Db_part_94 : decode b_Db_part 94 = .ok (.ireturn, 1) := by decide +kernel
theorem d_Db_part_95 : decode b_Db_part 95 = .ok (.iload_n 1, 1) := by decide +kernel
theorem d_Db_part_96 : decode b_Db_part 96 = .ok (.ifCond .eq 10, 3) := by decide +kernel
theorem d_Db_part_99 : decode b_Db_part 99 = .ok (.aload_n 3, 1) := by decide +kernel
theorem d_Db_part_100 : decode b_Db_part 100 = .ok (.getfield 251, 3) := by decide +kernel
theorem d_Db_part_103 : decode b_Db_part 103 = .ok (.goto 7, 3) := by decide +kernel
theorem d_Db_part_106 : decode b_Db_part 106 = .ok (.aload_n 3, 1) := by decide +kernel
theorem d_Db_part_107 : decode b_Db_part 107 = .ok (.getfield 254, 3) := by decide +kernel
theorem d_Db_part_110 : decode b_Db_part 110 = .ok (.ireturn, 1) := by decide +kernel
theorem d_Db_part_111 : decode b_Db_part 111 = .ok (.aload 4, 2) := by decide +kernel
theorem d_Db_part_113 : decode b_Db_part 113 = .ok (.getfield 257, 3) := by decide +kernel
theorem d_Db_part_116 : decode b_Db_part 116 = .ok (.ireturn, 1) := by decide +kernel
theorem d_Db_part_117 : decode b_Db_part 117 = .ok (.aload 4, 2) := by decide +kernel
theorem d_Db_part_119 : decode b_Db_part 119 = .ok (.getfield 262, 3) := by decide +kernel
theorem d_Db_part_122 : decode b_Db_part 122 = .ok (.ireturn, 1) := by decide +kernel
theorem d_Db_part_123 : decode b_Db_part 123 = .ok (.aload 4, 2) := by decide +kernel
theorem d_Db_part_125 : decode b_Db_part 125 = .ok (.getfield 265, 3) := by decide +kernel
theorem d_Db_part_128 : decode b_Db_part 128 = .ok (.ireturn, 1) := by decide +kernel
theorem d_Db_part_129 : decode b_Db_part 129 = .ok (.iload_n 1, 1) := by decide +kernel
theorem d_Db_part_130 : decode b_Db_part 130 = .ok (.ifCond .eq 10, 3) := by decide +kernel
theorem d_Db_part_133 : decode b_Db_part 133 = .ok (.aload_n 3, 1) := by decide +kernel
theorem d_Db_part_134 : decode b_Db_part 134 = .ok (.getfield 268, 3) := by decide +kernel
theorem d_Db_part_137 : decode b_Db_part 137 = .ok (.goto 7, 3) := by decide +kernel
theorem d_Db_part_140 : decode b_Db_part 140 = .ok (.aload_n 3, 1) := by decide +kernel
theorem d_Db_part_141 : decode b_Db_part 141 = .ok (.getfield 271, 3) := by decide +kernel
theorem d_Db_part_144 : decode b_Db_part 144 = .ok (.ireturn, 1) := by decide +kernel
theorem d_Db_part_145 : decode b_Db_part 145 = .ok (.iload_n 1, 1) := by decide +kernel
theorem d_Db_part_146 : decode b_Db_part 146 = .ok (.ifCond .eq 10, 3) := by decide +kernel
theorem d_Db_part_149 : decode b_Db_part 149 = .ok (.aload_n 3, 1) := by decide +kernel
theorem d_Db_part_150 : decode b_Db_part 150 = .ok (.getfield 274, 3) := by decide +kernel
theorem d_Db_part_153 : decode b_Db_part 153 = .ok (.goto 7, 3) := by decide +kernel
theorem d_Db_part_156 : decode b_Db_part 156 = .ok (.aload_n 3, 1) := by decide +kernel
theorem d_Db_part_157 : decode b_Db_part 157 = .ok (.getfield 277, 3) := by decide +kernel
theorem d_Db_part_160 : decode b_Db_part 160 = .ok (.ireturn, 1) := by decide +kernel
theorem d_Db_coldOf_0 : decode b_Db_coldOf 0 = .ok (.iload_n 1, 1) := by decide +kernel
theorem d_Db_coldOf_1 : decode b_Db_coldOf 1 = .ok (.iconst 0, 1) := by decide +kernel
theorem d_Db_coldOf_2 : decode b_Db_coldOf 2 = .ok (.aload_n 0, 1) := by decide +kernel
theorem d_Db_coldOf_3 : decode b_Db_coldOf 3 = .ok (.getfield 19, 3) := by decide +kernel
theorem d_Db_coldOf_6 : decode b_Db_coldOf 6 = .ok (.invokevirtual 280, 3) := by decide +kernel
theorem d_Db_coldOf_9 : decode b_Db_coldOf 9 = .ok (.iconst 1, 1) := by decide +kernel
theorem d_Db_coldOf_10 : decode b_Db_coldOf 10 = .ok (.isub, 1) := by decide +kernel
theorem d_Db_coldOf_11 : decode b_Db_coldOf 11 = .ok (.invokestatic 131, 3) := by decide +kernel
theorem d_Db_coldOf_14 : decode b_Db_coldOf 14 = .ok (.aload_n 0, 1) := by decide +kernel
theorem d_Db_coldOf_15 : decode b_Db_coldOf 15 = .ok (.getfield 19, 3) := by decide +kernel
theorem d_Db_coldOf_18 : decode b_Db_coldOf 18 = .ok (.iload_n 1, 1) := by decide +kernel
theorem d_Db_coldOf_19 : decode b_Db_coldOf 19 = .ok (.invokevirtual 283, 3) := by decide +kernel
theorem d_Db_coldOf_22 : decode b_Db_coldOf 22 = .ok (.ireturn, 1) := by decide +kernel
theorem d_Db_share_0 : decode b_Db_share 0 = .ok (.iload_n 1, 1) := by decide +kernel
theorem d_Db_share_1 : decode b_Db_share 1 = .ok (.ifCond .eq 16, 3) := by decide +kernel
theorem d_Db_share_4 : decode b_Db_share 4 = .ok (.aload_n 0, 1) := by decide +kernel
theorem d_Db_share_5 : decode b_Db_share 5 = .ok (.getfield 44, 3) := by decide +kernel
theorem d_Db_share_8 : decode b_Db_share 8 = .ok (.getfield 141, 3) := by decide +kernel
theorem d_Db_share_11 : decode b_Db_share 11 = .ok (.getfield 286, 3) := by decide +kernel
theorem d_Db_share_14 : decode b_Db_share 14 = .ok (.goto 13, 3) := by decide +kernel
theorem d_Db_share_17 : decode b_Db_share 17 = .ok (.aload_n 0, 1) := by decide +kernel
theorem d_Db_share_18 : decode b_Db_share 18 = .ok (.getfield 44, 3) := by decide +kernel
theorem d_Db_share_21 : decode b_Db_share 21 = .ok (.getfield 141, 3) := by decide +kernel
theorem d_Db_share_24 : decode b_Db_share 24 = .ok (.invokevirtual 289, 3) := by decide +kernel
theorem d_Db_share_27 : decode b_Db_share 27 = .ok (.ireturn, 1) := by decide +kernel
theorem d_Db_deflection_0 : decode b_Db_deflection 0 = .ok (.aload_n 0, 1) := by decide +kernel
theorem d_Db_deflection_1 : decode b_Db_deflection 1 = .ok (.getfield 44, 3) := by decide +kernel
theorem d_Db_deflection_4 : decode b_Db_deflection 4 = .ok (.getfield 141, 3) := by decide +kernel
theorem d_Db_deflection_7 : decode b_Db_deflection 7 = .ok (.invokevirtual 292, 3) := by decide +kernel
theorem d_Db_deflection_10 : decode b_Db_deflection 10 = .ok (.lreturn, 1) := by decide +kernel
theorem d_Db_current_0 : decode b_Db_current 0 = .ok (.aload_n 0, 1) := by decide +kernel
theorem d_Db_current_1 : decode b_Db_current 1 = .ok (.getfield 44, 3) := by decide +kernel
theorem d_Db_current_4 : decode b_Db_current 4 = .ok (.getfield 141, 3) := by decide +kernel
theorem d_Db_current_7 : decode b_Db_current 7 = .ok (.invokevirtual 296, 3) := by decide +kernel
theorem d_Db_current_10 : decode b_Db_current 10 = .ok (.lreturn, 1) := by decide +kernel
theorem d_Db_power_0 : decode b_Db_power 0 = .ok (.aload_n 0, 1) := by decide +kernel
theorem d_Db_power_1 : decode b_Db_power 1 = .ok (.getfield 44, 3) := by decide +kernel
theorem d_Db_power_4 : decode b_Db_power 4 = .ok (.getfield 141, 3) := by decide +kernel
theorem d_Db_power_7 : decode b_Db_power 7 = .ok (.astore_n 2, 1) := by decide +kernel
theorem d_Db_power_8 : decode b_Db_power 8 = .ok (.aload_n 2, 1) := by decide +kernel
theorem d_Db_power_9 : decode b_Db_power 9 = .ok (.invokevirtual 296, 3) := by decide +kernel
theorem d_Db_power_12 : decode b_Db_power 12 = .ok (.iload_n 1, 1) := by decide +kernel
theorem d_Db_power_13 : decode b_Db_power 13 = .ok (.ifCond .eq 10, 3) := by decide +kernel
theorem d_Db_power_16 : decode b_Db_power 16 = .ok (.aload_n 2, 1) := by decide +kernel
theorem d_Db_power_17 : decode b_Db_power 17 = .ok (.getfield 251, 3) := by decide +kernel
theorem d_Db_power_20 : decode b_Db_power 20 = .ok (.goto 7, 3) := by decide +kernel
theorem d_Db_power_23 : decode b_Db_power 23 = .ok (.aload_n 2, 1) := by decide +kernel
theorem d_Db_power_24 : decode b_Db_power 24 = .ok (.getfield 254, 3) := by decide +kernel
theorem d_Db_power_27 : decode b_Db_power 27 = .ok (.invokestatic 299, 3) := by decide +kernel
theorem d_Db_power_30 : decode b_Db_power 30 = .ok (.lreturn, 1) := by decide +kernel
theorem d_Db_whyNot_0 : decode b_Db_whyNot 0 = .ok (.aload_n 0, 1) := by decide +kernel
theorem d_Db_whyNot_1 : decode b_Db_whyNot 1 = .ok (.getfield 44, 3) := by decide +kernel
theorem d_Db_whyNot_4 : decode b_Db_whyNot 4 = .ok (.getfield 141, 3) := by decide +kernel
theorem d_Db_whyNot_7 : decode b_Db_whyNot 7 = .ok (.invokevirtual 303, 3) := by decide +kernel
theorem d_Db_whyNot_10 : decode b_Db_whyNot 10 = .ok (.ireturn, 1) := by decide +kernel
theorem d_Db_energy_0 : decode b_Db_energy 0 = .ok (.aload_n 0, 1) := by decide +kernel
theorem d_Db_energy_1 : decode b_Db_energy 1 = .ok (.getfield 44, 3) := by decide +kernel
theorem d_Db_energy_4 : decode b_Db_energy 4 = .ok (.getfield 141, 3) := by decide +kernel
theorem d_Db_energy_7 : decode b_Db_energy 7 = .ok (.getfield 306, 3) := by decide +kernel
theorem d_Db_energy_10 : decode b_Db_energy 10 = .ok (.lreturn, 1) := by decide +kernel
theorem d_Db_reading_0 : decode b_Db_reading 0 = .ok (.aload_n 0, 1) := by decide +kernel
theorem d_Db_reading_1 : decode b_Db_reading 1 = .ok (.getfield 44, 3) := by decide +kernel
theorem d_Db_reading_4 : decode b_Db_reading 4 = .ok (.iload_n 1, 1) := by decide +kernel
theorem d_Db_reading_5 : decode b_Db_reading 5 = .ok (.invokevirtual 310, 3) := by decide +kernel
theorem d_Db_reading_8 : decode b_Db_reading 8 = .ok (.ireturn, 1) := by decide +kernel
theorem d_Db_meanReading_0 : decode b_Db_meanReading 0 = .ok (.aload_n 0, 1) := by decide +kernel
theorem d_Db_meanReading_1 : decode b_Db_meanReading 1 = .ok (.getfield 44, 3) := by decide +kernel
theorem d_Db_meanReading_4 : decode b_Db_meanReading 4 = .ok (.getfield 313, 3) := by decide +kernel
theorem d_Db_meanReading_7 : decode b_Db_meanReading 7 = .ok (.ifCond .ne 7, 3) := by decide +kernel
theorem d_Db_meanReading_10 : decode b_Db_meanReading 10 = .ok (.dconst 0, 1) := by decide +kernel
theorem d_Db_meanReading_11 : decode b_Db_meanReading 11 = .ok (.goto 20, 3) := by decide +kernel
theorem d_Db_meanReading_14 : decode b_Db_meanReading 14 = .ok (.aload_n 0, 1) := by decide +kernel
theorem d_Db_meanReading_15 : decode b_Db_meanReading 15 = .ok (.getfield 44, 3) := by decide +kernel
theorem d_Db_meanReading_18 : decode b_Db_meanReading 18 = .ok (.invokevirtual 315, 3) := by decide +kernel
theorem d_Db_meanReading_21 : decode b_Db_meanReading 21 = .ok (.l2d, 1) := by decide +kernel
theorem d_Db_meanReading_22 : decode b_Db_meanReading 22 = .ok (.aload_n 0, 1) := by decide +kernel
theorem d_Db_meanReading_23 : decode b_Db_meanReading 23 = .ok (.getfield 44, 3) := by decide +kernel
theorem d_Db_meanReading_26 : decode b_Db_meanReading 26 = .ok (.getfield 313, 3) := by decide +kernel
theorem d_Db_meanReading_29 : decode b_Db_meanReading 29 = .ok (.i2d, 1) := by decide +kernel
theorem d_Db_meanReading_30 : decode b_Db_meanReading 30 = .ok (.ddiv, 1) := by decide +kernel
theorem d_Db_meanReading_31 : decode b_Db_meanReading 31 = .ok (.dreturn, 1) := by decide +kernel
theorem d_Db_spread_0 : decode b_Db_spread 0 = .ok (.aload_n 0, 1) := by decide +kernel
theorem d_Db_spread_1 : decode b_Db_spread 1 = .ok (.getfield 44, 3) := by decide +kernel
theorem d_Db_spread_4 : decode b_Db_spread 4 = .ok (.invokevirtual 318, 3) := by decide +kernel
theorem d_Db_spread_7 : decode b_Db_spread 7 = .ok (.i2f, 1) := by decide +kernel
theorem d_Db_spread_8 : decode b_Db_spread 8 = .ok (.freturn, 1) := by decide +kernel
theorem d_Db_result_0 : decode b_Db_result 0 = .ok (.iload_n 1, 1) := by decide +kernel
theorem d_Db_result_1 : decode b_Db_result 1 = .ok (.aload_n 0, 1) := by decide +kernel
theorem d_Db_result_2 : decode b_Db_result 2 = .ok (.getfield 44, 3) := by decide +kernel
theorem d_Db_result_5 : decode b_Db_result 5 = .ok (.getfield 190, 3) := by decide +kernel
theorem d_Db_result_8 : decode b_Db_result 8 = .ok (.getfield 194, 3) := by decide +kernel
theorem d_Db_result_11 : decode b_Db_result 11 = .ok (.invokestatic 206, 3) := by decide +kernel
theorem d_Db_result_14 : decode b_Db_result 14 = .ok (.iload_n 2, 1) := by decide +kernel
theorem d_Db_result_15 : decode b_Db_result 15 = .ok (.iconst 0, 1) := by decide +kernel
theorem d_Db_result_16 : decode b_Db_result 16 = .ok (.bipush 6, 2) := by decide +kernel
theorem d_Db_result_18 : decode b_Db_result 18 = .ok (.invokestatic 131, 3) := by decide +kernel
theorem d_Db_result_21 : decode b_Db_result 21 = .ok (.aload_n 0, 1) := by decide +kernel
theorem d_Db_result_22 : decode b_Db_result 22 = .ok (.getfield 44, 3) := by decide +kernel
theorem d_Db_result_25 : decode b_Db_result 25 = .ok (.getfield 190, 3) := by decide +kernel
theorem d_Db_result_28 : decode b_Db_result 28 = .ok (.iload_n 1, 1) := by decide +kernel
theorem d_Db_result_29 : decode b_Db_result 29 = .ok (.invokevirtual 321, 3) := by decide +kernel
theorem d_Db_result_32 : decode b_Db_result 32 = .ok (.astore_n 3, 1) := by decide +kernel
theorem d_Db_result_33 : decode b_Db_result 33 = .ok (.aload_n 3, 1) := by decide +kernel
theorem d_Db_result_34 : decode b_Db_result 34 = .ok (.ifnonnull 5, 3) := by decide +kernel
theorem d_Db_result_37 : decode b_Db_result 37 = .ok (.iconst (-1), 1) := by decide +kernel
theorem d_Db_result_38 : decode b_Db_result 38 = .ok (.ireturn, 1) := by decide +kernel
theorem d_Db_result_39 : decode b_Db_result 39 = .ok (.iload_n 2, 1) := by decide +kernel
theorem d_Db_result_40 : decode b_Db_result 40 = .ok (.tableswitch 70 0 5 #[40, 45, 50, 55, 60, 65], 40) := by decide +kernel
theorem d_Db_result_80 : decode b_Db_result 80 = .ok (.aload_n 3, 1) := by decide +kernel
theorem d_Db_result_81 : decode b_Db_result 81 = .ok (.getfield 325, 3) := by decide +kernel
theorem d_Db_result_84 : decode b_Db_result 84 = .ok (.ireturn, 1) := by decide +kernel
theorem d_Db_result_85 : decode b_Db_result 85 = .ok (.aload_n 3, 1) := by decide +kernel
theorem d_Db_result_86 : decode b_Db_result 86 = .ok (.getfield 328, 3) := by decide +kernel
theorem d_Db_result_89 : decode b_Db_result 89 = .ok (.ireturn, 1) := by decide +kernel
theorem d_Db_result_90 : decode b_Db_result 90 = .ok (.aload_n 3, 1) := by decide +kernel
theorem d_Db_result_91 : decode b_Db_result 91 = .ok (.getfield 329, 3) := by decide +kernel
theorem d_Db_result_94 : decode b_Db_result 94 = .ok (.ireturn, 1) := by decide +kernel
theorem d_Db_result_95 : decode b_Db_result 95 = .ok (.aload_n 3, 1) := by decide +kernel
theorem d_Db_result_96 : decode b_Db_result 96 = .ok (.getfield 330, 3) := by decide +kernel
theorem d_Db_result_99 : decode b_Db_result 99 = .ok (.ireturn, 1) := by decide +kernel
theorem d_Db_result_100 : decode b_Db_result 100 = .ok (.aload_n 3, 1) := by decide +kernel
theorem d_Db_result_101 : decode b_Db_result 101 = .ok (.getfield 331, 3) := by decide +kernel
theorem d_Db_result_104 : decode b_Db_result 104 = .ok (.ireturn, 1) := by decide +kernel
theorem d_Db_result_105 : decode b_Db_result 105 = .ok (.aload_n 3, 1) := by decide +kernel
theorem d_Db_result_106 : decode b_Db_result 106 = .ok (.getfield 332, 3) := by decide +kernel
theorem d_Db_result_109 : decode b_Db_result 109 = .ok (.ireturn, 1) := by decide +kernel
theorem d_Db_result_110 : decode b_Db_result 110 = .ok (.aload_n 0, 1) := by decide +kernel
theorem d_Db_result_111 : decode b_Db_result 111 = .ok (.getfield 44, 3) := by decide +kernel
theorem d_Db_result_114 : decode b_Db_result 114 = .ok (.getfield 190, 3) := by decide +kernel
theorem d_Db_result_117 : decode b_Db_result 117 = .ok (.iload_n 1, 1) := by decide +kernel
theorem d_Db_result_118 : decode b_Db_result 118 = .ok (.invokevirtual 335, 3) := by decide +kernel
theorem d_Db_result_121 : decode b_Db_result 121 = .ok (.ireturn, 1) := by decide +kernel
theorem d_Db_valueOf_0 : decode b_Db_valueOf 0 = .ok (.iload_n 1, 1) := by decide +kernel
theorem d_Db_valueOf_1 : decode b_Db_valueOf 1 = .ok (.aload_n 0, 1) := by decide +kernel
theorem d_Db_valueOf_2 : decode b_Db_valueOf 2 = .ok (.getfield 44, 3) := by decide +kernel
theorem d_Db_valueOf_5 : decode b_Db_valueOf 5 = .ok (.getfield 190, 3) := by decide +kernel
theorem d_Db_valueOf_8 : decode b_Db_valueOf 8 = .ok (.getfield 194, 3) := by decide +kernel
theorem d_Db_valueOf_11 : decode b_Db_valueOf 11 = .ok (.invokestatic 206, 3) := by decide +kernel
theorem d_Db_valueOf_14 : decode b_Db_valueOf 14 = .ok (.aload_n 0, 1) := by decide +kernel
theorem d_Db_valueOf_15 : decode b_Db_valueOf 15 = .ok (.getfield 44, 3) := by decide +kernel
theorem d_Db_valueOf_18 : decode b_Db_valueOf 18 = .ok (.getfield 190, 3) := by decide +kernel
theorem d_Db_valueOf_21 : decode b_Db_valueOf 21 = .ok (.iload_n 1, 1) := by decide +kernel
theorem d_Db_valueOf_22 : decode b_Db_valueOf 22 = .ok (.invokevirtual 321, 3) := by decide +kernel
theorem d_Db_valueOf_25 : decode b_Db_valueOf 25 = .ok (.astore_n 3, 1) := by decide +kernel
theorem d_Db_valueOf_26 : decode b_Db_valueOf 26 = .ok (.aload_n 3, 1) := by decide +kernel
theorem d_Db_valueOf_27 : decode b_Db_valueOf 27 = .ok (.ifnonnull 7, 3) := by decide +kernel
theorem d_Db_valueOf_30 : decode b_Db_valueOf 30 = .ok (.ldc2_w 338, 3) := by decide +kernel
theorem d_Db_valueOf_33 : decode b_Db_valueOf 33 = .ok (.lreturn, 1) := by decide +kernel
theorem d_Db_valueOf_34 : decode b_Db_valueOf 34 = .ok (.iload_n 2, 1) := by decide +kernel
theorem d_Db_valueOf_35 : decode b_Db_valueOf 35 = .ok (.ifCond .eq 10, 3) := by decide +kernel
theorem d_Db_valueOf_38 : decode b_Db_valueOf 38 = .ok (.aload_n 3, 1) := by decide +kernel
theorem d_Db_valueOf_39 : decode b_Db_valueOf 39 = .ok (.getfield 340, 3) := by decide +kernel
theorem d_Db_valueOf_42 : decode b_Db_valueOf 42 = .ok (.goto 7, 3) := by decide +kernel
theorem d_Db_valueOf_45 : decode b_Db_valueOf 45 = .ok (.aload_n 3, 1) := by decide +kernel
theorem d_Db_valueOf_46 : decode b_Db_valueOf 46 = .ok (.getfield 343, 3) := by decide +kernel
theorem d_Db_valueOf_49 : decode b_Db_valueOf 49 = .ok (.lreturn, 1) := by decide +kernel
theorem d_Db_manner_0 : decode b_Db_manner 0 = .ok (.aload_n 0, 1) := by decide +kernel
theorem d_Db_manner_1 : decode b_Db_manner 1 = .ok (.iload_n 1, 1) := by decide +kernel
theorem d_Db_manner_2 : decode b_Db_manner 2 = .ok (.invokevirtual 346, 3) := by decide +kernel
theorem d_Db_manner_5 : decode b_Db_manner 5 = .ok (.iload_n 2, 1) := by decide +kernel
theorem d_Db_manner_6 : decode b_Db_manner 6 = .ok (.iconst 0, 1) := by decide +kernel
theorem d_Db_manner_7 : decode b_Db_manner 7 = .ok (.iconst 5, 1) := by decide +kernel
theorem d_Db_manner_8 : decode b_Db_manner 8 = .ok (.invokestatic 131, 3) := by decide +kernel
theorem d_Db_manner_11 : decode b_Db_manner 11 = .ok (.aload_n 0, 1) := by decide +kernel
theorem d_Db_manner_12 : decode b_Db_manner 12 = .ok (.getfield 44, 3) := by decide +kernel
theorem d_Db_manner_15 : decode b_Db_manner 15 = .ok (.getfield 190, 3) := by decide +kernel
theorem d_Db_manner_18 : decode b_Db_manner 18 = .ok (.astore_n 3, 1) := by decide +kernel
theorem d_Db_manner_19 : decode b_Db_manner 19 = .ok (.aload_n 3, 1) := by decide +kernel
theorem d_Db_manner_20 : decode b_Db_manner 20 = .ok (.aload_n 3, 1) := by decide +kernel
theorem d_Db_manner_21 : decode b_Db_manner 21 = .ok (.getfield 349, 3) := by decide +kernel
theorem d_Db_manner_24 : decode b_Db_manner 24 = .ok (.invokevirtual 321, 3) := by decide +kernel
theorem d_Db_manner_27 : decode b_Db_manner 27 = .ok (.astore 4, 2) := by decide +kernel
theorem d_Db_manner_29 : decode b_Db_manner 29 = .ok (.aload 4, 2) := by decide +kernel
theorem d_Db_manner_31 : decode b_Db_manner 31 = .ok (.ifnonnull 5, 3) := by decide +kernel
theorem d_Db_manner_34 : decode b_Db_manner 34 = .ok (.iconst (-1), 1) := by decide +kernel
theorem d_Db_manner_35 : decode b_Db_manner 35 = .ok (.ireturn, 1) := by decide +kernel
theorem d_Db_manner_36 : decode b_Db_manner 36 = .ok (.iload_n 2, 1) := by decide +kernel
theorem d_Db_manner_37 : decode b_Db_manner 37 = .ok (.tableswitch 63 0 4 #[35, 41, 47, 53, 58], 35) := by decide +kernel
theorem d_Db_manner_72 : decode b_Db_manner 72 = .ok (.aload 4, 2) := by decide +kernel
theorem d_Db_manner_74 : decode b_Db_manner 74 = .ok (.getfield 325, 3) := by decide +kernel
theorem d_Db_manner_77 : decode b_Db_manner 77 = .ok (.ireturn, 1) := by decide +kernel
theorem d_Db_manner_78 : decode b_Db_manner 78 = .ok (.aload 4, 2) := by decide +kernel
theorem d_Db_manner_80 : decode b_Db_manner 80 = .ok (.getfield 328, 3) := by decide +kernel
theorem d_Db_manner_83 : decode b_Db_manner 83 = .ok (.ireturn, 1) := by decide +kernel
theorem d_Db_manner_84 : decode b_Db_manner 84 = .ok (.aload 4, 2) := by decide +kernel
theorem d_Db_manner_86 : decode b_Db_manner 86 = .ok (.getfield 329, 3) := by decide +kernel
theorem d_Db_manner_89 : decode b_Db_manner 89 = .ok (.ireturn, 1) := by decide +kernel
theorem d_Db_manner_90 : decode b_Db_manner 90 = .ok (.aload_n 3, 1) := by decide +kernel
theorem d_Db_manner_91 : decode b_Db_manner 91 = .ok (.getfield 352, 3) := by decide +kernel
theorem d_Db_manner_94 : decode b_Db_manner 94 = .ok (.ireturn, 1) := by decide +kernel
theorem d_Db_manner_95 : decode b_Db_manner 95 = .ok (.aload_n 3, 1) := by decide +kernel
theorem d_Db_manner_96 : decode b_Db_manner 96 = .ok (.getfield 349, 3) := by decide +kernel
theorem d_Db_manner_99 : decode b_Db_manner 99 = .ok (.ireturn, 1) := by decide +kernel
theorem d_Db_manner_100 : decode b_Db_manner 100 = .ok (.aload_n 3, 1) := by decide +kernel
theorem d_Db_manner_101 : decode b_Db_manner 101 = .ok (.getfield 355, 3) := by decide +kernel
theorem d_Db_manner_104 : decode b_Db_manner 104 = .ok (.ireturn, 1) := by decide +kernel
theorem d_Db_meanOf_0 : decode b_Db_meanOf 0 = .ok (.aload_n 0, 1) := by decide +kernel
theorem d_Db_meanOf_1 : decode b_Db_meanOf 1 = .ok (.iload_n 1, 1) := by decide +kernel
theorem d_Db_meanOf_2 : decode b_Db_meanOf 2 = .ok (.invokevirtual 346, 3) := by decide +kernel
theorem d_Db_meanOf_5 : decode b_Db_meanOf 5 = .ok (.aload_n 0, 1) := by decide +kernel
theorem d_Db_meanOf_6 : decode b_Db_meanOf 6 = .ok (.getfield 44, 3) := by decide +kernel
theorem d_Db_meanOf_9 : decode b_Db_meanOf 9 = .ok (.getfield 190, 3) := by decide +kernel
theorem d_Db_meanOf_12 : decode b_Db_meanOf 12 = .ok (.getfield 352, 3) := by decide +kernel
theorem d_Db_meanOf_15 : decode b_Db_meanOf 15 = .ok (.istore_n 2, 1) := by decide +kernel
theorem d_Db_meanOf_16 : decode b_Db_meanOf 16 = .ok (.iload_n 2, 1) := by decide +kernel
theorem d_Db_meanOf_17 : decode b_Db_meanOf 17 = .ok (.ifCond .ne 7, 3) := by decide +kernel
theorem d_Db_meanOf_20 : decode b_Db_meanOf 20 = .ok (.dconst 0, 1) := by decide +kernel
theorem d_Db_meanOf_21 : decode b_Db_meanOf 21 = .ok (.goto 17, 3) := by decide +kernel
theorem d_Db_meanOf_24 : decode b_Db_meanOf 24 = .ok (.aload_n 0, 1) := by decide +kernel
theorem d_Db_meanOf_25 : decode b_Db_meanOf 25 = .ok (.getfield 44, 3) := by decide +kernel
theorem d_Db_meanOf_28 : decode b_Db_meanOf 28 = .ok (.getfield 190, 3) := by decide +kernel
theorem d_Db_meanOf_31 : decode b_Db_meanOf 31 = .ok (.getfield 358, 3) := by decide +kernel
theorem d_Db_meanOf_34 : decode b_Db_meanOf 34 = .ok (.l2d, 1) := by decide +kernel
theorem d_Db_meanOf_35 : decode b_Db_meanOf 35 = .ok (.iload_n 2, 1) := by decide +kernel
theorem d_Db_meanOf_36 : decode b_Db_meanOf 36 = .ok (.i2d, 1) := by decide +kernel
theorem d_Db_meanOf_37 : decode b_Db_meanOf 37 = .ok (.ddiv, 1) := by decide +kernel
theorem d_Db_meanOf_38 : decode b_Db_meanOf 38 = .ok (.dreturn, 1) := by decide +kernel
theorem d_Db_spreadOf_0 : decode b_Db_spreadOf 0 = .ok (.aload_n 0, 1) := by decide +kernel
theorem d_Db_spreadOf_1 : decode b_Db_spreadOf 1 = .ok (.iload_n 1, 1) := by decide +kernel
theorem d_Db_spreadOf_2 : decode b_Db_spreadOf 2 = .ok (.invokevirtual 346, 3) := by decide +kernel
theorem d_Db_spreadOf_5 : decode b_Db_spreadOf 5 = .ok (.aload_n 0, 1) := by decide +kernel
theorem d_Db_spreadOf_6 : decode b_Db_spreadOf 6 = .ok (.getfield 44, 3) := by decide +kernel
theorem d_Db_spreadOf_9 : decode b_Db_spreadOf 9 = .ok (.getfield 190, 3) := by decide +kernel
theorem d_Db_spreadOf_12 : decode b_Db_spreadOf 12 = .ok (.getfield 361, 3) := by decide +kernel
theorem d_Db_spreadOf_15 : decode b_Db_spreadOf 15 = .ok (.aload_n 0, 1) := by decide +kernel
theorem d_Db_spreadOf_16 : decode b_Db_spreadOf 16 = .ok (.getfield 44, 3) := by decide +kernel
theorem d_Db_spreadOf_19 : decode b_Db_spreadOf 19 = .ok (.getfield 190, 3) := by decide +kernel
theorem d_Db_spreadOf_22 : decode b_Db_spreadOf 22 = .ok (.getfield 364, 3) := by decide +kernel
theorem d_Db_spreadOf_25 : decode b_Db_spreadOf 25 = .ok (.lsub, 1) := by decide +kernel
theorem d_Db_spreadOf_26 : decode b_Db_spreadOf 26 = .ok (.lreturn, 1) := by decide +kernel
theorem d_Db_steadiest_0 : decode b_Db_steadiest 0 = .ok (.aload_n 0, 1) := by decide +kernel
theorem d_Db_steadiest_1 : decode b_Db_steadiest 1 = .ok (.getfield 44, 3) := by decide +kernel
theorem d_Db_steadiest_4 : decode b_Db_steadiest 4 = .ok (.getfield 190, 3) := by decide +kernel
theorem d_Db_steadiest_7 : decode b_Db_steadiest 7 = .ok (.invokevirtual 367, 3) := by decide +kernel
theorem d_Db_steadiest_10 : decode b_Db_steadiest 10 = .ok (.ireturn, 1) := by decide +kernel
theorem d_Db_best_0 : decode b_Db_best 0 = .ok (.aload_n 0, 1) := by decide +kernel
theorem d_Db_best_1 : decode b_Db_best 1 = .ok (.getfield 51, 3) := by decide +kernel
theorem d_Db_best_4 : decode b_Db_best 4 = .ok (.getfield 370, 3) := by decide +kernel
theorem d_Db_best_7 : decode b_Db_best 7 = .ok (.aload_n 0, 1) := by decide +kernel
theorem d_Db_best_8 : decode b_Db_best 8 = .ok (.getfield 44, 3) := by decide +kernel
theorem d_Db_best_11 : decode b_Db_best 11 = .ok (.getfield 141, 3) := by decide +kernel
theorem d_Db_best_14 : decode b_Db_best 14 = .ok (.invokevirtual 373, 3) := by decide +kernel
theorem d_Db_best_17 : decode b_Db_best 17 = .ok (.aload_n 0, 1) := by decide +kernel
theorem d_Db_best_18 : decode b_Db_best 18 = .ok (.getfield 51, 3) := by decide +kernel
theorem d_Db_best_21 : decode b_Db_best 21 = .ok (.invokevirtual 376, 3) := by decide +kernel
theorem d_Db_best_24 : decode b_Db_best 24 = .ok (.ireturn, 1) := by decide +kernel
theorem d_Db_ideal_0 : decode b_Db_ideal 0 = .ok (.aload_n 0, 1) := by decide +kernel
theorem d_Db_ideal_1 : decode b_Db_ideal 1 = .ok (.getfield 51, 3) := by decide +kernel
theorem d_Db_ideal_4 : decode b_Db_ideal 4 = .ok (.getfield 370, 3) := by decide +kernel
theorem d_Db_ideal_7 : decode b_Db_ideal 7 = .ok (.aload_n 0, 1) := by decide +kernel
theorem d_Db_ideal_8 : decode b_Db_ideal 8 = .ok (.getfield 44, 3) := by decide +kernel
theorem d_Db_ideal_11 : decode b_Db_ideal 11 = .ok (.getfield 141, 3) := by decide +kernel
theorem d_Db_ideal_14 : decode b_Db_ideal 14 = .ok (.invokevirtual 373, 3) := by decide +kernel
theorem d_Db_ideal_17 : decode b_Db_ideal 17 = .ok (.aload_n 0, 1) := by decide +kernel
theorem d_Db_ideal_18 : decode b_Db_ideal 18 = .ok (.getfield 51, 3) := by decide +kernel
theorem d_Db_ideal_21 : decode b_Db_ideal 21 = .ok (.invokevirtual 379, 3) := by decide +kernel
theorem d_Db_ideal_24 : decode b_Db_ideal 24 = .ok (.ireturn, 1) := by decide +kernel
theorem d_Db_miss_0 : decode b_Db_miss 0 = .ok (.aload_n 0, 1) := by decide +kernel
theorem d_Db_miss_1 : decode b_Db_miss 1 = .ok (.getfield 51, 3) := by decide +kernel
theorem d_Db_miss_4 : decode b_Db_miss 4 = .ok (.getfield 370, 3) := by decide +kernel
theorem d_Db_miss_7 : decode b_Db_miss 7 = .ok (.aload_n 0, 1) := by decide +kernel
theorem d_Db_miss_8 : decode b_Db_miss 8 = .ok (.getfield 44, 3) := by decide +kernel
theorem d_Db_miss_11 : decode b_Db_miss 11 = .ok (.getfield 141, 3) := by decide +kernel
theorem d_Db_miss_14 : decode b_Db_miss 14 = .ok (.invokevirtual 373, 3) := by decide +kernel
theorem d_Db_miss_17 : decode b_Db_miss 17 = .ok (.aload_n 0, 1) := by decide +kernel
theorem d_Db_miss_18 : decode b_Db_miss 18 = .ok (.getfield 51, 3) := by decide +kernel
theorem d_Db_miss_21 : decode b_Db_miss 21 = .ok (.aload_n 0, 1) := by decide +kernel
theorem d_Db_miss_22 : decode b_Db_miss 22 = .ok (.getfield 51, 3) := by decide +kernel
theorem d_Db_miss_25 : decode b_Db_miss 25 = .ok (.invokevirtual 379, 3) := by decide +kernel
theorem d_Db_miss_28 : decode b_Db_miss 28 = .ok (.invokevirtual 382, 3) := by decide +kernel
theorem d_Db_miss_31 : decode b_Db_miss 31 = .ok (.aload_n 0, 1) := by decide +kernel
theorem d_Db_miss_32 : decode b_Db_miss 32 = .ok (.getfield 51, 3) := by decide +kernel
theorem d_Db_miss_35 : decode b_Db_miss 35 = .ok (.aload_n 0, 1) := by decide +kernel
theorem d_Db_miss_36 : decode b_Db_miss 36 = .ok (.getfield 51, 3) := by decide +kernel
theorem d_Db_miss_39 : decode b_Db_miss 39 = .ok (.invokevirtual 376, 3) := by decide +kernel
theorem d_Db_miss_42 : decode b_Db_miss 42 = .ok (.invokevirtual 382, 3) := by decide +kernel
theorem d_Db_miss_45 : decode b_Db_miss 45 = .ok (.lsub, 1) := by decide +kernel
theorem d_Db_miss_46 : decode b_Db_miss 46 = .ok (.lreturn, 1) := by decide +kernel
theorem d_Db_better_0 : decode b_Db_better 0 = .ok (.aload_n 0, 1) := by decide +kernel
theorem d_Db_better_1 : decode b_Db_better 1 = .ok (.getfield 51, 3) := by decide +kernel
theorem d_Db_better_4 : decode b_Db_better 4 = .ok (.getfield 370, 3) := by decide +kernel
theorem d_Db_better_7 : decode b_Db_better 7 = .ok (.aload_n 0, 1) := by decide +kernel
theorem d_Db_better_8 : decode b_Db_better 8 = .ok (.getfield 44, 3) := by decide +kernel
theorem d_Db_better_11 : decode b_Db_better 11 = .ok (.getfield 141, 3) := by decide +kernel
theorem d_Db_better_14 : decode b_Db_better 14 = .ok (.invokevirtual 373, 3) := by decide +kernel
theorem d_Db_better_17 : decode b_Db_better 17 = .ok (.aload_n 0, 1) := by decide +kernel
theorem d_Db_better_18 : decode b_Db_better 18 = .ok (.getfield 51, 3) := by decide +kernel
theorem d_Db_better_21 : decode b_Db_better 21 = .ok (.aload_n 0, 1) := by decide +kernel
theorem d_Db_better_22 : decode b_Db_better 22 = .ok (.getfield 51, 3) := by decide +kernel
theorem d_Db_better_25 : decode b_Db_better 25 = .ok (.aload_n 0, 1) := by decide +kernel
theorem d_Db_better_26 : decode b_Db_better 26 = .ok (.getfield 44, 3) := by decide +kernel
theorem d_Db_better_29 : decode b_Db_better 29 = .ok (.getfield 141, 3) := by decide +kernel
theorem d_Db_better_32 : decode b_Db_better 32 = .ok (.getfield 181, 3) := by decide +kernel
theorem d_Db_better_35 : decode b_Db_better 35 = .ok (.invokevirtual 382, 3) := by decide +kernel
theorem d_Db_better_38 : decode b_Db_better 38 = .ok (.invokevirtual 386, 3) := by decide +kernel
theorem d_Db_better_41 : decode b_Db_better 41 = .ok (.ireturn, 1) := by decide +kernel
theorem d_Db_bestWith_0 : decode b_Db_bestWith 0 = .ok (.iload_n 1, 1) := by decide +kernel
theorem d_Db_bestWith_1 : decode b_Db_bestWith 1 = .ok (.iconst 5, 1) := by decide +kernel
theorem d_Db_bestWith_2 : decode b_Db_bestWith 2 = .ok (.invokestatic 206, 3) := by decide +kernel
theorem d_Db_bestWith_5 : decode b_Db_bestWith 5 = .ok (.iload_n 2, 1) := by decide +kernel
theorem d_Db_bestWith_6 : decode b_Db_bestWith 6 = .ok (.iconst 5, 1) := by decide +kernel
theorem d_Db_bestWith_7 : decode b_Db_bestWith 7 = .ok (.invokestatic 206, 3) := by decide +kernel
theorem d_Db_bestWith_10 : decode b_Db_bestWith 10 = .ok (.aload_n 0, 1) := by decide +kernel
theorem d_Db_bestWith_11 : decode b_Db_bestWith 11 = .ok (.getfield 51, 3) := by decide +kernel
theorem d_Db_bestWith_14 : decode b_Db_bestWith 14 = .ok (.getfield 370, 3) := by decide +kernel
theorem d_Db_bestWith_17 : decode b_Db_bestWith 17 = .ok (.aload_n 0, 1) := by decide +kernel
theorem d_Db_bestWith_18 : decode b_Db_bestWith 18 = .ok (.getfield 44, 3) := by decide +kernel
theorem d_Db_bestWith_21 : decode b_Db_bestWith 21 = .ok (.getfield 141, 3) := by decide +kernel
theorem d_Db_bestWith_24 : decode b_Db_bestWith 24 = .ok (.invokevirtual 373, 3) := by decide +kernel
theorem d_Db_bestWith_27 : decode b_Db_bestWith 27 = .ok (.aload_n 0, 1) := by decide +kernel
theorem d_Db_bestWith_28 : decode b_Db_bestWith 28 = .ok (.getfield 51, 3) := by decide +kernel
theorem d_Db_bestWith_31 : decode b_Db_bestWith 31 = .ok (.getfield 370, 3) := by decide +kernel
theorem d_Db_bestWith_34 : decode b_Db_bestWith 34 = .ok (.iload_n 1, 1) := by decide +kernel
theorem d_Db_bestWith_35 : decode b_Db_bestWith 35 = .ok (.iload_n 2, 1) := by decide +kernel
theorem d_Db_bestWith_36 : decode b_Db_bestWith 36 = .ok (.invokevirtual 390, 3) := by decide +kernel
theorem d_Db_bestWith_39 : decode b_Db_bestWith 39 = .ok (.aload_n 0, 1) := by decide +kernel
theorem d_Db_bestWith_40 : decode b_Db_bestWith 40 = .ok (.getfield 51, 3) := by decide +kernel
theorem d_Db_bestWith_43 : decode b_Db_bestWith 43 = .ok (.invokevirtual 376, 3) := by decide +kernel
theorem d_Db_bestWith_46 : decode b_Db_bestWith 46 = .ok (.ireturn, 1) := by decide +kernel
theorem d_Db_bestArms_0 : decode b_Db_bestArms 0 = .ok (.aload_n 0, 1) := by decide +kernel
theorem d_Db_bestArms_1 : decode b_Db_bestArms 1 = .ok (.getfield 51, 3) := by decide +kernel
theorem d_Db_bestArms_4 : decode b_Db_bestArms 4 = .ok (.getfield 370, 3) := by decide +kernel
theorem d_Db_bestArms_7 : decode b_Db_bestArms 7 = .ok (.aload_n 0, 1) := by decide +kernel
theorem d_Db_bestArms_8 : decode b_Db_bestArms 8 = .ok (.getfield 44, 3) := by decide +kernel
theorem d_Db_bestArms_11 : decode b_Db_bestArms 11 = .ok (.getfield 141, 3) := by decide +kernel
theorem d_Db_bestArms_14 : decode b_Db_bestArms 14 = .ok (.invokevirtual 373, 3) := by decide +kernel
theorem d_Db_bestArms_17 : decode b_Db_bestArms 17 = .ok (.aload_n 0, 1) := by decide +kernel
theorem d_Db_bestArms_18 : decode b_Db_bestArms 18 = .ok (.getfield 51, 3) := by decide +kernel
theorem d_Db_bestArms_21 : decode b_Db_bestArms 21 = .ok (.invokevirtual 393, 3) := by decide +kernel
theorem d_Db_bestArms_24 : decode b_Db_bestArms 24 = .ok (.ireturn, 1) := by decide +kernel
theorem d_Db_apparent_0 : decode b_Db_apparent 0 = .ok (.iload_n 1, 1) := by decide +kernel
theorem d_Db_apparent_1 : decode b_Db_apparent 1 = .ok (.iconst 2, 1) := by decide +kernel
theorem d_Db_apparent_2 : decode b_Db_apparent 2 = .ok (.iconst 3, 1) := by decide +kernel
theorem d_Db_apparent_3 : decode b_Db_apparent 3 = .ok (.invokestatic 131, 3) := by decide +kernel
theorem d_Db_apparent_6 : decode b_Db_apparent 6 = .ok (.aload_n 0, 1) := by decide +kernel
theorem d_Db_apparent_7 : decode b_Db_apparent 7 = .ok (.getfield 51, 3) := by decide +kernel
theorem d_Db_apparent_10 : decode b_Db_apparent 10 = .ok (.getfield 370, 3) := by decide +kernel
theorem d_Db_apparent_13 : decode b_Db_apparent 13 = .ok (.aload_n 0, 1) := by decide +kernel
theorem d_Db_apparent_14 : decode b_Db_apparent 14 = .ok (.getfield 44, 3) := by decide +kernel
theorem d_Db_apparent_17 : decode b_Db_apparent 17 = .ok (.getfield 141, 3) := by decide +kernel
theorem d_Db_apparent_20 : decode b_Db_apparent 20 = .ok (.invokevirtual 373, 3) := by decide +kernel
theorem d_Db_apparent_23 : decode b_Db_apparent 23 = .ok (.aload_n 0, 1) := by decide +kernel
theorem d_Db_apparent_24 : decode b_Db_apparent 24 = .ok (.getfield 51, 3) := by decide +kernel
theorem d_Db_apparent_27 : decode b_Db_apparent 27 = .ok (.getfield 370, 3) := by decide +kernel
theorem d_Db_apparent_30 : decode b_Db_apparent 30 = .ok (.iload_n 1, 1) := by decide +kernel
theorem d_Db_apparent_31 : decode b_Db_apparent 31 = .ok (.invokevirtual 396, 3) := by decide +kernel
theorem d_Db_apparent_34 : decode b_Db_apparent 34 = .ok (.aload_n 0, 1) := by decide +kernel
theorem d_Db_apparent_35 : decode b_Db_apparent 35 = .ok (.getfield 51, 3) := by decide +kernel
theorem d_Db_apparent_38 : decode b_Db_apparent 38 = .ok (.invokevirtual 399, 3) := by decide +kernel
theorem d_Db_apparent_41 : decode b_Db_apparent 41 = .ok (.lreturn, 1) := by decide +kernel
theorem d_Db_foretold_0 : decode b_Db_foretold 0 = .ok (.iload_n 1, 1) := by decide +kernel
theorem d_Db_foretold_1 : decode b_Db_foretold 1 = .ok (.iconst 0, 1) := by decide +kernel
theorem d_Db_foretold_2 : decode b_Db_foretold 2 = .ok (.sipush 300, 3) := by decide +kernel
theorem d_Db_foretold_5 : decode b_Db_foretold 5 = .ok (.invokestatic 131, 3) := by decide +kernel
theorem d_Db_foretold_8 : decode b_Db_foretold 8 = .ok (.iload_n 2, 1) := by decide +kernel
theorem d_Db_foretold_9 : decode b_Db_foretold 9 = .ok (.iconst 0, 1) := by decide +kernel
theorem d_Db_foretold_10 : decode b_Db_foretold 10 = .ok (.iconst 2, 1) := by decide +kernel
theorem d_Db_foretold_11 : decode b_Db_foretold 11 = .ok (.invokestatic 131, 3) := by decide +kernel
theorem d_Db_foretold_14 : decode b_Db_foretold 14 = .ok (.aload_n 0, 1) := by decide +kernel
theorem d_Db_foretold_15 : decode b_Db_foretold 15 = .ok (.getfield 51, 3) := by decide +kernel
theorem d_Db_foretold_18 : decode b_Db_foretold 18 = .ok (.getfield 370, 3) := by decide +kernel
theorem d_Db_foretold_21 : decode b_Db_foretold 21 = .ok (.astore_n 3, 1) := by decide +kernel
theorem d_Db_foretold_22 : decode b_Db_foretold 22 = .ok (.aload_n 3, 1) := by decide +kernel
theorem d_Db_foretold_23 : decode b_Db_foretold 23 = .ok (.aload_n 0, 1) := by decide +kernel
theorem d_Db_foretold_24 : decode b_Db_foretold 24 = .ok (.getfield 44, 3) := by decide +kernel
theorem d_Db_foretold_27 : decode b_Db_foretold 27 = .ok (.getfield 141, 3) := by decide +kernel
theorem d_Db_foretold_30 : decode b_Db_foretold 30 = .ok (.invokevirtual 373, 3) := by decide +kernel
theorem d_Db_foretold_33 : decode b_Db_foretold 33 = .ok (.iconst 0, 1) := by decide +kernel
theorem d_Db_foretold_34 : decode b_Db_foretold 34 = .ok (.istore 4, 2) := by decide +kernel
theorem d_Db_foretold_36 : decode b_Db_foretold 36 = .ok (.iload 4, 2) := by decide +kernel
theorem d_Db_foretold_38 : decode b_Db_foretold 38 = .ok (.iload_n 1, 1) := by decide +kernel
theorem d_Db_foretold_39 : decode b_Db_foretold 39 = .ok (.if_icmp .ge 14, 3) := by decide +kernel
theorem d_Db_foretold_42 : decode b_Db_foretold 42 = .ok (.aload_n 3, 1) := by decide +kernel
theorem d_Db_foretold_43 : decode b_Db_foretold 43 = .ok (.iconst 1, 1) := by decide +kernel
theorem d_Db_foretold_44 : decode b_Db_foretold 44 = .ok (.invokevirtual 402, 3) := by decide +kernel
theorem d_Db_foretold_47 : decode b_Db_foretold 47 = .ok (.iinc 4 1, 3) := by decide +kernel
theorem d_Db_foretold_50 : decode b_Db_foretold 50 = .ok (.goto (-14), 3) := by decide +kernel
theorem d_Db_foretold_53 : decode b_Db_foretold 53 = .ok (.iload_n 2, 1) := by decide +kernel
theorem d_Db_foretold_54 : decode b_Db_foretold 54 = .ok (.lookupswitch 38 #[(0, 26), (1, 32)], 26) := by decide +kernel
theorem d_Db_foretold_80 : decode b_Db_foretold 80 = .ok (.aload_n 3, 1) := by decide +kernel
theorem d_Db_foretold_81 : decode b_Db_foretold 81 = .ok (.getfield 271, 3) := by decide +kernel
theorem d_Db_foretold_84 : decode b_Db_foretold 84 = .ok (.i2l, 1) := by decide +kernel
theorem d_Db_foretold_85 : decode b_Db_foretold 85 = .ok (.lreturn, 1) := by decide +kernel
theorem d_Db_foretold_86 : decode b_Db_foretold 86 = .ok (.aload_n 3, 1) := by decide +kernel
theorem d_Db_foretold_87 : decode b_Db_foretold 87 = .ok (.getfield 268, 3) := by decide +kernel
theorem d_Db_foretold_90 : decode b_Db_foretold 90 = .ok (.i2l, 1) := by decide +kernel
theorem d_Db_foretold_91 : decode b_Db_foretold 91 = .ok (.lreturn, 1) := by decide +kernel
theorem d_Db_foretold_92 : decode b_Db_foretold 92 = .ok (.aload_n 3, 1) := by decide +kernel
theorem d_Db_foretold_93 : decode b_Db_foretold 93 = .ok (.invokevirtual 292, 3) := by decide +kernel
theorem d_Db_foretold_96 : decode b_Db_foretold 96 = .ok (.lreturn, 1) := by decide +kernel
theorem d_Db_steadyIn_0 : decode b_Db_steadyIn 0 = .ok (.aload_n 0, 1) := by decide +kernel
theorem d_Db_steadyIn_1 : decode b_Db_steadyIn 1 = .ok (.getfield 51, 3) := by decide +kernel
theorem d_Db_steadyIn_4 : decode b_Db_steadyIn 4 = .ok (.getfield 370, 3) := by decide +kernel
theorem d_Db_steadyIn_7 : decode b_Db_steadyIn 7 = .ok (.aload_n 0, 1) := by decide +kernel
theorem d_Db_steadyIn_8 : decode b_Db_steadyIn 8 = .ok (.getfield 44, 3) := by decide +kernel
theorem d_Db_steadyIn_11 : decode b_Db_steadyIn 11 = .ok (.getfield 141, 3) := by decide +kernel
theorem d_Db_steadyIn_14 : decode b_Db_steadyIn 14 = .ok (.invokevirtual 373, 3) := by decide +kernel
theorem d_Db_steadyIn_17 : decode b_Db_steadyIn 17 = .ok (.aload_n 0, 1) := by decide +kernel
theorem d_Db_steadyIn_18 : decode b_Db_steadyIn 18 = .ok (.getfield 51, 3) := by decide +kernel
theorem d_Db_steadyIn_21 : decode b_Db_steadyIn 21 = .ok (.iconst 1, 1) := by decide +kernel
theorem d_Db_steadyIn_22 : decode b_Db_steadyIn 22 = .ok (.invokevirtual 406, 3) := by decide +kernel
theorem d_Db_steadyIn_25 : decode b_Db_steadyIn 25 = .ok (.ireturn, 1) := by decide +kernel
theorem d_Db_cooledIn_0 : decode b_Db_cooledIn 0 = .ok (.aload_n 0, 1) := by decide +kernel
theorem d_Db_cooledIn_1 : decode b_Db_cooledIn 1 = .ok (.getfield 51, 3) := by decide +kernel
theorem d_Db_cooledIn_4 : decode b_Db_cooledIn 4 = .ok (.getfield 370, 3) := by decide +kernel
theorem d_Db_cooledIn_7 : decode b_Db_cooledIn 7 = .ok (.aload_n 0, 1) := by decide +kernel
theorem d_Db_cooledIn_8 : decode b_Db_cooledIn 8 = .ok (.getfield 44, 3) := by decide +kernel
theorem d_Db_cooledIn_11 : decode b_Db_cooledIn 11 = .ok (.getfield 141, 3) := by decide +kernel
theorem d_Db_cooledIn_14 : decode b_Db_cooledIn 14 = .ok (.invokevirtual 373, 3) := by decide +kernel
theorem d_Db_cooledIn_17 : decode b_Db_cooledIn 17 = .ok (.aload_n 0, 1) := by decide +kernel
theorem d_Db_cooledIn_18 : decode b_Db_cooledIn 18 = .ok (.getfield 51, 3) := by decide +kernel
theorem d_Db_cooledIn_21 : decode b_Db_cooledIn 21 = .ok (.iconst 0, 1) := by decide +kernel
theorem d_Db_cooledIn_22 : decode b_Db_cooledIn 22 = .ok (.invokevirtual 406, 3) := by decide +kernel
theorem d_Db_cooledIn_25 : decode b_Db_cooledIn 25 = .ok (.ireturn, 1) := by decide +kernel
theorem d_Db_setArms_0 : decode b_Db_setArms 0 = .ok (.iload_n 1, 1) := by decide +kernel
theorem d_Db_setArms_1 : decode b_Db_setArms 1 = .ok (.iconst 5, 1) := by decide +kernel
theorem d_Db_setArms_2 : decode b_Db_setArms 2 = .ok (.invokestatic 206, 3) := by decide +kernel
theorem d_Db_setArms_5 : decode b_Db_setArms 5 = .ok (.iload_n 2, 1) := by decide +kernel
theorem d_Db_setArms_6 : decode b_Db_setArms 6 = .ok (.iconst 5, 1) := by decide +kernel
theorem d_Db_setArms_7 : decode b_Db_setArms 7 = .ok (.invokestatic 206, 3) := by decide +kernel
theorem d_Db_setArms_10 : decode b_Db_setArms 10 = .ok (.bipush 10, 2) := by decide +kernel
theorem d_Db_setArms_12 : decode b_Db_setArms 12 = .ok (.aload_n 0, 1) := by decide +kernel
theorem d_Db_setArms_13 : decode b_Db_setArms 13 = .ok (.getfield 44, 3) := by decide +kernel
theorem d_Db_setArms_16 : decode b_Db_setArms 16 = .ok (.getfield 141, 3) := by decide +kernel
theorem d_Db_setArms_19 : decode b_Db_setArms 19 = .ok (.getfield 168, 3) := by decide +kernel
theorem d_Db_setArms_22 : decode b_Db_setArms 22 = .ok (.imul, 1) := by decide +kernel
theorem d_Db_setArms_23 : decode b_Db_setArms 23 = .ok (.aload_n 0, 1) := by decide +kernel
theorem d_Db_setArms_24 : decode b_Db_setArms 24 = .ok (.getfield 44, 3) := by decide +kernel
theorem d_Db_setArms_27 : decode b_Db_setArms 27 = .ok (.getfield 141, 3) := by decide +kernel
theorem d_Db_setArms_30 : decode b_Db_setArms 30 = .ok (.getfield 171, 3) := by decide +kernel
theorem d_Db_setArms_33 : decode b_Db_setArms 33 = .ok (.iadd, 1) := by decide +kernel
theorem d_Db_setArms_34 : decode b_Db_setArms 34 = .ok (.istore_n 3, 1) := by decide +kernel
theorem d_Db_setArms_35 : decode b_Db_setArms 35 = .ok (.aload_n 0, 1) := by decide +kernel
theorem d_Db_setArms_36 : decode b_Db_setArms 36 = .ok (.invokevirtual 111, 3) := by decide +kernel
theorem d_Db_setArms_39 : decode b_Db_setArms 39 = .ok (.aload_n 0, 1) := by decide +kernel
theorem d_Db_setArms_40 : decode b_Db_setArms 40 = .ok (.getfield 44, 3) := by decide +kernel
theorem d_Db_setArms_43 : decode b_Db_setArms 43 = .ok (.getfield 141, 3) := by decide +kernel
theorem d_Db_setArms_46 : decode b_Db_setArms 46 = .ok (.iload_n 1, 1) := by decide +kernel
theorem d_Db_setArms_47 : decode b_Db_setArms 47 = .ok (.iload_n 2, 1) := by decide +kernel
theorem d_Db_setArms_48 : decode b_Db_setArms 48 = .ok (.invokevirtual 390, 3) := by decide +kernel
theorem d_Db_setArms_51 : decode b_Db_setArms 51 = .ok (.iload_n 3, 1) := by decide +kernel
theorem d_Db_setArms_52 : decode b_Db_setArms 52 = .ok (.ireturn, 1) := by decide +kernel
theorem d_Db_setVolts_0 : decode b_Db_setVolts 0 = .ok (.iload_n 1, 1) := by decide +kernel
theorem d_Db_setVolts_1 : decode b_Db_setVolts 1 = .ok (.iconst 0, 1) := by decide +kernel
theorem d_Db_setVolts_2 : decode b_Db_setVolts 2 = .ok (.sipush 20000, 3) := by decide +kernel
theorem d_Db_setVolts_5 : decode b_Db_setVolts 5 = .ok (.invokestatic 131, 3) := by decide +kernel
theorem d_Db_setVolts_8 : decode b_Db_setVolts 8 = .ok (.aload_n 0, 1) := by decide +kernel
theorem d_Db_setVolts_9 : decode b_Db_setVolts 9 = .ok (.getfield 44, 3) := by decide +kernel
theorem d_Db_setVolts_12 : decode b_Db_setVolts 12 = .ok (.getfield 141, 3) := by decide +kernel
theorem d_Db_setVolts_15 : decode b_Db_setVolts 15 = .ok (.getfield 145, 3) := by decide +kernel
theorem d_Db_setVolts_18 : decode b_Db_setVolts 18 = .ok (.istore_n 2, 1) := by decide +kernel
theorem d_Db_setVolts_19 : decode b_Db_setVolts 19 = .ok (.aload_n 0, 1) := by decide +kernel
theorem d_Db_setVolts_20 : decode b_Db_setVolts 20 = .ok (.invokevirtual 111, 3) := by decide +kernel
theorem d_Db_setVolts_23 : decode b_Db_setVolts 23 = .ok (.aload_n 0, 1) := by decide +kernel
theorem d_Db_setVolts_24 : decode b_Db_setVolts 24 = .ok (.getfield 44, 3) := by decide +kernel
theorem d_Db_setVolts_27 : decode b_Db_setVolts 27 = .ok (.getfield 141, 3) := by decide +kernel
theorem d_Db_setVolts_30 : decode b_Db_setVolts 30 = .ok (.iload_n 1, 1) := by decide +kernel
theorem d_Db_setVolts_31 : decode b_Db_setVolts 31 = .ok (.putfield 145, 3) := by decide +kernel
theorem d_Db_setVolts_34 : decode b_Db_setVolts 34 = .ok (.iload_n 2, 1) := by decide +kernel
theorem d_Db_setVolts_35 : decode b_Db_setVolts 35 = .ok (.ireturn, 1) := by decide +kernel
theorem d_Db_setTo_0 : decode b_Db_setTo 0 = .ok (.iload_n 1, 1) := by decide +kernel
theorem d_Db_setTo_1 : decode b_Db_setTo 1 = .ok (.ifCond .ge 11, 3) := by decide +kernel
theorem d_Db_setTo_4 : decode b_Db_setTo 4 = .ok (.new 409, 3) := by decide +kernel
theorem d_Db_setTo_7 : decode b_Db_setTo 7 = .ok (.dup, 1) := by decide +kernel
theorem d_Db_setTo_8 : decode b_Db_setTo 8 = .ok (.invokespecial 411, 3) := by decide +kernel
theorem d_Db_setTo_11 : decode b_Db_setTo 11 = .ok (.athrow, 1) := by decide +kernel
theorem d_Db_setTo_12 : decode b_Db_setTo 12 = .ok (.iload_n 1, 1) := by decide +kernel
theorem d_Db_setTo_13 : decode b_Db_setTo 13 = .ok (.aload_n 0, 1) := by decide +kernel
theorem d_Db_setTo_14 : decode b_Db_setTo 14 = .ok (.getfield 19, 3) := by decide +kernel
theorem d_Db_setTo_17 : decode b_Db_setTo 17 = .ok (.invokevirtual 280, 3) := by decide +kernel
theorem d_Db_setTo_20 : decode b_Db_setTo 20 = .ok (.if_icmp .lt 6, 3) := by decide +kernel
theorem d_Db_setTo_23 : decode b_Db_setTo 23 = .ok (.bipush (-2), 2) := by decide +kernel
theorem d_Db_setTo_25 : decode b_Db_setTo 25 = .ok (.ireturn, 1) := by decide +kernel
theorem d_Db_setTo_26 : decode b_Db_setTo 26 = .ok (.aload_n 0, 1) := by decide +kernel
theorem d_Db_setTo_27 : decode b_Db_setTo 27 = .ok (.getfield 44, 3) := by decide +kernel
theorem d_Db_setTo_30 : decode b_Db_setTo 30 = .ok (.getfield 141, 3) := by decide +kernel
theorem d_Db_setTo_33 : decode b_Db_setTo 33 = .ok (.getfield 181, 3) := by decide +kernel
theorem d_Db_setTo_36 : decode b_Db_setTo 36 = .ok (.istore_n 2, 1) := by decide +kernel
theorem d_Db_setTo_37 : decode b_Db_setTo 37 = .ok (.aload_n 0, 1) := by decide +kernel
theorem d_Db_setTo_38 : decode b_Db_setTo 38 = .ok (.invokevirtual 111, 3) := by decide +kernel
theorem d_Db_setTo_41 : decode b_Db_setTo 41 = .ok (.aload_n 0, 1) := by decide +kernel
theorem d_Db_setTo_42 : decode b_Db_setTo 42 = .ok (.getfield 44, 3) := by decide +kernel
theorem d_Db_setTo_45 : decode b_Db_setTo 45 = .ok (.getfield 141, 3) := by decide +kernel
theorem d_Db_setTo_48 : decode b_Db_setTo 48 = .ok (.iload_n 1, 1) := by decide +kernel
theorem d_Db_setTo_49 : decode b_Db_setTo 49 = .ok (.invokevirtual 412, 3) := by decide +kernel
theorem d_Db_setTo_52 : decode b_Db_setTo 52 = .ok (.iload_n 2, 1) := by decide +kernel
theorem d_Db_setTo_53 : decode b_Db_setTo 53 = .ok (.ireturn, 1) := by decide +kernel
theorem d_Db_setDigit_0 : decode b_Db_setDigit 0 = .ok (.iload_n 1, 1) := by decide +kernel
theorem d_Db_setDigit_1 : decode b_Db_setDigit 1 = .ok (.aload_n 0, 1) := by decide +kernel
theorem d_Db_setDigit_2 : decode b_Db_setDigit 2 = .ok (.getfield 19, 3) := by decide +kernel
theorem d_Db_setDigit_5 : decode b_Db_setDigit 5 = .ok (.getfield 107, 3) := by decide +kernel
theorem d_Db_setDigit_8 : decode b_Db_setDigit 8 = .ok (.invokestatic 206, 3) := by decide +kernel
theorem d_Db_setDigit_11 : decode b_Db_setDigit 11 = .ok (.iload_n 2, 1) := by decide +kernel
theorem d_Db_setDigit_12 : decode b_Db_setDigit 12 = .ok (.iconst 0, 1) := by decide +kernel
theorem d_Db_setDigit_13 : decode b_Db_setDigit 13 = .ok (.bipush 9, 2) := by decide +kernel
theorem d_Db_setDigit_15 : decode b_Db_setDigit 15 = .ok (.invokestatic 131, 3) := by decide +kernel
theorem d_Db_setDigit_18 : decode b_Db_setDigit 18 = .ok (.aload_n 0, 1) := by decide +kernel
theorem d_Db_setDigit_19 : decode b_Db_setDigit 19 = .ok (.invokevirtual 111, 3) := by decide +kernel
theorem d_Db_setDigit_22 : decode b_Db_setDigit 22 = .ok (.iload_n 2, 1) := by decide +kernel
theorem d_Db_setDigit_23 : decode b_Db_setDigit 23 = .ok (.aload_n 0, 1) := by decide +kernel
theorem d_Db_setDigit_24 : decode b_Db_setDigit 24 = .ok (.getfield 19, 3) := by decide +kernel
theorem d_Db_setDigit_27 : decode b_Db_setDigit 27 = .ok (.aload_n 0, 1) := by decide +kernel
theorem d_Db_setDigit_28 : decode b_Db_setDigit 28 = .ok (.getfield 44, 3) := by decide +kernel
theorem d_Db_setDigit_31 : decode b_Db_setDigit 31 = .ok (.getfield 141, 3) := by decide +kernel
theorem d_Db_setDigit_34 : decode b_Db_setDigit 34 = .ok (.getfield 181, 3) := by decide +kernel
theorem d_Db_setDigit_37 : decode b_Db_setDigit 37 = .ok (.iload_n 1, 1) := by decide +kernel
theorem d_Db_setDigit_38 : decode b_Db_setDigit 38 = .ok (.invokevirtual 225, 3) := by decide +kernel
theorem d_Db_setDigit_41 : decode b_Db_setDigit 41 = .ok (.isub, 1) := by decide +kernel
theorem d_Db_setDigit_42 : decode b_Db_setDigit 42 = .ok (.istore_n 3, 1) := by decide +kernel
theorem d_Db_setDigit_43 : decode b_Db_setDigit 43 = .ok (.aload_n 0, 1) := by decide +kernel
theorem d_Db_setDigit_44 : decode b_Db_setDigit 44 = .ok (.getfield 44, 3) := by decide +kernel
theorem d_Db_setDigit_47 : decode b_Db_setDigit 47 = .ok (.getfield 141, 3) := by decide +kernel
theorem d_Db_setDigit_50 : decode b_Db_setDigit 50 = .ok (.aload_n 0, 1) := by decide +kernel
theorem d_Db_setDigit_51 : decode b_Db_setDigit 51 = .ok (.getfield 44, 3) := by decide +kernel
theorem d_Db_setDigit_54 : decode b_Db_setDigit 54 = .ok (.getfield 141, 3) := by decide +kernel
theorem d_Db_setDigit_57 : decode b_Db_setDigit 57 = .ok (.getfield 181, 3) := by decide +kernel
theorem d_Db_setDigit_60 : decode b_Db_setDigit 60 = .ok (.iload_n 3, 1) := by decide +kernel
theorem d_Db_setDigit_61 : decode b_Db_setDigit 61 = .ok (.aload_n 0, 1) := by decide +kernel
theorem d_Db_setDigit_62 : decode b_Db_setDigit 62 = .ok (.getfield 19, 3) := by decide +kernel
theorem d_Db_setDigit_65 : decode b_Db_setDigit 65 = .ok (.iload_n 1, 1) := by decide +kernel
theorem d_Db_setDigit_66 : decode b_Db_setDigit 66 = .ok (.invokevirtual 415, 3) := by decide +kernel
theorem d_Db_setDigit_69 : decode b_Db_setDigit 69 = .ok (.imul, 1) := by decide +kernel
theorem d_Db_setDigit_70 : decode b_Db_setDigit 70 = .ok (.iadd, 1) := by decide +kernel
theorem d_Db_setDigit_71 : decode b_Db_setDigit 71 = .ok (.invokevirtual 412, 3) := by decide +kernel
theorem d_Db_setDigit_74 : decode b_Db_setDigit 74 = .ok (.aload_n 0, 1) := by decide +kernel
theorem d_Db_setDigit_75 : decode b_Db_setDigit 75 = .ok (.getfield 44, 3) := by decide +kernel
theorem d_Db_setDigit_78 : decode b_Db_setDigit 78 = .ok (.getfield 141, 3) := by decide +kernel
theorem d_Db_setDigit_81 : decode b_Db_setDigit 81 = .ok (.getfield 181, 3) := by decide +kernel
theorem d_Db_setDigit_84 : decode b_Db_setDigit 84 = .ok (.ireturn, 1) := by decide +kernel
theorem d_Db_turn_0 : decode b_Db_turn 0 = .ok (.aload_n 0, 1) := by decide +kernel
theorem d_Db_turn_1 : decode b_Db_turn 1 = .ok (.invokevirtual 111, 3) := by decide +kernel
theorem d_Db_turn_4 : decode b_Db_turn 4 = .ok (.aload_n 0, 1) := by decide +kernel
theorem d_Db_turn_5 : decode b_Db_turn 5 = .ok (.getfield 44, 3) := by decide +kernel
theorem d_Db_turn_8 : decode b_Db_turn 8 = .ok (.getfield 141, 3) := by decide +kernel
theorem d_Db_turn_11 : decode b_Db_turn 11 = .ok (.aload_n 0, 1) := by decide +kernel
theorem d_Db_turn_12 : decode b_Db_turn 12 = .ok (.getfield 44, 3) := by decide +kernel
theorem d_Db_turn_15 : decode b_Db_turn 15 = .ok (.getfield 141, 3) := by decide +kernel
theorem d_Db_turn_18 : decode b_Db_turn 18 = .ok (.getfield 174, 3) := by decide +kernel
theorem d_Db_turn_21 : decode b_Db_turn 21 = .ok (.ifCond .ne 7, 3) := by decide +kernel
theorem d_Db_turn_24 : decode b_Db_turn 24 = .ok (.iconst 1, 1) := by decide +kernel
theorem d_Db_turn_25 : decode b_Db_turn 25 = .ok (.goto 4, 3) := by decide +kernel
theorem d_Db_turn_28 : decode b_Db_turn 28 = .ok (.iconst 0, 1) := by decide +kernel
theorem d_Db_turn_29 : decode b_Db_turn 29 = .ok (.putfield 174, 3) := by decide +kernel
theorem d_Db_turn_32 : decode b_Db_turn 32 = .ok (.aload_n 0, 1) := by decide +kernel
theorem d_Db_turn_33 : decode b_Db_turn 33 = .ok (.getfield 44, 3) := by decide +kernel
theorem d_Db_turn_36 : decode b_Db_turn 36 = .ok (.getfield 141, 3) := by decide +kernel
theorem d_Db_turn_39 : decode b_Db_turn 39 = .ok (.getfield 174, 3) := by decide +kernel
theorem d_Db_turn_42 : decode b_Db_turn 42 = .ok (.ifCond .eq 7, 3) := by decide +kernel
theorem d_Db_turn_45 : decode b_Db_turn 45 = .ok (.iconst 1, 1) := by decide +kernel
theorem d_Db_turn_46 : decode b_Db_turn 46 = .ok (.goto 4, 3) := by decide +kernel
theorem d_Db_turn_49 : decode b_Db_turn 49 = .ok (.iconst 0, 1) := by decide +kernel
theorem d_Db_turn_50 : decode b_Db_turn 50 = .ok (.ireturn, 1) := by decide +kernel
theorem d_Db_connect_0 : decode b_Db_connect 0 = .ok (.iload_n 1, 1) := by decide +kernel
theorem d_Db_connect_1 : decode b_Db_connect 1 = .ok (.iconst 2, 1) := by decide +kernel
theorem d_Db_connect_2 : decode b_Db_connect 2 = .ok (.iconst 3, 1) := by decide +kernel
theorem d_Db_connect_3 : decode b_Db_connect 3 = .ok (.invokestatic 131, 3) := by decide +kernel
theorem d_Db_connect_6 : decode b_Db_connect 6 = .ok (.aload_n 0, 1) := by decide +kernel
theorem d_Db_connect_7 : decode b_Db_connect 7 = .ok (.getfield 44, 3) := by decide +kernel
theorem d_Db_connect_10 : decode b_Db_connect 10 = .ok (.getfield 141, 3) := by decide +kernel
theorem d_Db_connect_13 : decode b_Db_connect 13 = .ok (.getfield 178, 3) := by decide +kernel
theorem d_Db_connect_16 : decode b_Db_connect 16 = .ok (.istore_n 2, 1) := by decide +kernel
theorem d_Db_connect_17 : decode b_Db_connect 17 = .ok (.aload_n 0, 1) := by decide +kernel
theorem d_Db_connect_18 : decode b_Db_connect 18 = .ok (.invokevirtual 111, 3) := by decide +kernel
theorem d_Db_connect_21 : decode b_Db_connect 21 = .ok (.aload_n 0, 1) := by decide +kernel
theorem d_Db_connect_22 : decode b_Db_connect 22 = .ok (.getfield 44, 3) := by decide +kernel
theorem d_Db_connect_25 : decode b_Db_connect 25 = .ok (.getfield 141, 3) := by decide +kernel
theorem d_Db_connect_28 : decode b_Db_connect 28 = .ok (.iload_n 1, 1) := by decide +kernel
theorem d_Db_connect_29 : decode b_Db_connect 29 = .ok (.invokevirtual 396, 3) := by decide +kernel
theorem d_Db_connect_32 : decode b_Db_connect 32 = .ok (.iload_n 2, 1) := by decide +kernel
theorem d_Db_connect_33 : decode b_Db_connect 33 = .ok (.ireturn, 1) := by decide +kernel
theorem d_Db_rest_0 : decode b_Db_rest 0 = .ok (.iload_n 1, 1) := by decide +kernel
theorem d_Db_rest_1 : decode b_Db_rest 1 = .ok (.iconst 1, 1) := by decide +kernel
theorem d_Db_rest_2 : decode b_Db_rest 2 = .ok (.bipush 99, 2) := by decide +kernel
theorem d_Db_rest_4 : decode b_Db_rest 4 = .ok (.invokestatic 131, 3) := by decide +kernel
theorem d_Db_rest_7 : decode b_Db_rest 7 = .ok (.aload_n 0, 1) := by decide +kernel
theorem d_Db_rest_8 : decode b_Db_rest 8 = .ok (.invokevirtual 111, 3) := by decide +kernel
theorem d_Db_rest_11 : decode b_Db_rest 11 = .ok (.aload_n 0, 1) := by decide +kernel
theorem d_Db_rest_12 : decode b_Db_rest 12 = .ok (.getfield 44, 3) := by decide +kernel
theorem d_Db_rest_15 : decode b_Db_rest 15 = .ok (.iload_n 1, 1) := by decide +kernel
theorem d_Db_rest_16 : decode b_Db_rest 16 = .ok (.invokevirtual 418, 3) := by decide +kernel
theorem d_Db_rest_19 : decode b_Db_rest 19 = .ok (.aload_n 0, 1) := by decide +kernel
theorem d_Db_rest_20 : decode b_Db_rest 20 = .ok (.getfield 44, 3) := by decide +kernel
theorem d_Db_rest_23 : decode b_Db_rest 23 = .ok (.getfield 141, 3) := by decide +kernel
theorem d_Db_rest_26 : decode b_Db_rest 26 = .ok (.getfield 165, 3) := by decide +kernel
theorem d_Db_rest_29 : decode b_Db_rest 29 = .ok (.ireturn, 1) := by decide +kernel
theorem d_Db_read_0 : decode b_Db_read 0 = .ok (.aload_n 0, 1) := by decide +kernel
theorem d_Db_read_1 : decode b_Db_read 1 = .ok (.getfield 44, 3) := by decide +kernel
theorem d_Db_read_4 : decode b_Db_read 4 = .ok (.getfield 141, 3) := by decide +kernel
theorem d_Db_read_7 : decode b_Db_read 7 = .ok (.invokevirtual 303, 3) := by decide +kernel
theorem d_Db_read_10 : decode b_Db_read 10 = .ok (.istore_n 1, 1) := by decide +kernel
theorem d_Db_read_11 : decode b_Db_read 11 = .ok (.iload_n 1, 1) := by decide +kernel
theorem d_Db_read_12 : decode b_Db_read 12 = .ok (.ifCond .eq 7, 3) := by decide +kernel
theorem d_Db_read_15 : decode b_Db_read 15 = .ok (.iconst (-1), 1) := by decide +kernel
theorem d_Db_read_16 : decode b_Db_read 16 = .ok (.iload_n 1, 1) := by decide +kernel
theorem d_Db_read_17 : decode b_Db_read 17 = .ok (.isub, 1) := by decide +kernel
theorem d_Db_read_18 : decode b_Db_read 18 = .ok (.ireturn, 1) := by decide +kernel
theorem d_Db_read_19 : decode b_Db_read 19 = .ok (.aload_n 0, 1) := by decide +kernel
theorem d_Db_read_20 : decode b_Db_read 20 = .ok (.invokevirtual 111, 3) := by decide +kernel
theorem d_Db_read_23 : decode b_Db_read 23 = .ok (.aload_n 0, 1) := by decide +kernel
theorem d_Db_read_24 : decode b_Db_read 24 = .ok (.getfield 44, 3) := by decide +kernel
theorem d_Db_read_27 : decode b_Db_read 27 = .ok (.invokevirtual 421, 3) := by decide +kernel
theorem d_Db_read_30 : decode b_Db_read 30 = .ok (.pop, 1) := by decide +kernel
theorem d_Db_read_31 : decode b_Db_read 31 = .ok (.aload_n 0, 1) := by decide +kernel
theorem d_Db_read_32 : decode b_Db_read 32 = .ok (.getfield 44, 3) := by decide +kernel
theorem d_Db_read_35 : decode b_Db_read 35 = .ok (.getfield 313, 3) := by decide +kernel
theorem d_Db_read_38 : decode b_Db_read 38 = .ok (.ireturn, 1) := by decide +kernel
theorem d_Db_balance_0 : decode b_Db_balance 0 = .ok (.aload_n 0, 1) := by decide +kernel
theorem d_Db_balance_1 : decode b_Db_balance 1 = .ok (.getfield 44, 3) := by decide +kernel
theorem d_Db_balance_4 : decode b_Db_balance 4 = .ok (.getfield 141, 3) := by decide +kernel
theorem d_Db_balance_7 : decode b_Db_balance 7 = .ok (.getfield 145, 3) := by decide +kernel
theorem d_Db_balance_10 : decode b_Db_balance 10 = .ok (.ifCond .ne 6, 3) := by decide +kernel
theorem d_Db_balance_13 : decode b_Db_balance 13 = .ok (.bipush (-2), 2) := by decide +kernel
theorem d_Db_balance_15 : decode b_Db_balance 15 = .ok (.ireturn, 1) := by decide +kernel
theorem d_Db_balance_16 : decode b_Db_balance 16 = .ok (.aload_n 0, 1) := by decide +kernel
theorem d_Db_balance_17 : decode b_Db_balance 17 = .ok (.invokevirtual 111, 3) := by decide +kernel
theorem d_Db_balance_20 : decode b_Db_balance 20 = .ok (.aload_n 0, 1) := by decide +kernel
theorem d_Db_balance_21 : decode b_Db_balance 21 = .ok (.getfield 44, 3) := by decide +kernel
theorem d_Db_balance_24 : decode b_Db_balance 24 = .ok (.iload_n 1, 1) := by decide +kernel
theorem d_Db_balance_25 : decode b_Db_balance 25 = .ok (.invokevirtual 424, 3) := by decide +kernel
theorem d_Db_balance_28 : decode b_Db_balance 28 = .ok (.ireturn, 1) := by decide +kernel
theorem d_Db_report_0 : decode b_Db_report 0 = .ok (.aload_n 0, 1) := by decide +kernel
theorem d_Db_report_1 : decode b_Db_report 1 = .ok (.getfield 58, 3) := by decide +kernel
theorem d_Db_report_4 : decode b_Db_report 4 = .ok (.aload_n 0, 1) := by decide +kernel
theorem d_Db_report_5 : decode b_Db_report 5 = .ok (.getfield 44, 3) := by decide +kernel
theorem d_Db_report_8 : decode b_Db_report 8 = .ok (.getfield 190, 3) := by decide +kernel
theorem d_Db_report_11 : decode b_Db_report 11 = .ok (.aload_n 0, 1) := by decide +kernel
theorem d_Db_report_12 : decode b_Db_report 12 = .ok (.getfield 19, 3) := by decide +kernel
theorem d_Db_report_15 : decode b_Db_report 15 = .ok (.getfield 107, 3) := by decide +kernel
theorem d_Db_report_18 : decode b_Db_report 18 = .ok (.invokevirtual 427, 3) := by decide +kernel
theorem d_Db_report_21 : decode b_Db_report 21 = .ok (.aload_n 0, 1) := by decide +kernel
theorem d_Db_report_22 : decode b_Db_report 22 = .ok (.getfield 58, 3) := by decide +kernel
theorem d_Db_report_25 : decode b_Db_report 25 = .ok (.getfield 431, 3) := by decide +kernel
theorem d_Db_report_28 : decode b_Db_report 28 = .ok (.ireturn, 1) := by decide +kernel
theorem d_Db_reportByte_0 : decode b_Db_reportByte 0 = .ok (.aload_n 0, 1) := by decide +kernel
theorem d_Db_reportByte_1 : decode b_Db_reportByte 1 = .ok (.getfield 58, 3) := by decide +kernel
theorem d_Db_reportByte_4 : decode b_Db_reportByte 4 = .ok (.iload_n 1, 1) := by decide +kernel
theorem d_Db_reportByte_5 : decode b_Db_reportByte 5 = .ok (.invokevirtual 432, 3) := by decide +kernel
theorem d_Db_reportByte_8 : decode b_Db_reportByte 8 = .ok (.ireturn, 1) := by decide +kernel
theorem d_Db_undo_0 : decode b_Db_undo 0 = .ok (.aload_n 0, 1) := by decide +kernel
theorem d_Db_undo_1 : decode b_Db_undo 1 = .ok (.getfield 203, 3) := by decide +kernel
theorem d_Db_undo_4 : decode b_Db_undo 4 = .ok (.ifCond .le 17, 3) := by decide +kernel
theorem d_Db_undo_7 : decode b_Db_undo 7 = .ok (.aload_n 0, 1) := by decide +kernel
theorem d_Db_undo_8 : decode b_Db_undo 8 = .ok (.getfield 62, 3) := by decide +kernel
theorem d_Db_undo_11 : decode b_Db_undo 11 = .ok (.aload_n 0, 1) := by decide +kernel
theorem d_Db_undo_12 : decode b_Db_undo 12 = .ok (.getfield 435, 3) := by decide +kernel
theorem d_Db_undo_15 : decode b_Db_undo 15 = .ok (.invokestatic 438, 3) := by decide +kernel
theorem d_Db_undo_18 : decode b_Db_undo 18 = .ok (.goto 4, 3) := by decide +kernel
theorem d_Db_undo_21 : decode b_Db_undo 21 = .ok (.aconst_null, 1) := by decide +kernel
theorem d_Db_undo_22 : decode b_Db_undo 22 = .ok (.astore_n 1, 1) := by decide +kernel
theorem d_Db_undo_23 : decode b_Db_undo 23 = .ok (.aload_n 1, 1) := by decide +kernel
theorem d_Db_undo_24 : decode b_Db_undo 24 = .ok (.ifnonnull 5, 3) := by decide +kernel
theorem d_Db_undo_27 : decode b_Db_undo 27 = .ok (.iconst (-1), 1) := by decide +kernel
theorem d_Db_undo_28 : decode b_Db_undo 28 = .ok (.ireturn, 1) := by decide +kernel
theorem d_Db_undo_29 : decode b_Db_undo 29 = .ok (.aload_n 0, 1) := by decide +kernel
theorem d_Db_undo_30 : decode b_Db_undo 30 = .ok (.getfield 44, 3) := by decide +kernel
theorem d_Db_undo_33 : decode b_Db_undo 33 = .ok (.aload_n 1, 1) := by decide +kernel
theorem d_Db_undo_34 : decode b_Db_undo 34 = .ok (.invokevirtual 442, 3) := by decide +kernel
theorem d_Db_undo_37 : decode b_Db_undo 37 = .ok (.aload_n 0, 1) := by decide +kernel
theorem d_Db_undo_38 : decode b_Db_undo 38 = .ok (.aload_n 0, 1) := by decide +kernel
theorem d_Db_undo_39 : decode b_Db_undo 39 = .ok (.getfield 435, 3) := by decide +kernel
theorem d_Db_undo_42 : decode b_Db_undo 42 = .ok (.ifCond .ne 8, 3) := by decide +kernel
theorem d_Db_undo_45 : decode b_Db_undo 45 = .ok (.bipush 7, 2) := by decide +kernel
theorem d_Db_undo_47 : decode b_Db_undo 47 = .ok (.goto 9, 3) := by decide +kernel
theorem d_Db_undo_50 : decode b_Db_undo 50 = .ok (.aload_n 0, 1) := by decide +kernel
theorem d_Db_undo_51 : decode b_Db_undo 51 = .ok (.getfield 435, 3) := by decide +kernel
theorem d_Db_undo_54 : decode b_Db_undo 54 = .ok (.iconst 1, 1) := by decide +kernel
theorem d_Db_undo_55 : decode b_Db_undo 55 = .ok (.isub, 1) := by decide +kernel
theorem d_Db_undo_56 : decode b_Db_undo 56 = .ok (.putfield 435, 3) := by decide +kernel
theorem d_Db_undo_59 : decode b_Db_undo 59 = .ok (.aload_n 0, 1) := by decide +kernel
theorem d_Db_undo_60 : decode b_Db_undo 60 = .ok (.dup, 1) := by decide +kernel
theorem d_Db_undo_61 : decode b_Db_undo 61 = .ok (.getfield 203, 3) := by decide +kernel
theorem d_Db_undo_64 : decode b_Db_undo 64 = .ok (.iconst 1, 1) := by decide +kernel
theorem d_Db_undo_65 : decode b_Db_undo 65 = .ok (.isub, 1) := by decide +kernel
theorem d_Db_undo_66 : decode b_Db_undo 66 = .ok (.putfield 203, 3) := by decide +kernel
theorem d_Db_undo_69 : decode b_Db_undo 69 = .ok (.aload_n 0, 1) := by decide +kernel
theorem d_Db_undo_70 : decode b_Db_undo 70 = .ok (.getfield 203, 3) := by decide +kernel
theorem d_Db_undo_73 : decode b_Db_undo 73 = .ok (.ireturn, 1) := by decide +kernel
theorem d_Db_save_0 : decode b_Db_save 0 = .ok (.iload_n 1, 1) := by decide +kernel
theorem d_Db_save_1 : decode b_Db_save 1 = .ok (.iconst 0, 1) := by decide +kernel
theorem d_Db_save_2 : decode b_Db_save 2 = .ok (.iconst 1, 1) := by decide +kernel
theorem d_Db_save_3 : decode b_Db_save 3 = .ok (.invokestatic 131, 3) := by decide +kernel
theorem d_Db_save_6 : decode b_Db_save 6 = .ok (.aload_n 0, 1) := by decide +kernel
theorem d_Db_save_7 : decode b_Db_save 7 = .ok (.getfield 66, 3) := by decide +kernel
theorem d_Db_save_10 : decode b_Db_save 10 = .ok (.iload_n 1, 1) := by decide +kernel
theorem d_Db_save_11 : decode b_Db_save 11 = .ok (.invokestatic 438, 3) := by decide +kernel
theorem d_Db_save_14 : decode b_Db_save 14 = .ok (.astore_n 2, 1) := by decide +kernel
theorem d_Db_save_15 : decode b_Db_save 15 = .ok (.aload_n 2, 1) := by decide +kernel
theorem d_Db_save_16 : decode b_Db_save 16 = .ok (.ifnull 27, 3) := by decide +kernel
theorem d_Db_save_19 : decode b_Db_save 19 = .ok (.iload_n 1, 1) := by decide +kernel
theorem d_Db_save_20 : decode b_Db_save 20 = .ok (.aload_n 0, 1) := by decide +kernel
theorem d_Db_save_21 : decode b_Db_save 21 = .ok (.getfield 69, 3) := by decide +kernel
theorem d_Db_save_24 : decode b_Db_save 24 = .ok (.arraylength, 1) := by decide +kernel
theorem d_Db_save_25 : decode b_Db_save 25 = .ok (.if_icmp .ge 18, 3) := by decide +kernel
theorem d_Db_save_28 : decode b_Db_save 28 = .ok (.aload_n 2, 1) := by decide +kernel
theorem d_Db_save_29 : decode b_Db_save 29 = .ok (.aload_n 0, 1) := by decide +kernel
theorem d_Db_save_30 : decode b_Db_save 30 = .ok (.getfield 44, 3) := by decide +kernel
theorem d_Db_save_33 : decode b_Db_save 33 = .ok (.invokevirtual 442, 3) := by decide +kernel
theorem d_Db_save_36 : decode b_Db_save 36 = .ok (.aload_n 0, 1) := by decide +kernel
theorem d_Db_save_37 : decode b_Db_save 37 = .ok (.getfield 69, 3) := by decide +kernel
theorem d_Db_save_40 : decode b_Db_save 40 = .ok (.iload_n 1, 1) := by decide +kernel
theorem d_Db_save_41 : decode b_Db_save 41 = .ok (.iconst 1, 1) := by decide +kernel
theorem d_Db_save_42 : decode b_Db_save 42 = .ok (.bastore, 1) := by decide +kernel
theorem d_Db_save_43 : decode b_Db_save 43 = .ok (.aload_n 0, 1) := by decide +kernel
theorem d_Db_save_44 : decode b_Db_save 44 = .ok (.getfield 44, 3) := by decide +kernel
theorem d_Db_save_47 : decode b_Db_save 47 = .ok (.getfield 141, 3) := by decide +kernel
theorem d_Db_save_50 : decode b_Db_save 50 = .ok (.getfield 165, 3) := by decide +kernel
theorem d_Db_save_53 : decode b_Db_save 53 = .ok (.ireturn, 1) := by decide +kernel
theorem d_Db_restore_0 : decode b_Db_restore 0 = .ok (.iload_n 1, 1) := by decide +kernel
theorem d_Db_restore_1 : decode b_Db_restore 1 = .ok (.iconst 0, 1) := by decide +kernel
theorem d_Db_restore_2 : decode b_Db_restore 2 = .ok (.iconst 1, 1) := by decide +kernel
theorem d_Db_restore_3 : decode b_Db_restore 3 = .ok (.invokestatic 131, 3) := by decide +kernel
theorem d_Db_restore_6 : decode b_Db_restore 6 = .ok (.iload_n 1, 1) := by decide +kernel
theorem d_Db_restore_7 : decode b_Db_restore 7 = .ok (.aload_n 0, 1) := by decide +kernel
theorem d_Db_restore_8 : decode b_Db_restore 8 = .ok (.getfield 69, 3) := by decide +kernel
theorem d_Db_restore_11 : decode b_Db_restore 11 = .ok (.arraylength, 1) := by decide +kernel
theorem d_Db_restore_12 : decode b_Db_restore 12 = .ok (.if_icmp .ge 23, 3) := by decide +kernel
theorem d_Db_restore_15 : decode b_Db_restore 15 = .ok (.aload_n 0, 1) := by decide +kernel
theorem d_Db_restore_16 : decode b_Db_restore 16 = .ok (.getfield 69, 3) := by decide +kernel
theorem d_Db_restore_19 : decode b_Db_restore 19 = .ok (.iload_n 1, 1) := by decide +kernel
theorem d_Db_restore_20 : decode b_Db_restore 20 = .ok (.baload, 1) := by decide +kernel
theorem d_Db_restore_21 : decode b_Db_restore 21 = .ok (.ifCond .eq 14, 3) := by decide +kernel
theorem d_Db_restore_24 : decode b_Db_restore 24 = .ok (.aload_n 0, 1) := by decide +kernel
theorem d_Db_restore_25 : decode b_Db_restore 25 = .ok (.getfield 66, 3) := by decide +kernel
theorem d_Db_restore_28 : decode b_Db_restore 28 = .ok (.iload_n 1, 1) := by decide +kernel
theorem d_Db_restore_29 : decode b_Db_restore 29 = .ok (.invokestatic 438, 3) := by decide +kernel
theorem d_Db_restore_32 : decode b_Db_restore 32 = .ok (.goto 4, 3) := by decide +kernel
theorem d_Db_restore_35 : decode b_Db_restore 35 = .ok (.aconst_null, 1) := by decide +kernel
theorem d_Db_restore_36 : decode b_Db_restore 36 = .ok (.astore_n 2, 1) := by decide +kernel
theorem d_Db_restore_37 : decode b_Db_restore 37 = .ok (.aload_n 2, 1) := by decide +kernel
theorem d_Db_restore_38 : decode b_Db_restore 38 = .ok (.ifnonnull 5, 3) := by decide +kernel
theorem d_Db_restore_41 : decode b_Db_restore 41 = .ok (.iconst (-1), 1) := by decide +kernel
theorem d_Db_restore_42 : decode b_Db_restore 42 = .ok (.ireturn, 1) := by decide +kernel
theorem d_Db_restore_43 : decode b_Db_restore 43 = .ok (.aload_n 0, 1) := by decide +kernel
theorem d_Db_restore_44 : decode b_Db_restore 44 = .ok (.getfield 44, 3) := by decide +kernel
theorem d_Db_restore_47 : decode b_Db_restore 47 = .ok (.aload_n 2, 1) := by decide +kernel
theorem d_Db_restore_48 : decode b_Db_restore 48 = .ok (.invokevirtual 442, 3) := by decide +kernel
theorem d_Db_restore_51 : decode b_Db_restore 51 = .ok (.aload_n 0, 1) := by decide +kernel
theorem d_Db_restore_52 : decode b_Db_restore 52 = .ok (.invokevirtual 104, 3) := by decide +kernel
theorem d_Db_restore_55 : decode b_Db_restore 55 = .ok (.aload_n 0, 1) := by decide +kernel
theorem d_Db_restore_56 : decode b_Db_restore 56 = .ok (.getfield 44, 3) := by decide +kernel
theorem d_Db_restore_59 : decode b_Db_restore 59 = .ok (.getfield 141, 3) := by decide +kernel
theorem d_Db_restore_62 : decode b_Db_restore 62 = .ok (.getfield 165, 3) := by decide +kernel
theorem d_Db_restore_65 : decode b_Db_restore 65 = .ok (.ireturn, 1) := by decide +kernel
theorem d_Db_checkIndex_0 : decode b_Db_checkIndex 0 = .ok (.iload_n 0, 1) := by decide +kernel
theorem d_Db_checkIndex_1 : decode b_Db_checkIndex 1 = .ok (.ifCond .lt 8, 3) := by decide +kernel
theorem d_Db_checkIndex_4 : decode b_Db_checkIndex 4 = .ok (.iload_n 0, 1) := by decide +kernel
theorem d_Db_checkIndex_5 : decode b_Db_checkIndex 5 = .ok (.iload_n 1, 1) := by decide +kernel
theorem d_Db_checkIndex_6 : decode b_Db_checkIndex 6 = .ok (.if_icmp .lt 11, 3) := by decide +kernel
theorem d_Db_checkIndex_9 : decode b_Db_checkIndex 9 = .ok (.new 445, 3) := by decide +kernel
theorem d_Db_checkIndex_12 : decode b_Db_checkIndex 12 = .ok (.dup, 1) := by decide +kernel
theorem d_Db_checkIndex_13 : decode b_Db_checkIndex 13 = .ok (.invokespecial 447, 3) := by decide +kernel
theorem d_Db_checkIndex_16 : decode b_Db_checkIndex 16 = .ok (.athrow, 1) := by decide +kernel
theorem d_Db_checkIndex_17 : decode b_Db_checkIndex 17 = .ok (.return_, 1) := by decide +kernel
theorem d_Db_checkRange_0 : decode b_Db_checkRange 0 = .ok (.iload_n 0, 1) := by decide +kernel
theorem d_Db_checkRange_1 : decode b_Db_checkRange 1 = .ok (.iload_n 1, 1) := by decide +kernel
theorem d_Db_checkRange_2 : decode b_Db_checkRange 2 = .ok (.if_icmp .lt 8, 3) := by decide +kernel
theorem d_Db_checkRange_5 : decode b_Db_checkRange 5 = .ok (.iload_n 0, 1) := by decide +kernel
theorem d_Db_checkRange_6 : decode b_Db_checkRange 6 = .ok (.iload_n 2, 1) := by decide +kernel
theorem d_Db_checkRange_7 : decode b_Db_checkRange 7 = .ok (.if_icmp .le 11, 3) := by decide +kernel
theorem d_Db_checkRange_10 : decode b_Db_checkRange 10 = .ok (.new 409, 3) := by decide +kernel
theorem d_Db_checkRange_13 : decode b_Db_checkRange 13 = .ok (.dup, 1) := by decide +kernel
theorem d_Db_checkRange_14 : decode b_Db_checkRange 14 = .ok (.invokespecial 411, 3) := by decide +kernel
theorem d_Db_checkRange_17 : decode b_Db_checkRange 17 = .ok (.athrow, 1) := by decide +kernel
theorem d_Db_checkRange_18 : decode b_Db_checkRange 18 = .ok (.return_, 1) := by decide +kernel
theorem d_Db_checkManner_0 : decode b_Db_checkManner 0 = .ok (.aload_n 0, 1) := by decide +kernel
theorem d_Db_checkManner_1 : decode b_Db_checkManner 1 = .ok (.getfield 44, 3) := by decide +kernel
theorem d_Db_checkManner_4 : decode b_Db_checkManner 4 = .ok (.getfield 190, 3) := by decide +kernel
theorem d_Db_checkManner_7 : decode b_Db_checkManner 7 = .ok (.iload_n 1, 1) := by decide +kernel
theorem d_Db_checkManner_8 : decode b_Db_checkManner 8 = .ok (.invokevirtual 448, 3) := by decide +kernel
theorem d_Db_checkManner_11 : decode b_Db_checkManner 11 = .ok (.ifCond .ne 11, 3) := by decide +kernel
theorem d_Db_checkManner_14 : decode b_Db_checkManner 14 = .ok (.new 445, 3) := by decide +kernel
theorem d_Db_checkManner_17 : decode b_Db_checkManner 17 = .ok (.dup, 1) := by decide +kernel
theorem d_Db_checkManner_18 : decode b_Db_checkManner 18 = .ok (.invokespecial 447, 3) := by decide +kernel
theorem d_Db_checkManner_21 : decode b_Db_checkManner 21 = .ok (.athrow, 1) := by decide +kernel
theorem d_Db_checkManner_22 : decode b_Db_checkManner 22 = .ok (.return_, 1) := by decide +kernel
theorem d_Db_benchAt_0 : decode b_Db_benchAt 0 = .ok (.iload_n 1, 1) := by decide +kernel
theorem d_Db_benchAt_1 : decode b_Db_benchAt 1 = .ok (.ifCond .lt 15, 3) := by decide +kernel
theorem d_Db_benchAt_4 : decode b_Db_benchAt 4 = .ok (.iload_n 1, 1) := by decide +kernel
theorem d_Db_benchAt_5 : decode b_Db_benchAt 5 = .ok (.aload_n 0, 1) := by decide +kernel
theorem d_Db_benchAt_6 : decode b_Db_benchAt 6 = .ok (.arraylength, 1) := by decide +kernel
theorem d_Db_benchAt_7 : decode b_Db_benchAt 7 = .ok (.if_icmp .ge 9, 3) := by decide +kernel
theorem d_Db_benchAt_10 : decode b_Db_benchAt 10 = .ok (.aload_n 0, 1) := by decide +kernel
theorem d_Db_benchAt_11 : decode b_Db_benchAt 11 = .ok (.iload_n 1, 1) := by decide +kernel
theorem d_Db_benchAt_12 : decode b_Db_benchAt 12 = .ok (.aaload, 1) := by decide +kernel
theorem d_Db_benchAt_13 : decode b_Db_benchAt 13 = .ok (.goto 4, 3) := by decide +kernel
theorem d_Db_benchAt_16 : decode b_Db_benchAt 16 = .ok (.aconst_null, 1) := by decide +kernel
theorem d_Db_benchAt_17 : decode b_Db_benchAt 17 = .ok (.areturn, 1) := by decide +kernel
theorem d_Db_remember_0 : decode b_Db_remember 0 = .ok (.aload_n 0, 1) := by decide +kernel
theorem d_Db_remember_1 : decode b_Db_remember 1 = .ok (.aload_n 0, 1) := by decide +kernel
theorem d_Db_remember_2 : decode b_Db_remember 2 = .ok (.getfield 435, 3) := by decide +kernel
theorem d_Db_remember_5 : decode b_Db_remember 5 = .ok (.bipush 7, 2) := by decide +kernel
theorem d_Db_remember_7 : decode b_Db_remember 7 = .ok (.if_icmp .lt 7, 3) := by decide +kernel
theorem d_Db_remember_10 : decode b_Db_remember 10 = .ok (.iconst 0, 1) := by decide +kernel
theorem d_Db_remember_11 : decode b_Db_remember 11 = .ok (.goto 9, 3) := by decide +kernel
theorem d_Db_remember_14 : decode b_Db_remember 14 = .ok (.aload_n 0, 1) := by decide +kernel
theorem d_Db_remember_15 : decode b_Db_remember 15 = .ok (.getfield 435, 3) := by decide +kernel
theorem d_Db_remember_18 : decode b_Db_remember 18 = .ok (.iconst 1, 1) := by decide +kernel
theorem d_Db_remember_19 : decode b_Db_remember 19 = .ok (.iadd, 1) := by decide +kernel
theorem d_Db_remember_20 : decode b_Db_remember 20 = .ok (.putfield 435, 3) := by decide +kernel
theorem d_Db_remember_23 : decode b_Db_remember 23 = .ok (.aload_n 0, 1) := by decide +kernel
theorem d_Db_remember_24 : decode b_Db_remember 24 = .ok (.getfield 62, 3) := by decide +kernel
theorem d_Db_remember_27 : decode b_Db_remember 27 = .ok (.aload_n 0, 1) := by decide +kernel
theorem d_Db_remember_28 : decode b_Db_remember 28 = .ok (.getfield 435, 3) := by decide +kernel
theorem d_Db_remember_31 : decode b_Db_remember 31 = .ok (.invokestatic 438, 3) := by decide +kernel
theorem d_Db_remember_34 : decode b_Db_remember 34 = .ok (.astore_n 1, 1) := by decide +kernel
theorem d_Db_remember_35 : decode b_Db_remember 35 = .ok (.aload_n 1, 1) := by decide +kernel
theorem d_Db_remember_36 : decode b_Db_remember 36 = .ok (.ifnull 11, 3) := by decide +kernel
theorem d_Db_remember_39 : decode b_Db_remember 39 = .ok (.aload_n 1, 1) := by decide +kernel
theorem d_Db_remember_40 : decode b_Db_remember 40 = .ok (.aload_n 0, 1) := by decide +kernel
theorem d_Db_remember_41 : decode b_Db_remember 41 = .ok (.getfield 44, 3) := by decide +kernel
theorem d_Db_remember_44 : decode b_Db_remember 44 = .ok (.invokevirtual 442, 3) := by decide +kernel
theorem d_Db_remember_47 : decode b_Db_remember 47 = .ok (.aload_n 0, 1) := by decide +kernel
theorem d_Db_remember_48 : decode b_Db_remember 48 = .ok (.aload_n 0, 1) := by decide +kernel
theorem d_Db_remember_49 : decode b_Db_remember 49 = .ok (.getfield 203, 3) := by decide +kernel
theorem d_Db_remember_52 : decode b_Db_remember 52 = .ok (.bipush 8, 2) := by decide +kernel
theorem d_Db_remember_54 : decode b_Db_remember 54 = .ok (.if_icmp .ge 12, 3) := by decide +kernel
theorem d_Db_remember_57 : decode b_Db_remember 57 = .ok (.aload_n 0, 1) := by decide +kernel
theorem d_Db_remember_58 : decode b_Db_remember 58 = .ok (.getfield 203, 3) := by decide +kernel
theorem d_Db_remember_61 : decode b_Db_remember 61 = .ok (.iconst 1, 1) := by decide +kernel
theorem d_Db_remember_62 : decode b_Db_remember 62 = .ok (.iadd, 1) := by decide +kernel
theorem d_Db_remember_63 : decode b_Db_remember 63 = .ok (.goto 5, 3) := by decide +kernel
theorem d_Db_remember_66 : decode b_Db_remember 66 = .ok (.bipush 8, 2) := by decide +kernel
theorem d_Db_remember_68 : decode b_Db_remember 68 = .ok (.putfield 203, 3) := by decide +kernel
theorem d_Db_remember_71 : decode b_Db_remember 71 = .ok (.return_, 1) := by decide +kernel
theorem d_Db_forgetPast_0 : decode b_Db_forgetPast 0 = .ok (.aload_n 0, 1) := by decide +kernel
theorem d_Db_forgetPast_1 : decode b_Db_forgetPast 1 = .ok (.iconst 0, 1) := by decide +kernel
theorem d_Db_forgetPast_2 : decode b_Db_forgetPast 2 = .ok (.putfield 435, 3) := by decide +kernel
theorem d_Db_forgetPast_5 : decode b_Db_forgetPast 5 = .ok (.aload_n 0, 1) := by decide +kernel
theorem d_Db_forgetPast_6 : decode b_Db_forgetPast 6 = .ok (.iconst 0, 1) := by decide +kernel
theorem d_Db_forgetPast_7 : decode b_Db_forgetPast 7 = .ok (.putfield 203, 3) := by decide +kernel
theorem d_Db_forgetPast_10 : decode b_Db_forgetPast 10 = .ok (.return_, 1) := by decide +kernel
theorem d_Db_perform_0 : decode b_Db_perform 0 = .ok (.aload_n 0, 1) := by decide +kernel
theorem d_Db_perform_1 : decode b_Db_perform 1 = .ok (.getfield 35, 3) := by decide +kernel
theorem d_Db_perform_4 : decode b_Db_perform 4 = .ok (.iload_n 1, 1) := by decide +kernel
theorem d_Db_perform_5 : decode b_Db_perform 5 = .ok (.invokevirtual 451, 3) := by decide +kernel
theorem d_Db_perform_8 : decode b_Db_perform 8 = .ok (.istore_n 2, 1) := by decide +kernel
theorem d_Db_perform_9 : decode b_Db_perform 9 = .ok (.aload_n 0, 1) := by decide +kernel
theorem d_Db_perform_10 : decode b_Db_perform 10 = .ok (.getfield 35, 3) := by decide +kernel
theorem d_Db_perform_13 : decode b_Db_perform 13 = .ok (.iload_n 1, 1) := by decide +kernel
theorem d_Db_perform_14 : decode b_Db_perform 14 = .ok (.invokevirtual 454, 3) := by decide +kernel
theorem d_Db_perform_17 : decode b_Db_perform 17 = .ok (.istore_n 3, 1) := by decide +kernel
theorem d_Db_perform_18 : decode b_Db_perform 18 = .ok (.aload_n 0, 1) := by decide +kernel
theorem d_Db_perform_19 : decode b_Db_perform 19 = .ok (.getfield 35, 3) := by decide +kernel
theorem d_Db_perform_22 : decode b_Db_perform 22 = .ok (.iload_n 1, 1) := by decide +kernel
theorem d_Db_perform_23 : decode b_Db_perform 23 = .ok (.invokevirtual 457, 3) := by decide +kernel
theorem d_Db_perform_26 : decode b_Db_perform 26 = .ok (.tableswitch 196 0 7 #[46, 60, 73, 99, 129, 142, 152, 161], 46) := by decide +kernel
theorem d_Db_perform_72 : decode b_Db_perform 72 = .ok (.aload_n 0, 1) := by decide +kernel
theorem d_Db_perform_73 : decode b_Db_perform 73 = .ok (.getfield 44, 3) := by decide +kernel
theorem d_Db_perform_76 : decode b_Db_perform 76 = .ok (.getfield 141, 3) := by decide +kernel
theorem d_Db_perform_79 : decode b_Db_perform 79 = .ok (.iload_n 2, 1) := by decide +kernel
theorem d_Db_perform_80 : decode b_Db_perform 80 = .ok (.iload_n 3, 1) := by decide +kernel
theorem d_Db_perform_81 : decode b_Db_perform 81 = .ok (.invokevirtual 390, 3) := by decide +kernel
theorem d_Db_perform_84 : decode b_Db_perform 84 = .ok (.iconst 1, 1) := by decide +kernel
theorem d_Db_perform_85 : decode b_Db_perform 85 = .ok (.ireturn, 1) := by decide +kernel
theorem d_Db_perform_86 : decode b_Db_perform 86 = .ok (.aload_n 0, 1) := by decide +kernel
theorem d_Db_perform_87 : decode b_Db_perform 87 = .ok (.getfield 44, 3) := by decide +kernel
theorem d_Db_perform_90 : decode b_Db_perform 90 = .ok (.getfield 141, 3) := by decide +kernel
theorem d_Db_perform_93 : decode b_Db_perform 93 = .ok (.iload_n 2, 1) := by decide +kernel
theorem d_Db_perform_94 : decode b_Db_perform 94 = .ok (.putfield 145, 3) := by decide +kernel
theorem d_Db_perform_97 : decode b_Db_perform 97 = .ok (.iconst 1, 1) := by decide +kernel
theorem d_Db_perform_98 : decode b_Db_perform 98 = .ok (.ireturn, 1) := by decide +kernel
theorem d_Db_perform_99 : decode b_Db_perform 99 = .ok (.iload_n 2, 1) := by decide +kernel
theorem d_Db_perform_100 : decode b_Db_perform 100 = .ok (.aload_n 0, 1) := by decide +kernel
theorem d_Db_perform_101 : decode b_Db_perform 101 = .ok (.getfield 19, 3) := by decide +kernel
theorem d_Db_perform_104 : decode b_Db_perform 104 = .ok (.invokevirtual 280, 3) := by decide +kernel
theorem d_Db_perform_107 : decode b_Db_perform 107 = .ok (.if_icmp .lt 5, 3) := by decide +kernel
theorem d_Db_perform_110 : decode b_Db_perform 110 = .ok (.iconst 0, 1) := by decide +kernel
theorem d_Db_perform_111 : decode b_Db_perform 111 = .ok (.ireturn, 1) := by decide +kernel
theorem d_Db_perform_112 : decode b_Db_perform 112 = .ok (.aload_n 0, 1) := by decide +kernel
theorem d_Db_perform_113 : decode b_Db_perform 113 = .ok (.getfield 44, 3) := by decide +kernel
theorem d_Db_perform_116 : decode b_Db_perform 116 = .ok (.getfield 141, 3) := by decide +kernel
theorem d_Db_perform_119 : decode b_Db_perform 119 = .ok (.iload_n 2, 1) := by decide +kernel
theorem d_Db_perform_120 : decode b_Db_perform 120 = .ok (.invokevirtual 412, 3) := by decide +kernel
theorem d_Db_perform_123 : decode b_Db_perform 123 = .ok (.iconst 1, 1) := by decide +kernel
theorem d_Db_perform_124 : decode b_Db_perform 124 = .ok (.ireturn, 1) := by decide +kernel
theorem d_Db_perform_125 : decode b_Db_perform 125 = .ok (.aload_n 0, 1) := by decide +kernel
theorem d_Db_perform_126 : decode b_Db_perform 126 = .ok (.getfield 44, 3) := by decide +kernel
theorem d_Db_perform_129 : decode b_Db_perform 129 = .ok (.getfield 141, 3) := by decide +kernel
theorem d_Db_perform_132 : decode b_Db_perform 132 = .ok (.aload_n 0, 1) := by decide +kernel
theorem d_Db_perform_133 : decode b_Db_perform 133 = .ok (.getfield 44, 3) := by decide +kernel
theorem d_Db_perform_136 : decode b_Db_perform 136 = .ok (.getfield 141, 3) := by decide +kernel
theorem d_Db_perform_139 : decode b_Db_perform 139 = .ok (.getfield 174, 3) := by decide +kernel
theorem d_Db_perform_142 : decode b_Db_perform 142 = .ok (.ifCond .ne 7, 3) := by decide +kernel
theorem d_Db_perform_145 : decode b_Db_perform 145 = .ok (.iconst 1, 1) := by decide +kernel
theorem d_Db_perform_146 : decode b_Db_perform 146 = .ok (.goto 4, 3) := by decide +kernel
theorem d_Db_perform_149 : decode b_Db_perform 149 = .ok (.iconst 0, 1) := by decide +kernel
theorem d_Db_perform_150 : decode b_Db_perform 150 = .ok (.putfield 174, 3) := by decide +kernel
theorem d_Db_perform_153 : decode b_Db_perform 153 = .ok (.iconst 1, 1) := by decide +kernel
theorem d_Db_perform_154 : decode b_Db_perform 154 = .ok (.ireturn, 1) := by decide +kernel
theorem d_Db_perform_155 : decode b_Db_perform 155 = .ok (.aload_n 0, 1) := by decide +kernel
theorem d_Db_perform_156 : decode b_Db_perform 156 = .ok (.getfield 44, 3) := by decide +kernel
theorem d_Db_perform_159 : decode b_Db_perform 159 = .ok (.getfield 141, 3) := by decide +kernel
theorem d_Db_perform_162 : decode b_Db_perform 162 = .ok (.iload_n 2, 1) := by decide +kernel
theorem d_Db_perform_163 : decode b_Db_perform 163 = .ok (.invokevirtual 396, 3) := by decide +kernel
theorem d_Db_perform_166 : decode b_Db_perform 166 = .ok (.iconst 1, 1) := by decide +kernel
theorem d_Db_perform_167 : decode b_Db_perform 167 = .ok (.ireturn, 1) := by decide +kernel
theorem d_Db_perform_168 : decode b_Db_perform 168 = .ok (.aload_n 0, 1) := by decide +kernel
theorem d_Db_perform_169 : decode b_Db_perform 169 = .ok (.getfield 44, 3) := by decide +kernel
theorem d_Db_perform_172 : decode b_Db_perform 172 = .ok (.iload_n 2, 1) := by decide +kernel
theorem d_Db_perform_173 : decode b_Db_perform 173 = .ok (.invokevirtual 418, 3) := by decide +kernel
theorem d_Db_perform_176 : decode b_Db_perform 176 = .ok (.iconst 1, 1) := by decide +kernel
theorem d_Db_perform_177 : decode b_Db_perform 177 = .ok (.ireturn, 1) := by decide +kernel
theorem d_Db_perform_178 : decode b_Db_perform 178 = .ok (.aload_n 0, 1) := by decide +kernel
theorem d_Db_perform_179 : decode b_Db_perform 179 = .ok (.getfield 44, 3) := by decide +kernel
theorem d_Db_perform_182 : decode b_Db_perform 182 = .ok (.iload_n 2, 1) := by decide +kernel
theorem d_Db_perform_183 : decode b_Db_perform 183 = .ok (.invokevirtual 460, 3) := by decide +kernel
theorem d_Db_perform_186 : decode b_Db_perform 186 = .ok (.ireturn, 1) := by decide +kernel
theorem d_Db_perform_187 : decode b_Db_perform 187 = .ok (.aload_n 0, 1) := by decide +kernel
theorem d_Db_perform_188 : decode b_Db_perform 188 = .ok (.getfield 44, 3) := by decide +kernel
theorem d_Db_perform_191 : decode b_Db_perform 191 = .ok (.getfield 141, 3) := by decide +kernel
theorem d_Db_perform_194 : decode b_Db_perform 194 = .ok (.getfield 145, 3) := by decide +kernel
theorem d_Db_perform_197 : decode b_Db_perform 197 = .ok (.ifCond .ne 5, 3) := by decide +kernel
theorem d_Db_perform_200 : decode b_Db_perform 200 = .ok (.iconst 0, 1) := by decide +kernel
theorem d_Db_perform_201 : decode b_Db_perform 201 = .ok (.ireturn, 1) := by decide +kernel
theorem d_Db_perform_202 : decode b_Db_perform 202 = .ok (.aload_n 0, 1) := by decide +kernel
theorem d_Db_perform_203 : decode b_Db_perform 203 = .ok (.getfield 44, 3) := by decide +kernel
theorem d_Db_perform_206 : decode b_Db_perform 206 = .ok (.iload_n 2, 1) := by decide +kernel
theorem d_Db_perform_207 : decode b_Db_perform 207 = .ok (.iconst 1, 1) := by decide +kernel
theorem d_Db_perform_208 : decode b_Db_perform 208 = .ok (.if_icmp .ne 7, 3) := by decide +kernel
theorem d_Db_perform_211 : decode b_Db_perform 211 = .ok (.iconst 1, 1) := by decide +kernel
theorem d_Db_perform_212 : decode b_Db_perform 212 = .ok (.goto 4, 3) := by decide +kernel
theorem d_Db_perform_215 : decode b_Db_perform 215 = .ok (.iconst 0, 1) := by decide +kernel
theorem d_Db_perform_216 : decode b_Db_perform 216 = .ok (.invokevirtual 424, 3) := by decide +kernel
theorem d_Db_perform_219 : decode b_Db_perform 219 = .ok (.pop, 1) := by decide +kernel
theorem d_Db_perform_220 : decode b_Db_perform 220 = .ok (.iconst 1, 1) := by decide +kernel
theorem d_Db_perform_221 : decode b_Db_perform 221 = .ok (.ireturn, 1) := by decide +kernel
theorem d_Db_perform_222 : decode b_Db_perform 222 = .ok (.iconst 0, 1) := by decide +kernel
theorem d_Db_perform_223 : decode b_Db_perform 223 = .ok (.ireturn, 1) := by decide +kernel
