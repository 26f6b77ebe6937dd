theorem dX10_drop_182 : decode cX10_drop 182 = .ok (.iconst 5, 1) := by decide +kernel
theorem dX10_drop_183 : decode cX10_drop 183 = .ok (.iaload, 1) := by decide +kernel
theorem dX10_drop_184 : decode cX10_drop 184 = .ok (.aload_n 0, 1) := by decide +kernel
theorem dX10_drop_185 : decode cX10_drop 185 = .ok (.getfield 7, 3) := by decide +kernel
theorem dX10_drop_188 : decode cX10_drop 188 = .ok (.bipush 6, 2) := by decide +kernel
theorem dX10_drop_190 : decode cX10_drop 190 = .ok (.iaload, 1) := by decide +kernel
theorem dX10_drop_191 : decode cX10_drop 191 = .ok (.iadd, 1) := by decide +kernel
theorem dX10_drop_192 : decode cX10_drop 192 = .ok (.iconst 1, 1) := by decide +kernel
theorem dX10_drop_193 : decode cX10_drop 193 = .ok (.bipush 60, 2) := by decide +kernel
theorem dX10_drop_195 : decode cX10_drop 195 = .ok (.invokestatic 100, 3) := by decide +kernel
theorem dX10_drop_198 : decode cX10_drop 198 = .ok (.iastore, 1) := by decide +kernel
theorem dX10_drop_199 : decode cX10_drop 199 = .ok (.aload_n 0, 1) := by decide +kernel
theorem dX10_drop_200 : decode cX10_drop 200 = .ok (.getfield 7, 3) := by decide +kernel
theorem dX10_drop_203 : decode cX10_drop 203 = .ok (.bipush 19, 2) := by decide +kernel
theorem dX10_drop_205 : decode cX10_drop 205 = .ok (.iaload, 1) := by decide +kernel
theorem dX10_drop_206 : decode cX10_drop 206 = .ok (.ireturn, 1) := by decide +kernel
theorem dX10_takeAway_0 : decode cX10_takeAway 0 = .ok (.aload_n 0, 1) := by decide +kernel
theorem dX10_takeAway_1 : decode cX10_takeAway 1 = .ok (.iconst 0, 1) := by decide +kernel
theorem dX10_takeAway_2 : decode cX10_takeAway 2 = .ok (.putfield 25, 3) := by decide +kernel
theorem dX10_takeAway_5 : decode cX10_takeAway 5 = .ok (.aload_n 0, 1) := by decide +kernel
theorem dX10_takeAway_6 : decode cX10_takeAway 6 = .ok (.getfield 7, 3) := by decide +kernel
theorem dX10_takeAway_9 : decode cX10_takeAway 9 = .ok (.iconst 1, 1) := by decide +kernel
theorem dX10_takeAway_10 : decode cX10_takeAway 10 = .ok (.iaload, 1) := by decide +kernel
theorem dX10_takeAway_11 : decode cX10_takeAway 11 = .ok (.iconst 2, 1) := by decide +kernel
theorem dX10_takeAway_12 : decode cX10_takeAway 12 = .ok (.if_icmp .ne 23, 3) := by decide +kernel
theorem dX10_takeAway_15 : decode cX10_takeAway 15 = .ok (.aload_n 0, 1) := by decide +kernel
theorem dX10_takeAway_16 : decode cX10_takeAway 16 = .ok (.getfield 7, 3) := by decide +kernel
theorem dX10_takeAway_19 : decode cX10_takeAway 19 = .ok (.bipush 16, 2) := by decide +kernel
theorem dX10_takeAway_21 : decode cX10_takeAway 21 = .ok (.iaload, 1) := by decide +kernel
theorem dX10_takeAway_22 : decode cX10_takeAway 22 = .ok (.aload_n 0, 1) := by decide +kernel
theorem dX10_takeAway_23 : decode cX10_takeAway 23 = .ok (.getfield 7, 3) := by decide +kernel
theorem dX10_takeAway_26 : decode cX10_takeAway 26 = .ok (.iconst 3, 1) := by decide +kernel
theorem dX10_takeAway_27 : decode cX10_takeAway 27 = .ok (.iaload, 1) := by decide +kernel
theorem dX10_takeAway_28 : decode cX10_takeAway 28 = .ok (.sipush 150, 3) := by decide +kernel
theorem dX10_takeAway_31 : decode cX10_takeAway 31 = .ok (.iadd, 1) := by decide +kernel
theorem dX10_takeAway_32 : decode cX10_takeAway 32 = .ok (.if_icmp .le 6, 3) := by decide +kernel
theorem dX10_takeAway_35 : decode cX10_takeAway 35 = .ok (.ldc 61, 2) := by decide +kernel
theorem dX10_takeAway_37 : decode cX10_takeAway 37 = .ok (.ireturn, 1) := by decide +kernel
theorem dX10_takeAway_38 : decode cX10_takeAway 38 = .ok (.aload_n 0, 1) := by decide +kernel
theorem dX10_takeAway_39 : decode cX10_takeAway 39 = .ok (.invokevirtual 36, 3) := by decide +kernel
theorem dX10_takeAway_42 : decode cX10_takeAway 42 = .ok (.aload_n 0, 1) := by decide +kernel
theorem dX10_takeAway_43 : decode cX10_takeAway 43 = .ok (.getfield 7, 3) := by decide +kernel
theorem dX10_takeAway_46 : decode cX10_takeAway 46 = .ok (.iconst 1, 1) := by decide +kernel
theorem dX10_takeAway_47 : decode cX10_takeAway 47 = .ok (.iconst 0, 1) := by decide +kernel
theorem dX10_takeAway_48 : decode cX10_takeAway 48 = .ok (.iastore, 1) := by decide +kernel
theorem dX10_takeAway_49 : decode cX10_takeAway 49 = .ok (.aload_n 0, 1) := by decide +kernel
theorem dX10_takeAway_50 : decode cX10_takeAway 50 = .ok (.getfield 7, 3) := by decide +kernel
theorem dX10_takeAway_53 : decode cX10_takeAway 53 = .ok (.bipush 16, 2) := by decide +kernel
theorem dX10_takeAway_55 : decode cX10_takeAway 55 = .ok (.iaload, 1) := by decide +kernel
theorem dX10_takeAway_56 : decode cX10_takeAway 56 = .ok (.ireturn, 1) := by decide +kernel
theorem dX10_targetAt_0 : decode cX10_targetAt 0 = .ok (.aload_n 0, 1) := by decide +kernel
theorem dX10_targetAt_1 : decode cX10_targetAt 1 = .ok (.getfield 7, 3) := by decide +kernel
theorem dX10_targetAt_4 : decode cX10_targetAt 4 = .ok (.bipush 32, 2) := by decide +kernel
theorem dX10_targetAt_6 : decode cX10_targetAt 6 = .ok (.iaload, 1) := by decide +kernel
theorem dX10_targetAt_7 : decode cX10_targetAt 7 = .ok (.istore_n 2, 1) := by decide +kernel
theorem dX10_targetAt_8 : decode cX10_targetAt 8 = .ok (.iload_n 2, 1) := by decide +kernel
theorem dX10_targetAt_9 : decode cX10_targetAt 9 = .ok (.ifCond .ne 6, 3) := by decide +kernel
theorem dX10_targetAt_12 : decode cX10_targetAt 12 = .ok (.ldc 81, 2) := by decide +kernel
theorem dX10_targetAt_14 : decode cX10_targetAt 14 = .ok (.ireturn, 1) := by decide +kernel
theorem dX10_targetAt_15 : decode cX10_targetAt 15 = .ok (.aload_n 0, 1) := by decide +kernel
theorem dX10_targetAt_16 : decode cX10_targetAt 16 = .ok (.bipush 33, 2) := by decide +kernel
theorem dX10_targetAt_18 : decode cX10_targetAt 18 = .ok (.iload_n 2, 1) := by decide +kernel
theorem dX10_targetAt_19 : decode cX10_targetAt 19 = .ok (.iload_n 1, 1) := by decide +kernel
theorem dX10_targetAt_20 : decode cX10_targetAt 20 = .ok (.invokevirtual 48, 3) := by decide +kernel
theorem dX10_targetAt_23 : decode cX10_targetAt 23 = .ok (.istore_n 3, 1) := by decide +kernel
theorem dX10_targetAt_24 : decode cX10_targetAt 24 = .ok (.aload_n 0, 1) := by decide +kernel
theorem dX10_targetAt_25 : decode cX10_targetAt 25 = .ok (.bipush 33, 2) := by decide +kernel
theorem dX10_targetAt_27 : decode cX10_targetAt 27 = .ok (.iload_n 2, 1) := by decide +kernel
theorem dX10_targetAt_28 : decode cX10_targetAt 28 = .ok (.iload_n 3, 1) := by decide +kernel
theorem dX10_targetAt_29 : decode cX10_targetAt 29 = .ok (.iload_n 1, 1) := by decide +kernel
theorem dX10_targetAt_30 : decode cX10_targetAt 30 = .ok (.invokevirtual 52, 3) := by decide +kernel
theorem dX10_targetAt_33 : decode cX10_targetAt 33 = .ok (.ifCond .ne 7, 3) := by decide +kernel
theorem dX10_targetAt_36 : decode cX10_targetAt 36 = .ok (.iload_n 3, 1) := by decide +kernel
theorem dX10_targetAt_37 : decode cX10_targetAt 37 = .ok (.ifCond .ne 17, 3) := by decide +kernel
theorem dX10_targetAt_40 : decode cX10_targetAt 40 = .ok (.aload_n 0, 1) := by decide +kernel
theorem dX10_targetAt_41 : decode cX10_targetAt 41 = .ok (.getfield 7, 3) := by decide +kernel
theorem dX10_targetAt_44 : decode cX10_targetAt 44 = .ok (.bipush 33, 2) := by decide +kernel
theorem dX10_targetAt_46 : decode cX10_targetAt 46 = .ok (.iconst 2, 1) := by decide +kernel
theorem dX10_targetAt_47 : decode cX10_targetAt 47 = .ok (.iload_n 3, 1) := by decide +kernel
theorem dX10_targetAt_48 : decode cX10_targetAt 48 = .ok (.imul, 1) := by decide +kernel
theorem dX10_targetAt_49 : decode cX10_targetAt 49 = .ok (.iadd, 1) := by decide +kernel
theorem dX10_targetAt_50 : decode cX10_targetAt 50 = .ok (.iconst 1, 1) := by decide +kernel
theorem dX10_targetAt_51 : decode cX10_targetAt 51 = .ok (.iadd, 1) := by decide +kernel
theorem dX10_targetAt_52 : decode cX10_targetAt 52 = .ok (.iaload, 1) := by decide +kernel
theorem dX10_targetAt_53 : decode cX10_targetAt 53 = .ok (.ireturn, 1) := by decide +kernel
theorem dX10_targetAt_54 : decode cX10_targetAt 54 = .ok (.bipush 33, 2) := by decide +kernel
theorem dX10_targetAt_56 : decode cX10_targetAt 56 = .ok (.iconst 2, 1) := by decide +kernel
theorem dX10_targetAt_57 : decode cX10_targetAt 57 = .ok (.iload_n 3, 1) := by decide +kernel
theorem dX10_targetAt_58 : decode cX10_targetAt 58 = .ok (.imul, 1) := by decide +kernel
theorem dX10_targetAt_59 : decode cX10_targetAt 59 = .ok (.iadd, 1) := by decide +kernel
theorem dX10_targetAt_60 : decode cX10_targetAt 60 = .ok (.iconst 2, 1) := by decide +kernel
theorem dX10_targetAt_61 : decode cX10_targetAt 61 = .ok (.isub, 1) := by decide +kernel
theorem dX10_targetAt_62 : decode cX10_targetAt 62 = .ok (.istore 4, 2) := by decide +kernel
theorem dX10_targetAt_64 : decode cX10_targetAt 64 = .ok (.iload_n 3, 1) := by decide +kernel
theorem dX10_targetAt_65 : decode cX10_targetAt 65 = .ok (.iload_n 2, 1) := by decide +kernel
theorem dX10_targetAt_66 : decode cX10_targetAt 66 = .ok (.if_icmp .ne 13, 3) := by decide +kernel
theorem dX10_targetAt_69 : decode cX10_targetAt 69 = .ok (.aload_n 0, 1) := by decide +kernel
theorem dX10_targetAt_70 : decode cX10_targetAt 70 = .ok (.getfield 7, 3) := by decide +kernel
theorem dX10_targetAt_73 : decode cX10_targetAt 73 = .ok (.iload 4, 2) := by decide +kernel
theorem dX10_targetAt_75 : decode cX10_targetAt 75 = .ok (.iconst 1, 1) := by decide +kernel
theorem dX10_targetAt_76 : decode cX10_targetAt 76 = .ok (.iadd, 1) := by decide +kernel
theorem dX10_targetAt_77 : decode cX10_targetAt 77 = .ok (.iaload, 1) := by decide +kernel
theorem dX10_targetAt_78 : decode cX10_targetAt 78 = .ok (.ireturn, 1) := by decide +kernel
theorem dX10_targetAt_79 : decode cX10_targetAt 79 = .ok (.aload_n 0, 1) := by decide +kernel
theorem dX10_targetAt_80 : decode cX10_targetAt 80 = .ok (.getfield 7, 3) := by decide +kernel
theorem dX10_targetAt_83 : decode cX10_targetAt 83 = .ok (.iload 4, 2) := by decide +kernel
theorem dX10_targetAt_85 : decode cX10_targetAt 85 = .ok (.iconst 1, 1) := by decide +kernel
theorem dX10_targetAt_86 : decode cX10_targetAt 86 = .ok (.iadd, 1) := by decide +kernel
theorem dX10_targetAt_87 : decode cX10_targetAt 87 = .ok (.iaload, 1) := by decide +kernel
theorem dX10_targetAt_88 : decode cX10_targetAt 88 = .ok (.aload_n 0, 1) := by decide +kernel
theorem dX10_targetAt_89 : decode cX10_targetAt 89 = .ok (.getfield 7, 3) := by decide +kernel
theorem dX10_targetAt_92 : decode cX10_targetAt 92 = .ok (.iload 4, 2) := by decide +kernel
theorem dX10_targetAt_94 : decode cX10_targetAt 94 = .ok (.iconst 3, 1) := by decide +kernel
theorem dX10_targetAt_95 : decode cX10_targetAt 95 = .ok (.iadd, 1) := by decide +kernel
theorem dX10_targetAt_96 : decode cX10_targetAt 96 = .ok (.iaload, 1) := by decide +kernel
theorem dX10_targetAt_97 : decode cX10_targetAt 97 = .ok (.aload_n 0, 1) := by decide +kernel
theorem dX10_targetAt_98 : decode cX10_targetAt 98 = .ok (.getfield 7, 3) := by decide +kernel
theorem dX10_targetAt_101 : decode cX10_targetAt 101 = .ok (.iload 4, 2) := by decide +kernel
theorem dX10_targetAt_103 : decode cX10_targetAt 103 = .ok (.iconst 1, 1) := by decide +kernel
theorem dX10_targetAt_104 : decode cX10_targetAt 104 = .ok (.iadd, 1) := by decide +kernel
theorem dX10_targetAt_105 : decode cX10_targetAt 105 = .ok (.iaload, 1) := by decide +kernel
theorem dX10_targetAt_106 : decode cX10_targetAt 106 = .ok (.isub, 1) := by decide +kernel
theorem dX10_targetAt_107 : decode cX10_targetAt 107 = .ok (.iload_n 1, 1) := by decide +kernel
theorem dX10_targetAt_108 : decode cX10_targetAt 108 = .ok (.aload_n 0, 1) := by decide +kernel
theorem dX10_targetAt_109 : decode cX10_targetAt 109 = .ok (.getfield 7, 3) := by decide +kernel
theorem dX10_targetAt_112 : decode cX10_targetAt 112 = .ok (.iload 4, 2) := by decide +kernel
theorem dX10_targetAt_114 : decode cX10_targetAt 114 = .ok (.iaload, 1) := by decide +kernel
theorem dX10_targetAt_115 : decode cX10_targetAt 115 = .ok (.isub, 1) := by decide +kernel
theorem dX10_targetAt_116 : decode cX10_targetAt 116 = .ok (.imul, 1) := by decide +kernel
theorem dX10_targetAt_117 : decode cX10_targetAt 117 = .ok (.aload_n 0, 1) := by decide +kernel
theorem dX10_targetAt_118 : decode cX10_targetAt 118 = .ok (.getfield 7, 3) := by decide +kernel
theorem dX10_targetAt_121 : decode cX10_targetAt 121 = .ok (.iload 4, 2) := by decide +kernel
theorem dX10_targetAt_123 : decode cX10_targetAt 123 = .ok (.iconst 2, 1) := by decide +kernel
theorem dX10_targetAt_124 : decode cX10_targetAt 124 = .ok (.iadd, 1) := by decide +kernel
theorem dX10_targetAt_125 : decode cX10_targetAt 125 = .ok (.iaload, 1) := by decide +kernel
theorem dX10_targetAt_126 : decode cX10_targetAt 126 = .ok (.aload_n 0, 1) := by decide +kernel
theorem dX10_targetAt_127 : decode cX10_targetAt 127 = .ok (.getfield 7, 3) := by decide +kernel
theorem dX10_targetAt_130 : decode cX10_targetAt 130 = .ok (.iload 4, 2) := by decide +kernel
theorem dX10_targetAt_132 : decode cX10_targetAt 132 = .ok (.iaload, 1) := by decide +kernel
theorem dX10_targetAt_133 : decode cX10_targetAt 133 = .ok (.isub, 1) := by decide +kernel
theorem dX10_targetAt_134 : decode cX10_targetAt 134 = .ok (.invokestatic 103, 3) := by decide +kernel
theorem dX10_targetAt_137 : decode cX10_targetAt 137 = .ok (.iadd, 1) := by decide +kernel
theorem dX10_targetAt_138 : decode cX10_targetAt 138 = .ok (.ireturn, 1) := by decide +kernel
theorem dX10_rateAt_0 : decode cX10_rateAt 0 = .ok (.aload_n 0, 1) := by decide +kernel
theorem dX10_rateAt_1 : decode cX10_rateAt 1 = .ok (.bipush 50, 2) := by decide +kernel
theorem dX10_rateAt_3 : decode cX10_rateAt 3 = .ok (.aload_n 0, 1) := by decide +kernel
theorem dX10_rateAt_4 : decode cX10_rateAt 4 = .ok (.getfield 7, 3) := by decide +kernel
theorem dX10_rateAt_7 : decode cX10_rateAt 7 = .ok (.bipush 49, 2) := by decide +kernel
theorem dX10_rateAt_9 : decode cX10_rateAt 9 = .ok (.iaload, 1) := by decide +kernel
theorem dX10_rateAt_10 : decode cX10_rateAt 10 = .ok (.iload_n 1, 1) := by decide +kernel
theorem dX10_rateAt_11 : decode cX10_rateAt 11 = .ok (.iconst 1, 1) := by decide +kernel
theorem dX10_rateAt_12 : decode cX10_rateAt 12 = .ok (.iadd, 1) := by decide +kernel
theorem dX10_rateAt_13 : decode cX10_rateAt 13 = .ok (.invokevirtual 48, 3) := by decide +kernel
theorem dX10_rateAt_16 : decode cX10_rateAt 16 = .ok (.istore_n 2, 1) := by decide +kernel
theorem dX10_rateAt_17 : decode cX10_rateAt 17 = .ok (.iload_n 2, 1) := by decide +kernel
theorem dX10_rateAt_18 : decode cX10_rateAt 18 = .ok (.ifCond .ne 7, 3) := by decide +kernel
theorem dX10_rateAt_21 : decode cX10_rateAt 21 = .ok (.iconst 0, 1) := by decide +kernel
theorem dX10_rateAt_22 : decode cX10_rateAt 22 = .ok (.goto 16, 3) := by decide +kernel
theorem dX10_rateAt_25 : decode cX10_rateAt 25 = .ok (.aload_n 0, 1) := by decide +kernel
theorem dX10_rateAt_26 : decode cX10_rateAt 26 = .ok (.getfield 7, 3) := by decide +kernel
theorem dX10_rateAt_29 : decode cX10_rateAt 29 = .ok (.bipush 50, 2) := by decide +kernel
theorem dX10_rateAt_31 : decode cX10_rateAt 31 = .ok (.iconst 2, 1) := by decide +kernel
theorem dX10_rateAt_32 : decode cX10_rateAt 32 = .ok (.iload_n 2, 1) := by decide +kernel
theorem dX10_rateAt_33 : decode cX10_rateAt 33 = .ok (.imul, 1) := by decide +kernel
theorem dX10_rateAt_34 : decode cX10_rateAt 34 = .ok (.iadd, 1) := by decide +kernel
theorem dX10_rateAt_35 : decode cX10_rateAt 35 = .ok (.iconst 1, 1) := by decide +kernel
theorem dX10_rateAt_36 : decode cX10_rateAt 36 = .ok (.isub, 1) := by decide +kernel
theorem dX10_rateAt_37 : decode cX10_rateAt 37 = .ok (.iaload, 1) := by decide +kernel
theorem dX10_rateAt_38 : decode cX10_rateAt 38 = .ok (.ireturn, 1) := by decide +kernel
theorem dX10_control_0 : decode cX10_control 0 = .ok (.aload_n 0, 1) := by decide +kernel
theorem dX10_control_1 : decode cX10_control 1 = .ok (.aload_n 0, 1) := by decide +kernel
theorem dX10_control_2 : decode cX10_control 2 = .ok (.getfield 7, 3) := by decide +kernel
theorem dX10_control_5 : decode cX10_control 5 = .ok (.bipush 18, 2) := by decide +kernel
theorem dX10_control_7 : decode cX10_control 7 = .ok (.iaload, 1) := by decide +kernel
theorem dX10_control_8 : decode cX10_control 8 = .ok (.invokevirtual 106, 3) := by decide +kernel
theorem dX10_control_11 : decode cX10_control 11 = .ok (.istore_n 1, 1) := by decide +kernel
theorem dX10_control_12 : decode cX10_control 12 = .ok (.aload_n 0, 1) := by decide +kernel
theorem dX10_control_13 : decode cX10_control 13 = .ok (.getfield 7, 3) := by decide +kernel
theorem dX10_control_16 : decode cX10_control 16 = .ok (.bipush 9, 2) := by decide +kernel
theorem dX10_control_18 : decode cX10_control 18 = .ok (.iaload, 1) := by decide +kernel
theorem dX10_control_19 : decode cX10_control 19 = .ok (.ifCond .eq 9, 3) := by decide +kernel
theorem dX10_control_22 : decode cX10_control 22 = .ok (.iload_n 1, 1) := by decide +kernel
theorem dX10_control_23 : decode cX10_control 23 = .ok (.ldc 81, 2) := by decide +kernel
theorem dX10_control_25 : decode cX10_control 25 = .ok (.if_icmp .ne 4, 3) := by decide +kernel
theorem dX10_control_28 : decode cX10_control 28 = .ok (.return_, 1) := by decide +kernel
theorem dX10_control_29 : decode cX10_control 29 = .ok (.iload_n 1, 1) := by decide +kernel
theorem dX10_control_30 : decode cX10_control 30 = .ok (.aload_n 0, 1) := by decide +kernel
theorem dX10_control_31 : decode cX10_control 31 = .ok (.getfield 7, 3) := by decide +kernel
theorem dX10_control_34 : decode cX10_control 34 = .ok (.iconst 4, 1) := by decide +kernel
theorem dX10_control_35 : decode cX10_control 35 = .ok (.iaload, 1) := by decide +kernel
theorem dX10_control_36 : decode cX10_control 36 = .ok (.isub, 1) := by decide +kernel
theorem dX10_control_37 : decode cX10_control 37 = .ok (.istore_n 2, 1) := by decide +kernel
theorem dX10_control_38 : decode cX10_control 38 = .ok (.aload_n 0, 1) := by decide +kernel
theorem dX10_control_39 : decode cX10_control 39 = .ok (.getfield 7, 3) := by decide +kernel
theorem dX10_control_42 : decode cX10_control 42 = .ok (.bipush 13, 2) := by decide +kernel
theorem dX10_control_44 : decode cX10_control 44 = .ok (.aload_n 0, 1) := by decide +kernel
theorem dX10_control_45 : decode cX10_control 45 = .ok (.getfield 7, 3) := by decide +kernel
theorem dX10_control_48 : decode cX10_control 48 = .ok (.bipush 13, 2) := by decide +kernel
theorem dX10_control_50 : decode cX10_control 50 = .ok (.iaload, 1) := by decide +kernel
theorem dX10_control_51 : decode cX10_control 51 = .ok (.iload_n 2, 1) := by decide +kernel
theorem dX10_control_52 : decode cX10_control 52 = .ok (.iadd, 1) := by decide +kernel
theorem dX10_control_53 : decode cX10_control 53 = .ok (.sipush (-20000), 3) := by decide +kernel
theorem dX10_control_56 : decode cX10_control 56 = .ok (.sipush 20000, 3) := by decide +kernel
theorem dX10_control_59 : decode cX10_control 59 = .ok (.invokestatic 100, 3) := by decide +kernel
theorem dX10_control_62 : decode cX10_control 62 = .ok (.iastore, 1) := by decide +kernel
theorem dX10_control_63 : decode cX10_control 63 = .ok (.aload_n 0, 1) := by decide +kernel
theorem dX10_control_64 : decode cX10_control 64 = .ok (.getfield 7, 3) := by decide +kernel
theorem dX10_control_67 : decode cX10_control 67 = .ok (.bipush 7, 2) := by decide +kernel
theorem dX10_control_69 : decode cX10_control 69 = .ok (.aload_n 0, 1) := by decide +kernel
theorem dX10_control_70 : decode cX10_control 70 = .ok (.getfield 7, 3) := by decide +kernel
theorem dX10_control_73 : decode cX10_control 73 = .ok (.bipush 12, 2) := by decide +kernel
theorem dX10_control_75 : decode cX10_control 75 = .ok (.iaload, 1) := by decide +kernel
theorem dX10_control_76 : decode cX10_control 76 = .ok (.aload_n 0, 1) := by decide +kernel
theorem dX10_control_77 : decode cX10_control 77 = .ok (.getfield 7, 3) := by decide +kernel
theorem dX10_control_80 : decode cX10_control 80 = .ok (.bipush 10, 2) := by decide +kernel
theorem dX10_control_82 : decode cX10_control 82 = .ok (.iaload, 1) := by decide +kernel
theorem dX10_control_83 : decode cX10_control 83 = .ok (.iload_n 2, 1) := by decide +kernel
theorem dX10_control_84 : decode cX10_control 84 = .ok (.imul, 1) := by decide +kernel
theorem dX10_control_85 : decode cX10_control 85 = .ok (.bipush 100, 2) := by decide +kernel
theorem dX10_control_87 : decode cX10_control 87 = .ok (.invokestatic 103, 3) := by decide +kernel
theorem dX10_control_90 : decode cX10_control 90 = .ok (.iadd, 1) := by decide +kernel
theorem dX10_control_91 : decode cX10_control 91 = .ok (.aload_n 0, 1) := by decide +kernel
theorem dX10_control_92 : decode cX10_control 92 = .ok (.getfield 7, 3) := by decide +kernel
theorem dX10_control_95 : decode cX10_control 95 = .ok (.bipush 11, 2) := by decide +kernel
theorem dX10_control_97 : decode cX10_control 97 = .ok (.iaload, 1) := by decide +kernel
theorem dX10_control_98 : decode cX10_control 98 = .ok (.aload_n 0, 1) := by decide +kernel
theorem dX10_control_99 : decode cX10_control 99 = .ok (.getfield 7, 3) := by decide +kernel
theorem dX10_control_102 : decode cX10_control 102 = .ok (.bipush 13, 2) := by decide +kernel
theorem dX10_control_104 : decode cX10_control 104 = .ok (.iaload, 1) := by decide +kernel
theorem dX10_control_105 : decode cX10_control 105 = .ok (.imul, 1) := by decide +kernel
theorem dX10_control_106 : decode cX10_control 106 = .ok (.sipush 1000, 3) := by decide +kernel
theorem dX10_control_109 : decode cX10_control 109 = .ok (.invokestatic 103, 3) := by decide +kernel
theorem dX10_control_112 : decode cX10_control 112 = .ok (.iadd, 1) := by decide +kernel
theorem dX10_control_113 : decode cX10_control 113 = .ok (.iconst 0, 1) := by decide +kernel
theorem dX10_control_114 : decode cX10_control 114 = .ok (.bipush 100, 2) := by decide +kernel
theorem dX10_control_116 : decode cX10_control 116 = .ok (.invokestatic 100, 3) := by decide +kernel
theorem dX10_control_119 : decode cX10_control 119 = .ok (.iastore, 1) := by decide +kernel
theorem dX10_control_120 : decode cX10_control 120 = .ok (.return_, 1) := by decide +kernel
theorem dX10_crack_0 : decode cX10_crack 0 = .ok (.sipush 1000, 3) := by decide +kernel
theorem dX10_crack_3 : decode cX10_crack 3 = .ok (.aload_n 0, 1) := by decide +kernel
theorem dX10_crack_4 : decode cX10_crack 4 = .ok (.getfield 7, 3) := by decide +kernel
theorem dX10_crack_7 : decode cX10_crack 7 = .ok (.bipush 20, 2) := by decide +kernel
theorem dX10_crack_9 : decode cX10_crack 9 = .ok (.iaload, 1) := by decide +kernel
theorem dX10_crack_10 : decode cX10_crack 10 = .ok (.isub, 1) := by decide +kernel
theorem dX10_crack_11 : decode cX10_crack 11 = .ok (.istore_n 1, 1) := by decide +kernel
theorem dX10_crack_12 : decode cX10_crack 12 = .ok (.aload_n 0, 1) := by decide +kernel
theorem dX10_crack_13 : decode cX10_crack 13 = .ok (.getfield 7, 3) := by decide +kernel
theorem dX10_crack_16 : decode cX10_crack 16 = .ok (.bipush 16, 2) := by decide +kernel
theorem dX10_crack_18 : decode cX10_crack 18 = .ok (.iaload, 1) := by decide +kernel
theorem dX10_crack_19 : decode cX10_crack 19 = .ok (.aload_n 0, 1) := by decide +kernel
theorem dX10_crack_20 : decode cX10_crack 20 = .ok (.getfield 7, 3) := by decide +kernel
theorem dX10_crack_23 : decode cX10_crack 23 = .ok (.bipush 14, 2) := by decide +kernel
theorem dX10_crack_25 : decode cX10_crack 25 = .ok (.iaload, 1) := by decide +kernel
theorem dX10_crack_26 : decode cX10_crack 26 = .ok (.if_icmp .ge 7, 3) := by decide +kernel
theorem dX10_crack_29 : decode cX10_crack 29 = .ok (.iconst 0, 1) := by decide +kernel
theorem dX10_crack_30 : decode cX10_crack 30 = .ok (.goto 22, 3) := by decide +kernel
theorem dX10_crack_33 : decode cX10_crack 33 = .ok (.aload_n 0, 1) := by decide +kernel
theorem dX10_crack_34 : decode cX10_crack 34 = .ok (.getfield 7, 3) := by decide +kernel
theorem dX10_crack_37 : decode cX10_crack 37 = .ok (.bipush 16, 2) := by decide +kernel
theorem dX10_crack_39 : decode cX10_crack 39 = .ok (.iaload, 1) := by decide +kernel
theorem dX10_crack_40 : decode cX10_crack 40 = .ok (.aload_n 0, 1) := by decide +kernel
theorem dX10_crack_41 : decode cX10_crack 41 = .ok (.getfield 7, 3) := by decide +kernel
theorem dX10_crack_44 : decode cX10_crack 44 = .ok (.bipush 14, 2) := by decide +kernel
theorem dX10_crack_46 : decode cX10_crack 46 = .ok (.iaload, 1) := by decide +kernel
theorem dX10_crack_47 : decode cX10_crack 47 = .ok (.isub, 1) := by decide +kernel
theorem dX10_crack_48 : decode cX10_crack 48 = .ok (.iconst 2, 1) := by decide +kernel
theorem dX10_crack_49 : decode cX10_crack 49 = .ok (.idiv, 1) := by decide +kernel
theorem dX10_crack_50 : decode cX10_crack 50 = .ok (.iconst 1, 1) := by decide +kernel
theorem dX10_crack_51 : decode cX10_crack 51 = .ok (.iadd, 1) := by decide +kernel
theorem dX10_crack_52 : decode cX10_crack 52 = .ok (.istore_n 2, 1) := by decide +kernel
theorem dX10_crack_53 : decode cX10_crack 53 = .ok (.aload_n 0, 1) := by decide +kernel
theorem dX10_crack_54 : decode cX10_crack 54 = .ok (.getfield 7, 3) := by decide +kernel
theorem dX10_crack_57 : decode cX10_crack 57 = .ok (.bipush 21, 2) := by decide +kernel
theorem dX10_crack_59 : decode cX10_crack 59 = .ok (.iload_n 2, 1) := by decide +kernel
theorem dX10_crack_60 : decode cX10_crack 60 = .ok (.iload_n 1, 1) := by decide +kernel
theorem dX10_crack_61 : decode cX10_crack 61 = .ok (.if_icmp .le 7, 3) := by decide +kernel
theorem dX10_crack_64 : decode cX10_crack 64 = .ok (.iload_n 1, 1) := by decide +kernel
theorem dX10_crack_65 : decode cX10_crack 65 = .ok (.goto 4, 3) := by decide +kernel
theorem dX10_crack_68 : decode cX10_crack 68 = .ok (.iload_n 2, 1) := by decide +kernel
theorem dX10_crack_69 : decode cX10_crack 69 = .ok (.iastore, 1) := by decide +kernel
theorem dX10_crack_70 : decode cX10_crack 70 = .ok (.aload_n 0, 1) := by decide +kernel
theorem dX10_crack_71 : decode cX10_crack 71 = .ok (.getfield 7, 3) := by decide +kernel
theorem dX10_crack_74 : decode cX10_crack 74 = .ok (.bipush 20, 2) := by decide +kernel
theorem dX10_crack_76 : decode cX10_crack 76 = .ok (.dup2, 1) := by decide +kernel
theorem dX10_crack_77 : decode cX10_crack 77 = .ok (.iaload, 1) := by decide +kernel
theorem dX10_crack_78 : decode cX10_crack 78 = .ok (.aload_n 0, 1) := by decide +kernel
theorem dX10_crack_79 : decode cX10_crack 79 = .ok (.getfield 7, 3) := by decide +kernel
theorem dX10_crack_82 : decode cX10_crack 82 = .ok (.bipush 21, 2) := by decide +kernel
theorem dX10_crack_84 : decode cX10_crack 84 = .ok (.iaload, 1) := by decide +kernel
theorem dX10_crack_85 : decode cX10_crack 85 = .ok (.iadd, 1) := by decide +kernel
theorem dX10_crack_86 : decode cX10_crack 86 = .ok (.iastore, 1) := by decide +kernel
theorem dX10_crack_87 : decode cX10_crack 87 = .ok (.bipush 26, 2) := by decide +kernel
theorem dX10_crack_89 : decode cX10_crack 89 = .ok (.aload_n 0, 1) := by decide +kernel
theorem dX10_crack_90 : decode cX10_crack 90 = .ok (.getfield 7, 3) := by decide +kernel
theorem dX10_crack_93 : decode cX10_crack 93 = .ok (.bipush 18, 2) := by decide +kernel
theorem dX10_crack_95 : decode cX10_crack 95 = .ok (.iaload, 1) := by decide +kernel
theorem dX10_crack_96 : decode cX10_crack 96 = .ok (.bipush 6, 2) := by decide +kernel
theorem dX10_crack_98 : decode cX10_crack 98 = .ok (.irem, 1) := by decide +kernel
theorem dX10_crack_99 : decode cX10_crack 99 = .ok (.iadd, 1) := by decide +kernel
theorem dX10_crack_100 : decode cX10_crack 100 = .ok (.istore_n 3, 1) := by decide +kernel
theorem dX10_crack_101 : decode cX10_crack 101 = .ok (.aload_n 0, 1) := by decide +kernel
theorem dX10_crack_102 : decode cX10_crack 102 = .ok (.getfield 7, 3) := by decide +kernel
theorem dX10_crack_105 : decode cX10_crack 105 = .ok (.bipush 22, 2) := by decide +kernel
theorem dX10_crack_107 : decode cX10_crack 107 = .ok (.dup2, 1) := by decide +kernel
theorem dX10_crack_108 : decode cX10_crack 108 = .ok (.iaload, 1) := by decide +kernel
theorem dX10_crack_109 : decode cX10_crack 109 = .ok (.aload_n 0, 1) := by decide +kernel
theorem dX10_crack_110 : decode cX10_crack 110 = .ok (.getfield 7, 3) := by decide +kernel
theorem dX10_crack_113 : decode cX10_crack 113 = .ok (.bipush 21, 2) := by decide +kernel
theorem dX10_crack_115 : decode cX10_crack 115 = .ok (.iaload, 1) := by decide +kernel
theorem dX10_crack_116 : decode cX10_crack 116 = .ok (.aload_n 0, 1) := by decide +kernel
theorem dX10_crack_117 : decode cX10_crack 117 = .ok (.getfield 7, 3) := by decide +kernel
theorem dX10_crack_120 : decode cX10_crack 120 = .ok (.iload_n 3, 1) := by decide +kernel
theorem dX10_crack_121 : decode cX10_crack 121 = .ok (.iaload, 1) := by decide +kernel
theorem dX10_crack_122 : decode cX10_crack 122 = .ok (.isub, 1) := by decide +kernel
theorem dX10_crack_123 : decode cX10_crack 123 = .ok (.iadd, 1) := by decide +kernel
theorem dX10_crack_124 : decode cX10_crack 124 = .ok (.iastore, 1) := by decide +kernel
theorem dX10_crack_125 : decode cX10_crack 125 = .ok (.aload_n 0, 1) := by decide +kernel
theorem dX10_crack_126 : decode cX10_crack 126 = .ok (.getfield 7, 3) := by decide +kernel
theorem dX10_crack_129 : decode cX10_crack 129 = .ok (.iload_n 3, 1) := by decide +kernel
theorem dX10_crack_130 : decode cX10_crack 130 = .ok (.aload_n 0, 1) := by decide +kernel
theorem dX10_crack_131 : decode cX10_crack 131 = .ok (.getfield 7, 3) := by decide +kernel
theorem dX10_crack_134 : decode cX10_crack 134 = .ok (.bipush 21, 2) := by decide +kernel
theorem dX10_crack_136 : decode cX10_crack 136 = .ok (.iaload, 1) := by decide +kernel
theorem dX10_crack_137 : decode cX10_crack 137 = .ok (.iastore, 1) := by decide +kernel
theorem dX10_crack_138 : decode cX10_crack 138 = .ok (.return_, 1) := by decide +kernel
theorem dX10_detect_0 : decode cX10_detect 0 = .ok (.aload_n 0, 1) := by decide +kernel
theorem dX10_detect_1 : decode cX10_detect 1 = .ok (.getfield 7, 3) := by decide +kernel
theorem dX10_detect_4 : decode cX10_detect 4 = .ok (.bipush 22, 2) := by decide +kernel
theorem dX10_detect_6 : decode cX10_detect 6 = .ok (.iaload, 1) := by decide +kernel
theorem dX10_detect_7 : decode cX10_detect 7 = .ok (.aload_n 0, 1) := by decide +kernel
theorem dX10_detect_8 : decode cX10_detect 8 = .ok (.getfield 7, 3) := by decide +kernel
theorem dX10_detect_11 : decode cX10_detect 11 = .ok (.bipush 15, 2) := by decide +kernel
theorem dX10_detect_13 : decode cX10_detect 13 = .ok (.iaload, 1) := by decide +kernel
theorem dX10_detect_14 : decode cX10_detect 14 = .ok (.if_icmp .lt 7, 3) := by decide +kernel
theorem dX10_detect_17 : decode cX10_detect 17 = .ok (.iconst 1, 1) := by decide +kernel
theorem dX10_detect_18 : decode cX10_detect 18 = .ok (.goto 4, 3) := by decide +kernel
theorem dX10_detect_21 : decode cX10_detect 21 = .ok (.iconst 0, 1) := by decide +kernel
theorem dX10_detect_22 : decode cX10_detect 22 = .ok (.istore_n 1, 1) := by decide +kernel
theorem dX10_detect_23 : decode cX10_detect 23 = .ok (.aload_n 0, 1) := by decide +kernel
theorem dX10_detect_24 : decode cX10_detect 24 = .ok (.getfield 7, 3) := by decide +kernel
theorem dX10_detect_27 : decode cX10_detect 27 = .ok (.bipush 23, 2) := by decide +kernel
theorem dX10_detect_29 : decode cX10_detect 29 = .ok (.iaload, 1) := by decide +kernel
theorem dX10_detect_30 : decode cX10_detect 30 = .ok (.ldc 81, 2) := by decide +kernel
theorem dX10_detect_32 : decode cX10_detect 32 = .ok (.if_icmp .ne 29, 3) := by decide +kernel
theorem dX10_detect_35 : decode cX10_detect 35 = .ok (.aload_n 0, 1) := by decide +kernel
theorem dX10_detect_36 : decode cX10_detect 36 = .ok (.getfield 7, 3) := by decide +kernel
theorem dX10_detect_39 : decode cX10_detect 39 = .ok (.bipush 23, 2) := by decide +kernel
theorem dX10_detect_41 : decode cX10_detect 41 = .ok (.iload_n 1, 1) := by decide +kernel
theorem dX10_detect_42 : decode cX10_detect 42 = .ok (.ifCond .eq 13, 3) := by decide +kernel
theorem dX10_detect_45 : decode cX10_detect 45 = .ok (.aload_n 0, 1) := by decide +kernel
theorem dX10_detect_46 : decode cX10_detect 46 = .ok (.getfield 7, 3) := by decide +kernel
theorem dX10_detect_49 : decode cX10_detect 49 = .ok (.bipush 18, 2) := by decide +kernel
theorem dX10_detect_51 : decode cX10_detect 51 = .ok (.iaload, 1) := by decide +kernel
theorem dX10_detect_52 : decode cX10_detect 52 = .ok (.goto 5, 3) := by decide +kernel
theorem dX10_detect_55 : decode cX10_detect 55 = .ok (.ldc 81, 2) := by decide +kernel
theorem dX10_detect_57 : decode cX10_detect 57 = .ok (.iastore, 1) := by decide +kernel
theorem dX10_detect_58 : decode cX10_detect 58 = .ok (.goto 33, 3) := by decide +kernel
theorem dX10_detect_61 : decode cX10_detect 61 = .ok (.aload_n 0, 1) := by decide +kernel
theorem dX10_detect_62 : decode cX10_detect 62 = .ok (.getfield 7, 3) := by decide +kernel
theorem dX10_detect_65 : decode cX10_detect 65 = .ok (.bipush 24, 2) := by decide +kernel
theorem dX10_detect_67 : decode cX10_detect 67 = .ok (.iaload, 1) := by decide +kernel
theorem dX10_detect_68 : decode cX10_detect 68 = .ok (.ldc 81, 2) := by decide +kernel
theorem dX10_detect_70 : decode cX10_detect 70 = .ok (.if_icmp .ne 21, 3) := by decide +kernel
theorem dX10_detect_73 : decode cX10_detect 73 = .ok (.iload_n 1, 1) := by decide +kernel
theorem dX10_detect_74 : decode cX10_detect 74 = .ok (.ifCond .ne 17, 3) := by decide +kernel
theorem dX10_detect_77 : decode cX10_detect 77 = .ok (.aload_n 0, 1) := by decide +kernel
theorem dX10_detect_78 : decode cX10_detect 78 = .ok (.getfield 7, 3) := by decide +kernel
theorem dX10_detect_81 : decode cX10_detect 81 = .ok (.bipush 24, 2) := by decide +kernel
theorem dX10_detect_83 : decode cX10_detect 83 = .ok (.aload_n 0, 1) := by decide +kernel
theorem dX10_detect_84 : decode cX10_detect 84 = .ok (.getfield 7, 3) := by decide +kernel
theorem dX10_detect_87 : decode cX10_detect 87 = .ok (.bipush 18, 2) := by decide +kernel
theorem dX10_detect_89 : decode cX10_detect 89 = .ok (.iaload, 1) := by decide +kernel
theorem dX10_detect_90 : decode cX10_detect 90 = .ok (.iastore, 1) := by decide +kernel
theorem dX10_detect_91 : decode cX10_detect 91 = .ok (.return_, 1) := by decide +kernel
theorem dX10_tick_0 : decode cX10_tick 0 = .ok (.aload_n 0, 1) := by decide +kernel
theorem dX10_tick_1 : decode cX10_tick 1 = .ok (.invokevirtual 96, 3) := by decide +kernel
theorem dX10_tick_4 : decode cX10_tick 4 = .ok (.istore_n 1, 1) := by decide +kernel
theorem dX10_tick_5 : decode cX10_tick 5 = .ok (.aload_n 0, 1) := by decide +kernel
theorem dX10_tick_6 : decode cX10_tick 6 = .ok (.getfield 7, 3) := by decide +kernel
theorem dX10_tick_9 : decode cX10_tick 9 = .ok (.iconst 0, 1) := by decide +kernel
theorem dX10_tick_10 : decode cX10_tick 10 = .ok (.dup2, 1) := by decide +kernel
theorem dX10_tick_11 : decode cX10_tick 11 = .ok (.iaload, 1) := by decide +kernel
theorem dX10_tick_12 : decode cX10_tick 12 = .ok (.iconst 1, 1) := by decide +kernel
theorem dX10_tick_13 : decode cX10_tick 13 = .ok (.iadd, 1) := by decide +kernel
theorem dX10_tick_14 : decode cX10_tick 14 = .ok (.iastore, 1) := by decide +kernel
theorem dX10_tick_15 : decode cX10_tick 15 = .ok (.aload_n 0, 1) := by decide +kernel
theorem dX10_tick_16 : decode cX10_tick 16 = .ok (.getfield 7, 3) := by decide +kernel
theorem dX10_tick_19 : decode cX10_tick 19 = .ok (.bipush 18, 2) := by decide +kernel
theorem dX10_tick_21 : decode cX10_tick 21 = .ok (.dup2, 1) := by decide +kernel
theorem dX10_tick_22 : decode cX10_tick 22 = .ok (.iaload, 1) := by decide +kernel
theorem dX10_tick_23 : decode cX10_tick 23 = .ok (.iload_n 1, 1) := by decide +kernel
theorem dX10_tick_24 : decode cX10_tick 24 = .ok (.ifCond .eq 7, 3) := by decide +kernel
theorem dX10_tick_27 : decode cX10_tick 27 = .ok (.iconst 1, 1) := by decide +kernel
theorem dX10_tick_28 : decode cX10_tick 28 = .ok (.goto 4, 3) := by decide +kernel
theorem dX10_tick_31 : decode cX10_tick 31 = .ok (.iconst 0, 1) := by decide +kernel
theorem dX10_tick_32 : decode cX10_tick 32 = .ok (.iadd, 1) := by decide +kernel
theorem dX10_tick_33 : decode cX10_tick 33 = .ok (.iastore, 1) := by decide +kernel
theorem dX10_tick_34 : decode cX10_tick 34 = .ok (.iload_n 1, 1) := by decide +kernel
theorem dX10_tick_35 : decode cX10_tick 35 = .ok (.ifCond .eq 7, 3) := by decide +kernel
theorem dX10_tick_38 : decode cX10_tick 38 = .ok (.aload_n 0, 1) := by decide +kernel
theorem dX10_tick_39 : decode cX10_tick 39 = .ok (.invokevirtual 110, 3) := by decide +kernel
theorem dX10_tick_42 : decode cX10_tick 42 = .ok (.aload_n 0, 1) := by decide +kernel
theorem dX10_tick_43 : decode cX10_tick 43 = .ok (.getfield 7, 3) := by decide +kernel
theorem dX10_tick_46 : decode cX10_tick 46 = .ok (.iconst 2, 1) := by decide +kernel
theorem dX10_tick_47 : decode cX10_tick 47 = .ok (.iaload, 1) := by decide +kernel
theorem dX10_tick_48 : decode cX10_tick 48 = .ok (.istore_n 2, 1) := by decide +kernel
theorem dX10_tick_49 : decode cX10_tick 49 = .ok (.aload_n 0, 1) := by decide +kernel
theorem dX10_tick_50 : decode cX10_tick 50 = .ok (.getfield 7, 3) := by decide +kernel
theorem dX10_tick_53 : decode cX10_tick 53 = .ok (.iconst 2, 1) := by decide +kernel
theorem dX10_tick_54 : decode cX10_tick 54 = .ok (.dup2, 1) := by decide +kernel
theorem dX10_tick_55 : decode cX10_tick 55 = .ok (.iaload, 1) := by decide +kernel
theorem dX10_tick_56 : decode cX10_tick 56 = .ok (.bipush 8, 2) := by decide +kernel
theorem dX10_tick_58 : decode cX10_tick 58 = .ok (.aload_n 0, 1) := by decide +kernel
theorem dX10_tick_59 : decode cX10_tick 59 = .ok (.getfield 7, 3) := by decide +kernel
theorem dX10_tick_62 : decode cX10_tick 62 = .ok (.bipush 7, 2) := by decide +kernel
theorem dX10_tick_64 : decode cX10_tick 64 = .ok (.iaload, 1) := by decide +kernel
theorem dX10_tick_65 : decode cX10_tick 65 = .ok (.imul, 1) := by decide +kernel
theorem dX10_tick_66 : decode cX10_tick 66 = .ok (.iload_n 2, 1) := by decide +kernel
theorem dX10_tick_67 : decode cX10_tick 67 = .ok (.aload_n 0, 1) := by decide +kernel
theorem dX10_tick_68 : decode cX10_tick 68 = .ok (.getfield 7, 3) := by decide +kernel
theorem dX10_tick_71 : decode cX10_tick 71 = .ok (.iconst 3, 1) := by decide +kernel
theorem dX10_tick_72 : decode cX10_tick 72 = .ok (.iaload, 1) := by decide +kernel
theorem dX10_tick_73 : decode cX10_tick 73 = .ok (.isub, 1) := by decide +kernel
theorem dX10_tick_74 : decode cX10_tick 74 = .ok (.iconst 5, 1) := by decide +kernel
theorem dX10_tick_75 : decode cX10_tick 75 = .ok (.invokestatic 103, 3) := by decide +kernel
theorem dX10_tick_78 : decode cX10_tick 78 = .ok (.isub, 1) := by decide +kernel
theorem dX10_tick_79 : decode cX10_tick 79 = .ok (.bipush 10, 2) := by decide +kernel
theorem dX10_tick_81 : decode cX10_tick 81 = .ok (.invokestatic 103, 3) := by decide +kernel
theorem dX10_tick_84 : decode cX10_tick 84 = .ok (.iadd, 1) := by decide +kernel
theorem dX10_tick_85 : decode cX10_tick 85 = .ok (.iastore, 1) := by decide +kernel
theorem dX10_tick_86 : decode cX10_tick 86 = .ok (.iload_n 1, 1) := by decide +kernel
theorem dX10_tick_87 : decode cX10_tick 87 = .ok (.ifCond .eq 133, 3) := by decide +kernel
theorem dX10_tick_90 : decode cX10_tick 90 = .ok (.aload_n 0, 1) := by decide +kernel
theorem dX10_tick_91 : decode cX10_tick 91 = .ok (.getfield 7, 3) := by decide +kernel
theorem dX10_tick_94 : decode cX10_tick 94 = .ok (.iconst 2, 1) := by decide +kernel
theorem dX10_tick_95 : decode cX10_tick 95 = .ok (.dup2, 1) := by decide +kernel
theorem dX10_tick_96 : decode cX10_tick 96 = .ok (.iaload, 1) := by decide +kernel
theorem dX10_tick_97 : decode cX10_tick 97 = .ok (.iload_n 2, 1) := by decide +kernel
theorem dX10_tick_98 : decode cX10_tick 98 = .ok (.aload_n 0, 1) := by decide +kernel
theorem dX10_tick_99 : decode cX10_tick 99 = .ok (.getfield 7, 3) := by decide +kernel
theorem dX10_tick_102 : decode cX10_tick 102 = .ok (.bipush 16, 2) := by decide +kernel
theorem dX10_tick_104 : decode cX10_tick 104 = .ok (.iaload, 1) := by decide +kernel
theorem dX10_tick_105 : decode cX10_tick 105 = .ok (.isub, 1) := by decide +kernel
theorem dX10_tick_106 : decode cX10_tick 106 = .ok (.aload_n 0, 1) := by decide +kernel
theorem dX10_tick_107 : decode cX10_tick 107 = .ok (.getfield 7, 3) := by decide +kernel
theorem dX10_tick_110 : decode cX10_tick 110 = .ok (.bipush 17, 2) := by decide +kernel
theorem dX10_tick_112 : decode cX10_tick 112 = .ok (.iaload, 1) := by decide +kernel
theorem dX10_tick_113 : decode cX10_tick 113 = .ok (.imul, 1) := by decide +kernel
theorem dX10_tick_114 : decode cX10_tick 114 = .ok (.sipush 20000, 3) := by decide +kernel
theorem dX10_tick_117 : decode cX10_tick 117 = .ok (.invokestatic 103, 3) := by decide +kernel
theorem dX10_tick_120 : decode cX10_tick 120 = .ok (.isub, 1) := by decide +kernel
theorem dX10_tick_121 : decode cX10_tick 121 = .ok (.iastore, 1) := by decide +kernel
theorem dX10_tick_122 : decode cX10_tick 122 = .ok (.aload_n 0, 1) := by decide +kernel
theorem dX10_tick_123 : decode cX10_tick 123 = .ok (.getfield 7, 3) := by decide +kernel
theorem dX10_tick_126 : decode cX10_tick 126 = .ok (.bipush 16, 2) := by decide +kernel
theorem dX10_tick_128 : decode cX10_tick 128 = .ok (.dup2, 1) := by decide +kernel
theorem dX10_tick_129 : decode cX10_tick 129 = .ok (.iaload, 1) := by decide +kernel
theorem dX10_tick_130 : decode cX10_tick 130 = .ok (.aload_n 0, 1) := by decide +kernel
theorem dX10_tick_131 : decode cX10_tick 131 = .ok (.getfield 7, 3) := by decide +kernel
theorem dX10_tick_134 : decode cX10_tick 134 = .ok (.iconst 2, 1) := by decide +kernel
theorem dX10_tick_135 : decode cX10_tick 135 = .ok (.iaload, 1) := by decide +kernel
theorem dX10_tick_136 : decode cX10_tick 136 = .ok (.aload_n 0, 1) := by decide +kernel
theorem dX10_tick_137 : decode cX10_tick 137 = .ok (.getfield 7, 3) := by decide +kernel
theorem dX10_tick_140 : decode cX10_tick 140 = .ok (.bipush 16, 2) := by decide +kernel
theorem dX10_tick_142 : decode cX10_tick 142 = .ok (.iaload, 1) := by decide +kernel
theorem dX10_tick_143 : decode cX10_tick 143 = .ok (.isub, 1) := by decide +kernel
theorem dX10_tick_144 : decode cX10_tick 144 = .ok (.bipush 20, 2) := by decide +kernel
theorem dX10_tick_146 : decode cX10_tick 146 = .ok (.invokestatic 103, 3) := by decide +kernel
theorem dX10_tick_149 : decode cX10_tick 149 = .ok (.iadd, 1) := by decide +kernel
theorem dX10_tick_150 : decode cX10_tick 150 = .ok (.iastore, 1) := by decide +kernel
theorem dX10_tick_151 : decode cX10_tick 151 = .ok (.aload_n 0, 1) := by decide +kernel
theorem dX10_tick_152 : decode cX10_tick 152 = .ok (.getfield 7, 3) := by decide +kernel
theorem dX10_tick_155 : decode cX10_tick 155 = .ok (.bipush 25, 2) := by decide +kernel
theorem dX10_tick_157 : decode cX10_tick 157 = .ok (.aload_n 0, 1) := by decide +kernel
theorem dX10_tick_158 : decode cX10_tick 158 = .ok (.getfield 7, 3) := by decide +kernel
theorem dX10_tick_161 : decode cX10_tick 161 = .ok (.bipush 16, 2) := by decide +kernel
theorem dX10_tick_163 : decode cX10_tick 163 = .ok (.iaload, 1) := by decide +kernel
theorem dX10_tick_164 : decode cX10_tick 164 = .ok (.aload_n 0, 1) := by decide +kernel
theorem dX10_tick_165 : decode cX10_tick 165 = .ok (.getfield 7, 3) := by decide +kernel
theorem dX10_tick_168 : decode cX10_tick 168 = .ok (.bipush 25, 2) := by decide +kernel
theorem dX10_tick_170 : decode cX10_tick 170 = .ok (.iaload, 1) := by decide +kernel
theorem dX10_tick_171 : decode cX10_tick 171 = .ok (.if_icmp .le 13, 3) := by decide +kernel
theorem dX10_tick_174 : decode cX10_tick 174 = .ok (.aload_n 0, 1) := by decide +kernel
theorem dX10_tick_175 : decode cX10_tick 175 = .ok (.getfield 7, 3) := by decide +kernel
theorem dX10_tick_178 : decode cX10_tick 178 = .ok (.bipush 16, 2) := by decide +kernel
theorem dX10_tick_180 : decode cX10_tick 180 = .ok (.iaload, 1) := by decide +kernel
theorem dX10_tick_181 : decode cX10_tick 181 = .ok (.goto 10, 3) := by decide +kernel
theorem dX10_tick_184 : decode cX10_tick 184 = .ok (.aload_n 0, 1) := by decide +kernel
theorem dX10_tick_185 : decode cX10_tick 185 = .ok (.getfield 7, 3) := by decide +kernel
theorem dX10_tick_188 : decode cX10_tick 188 = .ok (.bipush 25, 2) := by decide +kernel
theorem dX10_tick_190 : decode cX10_tick 190 = .ok (.iaload, 1) := by decide +kernel
theorem dX10_tick_191 : decode cX10_tick 191 = .ok (.iastore, 1) := by decide +kernel
theorem dX10_tick_192 : decode cX10_tick 192 = .ok (.aload_n 0, 1) := by decide +kernel
theorem dX10_tick_193 : decode cX10_tick 193 = .ok (.invokevirtual 113, 3) := by decide +kernel
theorem dX10_tick_196 : decode cX10_tick 196 = .ok (.aload_n 0, 1) := by decide +kernel
theorem dX10_tick_197 : decode cX10_tick 197 = .ok (.getfield 7, 3) := by decide +kernel
theorem dX10_tick_200 : decode cX10_tick 200 = .ok (.bipush 19, 2) := by decide +kernel
theorem dX10_tick_202 : decode cX10_tick 202 = .ok (.dup2, 1) := by decide +kernel
theorem dX10_tick_203 : decode cX10_tick 203 = .ok (.iaload, 1) := by decide +kernel
theorem dX10_tick_204 : decode cX10_tick 204 = .ok (.aload_n 0, 1) := by decide +kernel
theorem dX10_tick_205 : decode cX10_tick 205 = .ok (.aload_n 0, 1) := by decide +kernel
theorem dX10_tick_206 : decode cX10_tick 206 = .ok (.getfield 7, 3) := by decide +kernel
theorem dX10_tick_209 : decode cX10_tick 209 = .ok (.bipush 16, 2) := by decide +kernel
theorem dX10_tick_211 : decode cX10_tick 211 = .ok (.iaload, 1) := by decide +kernel
theorem dX10_tick_212 : decode cX10_tick 212 = .ok (.invokevirtual 116, 3) := by decide +kernel
theorem dX10_tick_215 : decode cX10_tick 215 = .ok (.iadd, 1) := by decide +kernel
theorem dX10_tick_216 : decode cX10_tick 216 = .ok (.iastore, 1) := by decide +kernel
theorem dX10_tick_217 : decode cX10_tick 217 = .ok (.goto 50, 3) := by decide +kernel
theorem dX10_tick_220 : decode cX10_tick 220 = .ok (.aload_n 0, 1) := by decide +kernel
theorem dX10_tick_221 : decode cX10_tick 221 = .ok (.getfield 7, 3) := by decide +kernel
theorem dX10_tick_224 : decode cX10_tick 224 = .ok (.iconst 1, 1) := by decide +kernel
theorem dX10_tick_225 : decode cX10_tick 225 = .ok (.iaload, 1) := by decide +kernel
theorem dX10_tick_226 : decode cX10_tick 226 = .ok (.iconst 2, 1) := by decide +kernel
theorem dX10_tick_227 : decode cX10_tick 227 = .ok (.if_icmp .ne 40, 3) := by decide +kernel
theorem dX10_tick_230 : decode cX10_tick 230 = .ok (.aload_n 0, 1) := by decide +kernel
theorem dX10_tick_231 : decode cX10_tick 231 = .ok (.getfield 7, 3) := by decide +kernel
theorem dX10_tick_234 : decode cX10_tick 234 = .ok (.bipush 16, 2) := by decide +kernel
theorem dX10_tick_236 : decode cX10_tick 236 = .ok (.dup2, 1) := by decide +kernel
theorem dX10_tick_237 : decode cX10_tick 237 = .ok (.iaload, 1) := by decide +kernel
theorem dX10_tick_238 : decode cX10_tick 238 = .ok (.aload_n 0, 1) := by decide +kernel
theorem dX10_tick_239 : decode cX10_tick 239 = .ok (.getfield 7, 3) := by decide +kernel
theorem dX10_tick_242 : decode cX10_tick 242 = .ok (.bipush 16, 2) := by decide +kernel
theorem dX10_tick_244 : decode cX10_tick 244 = .ok (.iaload, 1) := by decide +kernel
theorem dX10_tick_245 : decode cX10_tick 245 = .ok (.aload_n 0, 1) := by decide +kernel
theorem dX10_tick_246 : decode cX10_tick 246 = .ok (.getfield 7, 3) := by decide +kernel
theorem dX10_tick_249 : decode cX10_tick 249 = .ok (.iconst 3, 1) := by decide +kernel
theorem dX10_tick_250 : decode cX10_tick 250 = .ok (.iaload, 1) := by decide +kernel
theorem dX10_tick_251 : decode cX10_tick 251 = .ok (.isub, 1) := by decide +kernel
theorem dX10_tick_252 : decode cX10_tick 252 = .ok (.aload_n 0, 1) := by decide +kernel
theorem dX10_tick_253 : decode cX10_tick 253 = .ok (.getfield 7, 3) := by decide +kernel
theorem dX10_tick_256 : decode cX10_tick 256 = .ok (.bipush 8, 2) := by decide +kernel
theorem dX10_tick_258 : decode cX10_tick 258 = .ok (.iaload, 1) := by decide +kernel
theorem dX10_tick_259 : decode cX10_tick 259 = .ok (.imul, 1) := by decide +kernel
theorem dX10_tick_260 : decode cX10_tick 260 = .ok (.bipush 100, 2) := by decide +kernel
theorem dX10_tick_262 : decode cX10_tick 262 = .ok (.invokestatic 103, 3) := by decide +kernel
theorem dX10_tick_265 : decode cX10_tick 265 = .ok (.isub, 1) := by decide +kernel
theorem dX10_tick_266 : decode cX10_tick 266 = .ok (.iastore, 1) := by decide +kernel
theorem dX10_tick_267 : decode cX10_tick 267 = .ok (.aload_n 0, 1) := by decide +kernel
theorem dX10_tick_268 : decode cX10_tick 268 = .ok (.getfield 7, 3) := by decide +kernel
theorem dX10_tick_271 : decode cX10_tick 271 = .ok (.iconst 4, 1) := by decide +kernel
theorem dX10_tick_272 : decode cX10_tick 272 = .ok (.dup2, 1) := by decide +kernel
theorem dX10_tick_273 : decode cX10_tick 273 = .ok (.iaload, 1) := by decide +kernel
theorem dX10_tick_274 : decode cX10_tick 274 = .ok (.iload_n 1, 1) := by decide +kernel
theorem dX10_tick_275 : decode cX10_tick 275 = .ok (.ifCond .eq 13, 3) := by decide +kernel
theorem dX10_tick_278 : decode cX10_tick 278 = .ok (.aload_n 0, 1) := by decide +kernel
theorem dX10_tick_279 : decode cX10_tick 279 = .ok (.getfield 7, 3) := by decide +kernel
theorem dX10_tick_282 : decode cX10_tick 282 = .ok (.bipush 16, 2) := by decide +kernel
theorem dX10_tick_284 : decode cX10_tick 284 = .ok (.iaload, 1) := by decide +kernel
theorem dX10_tick_285 : decode cX10_tick 285 = .ok (.goto 9, 3) := by decide +kernel
theorem dX10_tick_288 : decode cX10_tick 288 = .ok (.aload_n 0, 1) := by decide +kernel
theorem dX10_tick_289 : decode cX10_tick 289 = .ok (.getfield 7, 3) := by decide +kernel
theorem dX10_tick_292 : decode cX10_tick 292 = .ok (.iconst 2, 1) := by decide +kernel
theorem dX10_tick_293 : decode cX10_tick 293 = .ok (.iaload, 1) := by decide +kernel
theorem dX10_tick_294 : decode cX10_tick 294 = .ok (.aload_n 0, 1) := by decide +kernel
theorem dX10_tick_295 : decode cX10_tick 295 = .ok (.getfield 7, 3) := by decide +kernel
theorem dX10_tick_298 : decode cX10_tick 298 = .ok (.iconst 4, 1) := by decide +kernel
theorem dX10_tick_299 : decode cX10_tick 299 = .ok (.iaload, 1) := by decide +kernel
theorem dX10_tick_300 : decode cX10_tick 300 = .ok (.isub, 1) := by decide +kernel
theorem dX10_tick_301 : decode cX10_tick 301 = .ok (.aload_n 0, 1) := by decide +kernel
theorem dX10_tick_302 : decode cX10_tick 302 = .ok (.getfield 7, 3) := by decide +kernel
theorem dX10_tick_305 : decode cX10_tick 305 = .ok (.iconst 5, 1) := by decide +kernel
theorem dX10_tick_306 : decode cX10_tick 306 = .ok (.iaload, 1) := by decide +kernel
theorem dX10_tick_307 : decode cX10_tick 307 = .ok (.invokestatic 103, 3) := by decide +kernel
theorem dX10_tick_310 : decode cX10_tick 310 = .ok (.iadd, 1) := by decide +kernel
theorem dX10_tick_311 : decode cX10_tick 311 = .ok (.iastore, 1) := by decide +kernel
theorem dX10_tick_312 : decode cX10_tick 312 = .ok (.iload_n 1, 1) := by decide +kernel
theorem dX10_tick_313 : decode cX10_tick 313 = .ok (.ifCond .eq 7, 3) := by decide +kernel
theorem dX10_tick_316 : decode cX10_tick 316 = .ok (.aload_n 0, 1) := by decide +kernel
theorem dX10_tick_317 : decode cX10_tick 317 = .ok (.invokevirtual 119, 3) := by decide +kernel
theorem dX10_tick_320 : decode cX10_tick 320 = .ok (.return_, 1) := by decide +kernel
theorem dX10_run_0 : decode cX10_run 0 = .ok (.aload_n 0, 1) := by decide +kernel
theorem dX10_run_1 : decode cX10_run 1 = .ok (.iconst 0, 1) := by decide +kernel
theorem dX10_run_2 : decode cX10_run 2 = .ok (.putfield 25, 3) := by decide +kernel
theorem dX10_run_5 : decode cX10_run 5 = .ok (.iload_n 1, 1) := by decide +kernel
theorem dX10_run_6 : decode cX10_run 6 = .ok (.iconst 1, 1) := by decide +kernel
theorem dX10_run_7 : decode cX10_run 7 = .ok (.sipush 200, 3) := by decide +kernel
theorem dX10_run_10 : decode cX10_run 10 = .ok (.invokestatic 39, 3) := by decide +kernel
theorem dX10_run_13 : decode cX10_run 13 = .ok (.ifCond .ne 6, 3) := by decide +kernel
theorem dX10_run_16 : decode cX10_run 16 = .ok (.ldc 47, 2) := by decide +kernel
theorem dX10_run_18 : decode cX10_run 18 = .ok (.ireturn, 1) := by decide +kernel
theorem dX10_run_19 : decode cX10_run 19 = .ok (.aload_n 0, 1) := by decide +kernel
theorem dX10_run_20 : decode cX10_run 20 = .ok (.getfield 7, 3) := by decide +kernel
theorem dX10_run_23 : decode cX10_run 23 = .ok (.iconst 0, 1) := by decide +kernel
theorem dX10_run_24 : decode cX10_run 24 = .ok (.iaload, 1) := by decide +kernel
theorem dX10_run_25 : decode cX10_run 25 = .ok (.iload_n 1, 1) := by decide +kernel
theorem dX10_run_26 : decode cX10_run 26 = .ok (.iadd, 1) := by decide +kernel
theorem dX10_run_27 : decode cX10_run 27 = .ok (.sipush 10000, 3) := by decide +kernel
theorem dX10_run_30 : decode cX10_run 30 = .ok (.if_icmp .le 6, 3) := by decide +kernel
theorem dX10_run_33 : decode cX10_run 33 = .ok (.ldc 56, 2) := by decide +kernel
theorem dX10_run_35 : decode cX10_run 35 = .ok (.ireturn, 1) := by decide +kernel
theorem dX10_run_36 : decode cX10_run 36 = .ok (.aload_n 0, 1) := by decide +kernel
theorem dX10_run_37 : decode cX10_run 37 = .ok (.invokevirtual 36, 3) := by decide +kernel
theorem dX10_run_40 : decode cX10_run 40 = .ok (.iconst 0, 1) := by decide +kernel
theorem dX10_run_41 : decode cX10_run 41 = .ok (.istore_n 2, 1) := by decide +kernel
theorem dX10_run_42 : decode cX10_run 42 = .ok (.iload_n 2, 1) := by decide +kernel
theorem dX10_run_43 : decode cX10_run 43 = .ok (.iload_n 1, 1) := by decide +kernel
theorem dX10_run_44 : decode cX10_run 44 = .ok (.if_icmp .ge 13, 3) := by decide +kernel
theorem dX10_run_47 : decode cX10_run 47 = .ok (.aload_n 0, 1) := by decide +kernel
theorem dX10_run_48 : decode cX10_run 48 = .ok (.invokevirtual 122, 3) := by decide +kernel
theorem dX10_run_51 : decode cX10_run 51 = .ok (.iinc 2 1, 3) := by decide +kernel
theorem dX10_run_54 : decode cX10_run 54 = .ok (.goto (-12), 3) := by decide +kernel
theorem dX10_run_57 : decode cX10_run 57 = .ok (.aload_n 0, 1) := by decide +kernel
theorem dX10_run_58 : decode cX10_run 58 = .ok (.getfield 7, 3) := by decide +kernel
theorem dX10_run_61 : decode cX10_run 61 = .ok (.iconst 4, 1) := by decide +kernel
theorem dX10_run_62 : decode cX10_run 62 = .ok (.iaload, 1) := by decide +kernel
theorem dX10_run_63 : decode cX10_run 63 = .ok (.ireturn, 1) := by decide +kernel
theorem dX10_undo_0 : decode cX10_undo 0 = .ok (.aload_n 0, 1) := by decide +kernel
theorem dX10_undo_1 : decode cX10_undo 1 = .ok (.iconst 0, 1) := by decide +kernel
theorem dX10_undo_2 : decode cX10_undo 2 = .ok (.putfield 25, 3) := by decide +kernel
theorem dX10_undo_5 : decode cX10_undo 5 = .ok (.aload_n 0, 1) := by decide +kernel
theorem dX10_undo_6 : decode cX10_undo 6 = .ok (.getfield 33, 3) := by decide +kernel
theorem dX10_undo_9 : decode cX10_undo 9 = .ok (.ifCond .ne 6, 3) := by decide +kernel
theorem dX10_undo_12 : decode cX10_undo 12 = .ok (.ldc 61, 2) := by decide +kernel
theorem dX10_undo_14 : decode cX10_undo 14 = .ok (.ireturn, 1) := by decide +kernel
theorem dX10_undo_15 : decode cX10_undo 15 = .ok (.aload_n 0, 1) := by decide +kernel
theorem dX10_undo_16 : decode cX10_undo 16 = .ok (.dup, 1) := by decide +kernel
theorem dX10_undo_17 : decode cX10_undo 17 = .ok (.getfield 33, 3) := by decide +kernel
theorem dX10_undo_20 : decode cX10_undo 20 = .ok (.iconst 1, 1) := by decide +kernel
theorem dX10_undo_21 : decode cX10_undo 21 = .ok (.isub, 1) := by decide +kernel
theorem dX10_undo_22 : decode cX10_undo 22 = .ok (.putfield 33, 3) := by decide +kernel
theorem dX10_undo_25 : decode cX10_undo 25 = .ok (.iconst 0, 1) := by decide +kernel
theorem dX10_undo_26 : decode cX10_undo 26 = .ok (.istore_n 1, 1) := by decide +kernel
theorem dX10_undo_27 : decode cX10_undo 27 = .ok (.iload_n 1, 1) := by decide +kernel
theorem dX10_undo_28 : decode cX10_undo 28 = .ok (.bipush 112, 2) := by decide +kernel
theorem dX10_undo_30 : decode cX10_undo 30 = .ok (.if_icmp .ge 29, 3) := by decide +kernel
theorem dX10_undo_33 : decode cX10_undo 33 = .ok (.aload_n 0, 1) := by decide +kernel
theorem dX10_undo_34 : decode cX10_undo 34 = .ok (.getfield 7, 3) := by decide +kernel
theorem dX10_undo_37 : decode cX10_undo 37 = .ok (.iload_n 1, 1) := by decide +kernel
theorem dX10_undo_38 : decode cX10_undo 38 = .ok (.aload_n 0, 1) := by decide +kernel
theorem dX10_undo_39 : decode cX10_undo 39 = .ok (.getfield 16, 3) := by decide +kernel
theorem dX10_undo_42 : decode cX10_undo 42 = .ok (.bipush 112, 2) := by decide +kernel
theorem dX10_undo_44 : decode cX10_undo 44 = .ok (.aload_n 0, 1) := by decide +kernel
theorem dX10_undo_45 : decode cX10_undo 45 = .ok (.getfield 33, 3) := by decide +kernel
theorem dX10_undo_48 : decode cX10_undo 48 = .ok (.imul, 1) := by decide +kernel
theorem dX10_undo_49 : decode cX10_undo 49 = .ok (.iload_n 1, 1) := by decide +kernel
theorem dX10_undo_50 : decode cX10_undo 50 = .ok (.iadd, 1) := by decide +kernel
theorem dX10_undo_51 : decode cX10_undo 51 = .ok (.iaload, 1) := by decide +kernel
theorem dX10_undo_52 : decode cX10_undo 52 = .ok (.iastore, 1) := by decide +kernel
theorem dX10_undo_53 : decode cX10_undo 53 = .ok (.iinc 1 1, 3) := by decide +kernel
theorem dX10_undo_56 : decode cX10_undo 56 = .ok (.goto (-29), 3) := by decide +kernel
theorem dX10_undo_59 : decode cX10_undo 59 = .ok (.aload_n 0, 1) := by decide +kernel
theorem dX10_undo_60 : decode cX10_undo 60 = .ok (.getfield 33, 3) := by decide +kernel
theorem dX10_undo_63 : decode cX10_undo 63 = .ok (.ireturn, 1) := by decide +kernel
theorem dX10_count_0 : decode cX10_count 0 = .ok (.aload_n 0, 1) := by decide +kernel
theorem dX10_count_1 : decode cX10_count 1 = .ok (.iconst 0, 1) := by decide +kernel
theorem dX10_count_2 : decode cX10_count 2 = .ok (.putfield 25, 3) := by decide +kernel
theorem dX10_count_5 : decode cX10_count 5 = .ok (.iload_n 1, 1) := by decide +kernel
theorem dX10_count_6 : decode cX10_count 6 = .ok (.tableswitch 144 0 12 #[66, 66, 66, 73, 80, 87, 95, 102, 110, 118, 126, 134, 139], 66) := by decide +kernel
theorem dX10_count_72 : decode cX10_count 72 = .ok (.aload_n 0, 1) := by decide +kernel
theorem dX10_count_73 : decode cX10_count 73 = .ok (.getfield 7, 3) := by decide +kernel
theorem dX10_count_76 : decode cX10_count 76 = .ok (.iload_n 1, 1) := by decide +kernel
theorem dX10_count_77 : decode cX10_count 77 = .ok (.iaload, 1) := by decide +kernel
theorem dX10_count_78 : decode cX10_count 78 = .ok (.ireturn, 1) := by decide +kernel
theorem dX10_count_79 : decode cX10_count 79 = .ok (.aload_n 0, 1) := by decide +kernel
theorem dX10_count_80 : decode cX10_count 80 = .ok (.getfield 7, 3) := by decide +kernel
theorem dX10_count_83 : decode cX10_count 83 = .ok (.iconst 4, 1) := by decide +kernel
theorem dX10_count_84 : decode cX10_count 84 = .ok (.iaload, 1) := by decide +kernel
theorem dX10_count_85 : decode cX10_count 85 = .ok (.ireturn, 1) := by decide +kernel
theorem dX10_count_86 : decode cX10_count 86 = .ok (.aload_n 0, 1) := by decide +kernel
theorem dX10_count_87 : decode cX10_count 87 = .ok (.getfield 7, 3) := by decide +kernel
theorem dX10_count_90 : decode cX10_count 90 = .ok (.iconst 3, 1) := by decide +kernel
theorem dX10_count_91 : decode cX10_count 91 = .ok (.iaload, 1) := by decide +kernel
theorem dX10_count_92 : decode cX10_count 92 = .ok (.ireturn, 1) := by decide +kernel
theorem dX10_count_93 : decode cX10_count 93 = .ok (.aload_n 0, 1) := by decide +kernel
theorem dX10_count_94 : decode cX10_count 94 = .ok (.getfield 7, 3) := by decide +kernel
theorem dX10_count_97 : decode cX10_count 97 = .ok (.bipush 7, 2) := by decide +kernel
theorem dX10_count_99 : decode cX10_count 99 = .ok (.iaload, 1) := by decide +kernel
theorem dX10_count_100 : decode cX10_count 100 = .ok (.ireturn, 1) := by decide +kernel
theorem dX10_count_101 : decode cX10_count 101 = .ok (.aload_n 0, 1) := by decide +kernel
theorem dX10_count_102 : decode cX10_count 102 = .ok (.getfield 7, 3) := by decide +kernel
theorem dX10_count_105 : decode cX10_count 105 = .ok (.iconst 5, 1) := by decide +kernel
theorem dX10_count_106 : decode cX10_count 106 = .ok (.iaload, 1) := by decide +kernel
theorem dX10_count_107 : decode cX10_count 107 = .ok (.ireturn, 1) := by decide +kernel
theorem dX10_count_108 : decode cX10_count 108 = .ok (.aload_n 0, 1) := by decide +kernel
theorem dX10_count_109 : decode cX10_count 109 = .ok (.getfield 7, 3) := by decide +kernel
theorem dX10_count_112 : decode cX10_count 112 = .ok (.bipush 13, 2) := by decide +kernel
theorem dX10_count_114 : decode cX10_count 114 = .ok (.iaload, 1) := by decide +kernel
theorem dX10_count_115 : decode cX10_count 115 = .ok (.ireturn, 1) := by decide +kernel
theorem dX10_count_116 : decode cX10_count 116 = .ok (.aload_n 0, 1) := by decide +kernel
theorem dX10_count_117 : decode cX10_count 117 = .ok (.getfield 7, 3) := by decide +kernel
theorem dX10_count_120 : decode cX10_count 120 = .ok (.bipush 32, 2) := by decide +kernel
theorem dX10_count_122 : decode cX10_count 122 = .ok (.iaload, 1) := by decide +kernel
theorem dX10_count_123 : decode cX10_count 123 = .ok (.ireturn, 1) := by decide +kernel
theorem dX10_count_124 : decode cX10_count 124 = .ok (.aload_n 0, 1) := by decide +kernel
theorem dX10_count_125 : decode cX10_count 125 = .ok (.getfield 7, 3) := by decide +kernel
theorem dX10_count_128 : decode cX10_count 128 = .ok (.bipush 49, 2) := by decide +kernel
theorem dX10_count_130 : decode cX10_count 130 = .ok (.iaload, 1) := by decide +kernel
theorem dX10_count_131 : decode cX10_count 131 = .ok (.ireturn, 1) := by decide +kernel
theorem dX10_count_132 : decode cX10_count 132 = .ok (.aload_n 0, 1) := by decide +kernel
theorem dX10_count_133 : decode cX10_count 133 = .ok (.getfield 7, 3) := by decide +kernel
theorem dX10_count_136 : decode cX10_count 136 = .ok (.bipush 63, 2) := by decide +kernel
theorem dX10_count_138 : decode cX10_count 138 = .ok (.iaload, 1) := by decide +kernel
theorem dX10_count_139 : decode cX10_count 139 = .ok (.ireturn, 1) := by decide +kernel
theorem dX10_count_140 : decode cX10_count 140 = .ok (.aload_n 0, 1) := by decide +kernel
theorem dX10_count_141 : decode cX10_count 141 = .ok (.getfield 33, 3) := by decide +kernel
theorem dX10_count_144 : decode cX10_count 144 = .ok (.ireturn, 1) := by decide +kernel
theorem dX10_count_145 : decode cX10_count 145 = .ok (.aload_n 0, 1) := by decide +kernel
theorem dX10_count_146 : decode cX10_count 146 = .ok (.getfield 65, 3) := by decide +kernel
theorem dX10_count_149 : decode cX10_count 149 = .ok (.ireturn, 1) := by decide +kernel
theorem dX10_count_150 : decode cX10_count 150 = .ok (.ldc 47, 2) := by decide +kernel
theorem dX10_count_152 : decode cX10_count 152 = .ok (.ireturn, 1) := by decide +kernel
theorem dX10_batch_0 : decode cX10_batch 0 = .ok (.aload_n 0, 1) := by decide +kernel
theorem dX10_batch_1 : decode cX10_batch 1 = .ok (.iconst 0, 1) := by decide +kernel
theorem dX10_batch_2 : decode cX10_batch 2 = .ok (.putfield 25, 3) := by decide +kernel
theorem dX10_batch_5 : decode cX10_batch 5 = .ok (.iload_n 1, 1) := by decide +kernel
theorem dX10_batch_6 : decode cX10_batch 6 = .ok (.iconst 0, 1) := by decide +kernel
theorem dX10_batch_7 : decode cX10_batch 7 = .ok (.bipush 9, 2) := by decide +kernel
theorem dX10_batch_9 : decode cX10_batch 9 = .ok (.invokestatic 39, 3) := by decide +kernel
theorem dX10_batch_12 : decode cX10_batch 12 = .ok (.ifCond .ne 6, 3) := by decide +kernel
theorem dX10_batch_15 : decode cX10_batch 15 = .ok (.ldc 47, 2) := by decide +kernel
theorem dX10_batch_17 : decode cX10_batch 17 = .ok (.ireturn, 1) := by decide +kernel
theorem dX10_batch_18 : decode cX10_batch 18 = .ok (.aload_n 0, 1) := by decide +kernel
theorem dX10_batch_19 : decode cX10_batch 19 = .ok (.getfield 7, 3) := by decide +kernel
theorem dX10_batch_22 : decode cX10_batch 22 = .ok (.iconst 1, 1) := by decide +kernel
theorem dX10_batch_23 : decode cX10_batch 23 = .ok (.iaload, 1) := by decide +kernel
theorem dX10_batch_24 : decode cX10_batch 24 = .ok (.ifCond .ne 8, 3) := by decide +kernel
theorem dX10_batch_27 : decode cX10_batch 27 = .ok (.ldc 61, 2) := by decide +kernel
theorem dX10_batch_29 : decode cX10_batch 29 = .ok (.goto 12, 3) := by decide +kernel
theorem dX10_batch_32 : decode cX10_batch 32 = .ok (.aload_n 0, 1) := by decide +kernel
theorem dX10_batch_33 : decode cX10_batch 33 = .ok (.getfield 7, 3) := by decide +kernel
theorem dX10_batch_36 : decode cX10_batch 36 = .ok (.bipush 16, 2) := by decide +kernel
theorem dX10_batch_38 : decode cX10_batch 38 = .ok (.iload_n 1, 1) := by decide +kernel
theorem dX10_batch_39 : decode cX10_batch 39 = .ok (.iadd, 1) := by decide +kernel
theorem dX10_batch_40 : decode cX10_batch 40 = .ok (.iaload, 1) := by decide +kernel
theorem dX10_batch_41 : decode cX10_batch 41 = .ok (.ireturn, 1) := by decide +kernel
theorem dX10_target_0 : decode cX10_target 0 = .ok (.aload_n 0, 1) := by decide +kernel
theorem dX10_target_1 : decode cX10_target 1 = .ok (.iconst 0, 1) := by decide +kernel
theorem dX10_target_2 : decode cX10_target 2 = .ok (.putfield 25, 3) := by decide +kernel
theorem dX10_target_5 : decode cX10_target 5 = .ok (.iload_n 1, 1) := by decide +kernel
theorem dX10_target_6 : decode cX10_target 6 = .ok (.iconst 0, 1) := by decide +kernel
theorem dX10_target_7 : decode cX10_target 7 = .ok (.sipush 1000, 3) := by decide +kernel
theorem dX10_target_10 : decode cX10_target 10 = .ok (.invokestatic 39, 3) := by decide +kernel
theorem dX10_target_13 : decode cX10_target 13 = .ok (.ifCond .eq 11, 3) := by decide +kernel
theorem dX10_target_16 : decode cX10_target 16 = .ok (.aload_n 0, 1) := by decide +kernel
theorem dX10_target_17 : decode cX10_target 17 = .ok (.iload_n 1, 1) := by decide +kernel
theorem dX10_target_18 : decode cX10_target 18 = .ok (.invokevirtual 106, 3) := by decide +kernel
theorem dX10_target_21 : decode cX10_target 21 = .ok (.goto 5, 3) := by decide +kernel
theorem dX10_target_24 : decode cX10_target 24 = .ok (.ldc 47, 2) := by decide +kernel
theorem dX10_target_26 : decode cX10_target 26 = .ok (.ireturn, 1) := by decide +kernel
theorem dX10_rate_0 : decode cX10_rate 0 = .ok (.aload_n 0, 1) := by decide +kernel
theorem dX10_rate_1 : decode cX10_rate 1 = .ok (.iconst 0, 1) := by decide +kernel
theorem dX10_rate_2 : decode cX10_rate 2 = .ok (.putfield 25, 3) := by decide +kernel
theorem dX10_rate_5 : decode cX10_rate 5 = .ok (.iload_n 1, 1) := by decide +kernel
theorem dX10_rate_6 : decode cX10_rate 6 = .ok (.iconst 0, 1) := by decide +kernel
theorem dX10_rate_7 : decode cX10_rate 7 = .ok (.sipush 3000, 3) := by decide +kernel
theorem dX10_rate_10 : decode cX10_rate 10 = .ok (.invokestatic 39, 3) := by decide +kernel
theorem dX10_rate_13 : decode cX10_rate 13 = .ok (.ifCond .eq 11, 3) := by decide +kernel
theorem dX10_rate_16 : decode cX10_rate 16 = .ok (.aload_n 0, 1) := by decide +kernel
theorem dX10_rate_17 : decode cX10_rate 17 = .ok (.iload_n 1, 1) := by decide +kernel
theorem dX10_rate_18 : decode cX10_rate 18 = .ok (.invokevirtual 116, 3) := by decide +kernel
theorem dX10_rate_21 : decode cX10_rate 21 = .ok (.goto 5, 3) := by decide +kernel
theorem dX10_rate_24 : decode cX10_rate 24 = .ok (.ldc 47, 2) := by decide +kernel
theorem dX10_rate_26 : decode cX10_rate 26 = .ok (.ireturn, 1) := by decide +kernel
theorem dX10_logged_0 : decode cX10_logged 0 = .ok (.aload_n 0, 1) := by decide +kernel
theorem dX10_logged_1 : decode cX10_logged 1 = .ok (.iconst 0, 1) := by decide +kernel
theorem dX10_logged_2 : decode cX10_logged 2 = .ok (.putfield 25, 3) := by decide +kernel
theorem dX10_logged_5 : decode cX10_logged 5 = .ok (.iload_n 1, 1) := by decide +kernel
theorem dX10_logged_6 : decode cX10_logged 6 = .ok (.ifCond .lt 12, 3) := by decide +kernel
theorem dX10_logged_9 : decode cX10_logged 9 = .ok (.iload_n 2, 1) := by decide +kernel
theorem dX10_logged_10 : decode cX10_logged 10 = .ok (.iconst 0, 1) := by decide +kernel
theorem dX10_logged_11 : decode cX10_logged 11 = .ok (.iconst 5, 1) := by decide +kernel
theorem dX10_logged_12 : decode cX10_logged 12 = .ok (.invokestatic 39, 3) := by decide +kernel
theorem dX10_logged_15 : decode cX10_logged 15 = .ok (.ifCond .ne 6, 3) := by decide +kernel
theorem dX10_logged_18 : decode cX10_logged 18 = .ok (.ldc 47, 2) := by decide +kernel
theorem dX10_logged_20 : decode cX10_logged 20 = .ok (.ireturn, 1) := by decide +kernel
theorem dX10_logged_21 : decode cX10_logged 21 = .ok (.iload_n 1, 1) := by decide +kernel
theorem dX10_logged_22 : decode cX10_logged 22 = .ok (.aload_n 0, 1) := by decide +kernel
theorem dX10_logged_23 : decode cX10_logged 23 = .ok (.getfield 7, 3) := by decide +kernel
theorem dX10_logged_26 : decode cX10_logged 26 = .ok (.bipush 63, 2) := by decide +kernel
theorem dX10_logged_28 : decode cX10_logged 28 = .ok (.iaload, 1) := by decide +kernel
theorem dX10_logged_29 : decode cX10_logged 29 = .ok (.if_icmp .ge 20, 3) := by decide +kernel
theorem dX10_logged_32 : decode cX10_logged 32 = .ok (.aload_n 0, 1) := by decide +kernel
theorem dX10_logged_33 : decode cX10_logged 33 = .ok (.getfield 7, 3) := by decide +kernel
theorem dX10_logged_36 : decode cX10_logged 36 = .ok (.bipush 64, 2) := by decide +kernel
theorem dX10_logged_38 : decode cX10_logged 38 = .ok (.bipush 6, 2) := by decide +kernel
theorem dX10_logged_40 : decode cX10_logged 40 = .ok (.iload_n 1, 1) := by decide +kernel
theorem dX10_logged_41 : decode cX10_logged 41 = .ok (.imul, 1) := by decide +kernel
theorem dX10_logged_42 : decode cX10_logged 42 = .ok (.iadd, 1) := by decide +kernel
theorem dX10_logged_43 : decode cX10_logged 43 = .ok (.iload_n 2, 1) := by decide +kernel
theorem dX10_logged_44 : decode cX10_logged 44 = .ok (.iadd, 1) := by decide +kernel
theorem dX10_logged_45 : decode cX10_logged 45 = .ok (.iaload, 1) := by decide +kernel
theorem dX10_logged_46 : decode cX10_logged 46 = .ok (.goto 5, 3) := by decide +kernel
theorem dX10_logged_49 : decode cX10_logged 49 = .ok (.ldc 81, 2) := by decide +kernel
theorem dX10_logged_51 : decode cX10_logged 51 = .ok (.ireturn, 1) := by decide +kernel
theorem dX10_drift_0 : decode cX10_drift 0 = .ok (.aload_n 0, 1) := by decide +kernel
theorem dX10_drift_1 : decode cX10_drift 1 = .ok (.iconst 0, 1) := by decide +kernel
theorem dX10_drift_2 : decode cX10_drift 2 = .ok (.putfield 25, 3) := by decide +kernel
theorem dX10_drift_5 : decode cX10_drift 5 = .ok (.iload_n 1, 1) := by decide +kernel
theorem dX10_drift_6 : decode cX10_drift 6 = .ok (.iconst 1, 1) := by decide +kernel
theorem dX10_drift_7 : decode cX10_drift 7 = .ok (.iconst 5, 1) := by decide +kernel
theorem dX10_drift_8 : decode cX10_drift 8 = .ok (.invokestatic 39, 3) := by decide +kernel
theorem dX10_drift_11 : decode cX10_drift 11 = .ok (.ifCond .ne 6, 3) := by decide +kernel
theorem dX10_drift_14 : decode cX10_drift 14 = .ok (.ldc 47, 2) := by decide +kernel
theorem dX10_drift_16 : decode cX10_drift 16 = .ok (.ireturn, 1) := by decide +kernel
theorem dX10_drift_17 : decode cX10_drift 17 = .ok (.lconst 0, 1) := by decide +kernel
theorem dX10_drift_18 : decode cX10_drift 18 = .ok (.lstore_n 2, 1) := by decide +kernel
theorem dX10_drift_19 : decode cX10_drift 19 = .ok (.lconst 0, 1) := by decide +kernel
theorem dX10_drift_20 : decode cX10_drift 20 = .ok (.lstore 4, 2) := by decide +kernel
theorem dX10_drift_22 : decode cX10_drift 22 = .ok (.lconst 0, 1) := by decide +kernel
theorem dX10_drift_23 : decode cX10_drift 23 = .ok (.lstore 6, 2) := by decide +kernel
theorem dX10_drift_25 : decode cX10_drift 25 = .ok (.lconst 0, 1) := by decide +kernel
theorem dX10_drift_26 : decode cX10_drift 26 = .ok (.lstore 8, 2) := by decide +kernel
theorem dX10_drift_28 : decode cX10_drift 28 = .ok (.lconst 0, 1) := by decide +kernel
theorem dX10_drift_29 : decode cX10_drift 29 = .ok (.lstore 10, 2) := by decide +kernel
theorem dX10_drift_31 : decode cX10_drift 31 = .ok (.iconst 0, 1) := by decide +kernel
theorem dX10_drift_32 : decode cX10_drift 32 = .ok (.istore 12, 2) := by decide +kernel
theorem dX10_drift_34 : decode cX10_drift 34 = .ok (.iload 12, 2) := by decide +kernel
theorem dX10_drift_36 : decode cX10_drift 36 = .ok (.aload_n 0, 1) := by decide +kernel
theorem dX10_drift_37 : decode cX10_drift 37 = .ok (.getfield 7, 3) := by decide +kernel
theorem dX10_drift_40 : decode cX10_drift 40 = .ok (.bipush 63, 2) := by decide +kernel
theorem dX10_drift_42 : decode cX10_drift 42 = .ok (.iaload, 1) := by decide +kernel
theorem dX10_drift_43 : decode cX10_drift 43 = .ok (.if_icmp .ge 90, 3) := by decide +kernel
theorem dX10_drift_46 : decode cX10_drift 46 = .ok (.aload_n 0, 1) := by decide +kernel
theorem dX10_drift_47 : decode cX10_drift 47 = .ok (.getfield 7, 3) := by decide +kernel
theorem dX10_drift_50 : decode cX10_drift 50 = .ok (.bipush 64, 2) := by decide +kernel
theorem dX10_drift_52 : decode cX10_drift 52 = .ok (.bipush 6, 2) := by decide +kernel
theorem dX10_drift_54 : decode cX10_drift 54 = .ok (.iload 12, 2) := by decide +kernel
theorem dX10_drift_56 : decode cX10_drift 56 = .ok (.imul, 1) := by decide +kernel
theorem dX10_drift_57 : decode cX10_drift 57 = .ok (.iadd, 1) := by decide +kernel
theorem dX10_drift_58 : decode cX10_drift 58 = .ok (.iaload, 1) := by decide +kernel
theorem dX10_drift_59 : decode cX10_drift 59 = .ok (.i2l, 1) := by decide +kernel
theorem dX10_drift_60 : decode cX10_drift 60 = .ok (.lstore 13, 2) := by decide +kernel
theorem dX10_drift_62 : decode cX10_drift 62 = .ok (.aload_n 0, 1) := by decide +kernel
theorem dX10_drift_63 : decode cX10_drift 63 = .ok (.getfield 7, 3) := by decide +kernel
theorem dX10_drift_66 : decode cX10_drift 66 = .ok (.bipush 64, 2) := by decide +kernel
theorem dX10_drift_68 : decode cX10_drift 68 = .ok (.bipush 6, 2) := by decide +kernel
theorem dX10_drift_70 : decode cX10_drift 70 = .ok (.iload 12, 2) := by decide +kernel
theorem dX10_drift_72 : decode cX10_drift 72 = .ok (.imul, 1) := by decide +kernel
theorem dX10_drift_73 : decode cX10_drift 73 = .ok (.iadd, 1) := by decide +kernel
theorem dX10_drift_74 : decode cX10_drift 74 = .ok (.iload_n 1, 1) := by decide +kernel
theorem dX10_drift_75 : decode cX10_drift 75 = .ok (.iadd, 1) := by decide +kernel
theorem dX10_drift_76 : decode cX10_drift 76 = .ok (.iaload, 1) := by decide +kernel
theorem dX10_drift_77 : decode cX10_drift 77 = .ok (.i2l, 1) := by decide +kernel
theorem dX10_drift_78 : decode cX10_drift 78 = .ok (.lstore 15, 2) := by decide +kernel
theorem dX10_drift_80 : decode cX10_drift 80 = .ok (.lload 15, 2) := by decide +kernel
theorem dX10_drift_82 : decode cX10_drift 82 = .ok (.ldc2_w 125, 3) := by decide +kernel
theorem dX10_drift_85 : decode cX10_drift 85 = .ok (.lcmp, 1) := by decide +kernel
theorem dX10_drift_86 : decode cX10_drift 86 = .ok (.ifCond .eq 41, 3) := by decide +kernel
theorem dX10_drift_89 : decode cX10_drift 89 = .ok (.lload_n 2, 1) := by decide +kernel
theorem dX10_drift_90 : decode cX10_drift 90 = .ok (.lconst 1, 1) := by decide +kernel
theorem dX10_drift_91 : decode cX10_drift 91 = .ok (.ladd, 1) := by decide +kernel
theorem dX10_drift_92 : decode cX10_drift 92 = .ok (.lstore_n 2, 1) := by decide +kernel
theorem dX10_drift_93 : decode cX10_drift 93 = .ok (.lload 4, 2) := by decide +kernel
theorem dX10_drift_95 : decode cX10_drift 95 = .ok (.lload 13, 2) := by decide +kernel
theorem dX10_drift_97 : decode cX10_drift 97 = .ok (.ladd, 1) := by decide +kernel
theorem dX10_drift_98 : decode cX10_drift 98 = .ok (.lstore 4, 2) := by decide +kernel
theorem dX10_drift_100 : decode cX10_drift 100 = .ok (.lload 6, 2) := by decide +kernel
theorem dX10_drift_102 : decode cX10_drift 102 = .ok (.lload 15, 2) := by decide +kernel
theorem dX10_drift_104 : decode cX10_drift 104 = .ok (.ladd, 1) := by decide +kernel
theorem dX10_drift_105 : decode cX10_drift 105 = .ok (.lstore 6, 2) := by decide +kernel
theorem dX10_drift_107 : decode cX10_drift 107 = .ok (.lload 8, 2) := by decide +kernel
theorem dX10_drift_109 : decode cX10_drift 109 = .ok (.lload 13, 2) := by decide +kernel
theorem dX10_drift_111 : decode cX10_drift 111 = .ok (.lload 15, 2) := by decide +kernel
theorem dX10_drift_113 : decode cX10_drift 113 = .ok (.lmul, 1) := by decide +kernel
theorem dX10_drift_114 : decode cX10_drift 114 = .ok (.ladd, 1) := by decide +kernel
theorem dX10_drift_115 : decode cX10_drift 115 = .ok (.lstore 8, 2) := by decide +kernel
theorem dX10_drift_117 : decode cX10_drift 117 = .ok (.lload 10, 2) := by decide +kernel
theorem dX10_drift_119 : decode cX10_drift 119 = .ok (.lload 13, 2) := by decide +kernel
theorem dX10_drift_121 : decode cX10_drift 121 = .ok (.lload 13, 2) := by decide +kernel
theorem dX10_drift_123 : decode cX10_drift 123 = .ok (.lmul, 1) := by decide +kernel
theorem dX10_drift_124 : decode cX10_drift 124 = .ok (.ladd, 1) := by decide +kernel
theorem dX10_drift_125 : decode cX10_drift 125 = .ok (.lstore 10, 2) := by decide +kernel
theorem dX10_drift_127 : decode cX10_drift 127 = .ok (.iinc 12 1, 3) := by decide +kernel
theorem dX10_drift_130 : decode cX10_drift 130 = .ok (.goto (-96), 3) := by decide +kernel
theorem dX10_drift_133 : decode cX10_drift 133 = .ok (.lload_n 2, 1) := by decide +kernel
theorem dX10_drift_134 : decode cX10_drift 134 = .ok (.ldc2_w 127, 3) := by decide +kernel
theorem dX10_drift_137 : decode cX10_drift 137 = .ok (.lcmp, 1) := by decide +kernel
theorem dX10_drift_138 : decode cX10_drift 138 = .ok (.ifCond .ge 6, 3) := by decide +kernel
theorem dX10_drift_141 : decode cX10_drift 141 = .ok (.ldc 81, 2) := by decide +kernel
theorem dX10_drift_143 : decode cX10_drift 143 = .ok (.ireturn, 1) := by decide +kernel
theorem dX10_drift_144 : decode cX10_drift 144 = .ok (.ldc2_w 129, 3) := by decide +kernel
theorem dX10_drift_147 : decode cX10_drift 147 = .ok (.lload_n 2, 1) := by decide +kernel
theorem dX10_drift_148 : decode cX10_drift 148 = .ok (.lload 8, 2) := by decide +kernel
theorem dX10_drift_150 : decode cX10_drift 150 = .ok (.lmul, 1) := by decide +kernel
theorem dX10_drift_151 : decode cX10_drift 151 = .ok (.lload 4, 2) := by decide +kernel
theorem dX10_drift_153 : decode cX10_drift 153 = .ok (.lload 6, 2) := by decide +kernel
theorem dX10_drift_155 : decode cX10_drift 155 = .ok (.lmul, 1) := by decide +kernel
theorem dX10_drift_156 : decode cX10_drift 156 = .ok (.lsub, 1) := by decide +kernel
theorem dX10_drift_157 : decode cX10_drift 157 = .ok (.lmul, 1) := by decide +kernel
theorem dX10_drift_158 : decode cX10_drift 158 = .ok (.lstore 12, 2) := by decide +kernel
theorem dX10_drift_160 : decode cX10_drift 160 = .ok (.lload_n 2, 1) := by decide +kernel
theorem dX10_drift_161 : decode cX10_drift 161 = .ok (.lload 10, 2) := by decide +kernel
theorem dX10_drift_163 : decode cX10_drift 163 = .ok (.lmul, 1) := by decide +kernel
theorem dX10_drift_164 : decode cX10_drift 164 = .ok (.lload 4, 2) := by decide +kernel
theorem dX10_drift_166 : decode cX10_drift 166 = .ok (.lload 4, 2) := by decide +kernel
theorem dX10_drift_168 : decode cX10_drift 168 = .ok (.lmul, 1) := by decide +kernel
theorem dX10_drift_169 : decode cX10_drift 169 = .ok (.lsub, 1) := by decide +kernel
theorem dX10_drift_170 : decode cX10_drift 170 = .ok (.lstore 14, 2) := by decide +kernel
theorem dX10_drift_172 : decode cX10_drift 172 = .ok (.lload 12, 2) := by decide +kernel
theorem dX10_drift_174 : decode cX10_drift 174 = .ok (.lload 14, 2) := by decide +kernel
theorem dX10_drift_176 : decode cX10_drift 176 = .ok (.ldiv, 1) := by decide +kernel
theorem dX10_drift_177 : decode cX10_drift 177 = .ok (.lstore 16, 2) := by decide +kernel
theorem dX10_drift_179 : decode cX10_drift 179 = .ok (.lload 12, 2) := by decide +kernel
theorem dX10_drift_181 : decode cX10_drift 181 = .ok (.lload 14, 2) := by decide +kernel
theorem dX10_drift_183 : decode cX10_drift 183 = .ok (.lrem, 1) := by decide +kernel
theorem dX10_drift_184 : decode cX10_drift 184 = .ok (.lconst 0, 1) := by decide +kernel
theorem dX10_drift_185 : decode cX10_drift 185 = .ok (.lcmp, 1) := by decide +kernel
theorem dX10_drift_186 : decode cX10_drift 186 = .ok (.ifCond .ge 10, 3) := by decide +kernel
theorem dX10_drift_189 : decode cX10_drift 189 = .ok (.lload 16, 2) := by decide +kernel
theorem dX10_drift_191 : decode cX10_drift 191 = .ok (.lconst 1, 1) := by decide +kernel
theorem dX10_drift_192 : decode cX10_drift 192 = .ok (.lsub, 1) := by decide +kernel
theorem dX10_drift_193 : decode cX10_drift 193 = .ok (.goto 5, 3) := by decide +kernel
theorem dX10_drift_196 : decode cX10_drift 196 = .ok (.lload 16, 2) := by decide +kernel
theorem dX10_drift_198 : decode cX10_drift 198 = .ok (.l2i, 1) := by decide +kernel
theorem dX10_drift_199 : decode cX10_drift 199 = .ok (.ireturn, 1) := by decide +kernel
theorem dX10_ticksUntil_0 : decode cX10_ticksUntil 0 = .ok (.aload_n 0, 1) := by decide +kernel
theorem dX10_ticksUntil_1 : decode cX10_ticksUntil 1 = .ok (.invokevirtual 85, 3) := by decide +kernel
theorem dX10_ticksUntil_4 : decode cX10_ticksUntil 4 = .ok (.aload_n 0, 1) := by decide +kernel
theorem dX10_ticksUntil_5 : decode cX10_ticksUntil 5 = .ok (.getfield 7, 3) := by decide +kernel
theorem dX10_ticksUntil_8 : decode cX10_ticksUntil 8 = .ok (.iload_n 1, 1) := by decide +kernel
theorem dX10_ticksUntil_9 : decode cX10_ticksUntil 9 = .ok (.iaload, 1) := by decide +kernel
theorem dX10_ticksUntil_10 : decode cX10_ticksUntil 10 = .ok (.iload_n 2, 1) := by decide +kernel
theorem dX10_ticksUntil_11 : decode cX10_ticksUntil 11 = .ok (.if_icmp .lt 7, 3) := by decide +kernel
theorem dX10_ticksUntil_14 : decode cX10_ticksUntil 14 = .ok (.iconst 0, 1) := by decide +kernel
theorem dX10_ticksUntil_15 : decode cX10_ticksUntil 15 = .ok (.goto 5, 3) := by decide +kernel
theorem dX10_ticksUntil_18 : decode cX10_ticksUntil 18 = .ok (.ldc 81, 2) := by decide +kernel
theorem dX10_ticksUntil_20 : decode cX10_ticksUntil 20 = .ok (.istore_n 3, 1) := by decide +kernel
theorem dX10_ticksUntil_21 : decode cX10_ticksUntil 21 = .ok (.iconst 1, 1) := by decide +kernel
theorem dX10_ticksUntil_22 : decode cX10_ticksUntil 22 = .ok (.istore 4, 2) := by decide +kernel
theorem dX10_ticksUntil_24 : decode cX10_ticksUntil 24 = .ok (.iload 4, 2) := by decide +kernel
theorem dX10_ticksUntil_26 : decode cX10_ticksUntil 26 = .ok (.sipush 200, 3) := by decide +kernel
theorem dX10_ticksUntil_29 : decode cX10_ticksUntil 29 = .ok (.if_icmp .gt 37, 3) := by decide +kernel
theorem dX10_ticksUntil_32 : decode cX10_ticksUntil 32 = .ok (.iload_n 3, 1) := by decide +kernel
theorem dX10_ticksUntil_33 : decode cX10_ticksUntil 33 = .ok (.ldc 81, 2) := by decide +kernel
theorem dX10_ticksUntil_35 : decode cX10_ticksUntil 35 = .ok (.if_icmp .ne 31, 3) := by decide +kernel
theorem dX10_ticksUntil_38 : decode cX10_ticksUntil 38 = .ok (.aload_n 0, 1) := by decide +kernel
theorem dX10_ticksUntil_39 : decode cX10_ticksUntil 39 = .ok (.invokevirtual 122, 3) := by decide +kernel
theorem dX10_ticksUntil_42 : decode cX10_ticksUntil 42 = .ok (.aload_n 0, 1) := by decide +kernel
theorem dX10_ticksUntil_43 : decode cX10_ticksUntil 43 = .ok (.getfield 7, 3) := by decide +kernel
theorem dX10_ticksUntil_46 : decode cX10_ticksUntil 46 = .ok (.iload_n 1, 1) := by decide +kernel
theorem dX10_ticksUntil_47 : decode cX10_ticksUntil 47 = .ok (.iaload, 1) := by decide +kernel
theorem dX10_ticksUntil_48 : decode cX10_ticksUntil 48 = .ok (.iload_n 2, 1) := by decide +kernel
theorem dX10_ticksUntil_49 : decode cX10_ticksUntil 49 = .ok (.if_icmp .lt 8, 3) := by decide +kernel
theorem dX10_ticksUntil_52 : decode cX10_ticksUntil 52 = .ok (.iload 4, 2) := by decide +kernel
theorem dX10_ticksUntil_54 : decode cX10_ticksUntil 54 = .ok (.goto 5, 3) := by decide +kernel
theorem dX10_ticksUntil_57 : decode cX10_ticksUntil 57 = .ok (.ldc 81, 2) := by decide +kernel
theorem dX10_ticksUntil_59 : decode cX10_ticksUntil 59 = .ok (.istore_n 3, 1) := by decide +kernel
theorem dX10_ticksUntil_60 : decode cX10_ticksUntil 60 = .ok (.iinc 4 1, 3) := by decide +kernel
theorem dX10_ticksUntil_63 : decode cX10_ticksUntil 63 = .ok (.goto (-39), 3) := by decide +kernel
theorem dX10_ticksUntil_66 : decode cX10_ticksUntil 66 = .ok (.aload_n 0, 1) := by decide +kernel
theorem dX10_ticksUntil_67 : decode cX10_ticksUntil 67 = .ok (.invokevirtual 92, 3) := by decide +kernel
theorem dX10_ticksUntil_70 : decode cX10_ticksUntil 70 = .ok (.iload_n 3, 1) := by decide +kernel
theorem dX10_ticksUntil_71 : decode cX10_ticksUntil 71 = .ok (.ireturn, 1) := by decide +kernel
theorem dX10_ticksTo_0 : decode cX10_ticksTo 0 = .ok (.aload_n 0, 1) := by decide +kernel
theorem dX10_ticksTo_1 : decode cX10_ticksTo 1 = .ok (.iconst 0, 1) := by decide +kernel
theorem dX10_ticksTo_2 : decode cX10_ticksTo 2 = .ok (.putfield 25, 3) := by decide +kernel
theorem dX10_ticksTo_5 : decode cX10_ticksTo 5 = .ok (.iload_n 1, 1) := by decide +kernel
theorem dX10_ticksTo_6 : decode cX10_ticksTo 6 = .ok (.iconst 0, 1) := by decide +kernel
theorem dX10_ticksTo_7 : decode cX10_ticksTo 7 = .ok (.sipush 3000, 3) := by decide +kernel
theorem dX10_ticksTo_10 : decode cX10_ticksTo 10 = .ok (.invokestatic 39, 3) := by decide +kernel
theorem dX10_ticksTo_13 : decode cX10_ticksTo 13 = .ok (.ifCond .ne 6, 3) := by decide +kernel
theorem dX10_ticksTo_16 : decode cX10_ticksTo 16 = .ok (.ldc 47, 2) := by decide +kernel
theorem dX10_ticksTo_18 : decode cX10_ticksTo 18 = .ok (.ireturn, 1) := by decide +kernel
theorem dX10_ticksTo_19 : decode cX10_ticksTo 19 = .ok (.aload_n 0, 1) := by decide +kernel
theorem dX10_ticksTo_20 : decode cX10_ticksTo 20 = .ok (.invokevirtual 96, 3) := by decide +kernel
theorem dX10_ticksTo_23 : decode cX10_ticksTo 23 = .ok (.ifCond .eq 13, 3) := by decide +kernel
theorem dX10_ticksTo_26 : decode cX10_ticksTo 26 = .ok (.aload_n 0, 1) := by decide +kernel
theorem dX10_ticksTo_27 : decode cX10_ticksTo 27 = .ok (.bipush 16, 2) := by decide +kernel
theorem dX10_ticksTo_29 : decode cX10_ticksTo 29 = .ok (.iload_n 1, 1) := by decide +kernel
theorem dX10_ticksTo_30 : decode cX10_ticksTo 30 = .ok (.invokevirtual 131, 3) := by decide +kernel
theorem dX10_ticksTo_33 : decode cX10_ticksTo 33 = .ok (.goto 5, 3) := by decide +kernel
theorem dX10_ticksTo_36 : decode cX10_ticksTo 36 = .ok (.ldc 61, 2) := by decide +kernel
theorem dX10_ticksTo_38 : decode cX10_ticksTo 38 = .ok (.ireturn, 1) := by decide +kernel
theorem dX10_ticksToLoss_0 : decode cX10_ticksToLoss 0 = .ok (.aload_n 0, 1) := by decide +kernel
theorem dX10_ticksToLoss_1 : decode cX10_ticksToLoss 1 = .ok (.iconst 0, 1) := by decide +kernel
theorem dX10_ticksToLoss_2 : decode cX10_ticksToLoss 2 = .ok (.putfield 25, 3) := by decide +kernel
theorem dX10_ticksToLoss_5 : decode cX10_ticksToLoss 5 = .ok (.iload_n 1, 1) := by decide +kernel
theorem dX10_ticksToLoss_6 : decode cX10_ticksToLoss 6 = .ok (.iconst 0, 1) := by decide +kernel
theorem dX10_ticksToLoss_7 : decode cX10_ticksToLoss 7 = .ok (.ldc 134, 2) := by decide +kernel
theorem dX10_ticksToLoss_9 : decode cX10_ticksToLoss 9 = .ok (.invokestatic 39, 3) := by decide +kernel
theorem dX10_ticksToLoss_12 : decode cX10_ticksToLoss 12 = .ok (.ifCond .ne 6, 3) := by decide +kernel
theorem dX10_ticksToLoss_15 : decode cX10_ticksToLoss 15 = .ok (.ldc 47, 2) := by decide +kernel
theorem dX10_ticksToLoss_17 : decode cX10_ticksToLoss 17 = .ok (.ireturn, 1) := by decide +kernel
theorem dX10_ticksToLoss_18 : decode cX10_ticksToLoss 18 = .ok (.aload_n 0, 1) := by decide +kernel
theorem dX10_ticksToLoss_19 : decode cX10_ticksToLoss 19 = .ok (.invokevirtual 96, 3) := by decide +kernel
theorem dX10_ticksToLoss_22 : decode cX10_ticksToLoss 22 = .ok (.ifCond .eq 13, 3) := by decide +kernel
theorem dX10_ticksToLoss_25 : decode cX10_ticksToLoss 25 = .ok (.aload_n 0, 1) := by decide +kernel
theorem dX10_ticksToLoss_26 : decode cX10_ticksToLoss 26 = .ok (.bipush 19, 2) := by decide +kernel
theorem dX10_ticksToLoss_28 : decode cX10_ticksToLoss 28 = .ok (.iload_n 1, 1) := by decide +kernel
theorem dX10_ticksToLoss_29 : decode cX10_ticksToLoss 29 = .ok (.invokevirtual 131, 3) := by decide +kernel
theorem dX10_ticksToLoss_32 : decode cX10_ticksToLoss 32 = .ok (.goto 5, 3) := by decide +kernel
theorem dX10_ticksToLoss_35 : decode cX10_ticksToLoss 35 = .ok (.ldc 61, 2) := by decide +kernel
theorem dX10_ticksToLoss_37 : decode cX10_ticksToLoss 37 = .ok (.ireturn, 1) := by decide +kernel
theorem dX10_offWith_0 : decode cX10_offWith 0 = .ok (.aload_n 0, 1) := by decide +kernel
theorem dX10_offWith_1 : decode cX10_offWith 1 = .ok (.getfield 7, 3) := by decide +kernel
theorem dX10_offWith_4 : decode cX10_offWith 4 = .ok (.bipush 9, 2) := by decide +kernel
theorem dX10_offWith_6 : decode cX10_offWith 6 = .ok (.iconst 1, 1) := by decide +kernel
theorem dX10_offWith_7 : decode cX10_offWith 7 = .ok (.iastore, 1) := by decide +kernel
theorem dX10_offWith_8 : decode cX10_offWith 8 = .ok (.aload_n 0, 1) := by decide +kernel
theorem dX10_offWith_9 : decode cX10_offWith 9 = .ok (.getfield 7, 3) := by decide +kernel
theorem dX10_offWith_12 : decode cX10_offWith 12 = .ok (.bipush 12, 2) := by decide +kernel
theorem dX10_offWith_14 : decode cX10_offWith 14 = .ok (.iload_n 1, 1) := by decide +kernel
theorem dX10_offWith_15 : decode cX10_offWith 15 = .ok (.iastore, 1) := by decide +kernel
theorem dX10_offWith_16 : decode cX10_offWith 16 = .ok (.iconst 0, 1) := by decide +kernel
theorem dX10_offWith_17 : decode cX10_offWith 17 = .ok (.istore_n 3, 1) := by decide +kernel
theorem dX10_offWith_18 : decode cX10_offWith 18 = .ok (.iconst 0, 1) := by decide +kernel
theorem dX10_offWith_19 : decode cX10_offWith 19 = .ok (.istore 4, 2) := by decide +kernel
theorem dX10_offWith_21 : decode cX10_offWith 21 = .ok (.iload 4, 2) := by decide +kernel
theorem dX10_offWith_23 : decode cX10_offWith 23 = .ok (.iload_n 2, 1) := by decide +kernel
theorem dX10_offWith_24 : decode cX10_offWith 24 = .ok (.if_icmp .ge 49, 3) := by decide +kernel
theorem dX10_offWith_27 : decode cX10_offWith 27 = .ok (.aload_n 0, 1) := by decide +kernel
theorem dX10_offWith_28 : decode cX10_offWith 28 = .ok (.invokevirtual 122, 3) := by decide +kernel
theorem dX10_offWith_31 : decode cX10_offWith 31 = .ok (.aload_n 0, 1) := by decide +kernel
theorem dX10_offWith_32 : decode cX10_offWith 32 = .ok (.aload_n 0, 1) := by decide +kernel
theorem dX10_offWith_33 : decode cX10_offWith 33 = .ok (.getfield 7, 3) := by decide +kernel
theorem dX10_offWith_36 : decode cX10_offWith 36 = .ok (.bipush 18, 2) := by decide +kernel
theorem dX10_offWith_38 : decode cX10_offWith 38 = .ok (.iaload, 1) := by decide +kernel
theorem dX10_offWith_39 : decode cX10_offWith 39 = .ok (.invokevirtual 106, 3) := by decide +kernel
theorem dX10_offWith_42 : decode cX10_offWith 42 = .ok (.aload_n 0, 1) := by decide +kernel
theorem dX10_offWith_43 : decode cX10_offWith 43 = .ok (.getfield 7, 3) := by decide +kernel
theorem dX10_offWith_46 : decode cX10_offWith 46 = .ok (.iconst 4, 1) := by decide +kernel
theorem dX10_offWith_47 : decode cX10_offWith 47 = .ok (.iaload, 1) := by decide +kernel
theorem dX10_offWith_48 : decode cX10_offWith 48 = .ok (.isub, 1) := by decide +kernel
theorem dX10_offWith_49 : decode cX10_offWith 49 = .ok (.istore 5, 2) := by decide +kernel
theorem dX10_offWith_51 : decode cX10_offWith 51 = .ok (.iload_n 3, 1) := by decide +kernel
theorem dX10_offWith_52 : decode cX10_offWith 52 = .ok (.iload 5, 2) := by decide +kernel
theorem dX10_offWith_54 : decode cX10_offWith 54 = .ok (.ifCond .ge 9, 3) := by decide +kernel
theorem dX10_offWith_57 : decode cX10_offWith 57 = .ok (.iload 5, 2) := by decide +kernel
theorem dX10_offWith_59 : decode cX10_offWith 59 = .ok (.ineg, 1) := by decide +kernel
theorem dX10_offWith_60 : decode cX10_offWith 60 = .ok (.goto 5, 3) := by decide +kernel
theorem dX10_offWith_63 : decode cX10_offWith 63 = .ok (.iload 5, 2) := by decide +kernel
theorem dX10_offWith_65 : decode cX10_offWith 65 = .ok (.iadd, 1) := by decide +kernel
theorem dX10_offWith_66 : decode cX10_offWith 66 = .ok (.istore_n 3, 1) := by decide +kernel
theorem dX10_offWith_67 : decode cX10_offWith 67 = .ok (.iinc 4 1, 3) := by decide +kernel
theorem dX10_offWith_70 : decode cX10_offWith 70 = .ok (.goto (-49), 3) := by decide +kernel
theorem dX10_offWith_73 : decode cX10_offWith 73 = .ok (.aload_n 0, 1) := by decide +kernel
theorem dX10_offWith_74 : decode cX10_offWith 74 = .ok (.invokevirtual 92, 3) := by decide +kernel
theorem dX10_offWith_77 : decode cX10_offWith 77 = .ok (.iload_n 3, 1) := by decide +kernel
theorem dX10_offWith_78 : decode cX10_offWith 78 = .ok (.ireturn, 1) := by decide +kernel
theorem dX10_bestBias_0 : decode cX10_bestBias 0 = .ok (.aload_n 0, 1) := by decide +kernel
theorem dX10_bestBias_1 : decode cX10_bestBias 1 = .ok (.iconst 0, 1) := by decide +kernel
theorem dX10_bestBias_2 : decode cX10_bestBias 2 = .ok (.putfield 25, 3) := by decide +kernel
theorem dX10_bestBias_5 : decode cX10_bestBias 5 = .ok (.iload_n 1, 1) := by decide +kernel
theorem dX10_bestBias_6 : decode cX10_bestBias 6 = .ok (.iconst 1, 1) := by decide +kernel
theorem dX10_bestBias_7 : decode cX10_bestBias 7 = .ok (.bipush 100, 2) := by decide +kernel
theorem dX10_bestBias_9 : decode cX10_bestBias 9 = .ok (.invokestatic 39, 3) := by decide +kernel
theorem dX10_bestBias_12 : decode cX10_bestBias 12 = .ok (.ifCond .ne 6, 3) := by decide +kernel
theorem dX10_bestBias_15 : decode cX10_bestBias 15 = .ok (.ldc 47, 2) := by decide +kernel
theorem dX10_bestBias_17 : decode cX10_bestBias 17 = .ok (.ireturn, 1) := by decide +kernel
theorem dX10_bestBias_18 : decode cX10_bestBias 18 = .ok (.aload_n 0, 1) := by decide +kernel
theorem dX10_bestBias_19 : decode cX10_bestBias 19 = .ok (.invokevirtual 96, 3) := by decide +kernel
theorem dX10_bestBias_22 : decode cX10_bestBias 22 = .ok (.ifCond .eq 13, 3) := by decide +kernel
theorem dX10_bestBias_25 : decode cX10_bestBias 25 = .ok (.aload_n 0, 1) := by decide +kernel
theorem dX10_bestBias_26 : decode cX10_bestBias 26 = .ok (.getfield 7, 3) := by decide +kernel
theorem dX10_bestBias_29 : decode cX10_bestBias 29 = .ok (.bipush 32, 2) := by decide +kernel
theorem dX10_bestBias_31 : decode cX10_bestBias 31 = .ok (.iaload, 1) := by decide +kernel
theorem dX10_bestBias_32 : decode cX10_bestBias 32 = .ok (.ifCond .ne 6, 3) := by decide +kernel
theorem dX10_bestBias_35 : decode cX10_bestBias 35 = .ok (.ldc 61, 2) := by decide +kernel
theorem dX10_bestBias_37 : decode cX10_bestBias 37 = .ok (.ireturn, 1) := by decide +kernel
theorem dX10_bestBias_38 : decode cX10_bestBias 38 = .ok (.aload_n 0, 1) := by decide +kernel
theorem dX10_bestBias_39 : decode cX10_bestBias 39 = .ok (.invokevirtual 85, 3) := by decide +kernel
theorem dX10_bestBias_42 : decode cX10_bestBias 42 = .ok (.iconst 0, 1) := by decide +kernel
theorem dX10_bestBias_43 : decode cX10_bestBias 43 = .ok (.istore_n 2, 1) := by decide +kernel
theorem dX10_bestBias_44 : decode cX10_bestBias 44 = .ok (.aload_n 0, 1) := by decide +kernel
theorem dX10_bestBias_45 : decode cX10_bestBias 45 = .ok (.iconst 0, 1) := by decide +kernel
theorem dX10_bestBias_46 : decode cX10_bestBias 46 = .ok (.iload_n 1, 1) := by decide +kernel
theorem dX10_bestBias_47 : decode cX10_bestBias 47 = .ok (.invokevirtual 135, 3) := by decide +kernel
theorem dX10_bestBias_50 : decode cX10_bestBias 50 = .ok (.istore_n 3, 1) := by decide +kernel
theorem dX10_bestBias_51 : decode cX10_bestBias 51 = .ok (.iconst 1, 1) := by decide +kernel
theorem dX10_bestBias_52 : decode cX10_bestBias 52 = .ok (.istore 4, 2) := by decide +kernel
theorem dX10_bestBias_54 : decode cX10_bestBias 54 = .ok (.iload 4, 2) := by decide +kernel
theorem dX10_bestBias_56 : decode cX10_bestBias 56 = .ok (.bipush 100, 2) := by decide +kernel
theorem dX10_bestBias_58 : decode cX10_bestBias 58 = .ok (.if_icmp .gt 44, 3) := by decide +kernel
theorem dX10_bestBias_61 : decode cX10_bestBias 61 = .ok (.aload_n 0, 1) := by decide +kernel
theorem dX10_bestBias_62 : decode cX10_bestBias 62 = .ok (.iload 4, 2) := by decide +kernel
theorem dX10_bestBias_64 : decode cX10_bestBias 64 = .ok (.iload_n 1, 1) := by decide +kernel
theorem dX10_bestBias_65 : decode cX10_bestBias 65 = .ok (.invokevirtual 135, 3) := by decide +kernel
theorem dX10_bestBias_68 : decode cX10_bestBias 68 = .ok (.istore 5, 2) := by decide +kernel
theorem dX10_bestBias_70 : decode cX10_bestBias 70 = .ok (.iload 5, 2) := by decide +kernel
theorem dX10_bestBias_72 : decode cX10_bestBias 72 = .ok (.iload_n 3, 1) := by decide +kernel
theorem dX10_bestBias_73 : decode cX10_bestBias 73 = .ok (.if_icmp .ge 8, 3) := by decide +kernel
theorem dX10_bestBias_76 : decode cX10_bestBias 76 = .ok (.iload 4, 2) := by decide +kernel
theorem dX10_bestBias_78 : decode cX10_bestBias 78 = .ok (.goto 4, 3) := by decide +kernel
theorem dX10_bestBias_81 : decode cX10_bestBias 81 = .ok (.iload_n 2, 1) := by decide +kernel
theorem dX10_bestBias_82 : decode cX10_bestBias 82 = .ok (.istore_n 2, 1) := by decide +kernel
theorem dX10_bestBias_83 : decode cX10_bestBias 83 = .ok (.iload 5, 2) := by decide +kernel
theorem dX10_bestBias_85 : decode cX10_bestBias 85 = .ok (.iload_n 3, 1) := by decide +kernel
theorem dX10_bestBias_86 : decode cX10_bestBias 86 = .ok (.if_icmp .ge 8, 3) := by decide +kernel
theorem dX10_bestBias_89 : decode cX10_bestBias 89 = .ok (.iload 5, 2) := by decide +kernel
theorem dX10_bestBias_91 : decode cX10_bestBias 91 = .ok (.goto 4, 3) := by decide +kernel
theorem dX10_bestBias_94 : decode cX10_bestBias 94 = .ok (.iload_n 3, 1) := by decide +kernel
theorem dX10_bestBias_95 : decode cX10_bestBias 95 = .ok (.istore_n 3, 1) := by decide +kernel
theorem dX10_bestBias_96 : decode cX10_bestBias 96 = .ok (.iinc 4 1, 3) := by decide +kernel
theorem dX10_bestBias_99 : decode cX10_bestBias 99 = .ok (.goto (-45), 3) := by decide +kernel
theorem dX10_bestBias_102 : decode cX10_bestBias 102 = .ok (.iload_n 2, 1) := by decide +kernel
theorem dX10_bestBias_103 : decode cX10_bestBias 103 = .ok (.ireturn, 1) := by decide +kernel
theorem dJ9_floorDiv_7cf53_0 : decode cJ9_floorDiv_7cf53 0 = .ok (.iload_n 0, 1) := by decide +kernel
theorem dJ9_floorDiv_7cf53_1 : decode cJ9_floorDiv_7cf53 1 = .ok (.iload_n 1, 1) := by decide +kernel
theorem dJ9_floorDiv_7cf53_2 : decode cJ9_floorDiv_7cf53 2 = .ok (.idiv, 1) := by decide +kernel
theorem dJ9_floorDiv_7cf53_3 : decode cJ9_floorDiv_7cf53 3 = .ok (.istore_n 2, 1) := by decide +kernel
theorem dJ9_floorDiv_7cf53_4 : decode cJ9_floorDiv_7cf53 4 = .ok (.iload_n 0, 1) := by decide +kernel
theorem dJ9_floorDiv_7cf53_5 : decode cJ9_floorDiv_7cf53 5 = .ok (.iload_n 1, 1) := by decide +kernel
theorem dJ9_floorDiv_7cf53_6 : decode cJ9_floorDiv_7cf53 6 = .ok (.ixor, 1) := by decide +kernel
theorem dJ9_floorDiv_7cf53_7 : decode cJ9_floorDiv_7cf53 7 = .ok (.ifCond .ge 14, 3) := by decide +kernel
theorem dJ9_floorDiv_7cf53_10 : decode cJ9_floorDiv_7cf53 10 = .ok (.iload_n 2, 1) := by decide +kernel
theorem dJ9_floorDiv_7cf53_11 : decode cJ9_floorDiv_7cf53 11 = .ok (.iload_n 1, 1) := by decide +kernel
theorem dJ9_floorDiv_7cf53_12 : decode cJ9_floorDiv_7cf53 12 = .ok (.imul, 1) := by decide +kernel
theorem dJ9_floorDiv_7cf53_13 : decode cJ9_floorDiv_7cf53 13 = .ok (.iload_n 0, 1) := by decide +kernel
theorem dJ9_floorDiv_7cf53_14 : decode cJ9_floorDiv_7cf53 14 = .ok (.if_icmp .eq 7, 3) := by decide +kernel
theorem dJ9_floorDiv_7cf53_17 : decode cJ9_floorDiv_7cf53 17 = .ok (.iload_n 2, 1) := by decide +kernel
theorem dJ9_floorDiv_7cf53_18 : decode cJ9_floorDiv_7cf53 18 = .ok (.iconst 1, 1) := by decide +kernel
theorem dJ9_floorDiv_7cf53_19 : decode cJ9_floorDiv_7cf53 19 = .ok (.isub, 1) := by decide +kernel
theorem dJ9_floorDiv_7cf53_20 : decode cJ9_floorDiv_7cf53 20 = .ok (.ireturn, 1) := by decide +kernel
theorem dJ9_floorDiv_7cf53_21 : decode cJ9_floorDiv_7cf53 21 = .ok (.iload_n 2, 1) := by decide +kernel
theorem dJ9_floorDiv_7cf53_22 : decode cJ9_floorDiv_7cf53 22 = .ok (.ireturn, 1) := by decide +kernel
theorem dJ9_floorDiv_f86c9_0 : decode cJ9_floorDiv_f86c9 0 = .ok (.lload_n 0, 1) := by decide +kernel
theorem dJ9_floorDiv_f86c9_1 : decode cJ9_floorDiv_f86c9 1 = .ok (.lload_n 2, 1) := by decide +kernel
theorem dJ9_floorDiv_f86c9_2 : decode cJ9_floorDiv_f86c9 2 = .ok (.ldiv, 1) := by decide +kernel
theorem dJ9_floorDiv_f86c9_3 : decode cJ9_floorDiv_f86c9 3 = .ok (.lstore 4, 2) := by decide +kernel
theorem dJ9_floorDiv_f86c9_5 : decode cJ9_floorDiv_f86c9 5 = .ok (.lload_n 0, 1) := by decide +kernel
theorem dJ9_floorDiv_f86c9_6 : decode cJ9_floorDiv_f86c9 6 = .ok (.lload_n 2, 1) := by decide +kernel
theorem dJ9_floorDiv_f86c9_7 : decode cJ9_floorDiv_f86c9 7 = .ok (.lxor, 1) := by decide +kernel
theorem dJ9_floorDiv_f86c9_8 : decode cJ9_floorDiv_f86c9 8 = .ok (.lconst 0, 1) := by decide +kernel
theorem dJ9_floorDiv_f86c9_9 : decode cJ9_floorDiv_f86c9 9 = .ok (.lcmp, 1) := by decide +kernel
theorem dJ9_floorDiv_f86c9_10 : decode cJ9_floorDiv_f86c9 10 = .ok (.ifCond .ge 17, 3) := by decide +kernel
theorem dJ9_floorDiv_f86c9_13 : decode cJ9_floorDiv_f86c9 13 = .ok (.lload 4, 2) := by decide +kernel
theorem dJ9_floorDiv_f86c9_15 : decode cJ9_floorDiv_f86c9 15 = .ok (.lload_n 2, 1) := by decide +kernel
theorem dJ9_floorDiv_f86c9_16 : decode cJ9_floorDiv_f86c9 16 = .ok (.lmul, 1) := by decide +kernel
theorem dJ9_floorDiv_f86c9_17 : decode cJ9_floorDiv_f86c9 17 = .ok (.lload_n 0, 1) := by decide +kernel
theorem dJ9_floorDiv_f86c9_18 : decode cJ9_floorDiv_f86c9 18 = .ok (.lcmp, 1) := by decide +kernel
theorem dJ9_floorDiv_f86c9_19 : decode cJ9_floorDiv_f86c9 19 = .ok (.ifCond .eq 8, 3) := by decide +kernel
theorem dJ9_floorDiv_f86c9_22 : decode cJ9_floorDiv_f86c9 22 = .ok (.lload 4, 2) := by decide +kernel
theorem dJ9_floorDiv_f86c9_24 : decode cJ9_floorDiv_f86c9 24 = .ok (.lconst 1, 1) := by decide +kernel
theorem dJ9_floorDiv_f86c9_25 : decode cJ9_floorDiv_f86c9 25 = .ok (.lsub, 1) := by decide +kernel
theorem dJ9_floorDiv_f86c9_26 : decode cJ9_floorDiv_f86c9 26 = .ok (.lreturn, 1) := by decide +kernel
theorem dJ9_floorDiv_f86c9_27 : decode cJ9_floorDiv_f86c9 27 = .ok (.lload 4, 2) := by decide +kernel
theorem dJ9_floorDiv_f86c9_29 : decode cJ9_floorDiv_f86c9 29 = .ok (.lreturn, 1) := by decide +kernel
theorem dJ9_floorMod_7cf53_0 : decode cJ9_floorMod_7cf53 0 = .ok (.iload_n 0, 1) := by decide +kernel
theorem dJ9_floorMod_7cf53_1 : decode cJ9_floorMod_7cf53 1 = .ok (.iload_n 1, 1) := by decide +kernel
theorem dJ9_floorMod_7cf53_2 : decode cJ9_floorMod_7cf53 2 = .ok (.irem, 1) := by decide +kernel
theorem dJ9_floorMod_7cf53_3 : decode cJ9_floorMod_7cf53 3 = .ok (.istore_n 2, 1) := by decide +kernel
theorem dJ9_floorMod_7cf53_4 : decode cJ9_floorMod_7cf53 4 = .ok (.iload_n 0, 1) := by decide +kernel
theorem dJ9_floorMod_7cf53_5 : decode cJ9_floorMod_7cf53 5 = .ok (.iload_n 1, 1) := by decide +kernel
theorem dJ9_floorMod_7cf53_6 : decode cJ9_floorMod_7cf53 6 = .ok (.ixor, 1) := by decide +kernel
theorem dJ9_floorMod_7cf53_7 : decode cJ9_floorMod_7cf53 7 = .ok (.ifCond .ge 11, 3) := by decide +kernel
theorem dJ9_floorMod_7cf53_10 : decode cJ9_floorMod_7cf53 10 = .ok (.iload_n 2, 1) := by decide +kernel
theorem dJ9_floorMod_7cf53_11 : decode cJ9_floorMod_7cf53 11 = .ok (.ifCond .eq 7, 3) := by decide +kernel
theorem dJ9_floorMod_7cf53_14 : decode cJ9_floorMod_7cf53 14 = .ok (.iload_n 2, 1) := by decide +kernel
theorem dJ9_floorMod_7cf53_15 : decode cJ9_floorMod_7cf53 15 = .ok (.iload_n 1, 1) := by decide +kernel
theorem dJ9_floorMod_7cf53_16 : decode cJ9_floorMod_7cf53 16 = .ok (.iadd, 1) := by decide +kernel
theorem dJ9_floorMod_7cf53_17 : decode cJ9_floorMod_7cf53 17 = .ok (.ireturn, 1) := by decide +kernel
theorem dJ9_floorMod_7cf53_18 : decode cJ9_floorMod_7cf53 18 = .ok (.iload_n 2, 1) := by decide +kernel
theorem dJ9_floorMod_7cf53_19 : decode cJ9_floorMod_7cf53 19 = .ok (.ireturn, 1) := by decide +kernel
theorem dJ9_abs_0f7a4_0 : decode cJ9_abs_0f7a4 0 = .ok (.iload_n 0, 1) := by decide +kernel
theorem dJ9_abs_0f7a4_1 : decode cJ9_abs_0f7a4 1 = .ok (.ifCond .ge 8, 3) := by decide +kernel
theorem dJ9_abs_0f7a4_4 : decode cJ9_abs_0f7a4 4 = .ok (.iload_n 0, 1) := by decide +kernel
theorem dJ9_abs_0f7a4_5 : decode cJ9_abs_0f7a4 5 = .ok (.ineg, 1) := by decide +kernel
theorem dJ9_abs_0f7a4_6 : decode cJ9_abs_0f7a4 6 = .ok (.goto 4, 3) := by decide +kernel
theorem dJ9_abs_0f7a4_9 : decode cJ9_abs_0f7a4 9 = .ok (.iload_n 0, 1) := by decide +kernel
theorem dJ9_abs_0f7a4_10 : decode cJ9_abs_0f7a4 10 = .ok (.ireturn, 1) := by decide +kernel
theorem dJ9_max_7cf53_0 : decode cJ9_max_7cf53 0 = .ok (.iload_n 0, 1) := by decide +kernel
theorem dJ9_max_7cf53_1 : decode cJ9_max_7cf53 1 = .ok (.iload_n 1, 1) := by decide +kernel
theorem dJ9_max_7cf53_2 : decode cJ9_max_7cf53 2 = .ok (.if_icmp .lt 7, 3) := by decide +kernel
theorem dJ9_max_7cf53_5 : decode cJ9_max_7cf53 5 = .ok (.iload_n 0, 1) := by decide +kernel
theorem dJ9_max_7cf53_6 : decode cJ9_max_7cf53 6 = .ok (.goto 4, 3) := by decide +kernel
theorem dJ9_max_7cf53_9 : decode cJ9_max_7cf53 9 = .ok (.iload_n 1, 1) := by decide +kernel
theorem dJ9_max_7cf53_10 : decode cJ9_max_7cf53 10 = .ok (.ireturn, 1) := by decide +kernel
theorem dJ9_min_7cf53_0 : decode cJ9_min_7cf53 0 = .ok (.iload_n 0, 1) := by decide +kernel
theorem dJ9_min_7cf53_1 : decode cJ9_min_7cf53 1 = .ok (.iload_n 1, 1) := by decide +kernel
theorem dJ9_min_7cf53_2 : decode cJ9_min_7cf53 2 = .ok (.if_icmp .gt 7, 3) := by decide +kernel
theorem dJ9_min_7cf53_5 : decode cJ9_min_7cf53 5 = .ok (.iload_n 0, 1) := by decide +kernel
theorem dJ9_min_7cf53_6 : decode cJ9_min_7cf53 6 = .ok (.goto 4, 3) := by decide +kernel
theorem dJ9_min_7cf53_9 : decode cJ9_min_7cf53 9 = .ok (.iload_n 1, 1) := by decide +kernel
theorem dJ9_min_7cf53_10 : decode cJ9_min_7cf53 10 = .ok (.ireturn, 1) := by decide +kernel
theorem dL_law_0 : decode cL_law 0 = .ok (.new 7, 3) := by decide +kernel
theorem dL_law_3 : decode cL_law 3 = .ok (.dup, 1) := by decide +kernel
theorem dL_law_4 : decode cL_law 4 = .ok (.invokespecial 9, 3) := by decide +kernel
theorem dL_law_7 : decode cL_law 7 = .ok (.astore_n 1, 1) := by decide +kernel
theorem dL_law_8 : decode cL_law 8 = .ok (.new 10, 3) := by decide +kernel
theorem dL_law_11 : decode cL_law 11 = .ok (.dup, 1) := by decide +kernel
theorem dL_law_12 : decode cL_law 12 = .ok (.invokespecial 12, 3) := by decide +kernel
theorem dL_law_15 : decode cL_law 15 = .ok (.astore_n 2, 1) := by decide +kernel
theorem dL_law_16 : decode cL_law 16 = .ok (.iconst 0, 1) := by decide +kernel
theorem dL_law_17 : decode cL_law 17 = .ok (.istore_n 3, 1) := by decide +kernel
theorem dL_law_18 : decode cL_law 18 = .ok (.iload_n 3, 1) := by decide +kernel
theorem dL_law_19 : decode cL_law 19 = .ok (.aload_n 0, 1) := by decide +kernel
theorem dL_law_20 : decode cL_law 20 = .ok (.arraylength, 1) := by decide +kernel
theorem dL_law_21 : decode cL_law 21 = .ok (.iconst 5, 1) := by decide +kernel
theorem dL_law_22 : decode cL_law 22 = .ok (.isub, 1) := by decide +kernel
theorem dL_law_23 : decode cL_law 23 = .ok (.if_icmp .gt 763, 3) := by decide +kernel
theorem dL_law_26 : decode cL_law 26 = .ok (.aload_n 0, 1) := by decide +kernel
theorem dL_law_27 : decode cL_law 27 = .ok (.iload_n 3, 1) := by decide +kernel
theorem dL_law_28 : decode cL_law 28 = .ok (.iaload, 1) := by decide +kernel
theorem dL_law_29 : decode cL_law 29 = .ok (.bipush 31, 2) := by decide +kernel
theorem dL_law_31 : decode cL_law 31 = .ok (.iand, 1) := by decide +kernel
theorem dL_law_32 : decode cL_law 32 = .ok (.tableswitch 748 0 25 #[120, 143, 166, 219, 252, 285, 308, 341, 364, 397, 420, 433, 446, 469, 482, 495, 518, 531, 554, 577, 600, 623, 656, 679, 702, 725], 120) := by decide +kernel
theorem dL_law_152 : decode cL_law 152 = .ok (.aload_n 1, 1) := by decide +kernel
theorem dL_law_153 : decode cL_law 153 = .ok (.aload_n 0, 1) := by decide +kernel
theorem dL_law_154 : decode cL_law 154 = .ok (.iload_n 3, 1) := by decide +kernel
theorem dL_law_155 : decode cL_law 155 = .ok (.iconst 1, 1) := by decide +kernel
theorem dL_law_156 : decode cL_law 156 = .ok (.iadd, 1) := by decide +kernel
theorem dL_law_157 : decode cL_law 157 = .ok (.iaload, 1) := by decide +kernel
theorem dL_law_158 : decode cL_law 158 = .ok (.invokevirtual 13, 3) := by decide +kernel
theorem dL_law_161 : decode cL_law 161 = .ok (.aload_n 2, 1) := by decide +kernel
theorem dL_law_162 : decode cL_law 162 = .ok (.aload_n 0, 1) := by decide +kernel
theorem dL_law_163 : decode cL_law 163 = .ok (.iload_n 3, 1) := by decide +kernel
theorem dL_law_164 : decode cL_law 164 = .ok (.iconst 1, 1) := by decide +kernel
theorem dL_law_165 : decode cL_law 165 = .ok (.iadd, 1) := by decide +kernel
theorem dL_law_166 : decode cL_law 166 = .ok (.iaload, 1) := by decide +kernel
theorem dL_law_167 : decode cL_law 167 = .ok (.invokevirtual 17, 3) := by decide +kernel
theorem dL_law_170 : decode cL_law 170 = .ok (.if_icmp .eq 610, 3) := by decide +kernel
theorem dL_law_173 : decode cL_law 173 = .ok (.iconst 0, 1) := by decide +kernel
theorem dL_law_174 : decode cL_law 174 = .ok (.ireturn, 1) := by decide +kernel
theorem dL_law_175 : decode cL_law 175 = .ok (.aload_n 1, 1) := by decide +kernel
theorem dL_law_176 : decode cL_law 176 = .ok (.aload_n 0, 1) := by decide +kernel
theorem dL_law_177 : decode cL_law 177 = .ok (.iload_n 3, 1) := by decide +kernel
theorem dL_law_178 : decode cL_law 178 = .ok (.iconst 1, 1) := by decide +kernel
theorem dL_law_179 : decode cL_law 179 = .ok (.iadd, 1) := by decide +kernel
theorem dL_law_180 : decode cL_law 180 = .ok (.iaload, 1) := by decide +kernel
theorem dL_law_181 : decode cL_law 181 = .ok (.invokevirtual 18, 3) := by decide +kernel
theorem dL_law_184 : decode cL_law 184 = .ok (.aload_n 2, 1) := by decide +kernel
theorem dL_law_185 : decode cL_law 185 = .ok (.aload_n 0, 1) := by decide +kernel
theorem dL_law_186 : decode cL_law 186 = .ok (.iload_n 3, 1) := by decide +kernel
theorem dL_law_187 : decode cL_law 187 = .ok (.iconst 1, 1) := by decide +kernel
theorem dL_law_188 : decode cL_law 188 = .ok (.iadd, 1) := by decide +kernel
theorem dL_law_189 : decode cL_law 189 = .ok (.iaload, 1) := by decide +kernel
theorem dL_law_190 : decode cL_law 190 = .ok (.invokevirtual 21, 3) := by decide +kernel
theorem dL_law_193 : decode cL_law 193 = .ok (.if_icmp .eq 587, 3) := by decide +kernel
theorem dL_law_196 : decode cL_law 196 = .ok (.iconst 0, 1) := by decide +kernel
theorem dL_law_197 : decode cL_law 197 = .ok (.ireturn, 1) := by decide +kernel
theorem dL_law_198 : decode cL_law 198 = .ok (.aload_n 1, 1) := by decide +kernel
theorem dL_law_199 : decode cL_law 199 = .ok (.aload_n 0, 1) := by decide +kernel
theorem dL_law_200 : decode cL_law 200 = .ok (.iload_n 3, 1) := by decide +kernel
theorem dL_law_201 : decode cL_law 201 = .ok (.iconst 1, 1) := by decide +kernel
theorem dL_law_202 : decode cL_law 202 = .ok (.iadd, 1) := by decide +kernel
theorem dL_law_203 : decode cL_law 203 = .ok (.iaload, 1) := by decide +kernel
theorem dL_law_204 : decode cL_law 204 = .ok (.aload_n 0, 1) := by decide +kernel
theorem dL_law_205 : decode cL_law 205 = .ok (.iload_n 3, 1) := by decide +kernel
theorem dL_law_206 : decode cL_law 206 = .ok (.iconst 2, 1) := by decide +kernel
theorem dL_law_207 : decode cL_law 207 = .ok (.iadd, 1) := by decide +kernel
theorem dL_law_208 : decode cL_law 208 = .ok (.iaload, 1) := by decide +kernel
theorem dL_law_209 : decode cL_law 209 = .ok (.aload_n 0, 1) := by decide +kernel
theorem dL_law_210 : decode cL_law 210 = .ok (.iload_n 3, 1) := by decide +kernel
theorem dL_law_211 : decode cL_law 211 = .ok (.iconst 3, 1) := by decide +kernel
theorem dL_law_212 : decode cL_law 212 = .ok (.iadd, 1) := by decide +kernel
theorem dL_law_213 : decode cL_law 213 = .ok (.iaload, 1) := by decide +kernel
theorem dL_law_214 : decode cL_law 214 = .ok (.aload_n 0, 1) := by decide +kernel
theorem dL_law_215 : decode cL_law 215 = .ok (.iload_n 3, 1) := by decide +kernel
theorem dL_law_216 : decode cL_law 216 = .ok (.iconst 4, 1) := by decide +kernel
theorem dL_law_217 : decode cL_law 217 = .ok (.iadd, 1) := by decide +kernel
theorem dL_law_218 : decode cL_law 218 = .ok (.iaload, 1) := by decide +kernel
theorem dL_law_219 : decode cL_law 219 = .ok (.invokevirtual 22, 3) := by decide +kernel
theorem dL_law_222 : decode cL_law 222 = .ok (.aload_n 2, 1) := by decide +kernel
theorem dL_law_223 : decode cL_law 223 = .ok (.aload_n 0, 1) := by decide +kernel
theorem dL_law_224 : decode cL_law 224 = .ok (.iload_n 3, 1) := by decide +kernel
theorem dL_law_225 : decode cL_law 225 = .ok (.iconst 1, 1) := by decide +kernel
theorem dL_law_226 : decode cL_law 226 = .ok (.iadd, 1) := by decide +kernel
theorem dL_law_227 : decode cL_law 227 = .ok (.iaload, 1) := by decide +kernel
theorem dL_law_228 : decode cL_law 228 = .ok (.aload_n 0, 1) := by decide +kernel
theorem dL_law_229 : decode cL_law 229 = .ok (.iload_n 3, 1) := by decide +kernel
theorem dL_law_230 : decode cL_law 230 = .ok (.iconst 2, 1) := by decide +kernel
theorem dL_law_231 : decode cL_law 231 = .ok (.iadd, 1) := by decide +kernel
theorem dL_law_232 : decode cL_law 232 = .ok (.iaload, 1) := by decide +kernel
theorem dL_law_233 : decode cL_law 233 = .ok (.aload_n 0, 1) := by decide +kernel
theorem dL_law_234 : decode cL_law 234 = .ok (.iload_n 3, 1) := by decide +kernel
theorem dL_law_235 : decode cL_law 235 = .ok (.iconst 3, 1) := by decide +kernel
theorem dL_law_236 : decode cL_law 236 = .ok (.iadd, 1) := by decide +kernel
theorem dL_law_237 : decode cL_law 237 = .ok (.iaload, 1) := by decide +kernel
theorem dL_law_238 : decode cL_law 238 = .ok (.aload_n 0, 1) := by decide +kernel
theorem dL_law_239 : decode cL_law 239 = .ok (.iload_n 3, 1) := by decide +kernel
theorem dL_law_240 : decode cL_law 240 = .ok (.iconst 4, 1) := by decide +kernel
theorem dL_law_241 : decode cL_law 241 = .ok (.iadd, 1) := by decide +kernel
theorem dL_law_242 : decode cL_law 242 = .ok (.iaload, 1) := by decide +kernel
theorem dL_law_243 : decode cL_law 243 = .ok (.invokevirtual 26, 3) := by decide +kernel
theorem dL_law_246 : decode cL_law 246 = .ok (.if_icmp .eq 534, 3) := by decide +kernel
theorem dL_law_249 : decode cL_law 249 = .ok (.iconst 0, 1) := by decide +kernel
theorem dL_law_250 : decode cL_law 250 = .ok (.ireturn, 1) := by decide +kernel
theorem dL_law_251 : decode cL_law 251 = .ok (.aload_n 1, 1) := by decide +kernel
theorem dL_law_252 : decode cL_law 252 = .ok (.aload_n 0, 1) := by decide +kernel
theorem dL_law_253 : decode cL_law 253 = .ok (.iload_n 3, 1) := by decide +kernel
theorem dL_law_254 : decode cL_law 254 = .ok (.iconst 1, 1) := by decide +kernel
theorem dL_law_255 : decode cL_law 255 = .ok (.iadd, 1) := by decide +kernel
theorem dL_law_256 : decode cL_law 256 = .ok (.iaload, 1) := by decide +kernel
theorem dL_law_257 : decode cL_law 257 = .ok (.aload_n 0, 1) := by decide +kernel
theorem dL_law_258 : decode cL_law 258 = .ok (.iload_n 3, 1) := by decide +kernel
theorem dL_law_259 : decode cL_law 259 = .ok (.iconst 2, 1) := by decide +kernel
theorem dL_law_260 : decode cL_law 260 = .ok (.iadd, 1) := by decide +kernel
theorem dL_law_261 : decode cL_law 261 = .ok (.iaload, 1) := by decide +kernel
theorem dL_law_262 : decode cL_law 262 = .ok (.invokevirtual 27, 3) := by decide +kernel
theorem dL_law_265 : decode cL_law 265 = .ok (.aload_n 2, 1) := by decide +kernel
theorem dL_law_266 : decode cL_law 266 = .ok (.aload_n 0, 1) := by decide +kernel
theorem dL_law_267 : decode cL_law 267 = .ok (.iload_n 3, 1) := by decide +kernel
theorem dL_law_268 : decode cL_law 268 = .ok (.iconst 1, 1) := by decide +kernel
theorem dL_law_269 : decode cL_law 269 = .ok (.iadd, 1) := by decide +kernel
theorem dL_law_270 : decode cL_law 270 = .ok (.iaload, 1) := by decide +kernel
theorem dL_law_271 : decode cL_law 271 = .ok (.aload_n 0, 1) := by decide +kernel
theorem dL_law_272 : decode cL_law 272 = .ok (.iload_n 3, 1) := by decide +kernel
theorem dL_law_273 : decode cL_law 273 = .ok (.iconst 2, 1) := by decide +kernel
theorem dL_law_274 : decode cL_law 274 = .ok (.iadd, 1) := by decide +kernel
theorem dL_law_275 : decode cL_law 275 = .ok (.iaload, 1) := by decide +kernel
theorem dL_law_276 : decode cL_law 276 = .ok (.invokevirtual 31, 3) := by decide +kernel
theorem dL_law_279 : decode cL_law 279 = .ok (.if_icmp .eq 501, 3) := by decide +kernel
theorem dL_law_282 : decode cL_law 282 = .ok (.iconst 0, 1) := by decide +kernel
theorem dL_law_283 : decode cL_law 283 = .ok (.ireturn, 1) := by decide +kernel
theorem dL_law_284 : decode cL_law 284 = .ok (.aload_n 1, 1) := by decide +kernel
theorem dL_law_285 : decode cL_law 285 = .ok (.aload_n 0, 1) := by decide +kernel
theorem dL_law_286 : decode cL_law 286 = .ok (.iload_n 3, 1) := by decide +kernel
theorem dL_law_287 : decode cL_law 287 = .ok (.iconst 1, 1) := by decide +kernel
theorem dL_law_288 : decode cL_law 288 = .ok (.iadd, 1) := by decide +kernel
theorem dL_law_289 : decode cL_law 289 = .ok (.iaload, 1) := by decide +kernel
theorem dL_law_290 : decode cL_law 290 = .ok (.aload_n 0, 1) := by decide +kernel
theorem dL_law_291 : decode cL_law 291 = .ok (.iload_n 3, 1) := by decide +kernel
theorem dL_law_292 : decode cL_law 292 = .ok (.iconst 2, 1) := by decide +kernel
theorem dL_law_293 : decode cL_law 293 = .ok (.iadd, 1) := by decide +kernel
theorem dL_law_294 : decode cL_law 294 = .ok (.iaload, 1) := by decide +kernel
theorem dL_law_295 : decode cL_law 295 = .ok (.invokevirtual 32, 3) := by decide +kernel
theorem dL_law_298 : decode cL_law 298 = .ok (.aload_n 2, 1) := by decide +kernel
theorem dL_law_299 : decode cL_law 299 = .ok (.aload_n 0, 1) := by decide +kernel
theorem dL_law_300 : decode cL_law 300 = .ok (.iload_n 3, 1) := by decide +kernel
theorem dL_law_301 : decode cL_law 301 = .ok (.iconst 1, 1) := by decide +kernel
theorem dL_law_302 : decode cL_law 302 = .ok (.iadd, 1) := by decide +kernel
theorem dL_law_303 : decode cL_law 303 = .ok (.iaload, 1) := by decide +kernel
theorem dL_law_304 : decode cL_law 304 = .ok (.aload_n 0, 1) := by decide +kernel
theorem dL_law_305 : decode cL_law 305 = .ok (.iload_n 3, 1) := by decide +kernel
theorem dL_law_306 : decode cL_law 306 = .ok (.iconst 2, 1) := by decide +kernel
theorem dL_law_307 : decode cL_law 307 = .ok (.iadd, 1) := by decide +kernel
theorem dL_law_308 : decode cL_law 308 = .ok (.iaload, 1) := by decide +kernel
theorem dL_law_309 : decode cL_law 309 = .ok (.invokevirtual 35, 3) := by decide +kernel
theorem dL_law_312 : decode cL_law 312 = .ok (.if_icmp .eq 468, 3) := by decide +kernel
theorem dL_law_315 : decode cL_law 315 = .ok (.iconst 0, 1) := by decide +kernel
theorem dL_law_316 : decode cL_law 316 = .ok (.ireturn, 1) := by decide +kernel
theorem dL_law_317 : decode cL_law 317 = .ok (.aload_n 1, 1) := by decide +kernel
theorem dL_law_318 : decode cL_law 318 = .ok (.aload_n 0, 1) := by decide +kernel
theorem dL_law_319 : decode cL_law 319 = .ok (.iload_n 3, 1) := by decide +kernel
theorem dL_law_320 : decode cL_law 320 = .ok (.iconst 1, 1) := by decide +kernel
theorem dL_law_321 : decode cL_law 321 = .ok (.iadd, 1) := by decide +kernel
theorem dL_law_322 : decode cL_law 322 = .ok (.iaload, 1) := by decide +kernel
theorem dL_law_323 : decode cL_law 323 = .ok (.invokevirtual 36, 3) := by decide +kernel
theorem dL_law_326 : decode cL_law 326 = .ok (.aload_n 2, 1) := by decide +kernel
theorem dL_law_327 : decode cL_law 327 = .ok (.aload_n 0, 1) := by decide +kernel
theorem dL_law_328 : decode cL_law 328 = .ok (.iload_n 3, 1) := by decide +kernel
theorem dL_law_329 : decode cL_law 329 = .ok (.iconst 1, 1) := by decide +kernel
theorem dL_law_330 : decode cL_law 330 = .ok (.iadd, 1) := by decide +kernel
theorem dL_law_331 : decode cL_law 331 = .ok (.iaload, 1) := by decide +kernel
theorem dL_law_332 : decode cL_law 332 = .ok (.invokevirtual 39, 3) := by decide +kernel
theorem dL_law_335 : decode cL_law 335 = .ok (.if_icmp .eq 445, 3) := by decide +kernel
theorem dL_law_338 : decode cL_law 338 = .ok (.iconst 0, 1) := by decide +kernel
theorem dL_law_339 : decode cL_law 339 = .ok (.ireturn, 1) := by decide +kernel
theorem dL_law_340 : decode cL_law 340 = .ok (.aload_n 1, 1) := by decide +kernel
theorem dL_law_341 : decode cL_law 341 = .ok (.aload_n 0, 1) := by decide +kernel
theorem dL_law_342 : decode cL_law 342 = .ok (.iload_n 3, 1) := by decide +kernel
theorem dL_law_343 : decode cL_law 343 = .ok (.iconst 1, 1) := by decide +kernel
theorem dL_law_344 : decode cL_law 344 = .ok (.iadd, 1) := by decide +kernel
theorem dL_law_345 : decode cL_law 345 = .ok (.iaload, 1) := by decide +kernel
theorem dL_law_346 : decode cL_law 346 = .ok (.aload_n 0, 1) := by decide +kernel
theorem dL_law_347 : decode cL_law 347 = .ok (.iload_n 3, 1) := by decide +kernel
theorem dL_law_348 : decode cL_law 348 = .ok (.iconst 2, 1) := by decide +kernel
theorem dL_law_349 : decode cL_law 349 = .ok (.iadd, 1) := by decide +kernel
theorem dL_law_350 : decode cL_law 350 = .ok (.iaload, 1) := by decide +kernel
theorem dL_law_351 : decode cL_law 351 = .ok (.invokevirtual 40, 3) := by decide +kernel
theorem dL_law_354 : decode cL_law 354 = .ok (.aload_n 2, 1) := by decide +kernel
theorem dL_law_355 : decode cL_law 355 = .ok (.aload_n 0, 1) := by decide +kernel
theorem dL_law_356 : decode cL_law 356 = .ok (.iload_n 3, 1) := by decide +kernel
theorem dL_law_357 : decode cL_law 357 = .ok (.iconst 1, 1) := by decide +kernel
theorem dL_law_358 : decode cL_law 358 = .ok (.iadd, 1) := by decide +kernel
theorem dL_law_359 : decode cL_law 359 = .ok (.iaload, 1) := by decide +kernel
theorem dL_law_360 : decode cL_law 360 = .ok (.aload_n 0, 1) := by decide +kernel
theorem dL_law_361 : decode cL_law 361 = .ok (.iload_n 3, 1) := by decide +kernel
theorem dL_law_362 : decode cL_law 362 = .ok (.iconst 2, 1) := by decide +kernel
theorem dL_law_363 : decode cL_law 363 = .ok (.iadd, 1) := by decide +kernel
theorem dL_law_364 : decode cL_law 364 = .ok (.iaload, 1) := by decide +kernel
theorem dL_law_365 : decode cL_law 365 = .ok (.invokevirtual 43, 3) := by decide +kernel
theorem dL_law_368 : decode cL_law 368 = .ok (.if_icmp .eq 412, 3) := by decide +kernel
theorem dL_law_371 : decode cL_law 371 = .ok (.iconst 0, 1) := by decide +kernel
theorem dL_law_372 : decode cL_law 372 = .ok (.ireturn, 1) := by decide +kernel
theorem dL_law_373 : decode cL_law 373 = .ok (.aload_n 1, 1) := by decide +kernel
theorem dL_law_374 : decode cL_law 374 = .ok (.aload_n 0, 1) := by decide +kernel
theorem dL_law_375 : decode cL_law 375 = .ok (.iload_n 3, 1) := by decide +kernel
theorem dL_law_376 : decode cL_law 376 = .ok (.iconst 1, 1) := by decide +kernel
theorem dL_law_377 : decode cL_law 377 = .ok (.iadd, 1) := by decide +kernel
theorem dL_law_378 : decode cL_law 378 = .ok (.iaload, 1) := by decide +kernel
theorem dL_law_379 : decode cL_law 379 = .ok (.invokevirtual 44, 3) := by decide +kernel
theorem dL_law_382 : decode cL_law 382 = .ok (.aload_n 2, 1) := by decide +kernel
theorem dL_law_383 : decode cL_law 383 = .ok (.aload_n 0, 1) := by decide +kernel
theorem dL_law_384 : decode cL_law 384 = .ok (.iload_n 3, 1) := by decide +kernel
theorem dL_law_385 : decode cL_law 385 = .ok (.iconst 1, 1) := by decide +kernel
theorem dL_law_386 : decode cL_law 386 = .ok (.iadd, 1) := by decide +kernel
theorem dL_law_387 : decode cL_law 387 = .ok (.iaload, 1) := by decide +kernel
theorem dL_law_388 : decode cL_law 388 = .ok (.invokevirtual 47, 3) := by decide +kernel
theorem dL_law_391 : decode cL_law 391 = .ok (.if_icmp .eq 389, 3) := by decide +kernel
theorem dL_law_394 : decode cL_law 394 = .ok (.iconst 0, 1) := by decide +kernel
theorem dL_law_395 : decode cL_law 395 = .ok (.ireturn, 1) := by decide +kernel
theorem dL_law_396 : decode cL_law 396 = .ok (.aload_n 1, 1) := by decide +kernel
theorem dL_law_397 : decode cL_law 397 = .ok (.aload_n 0, 1) := by decide +kernel
theorem dL_law_398 : decode cL_law 398 = .ok (.iload_n 3, 1) := by decide +kernel
theorem dL_law_399 : decode cL_law 399 = .ok (.iconst 1, 1) := by decide +kernel
theorem dL_law_400 : decode cL_law 400 = .ok (.iadd, 1) := by decide +kernel
theorem dL_law_401 : decode cL_law 401 = .ok (.iaload, 1) := by decide +kernel
theorem dL_law_402 : decode cL_law 402 = .ok (.aload_n 0, 1) := by decide +kernel
theorem dL_law_403 : decode cL_law 403 = .ok (.iload_n 3, 1) := by decide +kernel
theorem dL_law_404 : decode cL_law 404 = .ok (.iconst 2, 1) := by decide +kernel
theorem dL_law_405 : decode cL_law 405 = .ok (.iadd, 1) := by decide +kernel
theorem dL_law_406 : decode cL_law 406 = .ok (.iaload, 1) := by decide +kernel
theorem dL_law_407 : decode cL_law 407 = .ok (.invokevirtual 48, 3) := by decide +kernel
theorem dL_law_410 : decode cL_law 410 = .ok (.aload_n 2, 1) := by decide +kernel
theorem dL_law_411 : decode cL_law 411 = .ok (.aload_n 0, 1) := by decide +kernel
theorem dL_law_412 : decode cL_law 412 = .ok (.iload_n 3, 1) := by decide +kernel
theorem dL_law_413 : decode cL_law 413 = .ok (.iconst 1, 1) := by decide +kernel
theorem dL_law_414 : decode cL_law 414 = .ok (.iadd, 1) := by decide +kernel
theorem dL_law_415 : decode cL_law 415 = .ok (.iaload, 1) := by decide +kernel
theorem dL_law_416 : decode cL_law 416 = .ok (.aload_n 0, 1) := by decide +kernel
theorem dL_law_417 : decode cL_law 417 = .ok (.iload_n 3, 1) := by decide +kernel
theorem dL_law_418 : decode cL_law 418 = .ok (.iconst 2, 1) := by decide +kernel
theorem dL_law_419 : decode cL_law 419 = .ok (.iadd, 1) := by decide +kernel
theorem dL_law_420 : decode cL_law 420 = .ok (.iaload, 1) := by decide +kernel
theorem dL_law_421 : decode cL_law 421 = .ok (.invokevirtual 51, 3) := by decide +kernel
theorem dL_law_424 : decode cL_law 424 = .ok (.if_icmp .eq 356, 3) := by decide +kernel
theorem dL_law_427 : decode cL_law 427 = .ok (.iconst 0, 1) := by decide +kernel
theorem dL_law_428 : decode cL_law 428 = .ok (.ireturn, 1) := by decide +kernel
theorem dL_law_429 : decode cL_law 429 = .ok (.aload_n 1, 1) := by decide +kernel
theorem dL_law_430 : decode cL_law 430 = .ok (.aload_n 0, 1) := by decide +kernel
theorem dL_law_431 : decode cL_law 431 = .ok (.iload_n 3, 1) := by decide +kernel
theorem dL_law_432 : decode cL_law 432 = .ok (.iconst 1, 1) := by decide +kernel
theorem dL_law_433 : decode cL_law 433 = .ok (.iadd, 1) := by decide +kernel
theorem dL_law_434 : decode cL_law 434 = .ok (.iaload, 1) := by decide +kernel
theorem dL_law_435 : decode cL_law 435 = .ok (.invokevirtual 52, 3) := by decide +kernel
theorem dL_law_438 : decode cL_law 438 = .ok (.aload_n 2, 1) := by decide +kernel
theorem dL_law_439 : decode cL_law 439 = .ok (.aload_n 0, 1) := by decide +kernel
theorem dL_law_440 : decode cL_law 440 = .ok (.iload_n 3, 1) := by decide +kernel
theorem dL_law_441 : decode cL_law 441 = .ok (.iconst 1, 1) := by decide +kernel
theorem dL_law_442 : decode cL_law 442 = .ok (.iadd, 1) := by decide +kernel
theorem dL_law_443 : decode cL_law 443 = .ok (.iaload, 1) := by decide +kernel
theorem dL_law_444 : decode cL_law 444 = .ok (.invokevirtual 55, 3) := by decide +kernel
theorem dL_law_447 : decode cL_law 447 = .ok (.if_icmp .eq 333, 3) := by decide +kernel
theorem dL_law_450 : decode cL_law 450 = .ok (.iconst 0, 1) := by decide +kernel
theorem dL_law_451 : decode cL_law 451 = .ok (.ireturn, 1) := by decide +kernel
theorem dL_law_452 : decode cL_law 452 = .ok (.aload_n 1, 1) := by decide +kernel
theorem dL_law_453 : decode cL_law 453 = .ok (.invokevirtual 56, 3) := by decide +kernel
theorem dL_law_456 : decode cL_law 456 = .ok (.aload_n 2, 1) := by decide +kernel
theorem dL_law_457 : decode cL_law 457 = .ok (.invokevirtual 60, 3) := by decide +kernel
theorem dL_law_460 : decode cL_law 460 = .ok (.if_icmp .eq 320, 3) := by decide +kernel
theorem dL_law_463 : decode cL_law 463 = .ok (.iconst 0, 1) := by decide +kernel
theorem dL_law_464 : decode cL_law 464 = .ok (.ireturn, 1) := by decide +kernel
theorem dL_law_465 : decode cL_law 465 = .ok (.aload_n 1, 1) := by decide +kernel
theorem dL_law_466 : decode cL_law 466 = .ok (.invokevirtual 61, 3) := by decide +kernel
theorem dL_law_469 : decode cL_law 469 = .ok (.aload_n 2, 1) := by decide +kernel
theorem dL_law_470 : decode cL_law 470 = .ok (.invokevirtual 64, 3) := by decide +kernel
theorem dL_law_473 : decode cL_law 473 = .ok (.if_icmp .eq 307, 3) := by decide +kernel
theorem dL_law_476 : decode cL_law 476 = .ok (.iconst 0, 1) := by decide +kernel
theorem dL_law_477 : decode cL_law 477 = .ok (.ireturn, 1) := by decide +kernel
theorem dL_law_478 : decode cL_law 478 = .ok (.aload_n 1, 1) := by decide +kernel
theorem dL_law_479 : decode cL_law 479 = .ok (.aload_n 0, 1) := by decide +kernel
theorem dL_law_480 : decode cL_law 480 = .ok (.iload_n 3, 1) := by decide +kernel
theorem dL_law_481 : decode cL_law 481 = .ok (.iconst 1, 1) := by decide +kernel
theorem dL_law_482 : decode cL_law 482 = .ok (.iadd, 1) := by decide +kernel
theorem dL_law_483 : decode cL_law 483 = .ok (.iaload, 1) := by decide +kernel
theorem dL_law_484 : decode cL_law 484 = .ok (.invokevirtual 65, 3) := by decide +kernel
theorem dL_law_487 : decode cL_law 487 = .ok (.aload_n 2, 1) := by decide +kernel
theorem dL_law_488 : decode cL_law 488 = .ok (.aload_n 0, 1) := by decide +kernel
theorem dL_law_489 : decode cL_law 489 = .ok (.iload_n 3, 1) := by decide +kernel
theorem dL_law_490 : decode cL_law 490 = .ok (.iconst 1, 1) := by decide +kernel
theorem dL_law_491 : decode cL_law 491 = .ok (.iadd, 1) := by decide +kernel
theorem dL_law_492 : decode cL_law 492 = .ok (.iaload, 1) := by decide +kernel
theorem dL_law_493 : decode cL_law 493 = .ok (.invokevirtual 68, 3) := by decide +kernel
theorem dL_law_496 : decode cL_law 496 = .ok (.if_icmp .eq 284, 3) := by decide +kernel
theorem dL_law_499 : decode cL_law 499 = .ok (.iconst 0, 1) := by decide +kernel
theorem dL_law_500 : decode cL_law 500 = .ok (.ireturn, 1) := by decide +kernel
theorem dL_law_501 : decode cL_law 501 = .ok (.aload_n 1, 1) := by decide +kernel
theorem dL_law_502 : decode cL_law 502 = .ok (.invokevirtual 69, 3) := by decide +kernel
theorem dL_law_505 : decode cL_law 505 = .ok (.aload_n 2, 1) := by decide +kernel
theorem dL_law_506 : decode cL_law 506 = .ok (.invokevirtual 72, 3) := by decide +kernel
theorem dL_law_509 : decode cL_law 509 = .ok (.if_icmp .eq 271, 3) := by decide +kernel
theorem dL_law_512 : decode cL_law 512 = .ok (.iconst 0, 1) := by decide +kernel
theorem dL_law_513 : decode cL_law 513 = .ok (.ireturn, 1) := by decide +kernel
theorem dL_law_514 : decode cL_law 514 = .ok (.aload_n 1, 1) := by decide +kernel
theorem dL_law_515 : decode cL_law 515 = .ok (.invokevirtual 73, 3) := by decide +kernel
theorem dL_law_518 : decode cL_law 518 = .ok (.aload_n 2, 1) := by decide +kernel
theorem dL_law_519 : decode cL_law 519 = .ok (.invokevirtual 76, 3) := by decide +kernel
theorem dL_law_522 : decode cL_law 522 = .ok (.if_icmp .eq 258, 3) := by decide +kernel
theorem dL_law_525 : decode cL_law 525 = .ok (.iconst 0, 1) := by decide +kernel
theorem dL_law_526 : decode cL_law 526 = .ok (.ireturn, 1) := by decide +kernel
theorem dL_law_527 : decode cL_law 527 = .ok (.aload_n 1, 1) := by decide +kernel
theorem dL_law_528 : decode cL_law 528 = .ok (.aload_n 0, 1) := by decide +kernel
theorem dL_law_529 : decode cL_law 529 = .ok (.iload_n 3, 1) := by decide +kernel
theorem dL_law_530 : decode cL_law 530 = .ok (.iconst 1, 1) := by decide +kernel
theorem dL_law_531 : decode cL_law 531 = .ok (.iadd, 1) := by decide +kernel
theorem dL_law_532 : decode cL_law 532 = .ok (.iaload, 1) := by decide +kernel
theorem dL_law_533 : decode cL_law 533 = .ok (.invokevirtual 77, 3) := by decide +kernel
theorem dL_law_536 : decode cL_law 536 = .ok (.aload_n 2, 1) := by decide +kernel
theorem dL_law_537 : decode cL_law 537 = .ok (.aload_n 0, 1) := by decide +kernel
theorem dL_law_538 : decode cL_law 538 = .ok (.iload_n 3, 1) := by decide +kernel
theorem dL_law_539 : decode cL_law 539 = .ok (.iconst 1, 1) := by decide +kernel
theorem dL_law_540 : decode cL_law 540 = .ok (.iadd, 1) := by decide +kernel
theorem dL_law_541 : decode cL_law 541 = .ok (.iaload, 1) := by decide +kernel
theorem dL_law_542 : decode cL_law 542 = .ok (.invokevirtual 80, 3) := by decide +kernel
theorem dL_law_545 : decode cL_law 545 = .ok (.if_icmp .eq 235, 3) := by decide +kernel
theorem dL_law_548 : decode cL_law 548 = .ok (.iconst 0, 1) := by decide +kernel
theorem dL_law_549 : decode cL_law 549 = .ok (.ireturn, 1) := by decide +kernel
theorem dL_law_550 : decode cL_law 550 = .ok (.aload_n 1, 1) := by decide +kernel
theorem dL_law_551 : decode cL_law 551 = .ok (.invokevirtual 81, 3) := by decide +kernel
theorem dL_law_554 : decode cL_law 554 = .ok (.aload_n 2, 1) := by decide +kernel
theorem dL_law_555 : decode cL_law 555 = .ok (.invokevirtual 84, 3) := by decide +kernel
theorem dL_law_558 : decode cL_law 558 = .ok (.if_icmp .eq 222, 3) := by decide +kernel
theorem dL_law_561 : decode cL_law 561 = .ok (.iconst 0, 1) := by decide +kernel
theorem dL_law_562 : decode cL_law 562 = .ok (.ireturn, 1) := by decide +kernel
theorem dL_law_563 : decode cL_law 563 = .ok (.aload_n 1, 1) := by decide +kernel
theorem dL_law_564 : decode cL_law 564 = .ok (.aload_n 0, 1) := by decide +kernel
theorem dL_law_565 : decode cL_law 565 = .ok (.iload_n 3, 1) := by decide +kernel
theorem dL_law_566 : decode cL_law 566 = .ok (.iconst 1, 1) := by decide +kernel
theorem dL_law_567 : decode cL_law 567 = .ok (.iadd, 1) := by decide +kernel
theorem dL_law_568 : decode cL_law 568 = .ok (.iaload, 1) := by decide +kernel
theorem dL_law_569 : decode cL_law 569 = .ok (.invokevirtual 85, 3) := by decide +kernel
theorem dL_law_572 : decode cL_law 572 = .ok (.aload_n 2, 1) := by decide +kernel
theorem dL_law_573 : decode cL_law 573 = .ok (.aload_n 0, 1) := by decide +kernel
theorem dL_law_574 : decode cL_law 574 = .ok (.iload_n 3, 1) := by decide +kernel
theorem dL_law_575 : decode cL_law 575 = .ok (.iconst 1, 1) := by decide +kernel
theorem dL_law_576 : decode cL_law 576 = .ok (.iadd, 1) := by decide +kernel
theorem dL_law_577 : decode cL_law 577 = .ok (.iaload, 1) := by decide +kernel
theorem dL_law_578 : decode cL_law 578 = .ok (.invokevirtual 88, 3) := by decide +kernel
theorem dL_law_581 : decode cL_law 581 = .ok (.if_icmp .eq 199, 3) := by decide +kernel
theorem dL_law_584 : decode cL_law 584 = .ok (.iconst 0, 1) := by decide +kernel
theorem dL_law_585 : decode cL_law 585 = .ok (.ireturn, 1) := by decide +kernel
theorem dL_law_586 : decode cL_law 586 = .ok (.aload_n 1, 1) := by decide +kernel
theorem dL_law_587 : decode cL_law 587 = .ok (.aload_n 0, 1) := by decide +kernel
theorem dL_law_588 : decode cL_law 588 = .ok (.iload_n 3, 1) := by decide +kernel
theorem dL_law_589 : decode cL_law 589 = .ok (.iconst 1, 1) := by decide +kernel
theorem dL_law_590 : decode cL_law 590 = .ok (.iadd, 1) := by decide +kernel
theorem dL_law_591 : decode cL_law 591 = .ok (.iaload, 1) := by decide +kernel
theorem dL_law_592 : decode cL_law 592 = .ok (.invokevirtual 89, 3) := by decide +kernel
theorem dL_law_595 : decode cL_law 595 = .ok (.aload_n 2, 1) := by decide +kernel
theorem dL_law_596 : decode cL_law 596 = .ok (.aload_n 0, 1) := by decide +kernel
theorem dL_law_597 : decode cL_law 597 = .ok (.iload_n 3, 1) := by decide +kernel
theorem dL_law_598 : decode cL_law 598 = .ok (.iconst 1, 1) := by decide +kernel
theorem dL_law_599 : decode cL_law 599 = .ok (.iadd, 1) := by decide +kernel
theorem dL_law_600 : decode cL_law 600 = .ok (.iaload, 1) := by decide +kernel
theorem dL_law_601 : decode cL_law 601 = .ok (.invokevirtual 92, 3) := by decide +kernel
theorem dL_law_604 : decode cL_law 604 = .ok (.if_icmp .eq 176, 3) := by decide +kernel
theorem dL_law_607 : decode cL_law 607 = .ok (.iconst 0, 1) := by decide +kernel
theorem dL_law_608 : decode cL_law 608 = .ok (.ireturn, 1) := by decide +kernel
theorem dL_law_609 : decode cL_law 609 = .ok (.aload_n 1, 1) := by decide +kernel
theorem dL_law_610 : decode cL_law 610 = .ok (.aload_n 0, 1) := by decide +kernel
theorem dL_law_611 : decode cL_law 611 = .ok (.iload_n 3, 1) := by decide +kernel
theorem dL_law_612 : decode cL_law 612 = .ok (.iconst 1, 1) := by decide +kernel
theorem dL_law_613 : decode cL_law 613 = .ok (.iadd, 1) := by decide +kernel
theorem dL_law_614 : decode cL_law 614 = .ok (.iaload, 1) := by decide +kernel
theorem dL_law_615 : decode cL_law 615 = .ok (.invokevirtual 93, 3) := by decide +kernel
theorem dL_law_618 : decode cL_law 618 = .ok (.aload_n 2, 1) := by decide +kernel
theorem dL_law_619 : decode cL_law 619 = .ok (.aload_n 0, 1) := by decide +kernel
theorem dL_law_620 : decode cL_law 620 = .ok (.iload_n 3, 1) := by decide +kernel
theorem dL_law_621 : decode cL_law 621 = .ok (.iconst 1, 1) := by decide +kernel
theorem dL_law_622 : decode cL_law 622 = .ok (.iadd, 1) := by decide +kernel
theorem dL_law_623 : decode cL_law 623 = .ok (.iaload, 1) := by decide +kernel
theorem dL_law_624 : decode cL_law 624 = .ok (.invokevirtual 96, 3) := by decide +kernel
theorem dL_law_627 : decode cL_law 627 = .ok (.if_icmp .eq 153, 3) := by decide +kernel
theorem dL_law_630 : decode cL_law 630 = .ok (.iconst 0, 1) := by decide +kernel
theorem dL_law_631 : decode cL_law 631 = .ok (.ireturn, 1) := by decide +kernel
theorem dL_law_632 : decode cL_law 632 = .ok (.aload_n 1, 1) := by decide +kernel
theorem dL_law_633 : decode cL_law 633 = .ok (.aload_n 0, 1) := by decide +kernel
theorem dL_law_634 : decode cL_law 634 = .ok (.iload_n 3, 1) := by decide +kernel
theorem dL_law_635 : decode cL_law 635 = .ok (.iconst 1, 1) := by decide +kernel
theorem dL_law_636 : decode cL_law 636 = .ok (.iadd, 1) := by decide +kernel
theorem dL_law_637 : decode cL_law 637 = .ok (.iaload, 1) := by decide +kernel
theorem dL_law_638 : decode cL_law 638 = .ok (.invokevirtual 97, 3) := by decide +kernel
theorem dL_law_641 : decode cL_law 641 = .ok (.aload_n 2, 1) := by decide +kernel
theorem dL_law_642 : decode cL_law 642 = .ok (.aload_n 0, 1) := by decide +kernel
theorem dL_law_643 : decode cL_law 643 = .ok (.iload_n 3, 1) := by decide +kernel
theorem dL_law_644 : decode cL_law 644 = .ok (.iconst 1, 1) := by decide +kernel
theorem dL_law_645 : decode cL_law 645 = .ok (.iadd, 1) := by decide +kernel
theorem dL_law_646 : decode cL_law 646 = .ok (.iaload, 1) := by decide +kernel
theorem dL_law_647 : decode cL_law 647 = .ok (.invokevirtual 100, 3) := by decide +kernel
theorem dL_law_650 : decode cL_law 650 = .ok (.if_icmp .eq 130, 3) := by decide +kernel
theorem dL_law_653 : decode cL_law 653 = .ok (.iconst 0, 1) := by decide +kernel
theorem dL_law_654 : decode cL_law 654 = .ok (.ireturn, 1) := by decide +kernel
theorem dL_law_655 : decode cL_law 655 = .ok (.aload_n 1, 1) := by decide +kernel
theorem dL_law_656 : decode cL_law 656 = .ok (.aload_n 0, 1) := by decide +kernel
theorem dL_law_657 : decode cL_law 657 = .ok (.iload_n 3, 1) := by decide +kernel
theorem dL_law_658 : decode cL_law 658 = .ok (.iconst 1, 1) := by decide +kernel
theorem dL_law_659 : decode cL_law 659 = .ok (.iadd, 1) := by decide +kernel
theorem dL_law_660 : decode cL_law 660 = .ok (.iaload, 1) := by decide +kernel
theorem dL_law_661 : decode cL_law 661 = .ok (.aload_n 0, 1) := by decide +kernel
theorem dL_law_662 : decode cL_law 662 = .ok (.iload_n 3, 1) := by decide +kernel
theorem dL_law_663 : decode cL_law 663 = .ok (.iconst 2, 1) := by decide +kernel
theorem dL_law_664 : decode cL_law 664 = .ok (.iadd, 1) := by decide +kernel
theorem dL_law_665 : decode cL_law 665 = .ok (.iaload, 1) := by decide +kernel
theorem dL_law_666 : decode cL_law 666 = .ok (.invokevirtual 101, 3) := by decide +kernel
theorem dL_law_669 : decode cL_law 669 = .ok (.aload_n 2, 1) := by decide +kernel
theorem dL_law_670 : decode cL_law 670 = .ok (.aload_n 0, 1) := by decide +kernel
theorem dL_law_671 : decode cL_law 671 = .ok (.iload_n 3, 1) := by decide +kernel
theorem dL_law_672 : decode cL_law 672 = .ok (.iconst 1, 1) := by decide +kernel
theorem dL_law_673 : decode cL_law 673 = .ok (.iadd, 1) := by decide +kernel
theorem dL_law_674 : decode cL_law 674 = .ok (.iaload, 1) := by decide +kernel
theorem dL_law_675 : decode cL_law 675 = .ok (.aload_n 0, 1) := by decide +kernel
theorem dL_law_676 : decode cL_law 676 = .ok (.iload_n 3, 1) := by decide +kernel
theorem dL_law_677 : decode cL_law 677 = .ok (.iconst 2, 1) := by decide +kernel
theorem dL_law_678 : decode cL_law 678 = .ok (.iadd, 1) := by decide +kernel
theorem dL_law_679 : decode cL_law 679 = .ok (.iaload, 1) := by decide +kernel
theorem dL_law_680 : decode cL_law 680 = .ok (.invokevirtual 104, 3) := by decide +kernel
theorem dL_law_683 : decode cL_law 683 = .ok (.if_icmp .eq 97, 3) := by decide +kernel
theorem dL_law_686 : decode cL_law 686 = .ok (.iconst 0, 1) := by decide +kernel
theorem dL_law_687 : decode cL_law 687 = .ok (.ireturn, 1) := by decide +kernel
theorem dL_law_688 : decode cL_law 688 = .ok (.aload_n 1, 1) := by decide +kernel
theorem dL_law_689 : decode cL_law 689 = .ok (.aload_n 0, 1) := by decide +kernel
theorem dL_law_690 : decode cL_law 690 = .ok (.iload_n 3, 1) := by decide +kernel
theorem dL_law_691 : decode cL_law 691 = .ok (.iconst 1, 1) := by decide +kernel
theorem dL_law_692 : decode cL_law 692 = .ok (.iadd, 1) := by decide +kernel
theorem dL_law_693 : decode cL_law 693 = .ok (.iaload, 1) := by decide +kernel
theorem dL_law_694 : decode cL_law 694 = .ok (.invokevirtual 105, 3) := by decide +kernel
theorem dL_law_697 : decode cL_law 697 = .ok (.aload_n 2, 1) := by decide +kernel
theorem dL_law_698 : decode cL_law 698 = .ok (.aload_n 0, 1) := by decide +kernel
theorem dL_law_699 : decode cL_law 699 = .ok (.iload_n 3, 1) := by decide +kernel
theorem dL_law_700 : decode cL_law 700 = .ok (.iconst 1, 1) := by decide +kernel
theorem dL_law_701 : decode cL_law 701 = .ok (.iadd, 1) := by decide +kernel
theorem dL_law_702 : decode cL_law 702 = .ok (.iaload, 1) := by decide +kernel
theorem dL_law_703 : decode cL_law 703 = .ok (.invokevirtual 108, 3) := by decide +kernel
theorem dL_law_706 : decode cL_law 706 = .ok (.if_icmp .eq 74, 3) := by decide +kernel
theorem dL_law_709 : decode cL_law 709 = .ok (.iconst 0, 1) := by decide +kernel
theorem dL_law_710 : decode cL_law 710 = .ok (.ireturn, 1) := by decide +kernel
theorem dL_law_711 : decode cL_law 711 = .ok (.aload_n 1, 1) := by decide +kernel
theorem dL_law_712 : decode cL_law 712 = .ok (.aload_n 0, 1) := by decide +kernel
theorem dL_law_713 : decode cL_law 713 = .ok (.iload_n 3, 1) := by decide +kernel
theorem dL_law_714 : decode cL_law 714 = .ok (.iconst 1, 1) := by decide +kernel
theorem dL_law_715 : decode cL_law 715 = .ok (.iadd, 1) := by decide +kernel
theorem dL_law_716 : decode cL_law 716 = .ok (.iaload, 1) := by decide +kernel
theorem dL_law_717 : decode cL_law 717 = .ok (.invokevirtual 109, 3) := by decide +kernel
theorem dL_law_720 : decode cL_law 720 = .ok (.aload_n 2, 1) := by decide +kernel
theorem dL_law_721 : decode cL_law 721 = .ok (.aload_n 0, 1) := by decide +kernel
theorem dL_law_722 : decode cL_law 722 = .ok (.iload_n 3, 1) := by decide +kernel
theorem dL_law_723 : decode cL_law 723 = .ok (.iconst 1, 1) := by decide +kernel
theorem dL_law_724 : decode cL_law 724 = .ok (.iadd, 1) := by decide +kernel
theorem dL_law_725 : decode cL_law 725 = .ok (.iaload, 1) := by decide +kernel
theorem dL_law_726 : decode cL_law 726 = .ok (.invokevirtual 112, 3) := by decide +kernel
theorem dL_law_729 : decode cL_law 729 = .ok (.if_icmp .eq 51, 3) := by decide +kernel
theorem dL_law_732 : decode cL_law 732 = .ok (.iconst 0, 1) := by decide +kernel
theorem dL_law_733 : decode cL_law 733 = .ok (.ireturn, 1) := by decide +kernel
theorem dL_law_734 : decode cL_law 734 = .ok (.aload_n 1, 1) := by decide +kernel
theorem dL_law_735 : decode cL_law 735 = .ok (.aload_n 0, 1) := by decide +kernel
theorem dL_law_736 : decode cL_law 736 = .ok (.iload_n 3, 1) := by decide +kernel
theorem dL_law_737 : decode cL_law 737 = .ok (.iconst 1, 1) := by decide +kernel
theorem dL_law_738 : decode cL_law 738 = .ok (.iadd, 1) := by decide +kernel
theorem dL_law_739 : decode cL_law 739 = .ok (.iaload, 1) := by decide +kernel
theorem dL_law_740 : decode cL_law 740 = .ok (.invokevirtual 113, 3) := by decide +kernel
theorem dL_law_743 : decode cL_law 743 = .ok (.aload_n 2, 1) := by decide +kernel
theorem dL_law_744 : decode cL_law 744 = .ok (.aload_n 0, 1) := by decide +kernel
theorem dL_law_745 : decode cL_law 745 = .ok (.iload_n 3, 1) := by decide +kernel
theorem dL_law_746 : decode cL_law 746 = .ok (.iconst 1, 1) := by decide +kernel
theorem dL_law_747 : decode cL_law 747 = .ok (.iadd, 1) := by decide +kernel
theorem dL_law_748 : decode cL_law 748 = .ok (.iaload, 1) := by decide +kernel
theorem dL_law_749 : decode cL_law 749 = .ok (.invokevirtual 116, 3) := by decide +kernel
theorem dL_law_752 : decode cL_law 752 = .ok (.if_icmp .eq 28, 3) := by decide +kernel
theorem dL_law_755 : decode cL_law 755 = .ok (.iconst 0, 1) := by decide +kernel
theorem dL_law_756 : decode cL_law 756 = .ok (.ireturn, 1) := by decide +kernel
theorem dL_law_757 : decode cL_law 757 = .ok (.aload_n 1, 1) := by decide +kernel
theorem dL_law_758 : decode cL_law 758 = .ok (.aload_n 0, 1) := by decide +kernel
theorem dL_law_759 : decode cL_law 759 = .ok (.iload_n 3, 1) := by decide +kernel
theorem dL_law_760 : decode cL_law 760 = .ok (.iconst 1, 1) := by decide +kernel
theorem dL_law_761 : decode cL_law 761 = .ok (.iadd, 1) := by decide +kernel
theorem dL_law_762 : decode cL_law 762 = .ok (.iaload, 1) := by decide +kernel
theorem dL_law_763 : decode cL_law 763 = .ok (.invokevirtual 117, 3) := by decide +kernel
theorem dL_law_766 : decode cL_law 766 = .ok (.aload_n 2, 1) := by decide +kernel
theorem dL_law_767 : decode cL_law 767 = .ok (.aload_n 0, 1) := by decide +kernel
theorem dL_law_768 : decode cL_law 768 = .ok (.iload_n 3, 1) := by decide +kernel
theorem dL_law_769 : decode cL_law 769 = .ok (.iconst 1, 1) := by decide +kernel
theorem dL_law_770 : decode cL_law 770 = .ok (.iadd, 1) := by decide +kernel
theorem dL_law_771 : decode cL_law 771 = .ok (.iaload, 1) := by decide +kernel
theorem dL_law_772 : decode cL_law 772 = .ok (.invokevirtual 120, 3) := by decide +kernel
theorem dL_law_775 : decode cL_law 775 = .ok (.if_icmp .eq 5, 3) := by decide +kernel
theorem dL_law_778 : decode cL_law 778 = .ok (.iconst 0, 1) := by decide +kernel
theorem dL_law_779 : decode cL_law 779 = .ok (.ireturn, 1) := by decide +kernel
theorem dL_law_780 : decode cL_law 780 = .ok (.iinc 3 5, 3) := by decide +kernel
theorem dL_law_783 : decode cL_law 783 = .ok (.goto (-765), 3) := by decide +kernel
theorem dL_law_786 : decode cL_law 786 = .ok (.iconst 1, 1) := by decide +kernel
theorem dL_law_787 : decode cL_law 787 = .ok (.ireturn, 1) := by decide +kernel
