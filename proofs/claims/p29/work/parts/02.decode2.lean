theorem dX9_charge_48 : decode cX9_charge 48 = .ok (.getfield 20, 3) := by decide +kernel
theorem dX9_charge_51 : decode cX9_charge 51 = .ok (.getfield 162, 3) := by decide +kernel
theorem dX9_charge_54 : decode cX9_charge 54 = .ok (.ireturn, 1) := by decide +kernel
theorem dX9_drop_0 : decode cX9_drop 0 = .ok (.aload_n 0, 1) := by decide +kernel
theorem dX9_drop_1 : decode cX9_drop 1 = .ok (.getfield 20, 3) := by decide +kernel
theorem dX9_drop_4 : decode cX9_drop 4 = .ok (.getfield 156, 3) := by decide +kernel
theorem dX9_drop_7 : decode cX9_drop 7 = .ok (.iconst 1, 1) := by decide +kernel
theorem dX9_drop_8 : decode cX9_drop 8 = .ok (.if_icmp .eq 6, 3) := by decide +kernel
theorem dX9_drop_11 : decode cX9_drop 11 = .ok (.ldc 129, 2) := by decide +kernel
theorem dX9_drop_13 : decode cX9_drop 13 = .ok (.ireturn, 1) := by decide +kernel
theorem dX9_drop_14 : decode cX9_drop 14 = .ok (.aload_n 0, 1) := by decide +kernel
theorem dX9_drop_15 : decode cX9_drop 15 = .ok (.getfield 45, 3) := by decide +kernel
theorem dX9_drop_18 : decode cX9_drop 18 = .ok (.aload_n 0, 1) := by decide +kernel
theorem dX9_drop_19 : decode cX9_drop 19 = .ok (.getfield 10, 3) := by decide +kernel
theorem dX9_drop_22 : decode cX9_drop 22 = .ok (.invokevirtual 78, 3) := by decide +kernel
theorem dX9_drop_25 : decode cX9_drop 25 = .ok (.aload_n 0, 1) := by decide +kernel
theorem dX9_drop_26 : decode cX9_drop 26 = .ok (.getfield 20, 3) := by decide +kernel
theorem dX9_drop_29 : decode cX9_drop 29 = .ok (.iconst 2, 1) := by decide +kernel
theorem dX9_drop_30 : decode cX9_drop 30 = .ok (.putfield 156, 3) := by decide +kernel
theorem dX9_drop_33 : decode cX9_drop 33 = .ok (.aload_n 0, 1) := by decide +kernel
theorem dX9_drop_34 : decode cX9_drop 34 = .ok (.getfield 41, 3) := by decide +kernel
theorem dX9_drop_37 : decode cX9_drop 37 = .ok (.aload_n 0, 1) := by decide +kernel
theorem dX9_drop_38 : decode cX9_drop 38 = .ok (.getfield 20, 3) := by decide +kernel
theorem dX9_drop_41 : decode cX9_drop 41 = .ok (.getfield 165, 3) := by decide +kernel
theorem dX9_drop_44 : decode cX9_drop 44 = .ok (.invokevirtual 169, 3) := by decide +kernel
theorem dX9_drop_47 : decode cX9_drop 47 = .ok (.aload_n 0, 1) := by decide +kernel
theorem dX9_drop_48 : decode cX9_drop 48 = .ok (.getfield 27, 3) := by decide +kernel
theorem dX9_drop_51 : decode cX9_drop 51 = .ok (.aload_n 0, 1) := by decide +kernel
theorem dX9_drop_52 : decode cX9_drop 52 = .ok (.getfield 27, 3) := by decide +kernel
theorem dX9_drop_55 : decode cX9_drop 55 = .ok (.getfield 103, 3) := by decide +kernel
theorem dX9_drop_58 : decode cX9_drop 58 = .ok (.aload_n 0, 1) := by decide +kernel
theorem dX9_drop_59 : decode cX9_drop 59 = .ok (.getfield 27, 3) := by decide +kernel
theorem dX9_drop_62 : decode cX9_drop 62 = .ok (.getfield 106, 3) := by decide +kernel
theorem dX9_drop_65 : decode cX9_drop 65 = .ok (.iadd, 1) := by decide +kernel
theorem dX9_drop_66 : decode cX9_drop 66 = .ok (.bipush 60, 2) := by decide +kernel
theorem dX9_drop_68 : decode cX9_drop 68 = .ok (.invokestatic 175, 3) := by decide +kernel
theorem dX9_drop_71 : decode cX9_drop 71 = .ok (.putfield 103, 3) := by decide +kernel
theorem dX9_drop_74 : decode cX9_drop 74 = .ok (.aload_n 0, 1) := by decide +kernel
theorem dX9_drop_75 : decode cX9_drop 75 = .ok (.getfield 20, 3) := by decide +kernel
theorem dX9_drop_78 : decode cX9_drop 78 = .ok (.getfield 165, 3) := by decide +kernel
theorem dX9_drop_81 : decode cX9_drop 81 = .ok (.getfield 181, 3) := by decide +kernel
theorem dX9_drop_84 : decode cX9_drop 84 = .ok (.ireturn, 1) := by decide +kernel
theorem dX9_takeAway_0 : decode cX9_takeAway 0 = .ok (.aload_n 0, 1) := by decide +kernel
theorem dX9_takeAway_1 : decode cX9_takeAway 1 = .ok (.getfield 20, 3) := by decide +kernel
theorem dX9_takeAway_4 : decode cX9_takeAway 4 = .ok (.getfield 156, 3) := by decide +kernel
theorem dX9_takeAway_7 : decode cX9_takeAway 7 = .ok (.iconst 2, 1) := by decide +kernel
theorem dX9_takeAway_8 : decode cX9_takeAway 8 = .ok (.if_icmp .ne 27, 3) := by decide +kernel
theorem dX9_takeAway_11 : decode cX9_takeAway 11 = .ok (.aload_n 0, 1) := by decide +kernel
theorem dX9_takeAway_12 : decode cX9_takeAway 12 = .ok (.getfield 20, 3) := by decide +kernel
theorem dX9_takeAway_15 : decode cX9_takeAway 15 = .ok (.getfield 165, 3) := by decide +kernel
theorem dX9_takeAway_18 : decode cX9_takeAway 18 = .ok (.getfield 186, 3) := by decide +kernel
theorem dX9_takeAway_21 : decode cX9_takeAway 21 = .ok (.aload_n 0, 1) := by decide +kernel
theorem dX9_takeAway_22 : decode cX9_takeAway 22 = .ok (.getfield 27, 3) := by decide +kernel
theorem dX9_takeAway_25 : decode cX9_takeAway 25 = .ok (.getfield 82, 3) := by decide +kernel
theorem dX9_takeAway_28 : decode cX9_takeAway 28 = .ok (.isub, 1) := by decide +kernel
theorem dX9_takeAway_29 : decode cX9_takeAway 29 = .ok (.sipush 150, 3) := by decide +kernel
theorem dX9_takeAway_32 : decode cX9_takeAway 32 = .ok (.if_icmp .le 6, 3) := by decide +kernel
theorem dX9_takeAway_35 : decode cX9_takeAway 35 = .ok (.ldc 129, 2) := by decide +kernel
theorem dX9_takeAway_37 : decode cX9_takeAway 37 = .ok (.ireturn, 1) := by decide +kernel
theorem dX9_takeAway_38 : decode cX9_takeAway 38 = .ok (.aload_n 0, 1) := by decide +kernel
theorem dX9_takeAway_39 : decode cX9_takeAway 39 = .ok (.getfield 45, 3) := by decide +kernel
theorem dX9_takeAway_42 : decode cX9_takeAway 42 = .ok (.aload_n 0, 1) := by decide +kernel
theorem dX9_takeAway_43 : decode cX9_takeAway 43 = .ok (.getfield 10, 3) := by decide +kernel
theorem dX9_takeAway_46 : decode cX9_takeAway 46 = .ok (.invokevirtual 78, 3) := by decide +kernel
theorem dX9_takeAway_49 : decode cX9_takeAway 49 = .ok (.aload_n 0, 1) := by decide +kernel
theorem dX9_takeAway_50 : decode cX9_takeAway 50 = .ok (.getfield 20, 3) := by decide +kernel
theorem dX9_takeAway_53 : decode cX9_takeAway 53 = .ok (.iconst 0, 1) := by decide +kernel
theorem dX9_takeAway_54 : decode cX9_takeAway 54 = .ok (.putfield 156, 3) := by decide +kernel
theorem dX9_takeAway_57 : decode cX9_takeAway 57 = .ok (.aload_n 0, 1) := by decide +kernel
theorem dX9_takeAway_58 : decode cX9_takeAway 58 = .ok (.getfield 20, 3) := by decide +kernel
theorem dX9_takeAway_61 : decode cX9_takeAway 61 = .ok (.getfield 165, 3) := by decide +kernel
theorem dX9_takeAway_64 : decode cX9_takeAway 64 = .ok (.getfield 186, 3) := by decide +kernel
theorem dX9_takeAway_67 : decode cX9_takeAway 67 = .ok (.ireturn, 1) := by decide +kernel
theorem dX9_run_0 : decode cX9_run 0 = .ok (.iload_n 1, 1) := by decide +kernel
theorem dX9_run_1 : decode cX9_run 1 = .ok (.iconst 1, 1) := by decide +kernel
theorem dX9_run_2 : decode cX9_run 2 = .ok (.sipush 200, 3) := by decide +kernel
theorem dX9_run_5 : decode cX9_run 5 = .ok (.invokestatic 73, 3) := by decide +kernel
theorem dX9_run_8 : decode cX9_run 8 = .ok (.ifCond .ne 6, 3) := by decide +kernel
theorem dX9_run_11 : decode cX9_run 11 = .ok (.ldc 77, 2) := by decide +kernel
theorem dX9_run_13 : decode cX9_run 13 = .ok (.ireturn, 1) := by decide +kernel
theorem dX9_run_14 : decode cX9_run 14 = .ok (.aload_n 0, 1) := by decide +kernel
theorem dX9_run_15 : decode cX9_run 15 = .ok (.getfield 20, 3) := by decide +kernel
theorem dX9_run_18 : decode cX9_run 18 = .ok (.getfield 189, 3) := by decide +kernel
theorem dX9_run_21 : decode cX9_run 21 = .ok (.iload_n 1, 1) := by decide +kernel
theorem dX9_run_22 : decode cX9_run 22 = .ok (.iadd, 1) := by decide +kernel
theorem dX9_run_23 : decode cX9_run 23 = .ok (.sipush 10000, 3) := by decide +kernel
theorem dX9_run_26 : decode cX9_run 26 = .ok (.if_icmp .le 6, 3) := by decide +kernel
theorem dX9_run_29 : decode cX9_run 29 = .ok (.ldc 122, 2) := by decide +kernel
theorem dX9_run_31 : decode cX9_run 31 = .ok (.ireturn, 1) := by decide +kernel
theorem dX9_run_32 : decode cX9_run 32 = .ok (.aload_n 0, 1) := by decide +kernel
theorem dX9_run_33 : decode cX9_run 33 = .ok (.getfield 45, 3) := by decide +kernel
theorem dX9_run_36 : decode cX9_run 36 = .ok (.aload_n 0, 1) := by decide +kernel
theorem dX9_run_37 : decode cX9_run 37 = .ok (.getfield 10, 3) := by decide +kernel
theorem dX9_run_40 : decode cX9_run 40 = .ok (.invokevirtual 78, 3) := by decide +kernel
theorem dX9_run_43 : decode cX9_run 43 = .ok (.iconst 0, 1) := by decide +kernel
theorem dX9_run_44 : decode cX9_run 44 = .ok (.istore_n 2, 1) := by decide +kernel
theorem dX9_run_45 : decode cX9_run 45 = .ok (.iload_n 2, 1) := by decide +kernel
theorem dX9_run_46 : decode cX9_run 46 = .ok (.iload_n 1, 1) := by decide +kernel
theorem dX9_run_47 : decode cX9_run 47 = .ok (.if_icmp .ge 24, 3) := by decide +kernel
theorem dX9_run_50 : decode cX9_run 50 = .ok (.aload_n 0, 1) := by decide +kernel
theorem dX9_run_51 : decode cX9_run 51 = .ok (.getfield 20, 3) := by decide +kernel
theorem dX9_run_54 : decode cX9_run 54 = .ok (.aload_n 0, 1) := by decide +kernel
theorem dX9_run_55 : decode cX9_run 55 = .ok (.getfield 32, 3) := by decide +kernel
theorem dX9_run_58 : decode cX9_run 58 = .ok (.aload_n 0, 1) := by decide +kernel
theorem dX9_run_59 : decode cX9_run 59 = .ok (.getfield 36, 3) := by decide +kernel
theorem dX9_run_62 : decode cX9_run 62 = .ok (.invokevirtual 192, 3) := by decide +kernel
theorem dX9_run_65 : decode cX9_run 65 = .ok (.iinc 2 1, 3) := by decide +kernel
theorem dX9_run_68 : decode cX9_run 68 = .ok (.goto (-23), 3) := by decide +kernel
theorem dX9_run_71 : decode cX9_run 71 = .ok (.aload_n 0, 1) := by decide +kernel
theorem dX9_run_72 : decode cX9_run 72 = .ok (.getfield 20, 3) := by decide +kernel
theorem dX9_run_75 : decode cX9_run 75 = .ok (.getfield 196, 3) := by decide +kernel
theorem dX9_run_78 : decode cX9_run 78 = .ok (.ireturn, 1) := by decide +kernel
theorem dX9_undo_0 : decode cX9_undo 0 = .ok (.aload_n 0, 1) := by decide +kernel
theorem dX9_undo_1 : decode cX9_undo 1 = .ok (.getfield 45, 3) := by decide +kernel
theorem dX9_undo_4 : decode cX9_undo 4 = .ok (.getfield 199, 3) := by decide +kernel
theorem dX9_undo_7 : decode cX9_undo 7 = .ok (.ifCond .gt 6, 3) := by decide +kernel
theorem dX9_undo_10 : decode cX9_undo 10 = .ok (.ldc 129, 2) := by decide +kernel
theorem dX9_undo_12 : decode cX9_undo 12 = .ok (.ireturn, 1) := by decide +kernel
theorem dX9_undo_13 : decode cX9_undo 13 = .ok (.aload_n 0, 1) := by decide +kernel
theorem dX9_undo_14 : decode cX9_undo 14 = .ok (.getfield 45, 3) := by decide +kernel
theorem dX9_undo_17 : decode cX9_undo 17 = .ok (.aload_n 0, 1) := by decide +kernel
theorem dX9_undo_18 : decode cX9_undo 18 = .ok (.getfield 10, 3) := by decide +kernel
theorem dX9_undo_21 : decode cX9_undo 21 = .ok (.invokevirtual 200, 3) := by decide +kernel
theorem dX9_undo_24 : decode cX9_undo 24 = .ok (.aload_n 0, 1) := by decide +kernel
theorem dX9_undo_25 : decode cX9_undo 25 = .ok (.getfield 45, 3) := by decide +kernel
theorem dX9_undo_28 : decode cX9_undo 28 = .ok (.getfield 199, 3) := by decide +kernel
theorem dX9_undo_31 : decode cX9_undo 31 = .ok (.ireturn, 1) := by decide +kernel
theorem dX9_count_0 : decode cX9_count 0 = .ok (.iload_n 1, 1) := by decide +kernel
theorem dX9_count_1 : decode cX9_count 1 = .ok (.tableswitch 171 0 12 #[67, 75, 83, 91, 99, 107, 115, 123, 131, 139, 147, 155, 163], 67) := by decide +kernel
theorem dX9_count_68 : decode cX9_count 68 = .ok (.aload_n 0, 1) := by decide +kernel
theorem dX9_count_69 : decode cX9_count 69 = .ok (.getfield 20, 3) := by decide +kernel
theorem dX9_count_72 : decode cX9_count 72 = .ok (.getfield 189, 3) := by decide +kernel
theorem dX9_count_75 : decode cX9_count 75 = .ok (.ireturn, 1) := by decide +kernel
theorem dX9_count_76 : decode cX9_count 76 = .ok (.aload_n 0, 1) := by decide +kernel
theorem dX9_count_77 : decode cX9_count 77 = .ok (.getfield 20, 3) := by decide +kernel
theorem dX9_count_80 : decode cX9_count 80 = .ok (.getfield 156, 3) := by decide +kernel
theorem dX9_count_83 : decode cX9_count 83 = .ok (.ireturn, 1) := by decide +kernel
theorem dX9_count_84 : decode cX9_count 84 = .ok (.aload_n 0, 1) := by decide +kernel
theorem dX9_count_85 : decode cX9_count 85 = .ok (.getfield 20, 3) := by decide +kernel
theorem dX9_count_88 : decode cX9_count 88 = .ok (.getfield 162, 3) := by decide +kernel
theorem dX9_count_91 : decode cX9_count 91 = .ok (.ireturn, 1) := by decide +kernel
theorem dX9_count_92 : decode cX9_count 92 = .ok (.aload_n 0, 1) := by decide +kernel
theorem dX9_count_93 : decode cX9_count 93 = .ok (.getfield 20, 3) := by decide +kernel
theorem dX9_count_96 : decode cX9_count 96 = .ok (.getfield 196, 3) := by decide +kernel
theorem dX9_count_99 : decode cX9_count 99 = .ok (.ireturn, 1) := by decide +kernel
theorem dX9_count_100 : decode cX9_count 100 = .ok (.aload_n 0, 1) := by decide +kernel
theorem dX9_count_101 : decode cX9_count 101 = .ok (.getfield 27, 3) := by decide +kernel
theorem dX9_count_104 : decode cX9_count 104 = .ok (.getfield 82, 3) := by decide +kernel
theorem dX9_count_107 : decode cX9_count 107 = .ok (.ireturn, 1) := by decide +kernel
theorem dX9_count_108 : decode cX9_count 108 = .ok (.aload_n 0, 1) := by decide +kernel
theorem dX9_count_109 : decode cX9_count 109 = .ok (.getfield 20, 3) := by decide +kernel
theorem dX9_count_112 : decode cX9_count 112 = .ok (.getfield 88, 3) := by decide +kernel
theorem dX9_count_115 : decode cX9_count 115 = .ok (.ireturn, 1) := by decide +kernel
theorem dX9_count_116 : decode cX9_count 116 = .ok (.aload_n 0, 1) := by decide +kernel
theorem dX9_count_117 : decode cX9_count 117 = .ok (.getfield 27, 3) := by decide +kernel
theorem dX9_count_120 : decode cX9_count 120 = .ok (.getfield 103, 3) := by decide +kernel
theorem dX9_count_123 : decode cX9_count 123 = .ok (.ireturn, 1) := by decide +kernel
theorem dX9_count_124 : decode cX9_count 124 = .ok (.aload_n 0, 1) := by decide +kernel
theorem dX9_count_125 : decode cX9_count 125 = .ok (.getfield 20, 3) := by decide +kernel
theorem dX9_count_128 : decode cX9_count 128 = .ok (.getfield 203, 3) := by decide +kernel
theorem dX9_count_131 : decode cX9_count 131 = .ok (.ireturn, 1) := by decide +kernel
theorem dX9_count_132 : decode cX9_count 132 = .ok (.aload_n 0, 1) := by decide +kernel
theorem dX9_count_133 : decode cX9_count 133 = .ok (.getfield 32, 3) := by decide +kernel
theorem dX9_count_136 : decode cX9_count 136 = .ok (.getfield 123, 3) := by decide +kernel
theorem dX9_count_139 : decode cX9_count 139 = .ok (.ireturn, 1) := by decide +kernel
theorem dX9_count_140 : decode cX9_count 140 = .ok (.aload_n 0, 1) := by decide +kernel
theorem dX9_count_141 : decode cX9_count 141 = .ok (.getfield 36, 3) := by decide +kernel
theorem dX9_count_144 : decode cX9_count 144 = .ok (.getfield 123, 3) := by decide +kernel
theorem dX9_count_147 : decode cX9_count 147 = .ok (.ireturn, 1) := by decide +kernel
theorem dX9_count_148 : decode cX9_count 148 = .ok (.aload_n 0, 1) := by decide +kernel
theorem dX9_count_149 : decode cX9_count 149 = .ok (.getfield 41, 3) := by decide +kernel
theorem dX9_count_152 : decode cX9_count 152 = .ok (.getfield 206, 3) := by decide +kernel
theorem dX9_count_155 : decode cX9_count 155 = .ok (.ireturn, 1) := by decide +kernel
theorem dX9_count_156 : decode cX9_count 156 = .ok (.aload_n 0, 1) := by decide +kernel
theorem dX9_count_157 : decode cX9_count 157 = .ok (.getfield 45, 3) := by decide +kernel
theorem dX9_count_160 : decode cX9_count 160 = .ok (.getfield 199, 3) := by decide +kernel
theorem dX9_count_163 : decode cX9_count 163 = .ok (.ireturn, 1) := by decide +kernel
theorem dX9_count_164 : decode cX9_count 164 = .ok (.aload_n 0, 1) := by decide +kernel
theorem dX9_count_165 : decode cX9_count 165 = .ok (.getfield 52, 3) := by decide +kernel
theorem dX9_count_168 : decode cX9_count 168 = .ok (.getfield 138, 3) := by decide +kernel
theorem dX9_count_171 : decode cX9_count 171 = .ok (.ireturn, 1) := by decide +kernel
theorem dX9_count_172 : decode cX9_count 172 = .ok (.ldc 77, 2) := by decide +kernel
theorem dX9_count_174 : decode cX9_count 174 = .ok (.ireturn, 1) := by decide +kernel
theorem dX9_batch_0 : decode cX9_batch 0 = .ok (.iload_n 1, 1) := by decide +kernel
theorem dX9_batch_1 : decode cX9_batch 1 = .ok (.iconst 0, 1) := by decide +kernel
theorem dX9_batch_2 : decode cX9_batch 2 = .ok (.bipush 9, 2) := by decide +kernel
theorem dX9_batch_4 : decode cX9_batch 4 = .ok (.invokestatic 73, 3) := by decide +kernel
theorem dX9_batch_7 : decode cX9_batch 7 = .ok (.ifCond .ne 6, 3) := by decide +kernel
theorem dX9_batch_10 : decode cX9_batch 10 = .ok (.ldc 77, 2) := by decide +kernel
theorem dX9_batch_12 : decode cX9_batch 12 = .ok (.ireturn, 1) := by decide +kernel
theorem dX9_batch_13 : decode cX9_batch 13 = .ok (.aload_n 0, 1) := by decide +kernel
theorem dX9_batch_14 : decode cX9_batch 14 = .ok (.getfield 20, 3) := by decide +kernel
theorem dX9_batch_17 : decode cX9_batch 17 = .ok (.getfield 156, 3) := by decide +kernel
theorem dX9_batch_20 : decode cX9_batch 20 = .ok (.ifCond .ne 6, 3) := by decide +kernel
theorem dX9_batch_23 : decode cX9_batch 23 = .ok (.ldc 129, 2) := by decide +kernel
theorem dX9_batch_25 : decode cX9_batch 25 = .ok (.ireturn, 1) := by decide +kernel
theorem dX9_batch_26 : decode cX9_batch 26 = .ok (.aload_n 0, 1) := by decide +kernel
theorem dX9_batch_27 : decode cX9_batch 27 = .ok (.getfield 20, 3) := by decide +kernel
theorem dX9_batch_30 : decode cX9_batch 30 = .ok (.getfield 165, 3) := by decide +kernel
theorem dX9_batch_33 : decode cX9_batch 33 = .ok (.iload_n 1, 1) := by decide +kernel
theorem dX9_batch_34 : decode cX9_batch 34 = .ok (.invokevirtual 207, 3) := by decide +kernel
theorem dX9_batch_37 : decode cX9_batch 37 = .ok (.ireturn, 1) := by decide +kernel
theorem dX9_target_0 : decode cX9_target 0 = .ok (.iload_n 1, 1) := by decide +kernel
theorem dX9_target_1 : decode cX9_target 1 = .ok (.iconst 0, 1) := by decide +kernel
theorem dX9_target_2 : decode cX9_target 2 = .ok (.sipush 1000, 3) := by decide +kernel
theorem dX9_target_5 : decode cX9_target 5 = .ok (.invokestatic 73, 3) := by decide +kernel
theorem dX9_target_8 : decode cX9_target 8 = .ok (.ifCond .ne 6, 3) := by decide +kernel
theorem dX9_target_11 : decode cX9_target 11 = .ok (.ldc 77, 2) := by decide +kernel
theorem dX9_target_13 : decode cX9_target 13 = .ok (.ireturn, 1) := by decide +kernel
theorem dX9_target_14 : decode cX9_target 14 = .ok (.aload_n 0, 1) := by decide +kernel
theorem dX9_target_15 : decode cX9_target 15 = .ok (.getfield 32, 3) := by decide +kernel
theorem dX9_target_18 : decode cX9_target 18 = .ok (.getfield 123, 3) := by decide +kernel
theorem dX9_target_21 : decode cX9_target 21 = .ok (.ifCond .ne 8, 3) := by decide +kernel
theorem dX9_target_24 : decode cX9_target 24 = .ok (.ldc 210, 2) := by decide +kernel
theorem dX9_target_26 : decode cX9_target 26 = .ok (.goto 11, 3) := by decide +kernel
theorem dX9_target_29 : decode cX9_target 29 = .ok (.aload_n 0, 1) := by decide +kernel
theorem dX9_target_30 : decode cX9_target 30 = .ok (.getfield 32, 3) := by decide +kernel
theorem dX9_target_33 : decode cX9_target 33 = .ok (.iload_n 1, 1) := by decide +kernel
theorem dX9_target_34 : decode cX9_target 34 = .ok (.invokevirtual 211, 3) := by decide +kernel
theorem dX9_target_37 : decode cX9_target 37 = .ok (.ireturn, 1) := by decide +kernel
theorem dX9_rate_0 : decode cX9_rate 0 = .ok (.iload_n 1, 1) := by decide +kernel
theorem dX9_rate_1 : decode cX9_rate 1 = .ok (.iconst 0, 1) := by decide +kernel
theorem dX9_rate_2 : decode cX9_rate 2 = .ok (.sipush 3000, 3) := by decide +kernel
theorem dX9_rate_5 : decode cX9_rate 5 = .ok (.invokestatic 73, 3) := by decide +kernel
theorem dX9_rate_8 : decode cX9_rate 8 = .ok (.ifCond .ne 6, 3) := by decide +kernel
theorem dX9_rate_11 : decode cX9_rate 11 = .ok (.ldc 77, 2) := by decide +kernel
theorem dX9_rate_13 : decode cX9_rate 13 = .ok (.ireturn, 1) := by decide +kernel
theorem dX9_rate_14 : decode cX9_rate 14 = .ok (.aload_n 0, 1) := by decide +kernel
theorem dX9_rate_15 : decode cX9_rate 15 = .ok (.getfield 36, 3) := by decide +kernel
theorem dX9_rate_18 : decode cX9_rate 18 = .ok (.iload_n 1, 1) := by decide +kernel
theorem dX9_rate_19 : decode cX9_rate 19 = .ok (.invokevirtual 130, 3) := by decide +kernel
theorem dX9_rate_22 : decode cX9_rate 22 = .ok (.ireturn, 1) := by decide +kernel
theorem dX9_logged_0 : decode cX9_logged 0 = .ok (.iload_n 1, 1) := by decide +kernel
theorem dX9_logged_1 : decode cX9_logged 1 = .ok (.ifCond .lt 12, 3) := by decide +kernel
theorem dX9_logged_4 : decode cX9_logged 4 = .ok (.iload_n 2, 1) := by decide +kernel
theorem dX9_logged_5 : decode cX9_logged 5 = .ok (.iconst 0, 1) := by decide +kernel
theorem dX9_logged_6 : decode cX9_logged 6 = .ok (.iconst 5, 1) := by decide +kernel
theorem dX9_logged_7 : decode cX9_logged 7 = .ok (.invokestatic 73, 3) := by decide +kernel
theorem dX9_logged_10 : decode cX9_logged 10 = .ok (.ifCond .ne 6, 3) := by decide +kernel
theorem dX9_logged_13 : decode cX9_logged 13 = .ok (.ldc 77, 2) := by decide +kernel
theorem dX9_logged_15 : decode cX9_logged 15 = .ok (.ireturn, 1) := by decide +kernel
theorem dX9_logged_16 : decode cX9_logged 16 = .ok (.iload_n 1, 1) := by decide +kernel
theorem dX9_logged_17 : decode cX9_logged 17 = .ok (.aload_n 0, 1) := by decide +kernel
theorem dX9_logged_18 : decode cX9_logged 18 = .ok (.getfield 41, 3) := by decide +kernel
theorem dX9_logged_21 : decode cX9_logged 21 = .ok (.getfield 206, 3) := by decide +kernel
theorem dX9_logged_24 : decode cX9_logged 24 = .ok (.if_icmp .ge 15, 3) := by decide +kernel
theorem dX9_logged_27 : decode cX9_logged 27 = .ok (.aload_n 0, 1) := by decide +kernel
theorem dX9_logged_28 : decode cX9_logged 28 = .ok (.getfield 41, 3) := by decide +kernel
theorem dX9_logged_31 : decode cX9_logged 31 = .ok (.iload_n 1, 1) := by decide +kernel
theorem dX9_logged_32 : decode cX9_logged 32 = .ok (.iload_n 2, 1) := by decide +kernel
theorem dX9_logged_33 : decode cX9_logged 33 = .ok (.invokevirtual 214, 3) := by decide +kernel
theorem dX9_logged_36 : decode cX9_logged 36 = .ok (.goto 5, 3) := by decide +kernel
theorem dX9_logged_39 : decode cX9_logged 39 = .ok (.ldc 210, 2) := by decide +kernel
theorem dX9_logged_41 : decode cX9_logged 41 = .ok (.ireturn, 1) := by decide +kernel
theorem dX9_ticksTo_0 : decode cX9_ticksTo 0 = .ok (.iload_n 1, 1) := by decide +kernel
theorem dX9_ticksTo_1 : decode cX9_ticksTo 1 = .ok (.iconst 0, 1) := by decide +kernel
theorem dX9_ticksTo_2 : decode cX9_ticksTo 2 = .ok (.sipush 3000, 3) := by decide +kernel
theorem dX9_ticksTo_5 : decode cX9_ticksTo 5 = .ok (.invokestatic 73, 3) := by decide +kernel
theorem dX9_ticksTo_8 : decode cX9_ticksTo 8 = .ok (.ifCond .ne 6, 3) := by decide +kernel
theorem dX9_ticksTo_11 : decode cX9_ticksTo 11 = .ok (.ldc 77, 2) := by decide +kernel
theorem dX9_ticksTo_13 : decode cX9_ticksTo 13 = .ok (.ireturn, 1) := by decide +kernel
theorem dX9_ticksTo_14 : decode cX9_ticksTo 14 = .ok (.aload_n 0, 1) := by decide +kernel
theorem dX9_ticksTo_15 : decode cX9_ticksTo 15 = .ok (.getfield 20, 3) := by decide +kernel
theorem dX9_ticksTo_18 : decode cX9_ticksTo 18 = .ok (.getfield 156, 3) := by decide +kernel
theorem dX9_ticksTo_21 : decode cX9_ticksTo 21 = .ok (.iconst 1, 1) := by decide +kernel
theorem dX9_ticksTo_22 : decode cX9_ticksTo 22 = .ok (.if_icmp .eq 6, 3) := by decide +kernel
theorem dX9_ticksTo_25 : decode cX9_ticksTo 25 = .ok (.ldc 129, 2) := by decide +kernel
theorem dX9_ticksTo_27 : decode cX9_ticksTo 27 = .ok (.ireturn, 1) := by decide +kernel
theorem dX9_ticksTo_28 : decode cX9_ticksTo 28 = .ok (.aload_n 0, 1) := by decide +kernel
theorem dX9_ticksTo_29 : decode cX9_ticksTo 29 = .ok (.getfield 64, 3) := by decide +kernel
theorem dX9_ticksTo_32 : decode cX9_ticksTo 32 = .ok (.aload_n 0, 1) := by decide +kernel
theorem dX9_ticksTo_33 : decode cX9_ticksTo 33 = .ok (.getfield 20, 3) := by decide +kernel
theorem dX9_ticksTo_36 : decode cX9_ticksTo 36 = .ok (.invokevirtual 220, 3) := by decide +kernel
theorem dX9_ticksTo_39 : decode cX9_ticksTo 39 = .ok (.iconst 0, 1) := by decide +kernel
theorem dX9_ticksTo_40 : decode cX9_ticksTo 40 = .ok (.istore_n 2, 1) := by decide +kernel
theorem dX9_ticksTo_41 : decode cX9_ticksTo 41 = .ok (.iload_n 2, 1) := by decide +kernel
theorem dX9_ticksTo_42 : decode cX9_ticksTo 42 = .ok (.sipush 200, 3) := by decide +kernel
theorem dX9_ticksTo_45 : decode cX9_ticksTo 45 = .ok (.if_icmp .gt 40, 3) := by decide +kernel
theorem dX9_ticksTo_48 : decode cX9_ticksTo 48 = .ok (.aload_n 0, 1) := by decide +kernel
theorem dX9_ticksTo_49 : decode cX9_ticksTo 49 = .ok (.getfield 64, 3) := by decide +kernel
theorem dX9_ticksTo_52 : decode cX9_ticksTo 52 = .ok (.getfield 165, 3) := by decide +kernel
theorem dX9_ticksTo_55 : decode cX9_ticksTo 55 = .ok (.getfield 186, 3) := by decide +kernel
theorem dX9_ticksTo_58 : decode cX9_ticksTo 58 = .ok (.iload_n 1, 1) := by decide +kernel
theorem dX9_ticksTo_59 : decode cX9_ticksTo 59 = .ok (.if_icmp .lt 5, 3) := by decide +kernel
theorem dX9_ticksTo_62 : decode cX9_ticksTo 62 = .ok (.iload_n 2, 1) := by decide +kernel
theorem dX9_ticksTo_63 : decode cX9_ticksTo 63 = .ok (.ireturn, 1) := by decide +kernel
theorem dX9_ticksTo_64 : decode cX9_ticksTo 64 = .ok (.aload_n 0, 1) := by decide +kernel
theorem dX9_ticksTo_65 : decode cX9_ticksTo 65 = .ok (.getfield 64, 3) := by decide +kernel
theorem dX9_ticksTo_68 : decode cX9_ticksTo 68 = .ok (.aload_n 0, 1) := by decide +kernel
theorem dX9_ticksTo_69 : decode cX9_ticksTo 69 = .ok (.getfield 32, 3) := by decide +kernel
theorem dX9_ticksTo_72 : decode cX9_ticksTo 72 = .ok (.aload_n 0, 1) := by decide +kernel
theorem dX9_ticksTo_73 : decode cX9_ticksTo 73 = .ok (.getfield 36, 3) := by decide +kernel
theorem dX9_ticksTo_76 : decode cX9_ticksTo 76 = .ok (.invokevirtual 192, 3) := by decide +kernel
theorem dX9_ticksTo_79 : decode cX9_ticksTo 79 = .ok (.iinc 2 1, 3) := by decide +kernel
theorem dX9_ticksTo_82 : decode cX9_ticksTo 82 = .ok (.goto (-41), 3) := by decide +kernel
theorem dX9_ticksTo_85 : decode cX9_ticksTo 85 = .ok (.ldc 210, 2) := by decide +kernel
theorem dX9_ticksTo_87 : decode cX9_ticksTo 87 = .ok (.ireturn, 1) := by decide +kernel
theorem dX9_ticksToLoss_0 : decode cX9_ticksToLoss 0 = .ok (.iload_n 1, 1) := by decide +kernel
theorem dX9_ticksToLoss_1 : decode cX9_ticksToLoss 1 = .ok (.iconst 0, 1) := by decide +kernel
theorem dX9_ticksToLoss_2 : decode cX9_ticksToLoss 2 = .ok (.ldc 223, 2) := by decide +kernel
theorem dX9_ticksToLoss_4 : decode cX9_ticksToLoss 4 = .ok (.invokestatic 73, 3) := by decide +kernel
theorem dX9_ticksToLoss_7 : decode cX9_ticksToLoss 7 = .ok (.ifCond .ne 6, 3) := by decide +kernel
theorem dX9_ticksToLoss_10 : decode cX9_ticksToLoss 10 = .ok (.ldc 77, 2) := by decide +kernel
theorem dX9_ticksToLoss_12 : decode cX9_ticksToLoss 12 = .ok (.ireturn, 1) := by decide +kernel
theorem dX9_ticksToLoss_13 : decode cX9_ticksToLoss 13 = .ok (.aload_n 0, 1) := by decide +kernel
theorem dX9_ticksToLoss_14 : decode cX9_ticksToLoss 14 = .ok (.getfield 20, 3) := by decide +kernel
theorem dX9_ticksToLoss_17 : decode cX9_ticksToLoss 17 = .ok (.getfield 156, 3) := by decide +kernel
theorem dX9_ticksToLoss_20 : decode cX9_ticksToLoss 20 = .ok (.iconst 1, 1) := by decide +kernel
theorem dX9_ticksToLoss_21 : decode cX9_ticksToLoss 21 = .ok (.if_icmp .eq 6, 3) := by decide +kernel
theorem dX9_ticksToLoss_24 : decode cX9_ticksToLoss 24 = .ok (.ldc 129, 2) := by decide +kernel
theorem dX9_ticksToLoss_26 : decode cX9_ticksToLoss 26 = .ok (.ireturn, 1) := by decide +kernel
theorem dX9_ticksToLoss_27 : decode cX9_ticksToLoss 27 = .ok (.aload_n 0, 1) := by decide +kernel
theorem dX9_ticksToLoss_28 : decode cX9_ticksToLoss 28 = .ok (.getfield 64, 3) := by decide +kernel
theorem dX9_ticksToLoss_31 : decode cX9_ticksToLoss 31 = .ok (.aload_n 0, 1) := by decide +kernel
theorem dX9_ticksToLoss_32 : decode cX9_ticksToLoss 32 = .ok (.getfield 20, 3) := by decide +kernel
theorem dX9_ticksToLoss_35 : decode cX9_ticksToLoss 35 = .ok (.invokevirtual 220, 3) := by decide +kernel
theorem dX9_ticksToLoss_38 : decode cX9_ticksToLoss 38 = .ok (.iconst 0, 1) := by decide +kernel
theorem dX9_ticksToLoss_39 : decode cX9_ticksToLoss 39 = .ok (.istore_n 2, 1) := by decide +kernel
theorem dX9_ticksToLoss_40 : decode cX9_ticksToLoss 40 = .ok (.iload_n 2, 1) := by decide +kernel
theorem dX9_ticksToLoss_41 : decode cX9_ticksToLoss 41 = .ok (.sipush 200, 3) := by decide +kernel
theorem dX9_ticksToLoss_44 : decode cX9_ticksToLoss 44 = .ok (.if_icmp .gt 40, 3) := by decide +kernel
theorem dX9_ticksToLoss_47 : decode cX9_ticksToLoss 47 = .ok (.aload_n 0, 1) := by decide +kernel
theorem dX9_ticksToLoss_48 : decode cX9_ticksToLoss 48 = .ok (.getfield 64, 3) := by decide +kernel
theorem dX9_ticksToLoss_51 : decode cX9_ticksToLoss 51 = .ok (.getfield 165, 3) := by decide +kernel
theorem dX9_ticksToLoss_54 : decode cX9_ticksToLoss 54 = .ok (.getfield 181, 3) := by decide +kernel
theorem dX9_ticksToLoss_57 : decode cX9_ticksToLoss 57 = .ok (.iload_n 1, 1) := by decide +kernel
theorem dX9_ticksToLoss_58 : decode cX9_ticksToLoss 58 = .ok (.if_icmp .lt 5, 3) := by decide +kernel
theorem dX9_ticksToLoss_61 : decode cX9_ticksToLoss 61 = .ok (.iload_n 2, 1) := by decide +kernel
theorem dX9_ticksToLoss_62 : decode cX9_ticksToLoss 62 = .ok (.ireturn, 1) := by decide +kernel
theorem dX9_ticksToLoss_63 : decode cX9_ticksToLoss 63 = .ok (.aload_n 0, 1) := by decide +kernel
theorem dX9_ticksToLoss_64 : decode cX9_ticksToLoss 64 = .ok (.getfield 64, 3) := by decide +kernel
theorem dX9_ticksToLoss_67 : decode cX9_ticksToLoss 67 = .ok (.aload_n 0, 1) := by decide +kernel
theorem dX9_ticksToLoss_68 : decode cX9_ticksToLoss 68 = .ok (.getfield 32, 3) := by decide +kernel
theorem dX9_ticksToLoss_71 : decode cX9_ticksToLoss 71 = .ok (.aload_n 0, 1) := by decide +kernel
theorem dX9_ticksToLoss_72 : decode cX9_ticksToLoss 72 = .ok (.getfield 36, 3) := by decide +kernel
theorem dX9_ticksToLoss_75 : decode cX9_ticksToLoss 75 = .ok (.invokevirtual 192, 3) := by decide +kernel
theorem dX9_ticksToLoss_78 : decode cX9_ticksToLoss 78 = .ok (.iinc 2 1, 3) := by decide +kernel
theorem dX9_ticksToLoss_81 : decode cX9_ticksToLoss 81 = .ok (.goto (-41), 3) := by decide +kernel
theorem dX9_ticksToLoss_84 : decode cX9_ticksToLoss 84 = .ok (.ldc 210, 2) := by decide +kernel
theorem dX9_ticksToLoss_86 : decode cX9_ticksToLoss 86 = .ok (.ireturn, 1) := by decide +kernel
theorem dX9_bestBias_0 : decode cX9_bestBias 0 = .ok (.iload_n 1, 1) := by decide +kernel
theorem dX9_bestBias_1 : decode cX9_bestBias 1 = .ok (.iconst 1, 1) := by decide +kernel
theorem dX9_bestBias_2 : decode cX9_bestBias 2 = .ok (.bipush 100, 2) := by decide +kernel
theorem dX9_bestBias_4 : decode cX9_bestBias 4 = .ok (.invokestatic 73, 3) := by decide +kernel
theorem dX9_bestBias_7 : decode cX9_bestBias 7 = .ok (.ifCond .ne 6, 3) := by decide +kernel
theorem dX9_bestBias_10 : decode cX9_bestBias 10 = .ok (.ldc 77, 2) := by decide +kernel
theorem dX9_bestBias_12 : decode cX9_bestBias 12 = .ok (.ireturn, 1) := by decide +kernel
theorem dX9_bestBias_13 : decode cX9_bestBias 13 = .ok (.aload_n 0, 1) := by decide +kernel
theorem dX9_bestBias_14 : decode cX9_bestBias 14 = .ok (.getfield 20, 3) := by decide +kernel
theorem dX9_bestBias_17 : decode cX9_bestBias 17 = .ok (.getfield 156, 3) := by decide +kernel
theorem dX9_bestBias_20 : decode cX9_bestBias 20 = .ok (.iconst 1, 1) := by decide +kernel
theorem dX9_bestBias_21 : decode cX9_bestBias 21 = .ok (.if_icmp .ne 13, 3) := by decide +kernel
theorem dX9_bestBias_24 : decode cX9_bestBias 24 = .ok (.aload_n 0, 1) := by decide +kernel
theorem dX9_bestBias_25 : decode cX9_bestBias 25 = .ok (.getfield 32, 3) := by decide +kernel
theorem dX9_bestBias_28 : decode cX9_bestBias 28 = .ok (.getfield 123, 3) := by decide +kernel
theorem dX9_bestBias_31 : decode cX9_bestBias 31 = .ok (.ifCond .ne 6, 3) := by decide +kernel
theorem dX9_bestBias_34 : decode cX9_bestBias 34 = .ok (.ldc 129, 2) := by decide +kernel
theorem dX9_bestBias_36 : decode cX9_bestBias 36 = .ok (.ireturn, 1) := by decide +kernel
theorem dX9_bestBias_37 : decode cX9_bestBias 37 = .ok (.iconst 0, 1) := by decide +kernel
theorem dX9_bestBias_38 : decode cX9_bestBias 38 = .ok (.istore_n 2, 1) := by decide +kernel
theorem dX9_bestBias_39 : decode cX9_bestBias 39 = .ok (.aload_n 0, 1) := by decide +kernel
theorem dX9_bestBias_40 : decode cX9_bestBias 40 = .ok (.iconst 0, 1) := by decide +kernel
theorem dX9_bestBias_41 : decode cX9_bestBias 41 = .ok (.iload_n 1, 1) := by decide +kernel
theorem dX9_bestBias_42 : decode cX9_bestBias 42 = .ok (.invokevirtual 224, 3) := by decide +kernel
theorem dX9_bestBias_45 : decode cX9_bestBias 45 = .ok (.istore_n 3, 1) := by decide +kernel
theorem dX9_bestBias_46 : decode cX9_bestBias 46 = .ok (.iconst 1, 1) := by decide +kernel
theorem dX9_bestBias_47 : decode cX9_bestBias 47 = .ok (.istore 4, 2) := by decide +kernel
theorem dX9_bestBias_49 : decode cX9_bestBias 49 = .ok (.iload 4, 2) := by decide +kernel
theorem dX9_bestBias_51 : decode cX9_bestBias 51 = .ok (.bipush 100, 2) := by decide +kernel
theorem dX9_bestBias_53 : decode cX9_bestBias 53 = .ok (.if_icmp .gt 30, 3) := by decide +kernel
theorem dX9_bestBias_56 : decode cX9_bestBias 56 = .ok (.aload_n 0, 1) := by decide +kernel
theorem dX9_bestBias_57 : decode cX9_bestBias 57 = .ok (.iload 4, 2) := by decide +kernel
theorem dX9_bestBias_59 : decode cX9_bestBias 59 = .ok (.iload_n 1, 1) := by decide +kernel
theorem dX9_bestBias_60 : decode cX9_bestBias 60 = .ok (.invokevirtual 224, 3) := by decide +kernel
theorem dX9_bestBias_63 : decode cX9_bestBias 63 = .ok (.istore 5, 2) := by decide +kernel
theorem dX9_bestBias_65 : decode cX9_bestBias 65 = .ok (.iload 5, 2) := by decide +kernel
theorem dX9_bestBias_67 : decode cX9_bestBias 67 = .ok (.iload_n 3, 1) := by decide +kernel
theorem dX9_bestBias_68 : decode cX9_bestBias 68 = .ok (.if_icmp .ge 9, 3) := by decide +kernel
theorem dX9_bestBias_71 : decode cX9_bestBias 71 = .ok (.iload 5, 2) := by decide +kernel
theorem dX9_bestBias_73 : decode cX9_bestBias 73 = .ok (.istore_n 3, 1) := by decide +kernel
theorem dX9_bestBias_74 : decode cX9_bestBias 74 = .ok (.iload 4, 2) := by decide +kernel
theorem dX9_bestBias_76 : decode cX9_bestBias 76 = .ok (.istore_n 2, 1) := by decide +kernel
theorem dX9_bestBias_77 : decode cX9_bestBias 77 = .ok (.iinc 4 1, 3) := by decide +kernel
theorem dX9_bestBias_80 : decode cX9_bestBias 80 = .ok (.goto (-31), 3) := by decide +kernel
theorem dX9_bestBias_83 : decode cX9_bestBias 83 = .ok (.iload_n 2, 1) := by decide +kernel
theorem dX9_bestBias_84 : decode cX9_bestBias 84 = .ok (.ireturn, 1) := by decide +kernel
theorem dX9_deviationWith_0 : decode cX9_deviationWith 0 = .ok (.aload_n 0, 1) := by decide +kernel
theorem dX9_deviationWith_1 : decode cX9_deviationWith 1 = .ok (.getfield 64, 3) := by decide +kernel
theorem dX9_deviationWith_4 : decode cX9_deviationWith 4 = .ok (.aload_n 0, 1) := by decide +kernel
theorem dX9_deviationWith_5 : decode cX9_deviationWith 5 = .ok (.getfield 20, 3) := by decide +kernel
theorem dX9_deviationWith_8 : decode cX9_deviationWith 8 = .ok (.invokevirtual 220, 3) := by decide +kernel
theorem dX9_deviationWith_11 : decode cX9_deviationWith 11 = .ok (.aload_n 0, 1) := by decide +kernel
theorem dX9_deviationWith_12 : decode cX9_deviationWith 12 = .ok (.getfield 64, 3) := by decide +kernel
theorem dX9_deviationWith_15 : decode cX9_deviationWith 15 = .ok (.getfield 21, 3) := by decide +kernel
theorem dX9_deviationWith_18 : decode cX9_deviationWith 18 = .ok (.iconst 1, 1) := by decide +kernel
theorem dX9_deviationWith_19 : decode cX9_deviationWith 19 = .ok (.putfield 91, 3) := by decide +kernel
theorem dX9_deviationWith_22 : decode cX9_deviationWith 22 = .ok (.aload_n 0, 1) := by decide +kernel
theorem dX9_deviationWith_23 : decode cX9_deviationWith 23 = .ok (.getfield 64, 3) := by decide +kernel
theorem dX9_deviationWith_26 : decode cX9_deviationWith 26 = .ok (.getfield 21, 3) := by decide +kernel
theorem dX9_deviationWith_29 : decode cX9_deviationWith 29 = .ok (.iload_n 1, 1) := by decide +kernel
theorem dX9_deviationWith_30 : decode cX9_deviationWith 30 = .ok (.putfield 100, 3) := by decide +kernel
theorem dX9_deviationWith_33 : decode cX9_deviationWith 33 = .ok (.iconst 0, 1) := by decide +kernel
theorem dX9_deviationWith_34 : decode cX9_deviationWith 34 = .ok (.istore_n 3, 1) := by decide +kernel
theorem dX9_deviationWith_35 : decode cX9_deviationWith 35 = .ok (.iconst 0, 1) := by decide +kernel
theorem dX9_deviationWith_36 : decode cX9_deviationWith 36 = .ok (.istore 4, 2) := by decide +kernel
theorem dX9_deviationWith_38 : decode cX9_deviationWith 38 = .ok (.iload 4, 2) := by decide +kernel
theorem dX9_deviationWith_40 : decode cX9_deviationWith 40 = .ok (.iload_n 2, 1) := by decide +kernel
theorem dX9_deviationWith_41 : decode cX9_deviationWith 41 = .ok (.if_icmp .ge 55, 3) := by decide +kernel
theorem dX9_deviationWith_44 : decode cX9_deviationWith 44 = .ok (.aload_n 0, 1) := by decide +kernel
theorem dX9_deviationWith_45 : decode cX9_deviationWith 45 = .ok (.getfield 64, 3) := by decide +kernel
theorem dX9_deviationWith_48 : decode cX9_deviationWith 48 = .ok (.aload_n 0, 1) := by decide +kernel
theorem dX9_deviationWith_49 : decode cX9_deviationWith 49 = .ok (.getfield 32, 3) := by decide +kernel
theorem dX9_deviationWith_52 : decode cX9_deviationWith 52 = .ok (.aload_n 0, 1) := by decide +kernel
theorem dX9_deviationWith_53 : decode cX9_deviationWith 53 = .ok (.getfield 36, 3) := by decide +kernel
theorem dX9_deviationWith_56 : decode cX9_deviationWith 56 = .ok (.invokevirtual 192, 3) := by decide +kernel
theorem dX9_deviationWith_59 : decode cX9_deviationWith 59 = .ok (.iload_n 3, 1) := by decide +kernel
theorem dX9_deviationWith_60 : decode cX9_deviationWith 60 = .ok (.aload_n 0, 1) := by decide +kernel
theorem dX9_deviationWith_61 : decode cX9_deviationWith 61 = .ok (.getfield 32, 3) := by decide +kernel
theorem dX9_deviationWith_64 : decode cX9_deviationWith 64 = .ok (.aload_n 0, 1) := by decide +kernel
theorem dX9_deviationWith_65 : decode cX9_deviationWith 65 = .ok (.getfield 64, 3) := by decide +kernel
theorem dX9_deviationWith_68 : decode cX9_deviationWith 68 = .ok (.getfield 165, 3) := by decide +kernel
theorem dX9_deviationWith_71 : decode cX9_deviationWith 71 = .ok (.getfield 227, 3) := by decide +kernel
theorem dX9_deviationWith_74 : decode cX9_deviationWith 74 = .ok (.invokevirtual 211, 3) := by decide +kernel
theorem dX9_deviationWith_77 : decode cX9_deviationWith 77 = .ok (.aload_n 0, 1) := by decide +kernel
theorem dX9_deviationWith_78 : decode cX9_deviationWith 78 = .ok (.getfield 64, 3) := by decide +kernel
theorem dX9_deviationWith_81 : decode cX9_deviationWith 81 = .ok (.getfield 196, 3) := by decide +kernel
theorem dX9_deviationWith_84 : decode cX9_deviationWith 84 = .ok (.isub, 1) := by decide +kernel
theorem dX9_deviationWith_85 : decode cX9_deviationWith 85 = .ok (.invokestatic 230, 3) := by decide +kernel
theorem dX9_deviationWith_88 : decode cX9_deviationWith 88 = .ok (.iadd, 1) := by decide +kernel
theorem dX9_deviationWith_89 : decode cX9_deviationWith 89 = .ok (.istore_n 3, 1) := by decide +kernel
theorem dX9_deviationWith_90 : decode cX9_deviationWith 90 = .ok (.iinc 4 1, 3) := by decide +kernel
theorem dX9_deviationWith_93 : decode cX9_deviationWith 93 = .ok (.goto (-55), 3) := by decide +kernel
theorem dX9_deviationWith_96 : decode cX9_deviationWith 96 = .ok (.iload_n 3, 1) := by decide +kernel
theorem dX9_deviationWith_97 : decode cX9_deviationWith 97 = .ok (.ireturn, 1) := by decide +kernel
theorem dX9_inRange_0 : decode cX9_inRange 0 = .ok (.iload_n 0, 1) := by decide +kernel
theorem dX9_inRange_1 : decode cX9_inRange 1 = .ok (.iload_n 1, 1) := by decide +kernel
theorem dX9_inRange_2 : decode cX9_inRange 2 = .ok (.if_icmp .lt 12, 3) := by decide +kernel
theorem dX9_inRange_5 : decode cX9_inRange 5 = .ok (.iload_n 0, 1) := by decide +kernel
theorem dX9_inRange_6 : decode cX9_inRange 6 = .ok (.iload_n 2, 1) := by decide +kernel
theorem dX9_inRange_7 : decode cX9_inRange 7 = .ok (.if_icmp .gt 7, 3) := by decide +kernel
theorem dX9_inRange_10 : decode cX9_inRange 10 = .ok (.iconst 1, 1) := by decide +kernel
theorem dX9_inRange_11 : decode cX9_inRange 11 = .ok (.goto 4, 3) := by decide +kernel
theorem dX9_inRange_14 : decode cX9_inRange 14 = .ok (.iconst 0, 1) := by decide +kernel
theorem dX9_inRange_15 : decode cX9_inRange 15 = .ok (.ireturn, 1) := by decide +kernel
theorem dX9_clamp_0 : decode cX9_clamp 0 = .ok (.iload_n 1, 1) := by decide +kernel
theorem dX9_clamp_1 : decode cX9_clamp 1 = .ok (.iload_n 0, 1) := by decide +kernel
theorem dX9_clamp_2 : decode cX9_clamp 2 = .ok (.iload_n 2, 1) := by decide +kernel
theorem dX9_clamp_3 : decode cX9_clamp 3 = .ok (.invokestatic 175, 3) := by decide +kernel
theorem dX9_clamp_6 : decode cX9_clamp 6 = .ok (.invokestatic 233, 3) := by decide +kernel
theorem dX9_clamp_9 : decode cX9_clamp 9 = .ok (.ireturn, 1) := by decide +kernel
theorem dX9_quotient_0 : decode cX9_quotient 0 = .ok (.lload_n 2, 1) := by decide +kernel
theorem dX9_quotient_1 : decode cX9_quotient 1 = .ok (.lconst 0, 1) := by decide +kernel
theorem dX9_quotient_2 : decode cX9_quotient 2 = .ok (.lcmp, 1) := by decide +kernel
theorem dX9_quotient_3 : decode cX9_quotient 3 = .ok (.ifCond .le 11, 3) := by decide +kernel
theorem dX9_quotient_6 : decode cX9_quotient 6 = .ok (.lload_n 0, 1) := by decide +kernel
theorem dX9_quotient_7 : decode cX9_quotient 7 = .ok (.lload_n 2, 1) := by decide +kernel
theorem dX9_quotient_8 : decode cX9_quotient 8 = .ok (.invokestatic 236, 3) := by decide +kernel
theorem dX9_quotient_11 : decode cX9_quotient 11 = .ok (.goto 4, 3) := by decide +kernel
theorem dX9_quotient_14 : decode cX9_quotient 14 = .ok (.lconst 0, 1) := by decide +kernel
theorem dX9_quotient_15 : decode cX9_quotient 15 = .ok (.lreturn, 1) := by decide +kernel
theorem dX9_at_0 : decode cX9_at 0 = .ok (.iload_n 1, 1) := by decide +kernel
theorem dX9_at_1 : decode cX9_at 1 = .ok (.ifCond .lt 15, 3) := by decide +kernel
theorem dX9_at_4 : decode cX9_at 4 = .ok (.iload_n 1, 1) := by decide +kernel
theorem dX9_at_5 : decode cX9_at 5 = .ok (.aload_n 0, 1) := by decide +kernel
theorem dX9_at_6 : decode cX9_at 6 = .ok (.arraylength, 1) := by decide +kernel
theorem dX9_at_7 : decode cX9_at 7 = .ok (.if_icmp .ge 9, 3) := by decide +kernel
theorem dX9_at_10 : decode cX9_at 10 = .ok (.aload_n 0, 1) := by decide +kernel
theorem dX9_at_11 : decode cX9_at 11 = .ok (.iload_n 1, 1) := by decide +kernel
theorem dX9_at_12 : decode cX9_at 12 = .ok (.iaload, 1) := by decide +kernel
theorem dX9_at_13 : decode cX9_at 13 = .ok (.goto 4, 3) := by decide +kernel
theorem dX9_at_16 : decode cX9_at 16 = .ok (.iconst 0, 1) := by decide +kernel
theorem dX9_at_17 : decode cX9_at 17 = .ok (.ireturn, 1) := by decide +kernel
theorem dX9_put_0 : decode cX9_put 0 = .ok (.iload_n 1, 1) := by decide +kernel
theorem dX9_put_1 : decode cX9_put 1 = .ok (.ifCond .lt 13, 3) := by decide +kernel
theorem dX9_put_4 : decode cX9_put 4 = .ok (.iload_n 1, 1) := by decide +kernel
theorem dX9_put_5 : decode cX9_put 5 = .ok (.aload_n 0, 1) := by decide +kernel
theorem dX9_put_6 : decode cX9_put 6 = .ok (.arraylength, 1) := by decide +kernel
theorem dX9_put_7 : decode cX9_put 7 = .ok (.if_icmp .ge 7, 3) := by decide +kernel
theorem dX9_put_10 : decode cX9_put 10 = .ok (.aload_n 0, 1) := by decide +kernel
theorem dX9_put_11 : decode cX9_put 11 = .ok (.iload_n 1, 1) := by decide +kernel
theorem dX9_put_12 : decode cX9_put 12 = .ok (.iload_n 2, 1) := by decide +kernel
theorem dX9_put_13 : decode cX9_put 13 = .ok (.iastore, 1) := by decide +kernel
theorem dX9_put_14 : decode cX9_put 14 = .ok (.return_, 1) := by decide +kernel
theorem dX9_copyRow_0 : decode cX9_copyRow 0 = .ok (.aload_n 0, 1) := by decide +kernel
theorem dX9_copyRow_1 : decode cX9_copyRow 1 = .ok (.iconst 0, 1) := by decide +kernel
theorem dX9_copyRow_2 : decode cX9_copyRow 2 = .ok (.aload_n 1, 1) := by decide +kernel
theorem dX9_copyRow_3 : decode cX9_copyRow 3 = .ok (.iconst 0, 1) := by decide +kernel
theorem dX9_copyRow_4 : decode cX9_copyRow 4 = .ok (.aload_n 0, 1) := by decide +kernel
theorem dX9_copyRow_5 : decode cX9_copyRow 5 = .ok (.arraylength, 1) := by decide +kernel
theorem dX9_copyRow_6 : decode cX9_copyRow 6 = .ok (.aload_n 1, 1) := by decide +kernel
theorem dX9_copyRow_7 : decode cX9_copyRow 7 = .ok (.arraylength, 1) := by decide +kernel
theorem dX9_copyRow_8 : decode cX9_copyRow 8 = .ok (.invokestatic 175, 3) := by decide +kernel
theorem dX9_copyRow_11 : decode cX9_copyRow 11 = .ok (.invokestatic 240, 3) := by decide +kernel
theorem dX9_copyRow_14 : decode cX9_copyRow 14 = .ok (.return_, 1) := by decide +kernel
theorem dJ9_floorDiv_7cf53_0 : decode cJ9_floorDiv_7cf53 0 = .ok (.iload_n 0, 1) := by decide +kernel
theorem dJ9_floorDiv_7cf53_1 : decode cJ9_floorDiv_7cf53 1 = .ok (.iload_n 1, 1) := by decide +kernel
theorem dJ9_floorDiv_7cf53_2 : decode cJ9_floorDiv_7cf53 2 = .ok (.idiv, 1) := by decide +kernel
theorem dJ9_floorDiv_7cf53_3 : decode cJ9_floorDiv_7cf53 3 = .ok (.istore_n 2, 1) := by decide +kernel
theorem dJ9_floorDiv_7cf53_4 : decode cJ9_floorDiv_7cf53 4 = .ok (.iload_n 0, 1) := by decide +kernel
theorem dJ9_floorDiv_7cf53_5 : decode cJ9_floorDiv_7cf53 5 = .ok (.iload_n 1, 1) := by decide +kernel
theorem dJ9_floorDiv_7cf53_6 : decode cJ9_floorDiv_7cf53 6 = .ok (.ixor, 1) := by decide +kernel
theorem dJ9_floorDiv_7cf53_7 : decode cJ9_floorDiv_7cf53 7 = .ok (.ifCond .ge 14, 3) := by decide +kernel
theorem dJ9_floorDiv_7cf53_10 : decode cJ9_floorDiv_7cf53 10 = .ok (.iload_n 2, 1) := by decide +kernel
theorem dJ9_floorDiv_7cf53_11 : decode cJ9_floorDiv_7cf53 11 = .ok (.iload_n 1, 1) := by decide +kernel
theorem dJ9_floorDiv_7cf53_12 : decode cJ9_floorDiv_7cf53 12 = .ok (.imul, 1) := by decide +kernel
theorem dJ9_floorDiv_7cf53_13 : decode cJ9_floorDiv_7cf53 13 = .ok (.iload_n 0, 1) := by decide +kernel
theorem dJ9_floorDiv_7cf53_14 : decode cJ9_floorDiv_7cf53 14 = .ok (.if_icmp .eq 7, 3) := by decide +kernel
theorem dJ9_floorDiv_7cf53_17 : decode cJ9_floorDiv_7cf53 17 = .ok (.iload_n 2, 1) := by decide +kernel
theorem dJ9_floorDiv_7cf53_18 : decode cJ9_floorDiv_7cf53 18 = .ok (.iconst 1, 1) := by decide +kernel
theorem dJ9_floorDiv_7cf53_19 : decode cJ9_floorDiv_7cf53 19 = .ok (.isub, 1) := by decide +kernel
theorem dJ9_floorDiv_7cf53_20 : decode cJ9_floorDiv_7cf53 20 = .ok (.ireturn, 1) := by decide +kernel
theorem dJ9_floorDiv_7cf53_21 : decode cJ9_floorDiv_7cf53 21 = .ok (.iload_n 2, 1) := by decide +kernel
theorem dJ9_floorDiv_7cf53_22 : decode cJ9_floorDiv_7cf53 22 = .ok (.ireturn, 1) := by decide +kernel
theorem dJ9_floorDiv_f86c9_0 : decode cJ9_floorDiv_f86c9 0 = .ok (.lload_n 0, 1) := by decide +kernel
theorem dJ9_floorDiv_f86c9_1 : decode cJ9_floorDiv_f86c9 1 = .ok (.lload_n 2, 1) := by decide +kernel
theorem dJ9_floorDiv_f86c9_2 : decode cJ9_floorDiv_f86c9 2 = .ok (.ldiv, 1) := by decide +kernel
theorem dJ9_floorDiv_f86c9_3 : decode cJ9_floorDiv_f86c9 3 = .ok (.lstore 4, 2) := by decide +kernel
theorem dJ9_floorDiv_f86c9_5 : decode cJ9_floorDiv_f86c9 5 = .ok (.lload_n 0, 1) := by decide +kernel
theorem dJ9_floorDiv_f86c9_6 : decode cJ9_floorDiv_f86c9 6 = .ok (.lload_n 2, 1) := by decide +kernel
theorem dJ9_floorDiv_f86c9_7 : decode cJ9_floorDiv_f86c9 7 = .ok (.lxor, 1) := by decide +kernel
theorem dJ9_floorDiv_f86c9_8 : decode cJ9_floorDiv_f86c9 8 = .ok (.lconst 0, 1) := by decide +kernel
theorem dJ9_floorDiv_f86c9_9 : decode cJ9_floorDiv_f86c9 9 = .ok (.lcmp, 1) := by decide +kernel
theorem dJ9_floorDiv_f86c9_10 : decode cJ9_floorDiv_f86c9 10 = .ok (.ifCond .ge 17, 3) := by decide +kernel
theorem dJ9_floorDiv_f86c9_13 : decode cJ9_floorDiv_f86c9 13 = .ok (.lload 4, 2) := by decide +kernel
theorem dJ9_floorDiv_f86c9_15 : decode cJ9_floorDiv_f86c9 15 = .ok (.lload_n 2, 1) := by decide +kernel
theorem dJ9_floorDiv_f86c9_16 : decode cJ9_floorDiv_f86c9 16 = .ok (.lmul, 1) := by decide +kernel
theorem dJ9_floorDiv_f86c9_17 : decode cJ9_floorDiv_f86c9 17 = .ok (.lload_n 0, 1) := by decide +kernel
theorem dJ9_floorDiv_f86c9_18 : decode cJ9_floorDiv_f86c9 18 = .ok (.lcmp, 1) := by decide +kernel
theorem dJ9_floorDiv_f86c9_19 : decode cJ9_floorDiv_f86c9 19 = .ok (.ifCond .eq 8, 3) := by decide +kernel
theorem dJ9_floorDiv_f86c9_22 : decode cJ9_floorDiv_f86c9 22 = .ok (.lload 4, 2) := by decide +kernel
theorem dJ9_floorDiv_f86c9_24 : decode cJ9_floorDiv_f86c9 24 = .ok (.lconst 1, 1) := by decide +kernel
theorem dJ9_floorDiv_f86c9_25 : decode cJ9_floorDiv_f86c9 25 = .ok (.lsub, 1) := by decide +kernel
theorem dJ9_floorDiv_f86c9_26 : decode cJ9_floorDiv_f86c9 26 = .ok (.lreturn, 1) := by decide +kernel
theorem dJ9_floorDiv_f86c9_27 : decode cJ9_floorDiv_f86c9 27 = .ok (.lload 4, 2) := by decide +kernel
theorem dJ9_floorDiv_f86c9_29 : decode cJ9_floorDiv_f86c9 29 = .ok (.lreturn, 1) := by decide +kernel
theorem dJ9_floorMod_7cf53_0 : decode cJ9_floorMod_7cf53 0 = .ok (.iload_n 0, 1) := by decide +kernel
theorem dJ9_floorMod_7cf53_1 : decode cJ9_floorMod_7cf53 1 = .ok (.iload_n 1, 1) := by decide +kernel
theorem dJ9_floorMod_7cf53_2 : decode cJ9_floorMod_7cf53 2 = .ok (.irem, 1) := by decide +kernel
theorem dJ9_floorMod_7cf53_3 : decode cJ9_floorMod_7cf53 3 = .ok (.istore_n 2, 1) := by decide +kernel
theorem dJ9_floorMod_7cf53_4 : decode cJ9_floorMod_7cf53 4 = .ok (.iload_n 0, 1) := by decide +kernel
theorem dJ9_floorMod_7cf53_5 : decode cJ9_floorMod_7cf53 5 = .ok (.iload_n 1, 1) := by decide +kernel
theorem dJ9_floorMod_7cf53_6 : decode cJ9_floorMod_7cf53 6 = .ok (.ixor, 1) := by decide +kernel
theorem dJ9_floorMod_7cf53_7 : decode cJ9_floorMod_7cf53 7 = .ok (.ifCond .ge 11, 3) := by decide +kernel
theorem dJ9_floorMod_7cf53_10 : decode cJ9_floorMod_7cf53 10 = .ok (.iload_n 2, 1) := by decide +kernel
theorem dJ9_floorMod_7cf53_11 : decode cJ9_floorMod_7cf53 11 = .ok (.ifCond .eq 7, 3) := by decide +kernel
theorem dJ9_floorMod_7cf53_14 : decode cJ9_floorMod_7cf53 14 = .ok (.iload_n 2, 1) := by decide +kernel
theorem dJ9_floorMod_7cf53_15 : decode cJ9_floorMod_7cf53 15 = .ok (.iload_n 1, 1) := by decide +kernel
theorem dJ9_floorMod_7cf53_16 : decode cJ9_floorMod_7cf53 16 = .ok (.iadd, 1) := by decide +kernel
theorem dJ9_floorMod_7cf53_17 : decode cJ9_floorMod_7cf53 17 = .ok (.ireturn, 1) := by decide +kernel
theorem dJ9_floorMod_7cf53_18 : decode cJ9_floorMod_7cf53 18 = .ok (.iload_n 2, 1) := by decide +kernel
theorem dJ9_floorMod_7cf53_19 : decode cJ9_floorMod_7cf53 19 = .ok (.ireturn, 1) := by decide +kernel
theorem dJ9_abs_0f7a4_0 : decode cJ9_abs_0f7a4 0 = .ok (.iload_n 0, 1) := by decide +kernel
theorem dJ9_abs_0f7a4_1 : decode cJ9_abs_0f7a4 1 = .ok (.ifCond .ge 8, 3) := by decide +kernel
theorem dJ9_abs_0f7a4_4 : decode cJ9_abs_0f7a4 4 = .ok (.iload_n 0, 1) := by decide +kernel
theorem dJ9_abs_0f7a4_5 : decode cJ9_abs_0f7a4 5 = .ok (.ineg, 1) := by decide +kernel
theorem dJ9_abs_0f7a4_6 : decode cJ9_abs_0f7a4 6 = .ok (.goto 4, 3) := by decide +kernel
theorem dJ9_abs_0f7a4_9 : decode cJ9_abs_0f7a4 9 = .ok (.iload_n 0, 1) := by decide +kernel
theorem dJ9_abs_0f7a4_10 : decode cJ9_abs_0f7a4 10 = .ok (.ireturn, 1) := by decide +kernel
theorem dJ9_max_7cf53_0 : decode cJ9_max_7cf53 0 = .ok (.iload_n 0, 1) := by decide +kernel
theorem dJ9_max_7cf53_1 : decode cJ9_max_7cf53 1 = .ok (.iload_n 1, 1) := by decide +kernel
theorem dJ9_max_7cf53_2 : decode cJ9_max_7cf53 2 = .ok (.if_icmp .lt 7, 3) := by decide +kernel
theorem dJ9_max_7cf53_5 : decode cJ9_max_7cf53 5 = .ok (.iload_n 0, 1) := by decide +kernel
theorem dJ9_max_7cf53_6 : decode cJ9_max_7cf53 6 = .ok (.goto 4, 3) := by decide +kernel
theorem dJ9_max_7cf53_9 : decode cJ9_max_7cf53 9 = .ok (.iload_n 1, 1) := by decide +kernel
theorem dJ9_max_7cf53_10 : decode cJ9_max_7cf53 10 = .ok (.ireturn, 1) := by decide +kernel
theorem dJ9_min_7cf53_0 : decode cJ9_min_7cf53 0 = .ok (.iload_n 0, 1) := by decide +kernel
theorem dJ9_min_7cf53_1 : decode cJ9_min_7cf53 1 = .ok (.iload_n 1, 1) := by decide +kernel
theorem dJ9_min_7cf53_2 : decode cJ9_min_7cf53 2 = .ok (.if_icmp .gt 7, 3) := by decide +kernel
theorem dJ9_min_7cf53_5 : decode cJ9_min_7cf53 5 = .ok (.iload_n 0, 1) := by decide +kernel
theorem dJ9_min_7cf53_6 : decode cJ9_min_7cf53 6 = .ok (.goto 4, 3) := by decide +kernel
theorem dJ9_min_7cf53_9 : decode cJ9_min_7cf53 9 = .ok (.iload_n 1, 1) := by decide +kernel
theorem dJ9_min_7cf53_10 : decode cJ9_min_7cf53 10 = .ok (.ireturn, 1) := by decide +kernel
theorem dL_cell_0 : decode cL_cell 0 = .ok (.iload_n 1, 1) := by decide +kernel
theorem dL_cell_1 : decode cL_cell 1 = .ok (.aload_n 0, 1) := by decide +kernel
theorem dL_cell_2 : decode cL_cell 2 = .ok (.arraylength, 1) := by decide +kernel
theorem dL_cell_3 : decode cL_cell 3 = .ok (.if_icmp .ge 9, 3) := by decide +kernel
theorem dL_cell_6 : decode cL_cell 6 = .ok (.aload_n 0, 1) := by decide +kernel
theorem dL_cell_7 : decode cL_cell 7 = .ok (.iload_n 1, 1) := by decide +kernel
theorem dL_cell_8 : decode cL_cell 8 = .ok (.iaload, 1) := by decide +kernel
theorem dL_cell_9 : decode cL_cell 9 = .ok (.goto 15, 3) := by decide +kernel
theorem dL_cell_12 : decode cL_cell 12 = .ok (.sipush 7919, 3) := by decide +kernel
theorem dL_cell_15 : decode cL_cell 15 = .ok (.iload_n 1, 1) := by decide +kernel
theorem dL_cell_16 : decode cL_cell 16 = .ok (.iconst 3, 1) := by decide +kernel
theorem dL_cell_17 : decode cL_cell 17 = .ok (.iadd, 1) := by decide +kernel
theorem dL_cell_18 : decode cL_cell 18 = .ok (.imul, 1) := by decide +kernel
theorem dL_cell_19 : decode cL_cell 19 = .ok (.iload_n 1, 1) := by decide +kernel
theorem dL_cell_20 : decode cL_cell 20 = .ok (.bipush 11, 2) := by decide +kernel
theorem dL_cell_22 : decode cL_cell 22 = .ok (.iadd, 1) := by decide +kernel
theorem dL_cell_23 : decode cL_cell 23 = .ok (.imul, 1) := by decide +kernel
theorem dL_cell_24 : decode cL_cell 24 = .ok (.ireturn, 1) := by decide +kernel
theorem dL_low_0 : decode cL_low 0 = .ok (.iload_n 0, 1) := by decide +kernel
theorem dL_low_1 : decode cL_low 1 = .ok (.ldc 7, 2) := by decide +kernel
theorem dL_low_3 : decode cL_low 3 = .ok (.iand, 1) := by decide +kernel
theorem dL_low_4 : decode cL_low 4 = .ok (.iload_n 1, 1) := by decide +kernel
theorem dL_low_5 : decode cL_low 5 = .ok (.irem, 1) := by decide +kernel
theorem dL_low_6 : decode cL_low 6 = .ok (.ireturn, 1) := by decide +kernel
theorem dL_digest_0 : decode cL_digest 0 = .ok (.ldc2_w 8, 3) := by decide +kernel
theorem dL_digest_3 : decode cL_digest 3 = .ok (.lstore_n 1, 1) := by decide +kernel
theorem dL_digest_4 : decode cL_digest 4 = .ok (.iconst 0, 1) := by decide +kernel
theorem dL_digest_5 : decode cL_digest 5 = .ok (.istore_n 3, 1) := by decide +kernel
theorem dL_digest_6 : decode cL_digest 6 = .ok (.iload_n 3, 1) := by decide +kernel
theorem dL_digest_7 : decode cL_digest 7 = .ok (.bipush 11, 2) := by decide +kernel
theorem dL_digest_9 : decode cL_digest 9 = .ok (.if_icmp .ge 22, 3) := by decide +kernel
theorem dL_digest_12 : decode cL_digest 12 = .ok (.ldc2_w 10, 3) := by decide +kernel
theorem dL_digest_15 : decode cL_digest 15 = .ok (.lload_n 1, 1) := by decide +kernel
theorem dL_digest_16 : decode cL_digest 16 = .ok (.lmul, 1) := by decide +kernel
theorem dL_digest_17 : decode cL_digest 17 = .ok (.aload_n 0, 1) := by decide +kernel
theorem dL_digest_18 : decode cL_digest 18 = .ok (.iload_n 3, 1) := by decide +kernel
theorem dL_digest_19 : decode cL_digest 19 = .ok (.invokevirtual 12, 3) := by decide +kernel
theorem dL_digest_22 : decode cL_digest 22 = .ok (.i2l, 1) := by decide +kernel
theorem dL_digest_23 : decode cL_digest 23 = .ok (.ladd, 1) := by decide +kernel
theorem dL_digest_24 : decode cL_digest 24 = .ok (.lstore_n 1, 1) := by decide +kernel
theorem dL_digest_25 : decode cL_digest 25 = .ok (.iinc 3 1, 3) := by decide +kernel
theorem dL_digest_28 : decode cL_digest 28 = .ok (.goto (-22), 3) := by decide +kernel
theorem dL_digest_31 : decode cL_digest 31 = .ok (.iconst 0, 1) := by decide +kernel
theorem dL_digest_32 : decode cL_digest 32 = .ok (.istore_n 3, 1) := by decide +kernel
theorem dL_digest_33 : decode cL_digest 33 = .ok (.iload_n 3, 1) := by decide +kernel
theorem dL_digest_34 : decode cL_digest 34 = .ok (.bipush 10, 2) := by decide +kernel
theorem dL_digest_36 : decode cL_digest 36 = .ok (.if_icmp .ge 22, 3) := by decide +kernel
theorem dL_digest_39 : decode cL_digest 39 = .ok (.ldc2_w 10, 3) := by decide +kernel
theorem dL_digest_42 : decode cL_digest 42 = .ok (.lload_n 1, 1) := by decide +kernel
theorem dL_digest_43 : decode cL_digest 43 = .ok (.lmul, 1) := by decide +kernel
theorem dL_digest_44 : decode cL_digest 44 = .ok (.aload_n 0, 1) := by decide +kernel
theorem dL_digest_45 : decode cL_digest 45 = .ok (.iload_n 3, 1) := by decide +kernel
theorem dL_digest_46 : decode cL_digest 46 = .ok (.invokevirtual 18, 3) := by decide +kernel
theorem dL_digest_49 : decode cL_digest 49 = .ok (.i2l, 1) := by decide +kernel
theorem dL_digest_50 : decode cL_digest 50 = .ok (.ladd, 1) := by decide +kernel
theorem dL_digest_51 : decode cL_digest 51 = .ok (.lstore_n 1, 1) := by decide +kernel
theorem dL_digest_52 : decode cL_digest 52 = .ok (.iinc 3 1, 3) := by decide +kernel
theorem dL_digest_55 : decode cL_digest 55 = .ok (.goto (-22), 3) := by decide +kernel
theorem dL_digest_58 : decode cL_digest 58 = .ok (.iconst 0, 1) := by decide +kernel
theorem dL_digest_59 : decode cL_digest 59 = .ok (.istore_n 3, 1) := by decide +kernel
theorem dL_digest_60 : decode cL_digest 60 = .ok (.iload_n 3, 1) := by decide +kernel
theorem dL_digest_61 : decode cL_digest 61 = .ok (.bipush 9, 2) := by decide +kernel
theorem dL_digest_63 : decode cL_digest 63 = .ok (.if_icmp .ge 73, 3) := by decide +kernel
theorem dL_digest_66 : decode cL_digest 66 = .ok (.ldc2_w 10, 3) := by decide +kernel
theorem dL_digest_69 : decode cL_digest 69 = .ok (.lload_n 1, 1) := by decide +kernel
theorem dL_digest_70 : decode cL_digest 70 = .ok (.lmul, 1) := by decide +kernel
theorem dL_digest_71 : decode cL_digest 71 = .ok (.aload_n 0, 1) := by decide +kernel
theorem dL_digest_72 : decode cL_digest 72 = .ok (.iload_n 3, 1) := by decide +kernel
theorem dL_digest_73 : decode cL_digest 73 = .ok (.iconst 0, 1) := by decide +kernel
theorem dL_digest_74 : decode cL_digest 74 = .ok (.invokevirtual 21, 3) := by decide +kernel
theorem dL_digest_77 : decode cL_digest 77 = .ok (.i2l, 1) := by decide +kernel
theorem dL_digest_78 : decode cL_digest 78 = .ok (.ladd, 1) := by decide +kernel
theorem dL_digest_79 : decode cL_digest 79 = .ok (.lstore_n 1, 1) := by decide +kernel
theorem dL_digest_80 : decode cL_digest 80 = .ok (.ldc2_w 10, 3) := by decide +kernel
theorem dL_digest_83 : decode cL_digest 83 = .ok (.lload_n 1, 1) := by decide +kernel
theorem dL_digest_84 : decode cL_digest 84 = .ok (.lmul, 1) := by decide +kernel
theorem dL_digest_85 : decode cL_digest 85 = .ok (.aload_n 0, 1) := by decide +kernel
theorem dL_digest_86 : decode cL_digest 86 = .ok (.iload_n 3, 1) := by decide +kernel
theorem dL_digest_87 : decode cL_digest 87 = .ok (.iconst 4, 1) := by decide +kernel
theorem dL_digest_88 : decode cL_digest 88 = .ok (.invokevirtual 21, 3) := by decide +kernel
theorem dL_digest_91 : decode cL_digest 91 = .ok (.i2l, 1) := by decide +kernel
theorem dL_digest_92 : decode cL_digest 92 = .ok (.ladd, 1) := by decide +kernel
theorem dL_digest_93 : decode cL_digest 93 = .ok (.lstore_n 1, 1) := by decide +kernel
theorem dL_digest_94 : decode cL_digest 94 = .ok (.ldc2_w 10, 3) := by decide +kernel
theorem dL_digest_97 : decode cL_digest 97 = .ok (.lload_n 1, 1) := by decide +kernel
theorem dL_digest_98 : decode cL_digest 98 = .ok (.lmul, 1) := by decide +kernel
theorem dL_digest_99 : decode cL_digest 99 = .ok (.aload_n 0, 1) := by decide +kernel
theorem dL_digest_100 : decode cL_digest 100 = .ok (.bipush 40, 2) := by decide +kernel
theorem dL_digest_102 : decode cL_digest 102 = .ok (.iload_n 3, 1) := by decide +kernel
theorem dL_digest_103 : decode cL_digest 103 = .ok (.imul, 1) := by decide +kernel
theorem dL_digest_104 : decode cL_digest 104 = .ok (.invokevirtual 25, 3) := by decide +kernel
theorem dL_digest_107 : decode cL_digest 107 = .ok (.i2l, 1) := by decide +kernel
theorem dL_digest_108 : decode cL_digest 108 = .ok (.ladd, 1) := by decide +kernel
theorem dL_digest_109 : decode cL_digest 109 = .ok (.lstore_n 1, 1) := by decide +kernel
theorem dL_digest_110 : decode cL_digest 110 = .ok (.ldc2_w 10, 3) := by decide +kernel
theorem dL_digest_113 : decode cL_digest 113 = .ok (.lload_n 1, 1) := by decide +kernel
theorem dL_digest_114 : decode cL_digest 114 = .ok (.lmul, 1) := by decide +kernel
theorem dL_digest_115 : decode cL_digest 115 = .ok (.aload_n 0, 1) := by decide +kernel
theorem dL_digest_116 : decode cL_digest 116 = .ok (.sipush 300, 3) := by decide +kernel
theorem dL_digest_119 : decode cL_digest 119 = .ok (.iload_n 3, 1) := by decide +kernel
theorem dL_digest_120 : decode cL_digest 120 = .ok (.imul, 1) := by decide +kernel
theorem dL_digest_121 : decode cL_digest 121 = .ok (.bipush 100, 2) := by decide +kernel
theorem dL_digest_123 : decode cL_digest 123 = .ok (.iadd, 1) := by decide +kernel
theorem dL_digest_124 : decode cL_digest 124 = .ok (.invokevirtual 28, 3) := by decide +kernel
theorem dL_digest_127 : decode cL_digest 127 = .ok (.i2l, 1) := by decide +kernel
theorem dL_digest_128 : decode cL_digest 128 = .ok (.ladd, 1) := by decide +kernel
theorem dL_digest_129 : decode cL_digest 129 = .ok (.lstore_n 1, 1) := by decide +kernel
theorem dL_digest_130 : decode cL_digest 130 = .ok (.iinc 3 1, 3) := by decide +kernel
theorem dL_digest_133 : decode cL_digest 133 = .ok (.goto (-73), 3) := by decide +kernel
theorem dL_digest_136 : decode cL_digest 136 = .ok (.lload_n 1, 1) := by decide +kernel
theorem dL_digest_137 : decode cL_digest 137 = .ok (.lreturn, 1) := by decide +kernel
theorem dL_act_0 : decode cL_act 0 = .ok (.iload_n 1, 1) := by decide +kernel
theorem dL_act_1 : decode cL_act 1 = .ok (.bipush 15, 2) := by decide +kernel
theorem dL_act_3 : decode cL_act 3 = .ok (.iand, 1) := by decide +kernel
theorem dL_act_4 : decode cL_act 4 = .ok (.tableswitch 310 0 11 #[64, 78, 91, 128, 152, 181, 196, 221, 237, 263, 290, 295], 64) := by decide +kernel
theorem dL_act_68 : decode cL_act 68 = .ok (.aload_n 0, 1) := by decide +kernel
theorem dL_act_69 : decode cL_act 69 = .ok (.iload_n 1, 1) := by decide +kernel
theorem dL_act_70 : decode cL_act 70 = .ok (.iconst 4, 1) := by decide +kernel
theorem dL_act_71 : decode cL_act 71 = .ok (.ishr, 1) := by decide +kernel
theorem dL_act_72 : decode cL_act 72 = .ok (.sipush 402, 3) := by decide +kernel
theorem dL_act_75 : decode cL_act 75 = .ok (.invokestatic 31, 3) := by decide +kernel
theorem dL_act_78 : decode cL_act 78 = .ok (.invokevirtual 36, 3) := by decide +kernel
theorem dL_act_81 : decode cL_act 81 = .ok (.ireturn, 1) := by decide +kernel
theorem dL_act_82 : decode cL_act 82 = .ok (.aload_n 0, 1) := by decide +kernel
theorem dL_act_83 : decode cL_act 83 = .ok (.iload_n 1, 1) := by decide +kernel
theorem dL_act_84 : decode cL_act 84 = .ok (.iconst 4, 1) := by decide +kernel
theorem dL_act_85 : decode cL_act 85 = .ok (.ishr, 1) := by decide +kernel
theorem dL_act_86 : decode cL_act 86 = .ok (.bipush 102, 2) := by decide +kernel
theorem dL_act_88 : decode cL_act 88 = .ok (.invokestatic 31, 3) := by decide +kernel
theorem dL_act_91 : decode cL_act 91 = .ok (.invokevirtual 39, 3) := by decide +kernel
theorem dL_act_94 : decode cL_act 94 = .ok (.ireturn, 1) := by decide +kernel
theorem dL_act_95 : decode cL_act 95 = .ok (.aload_n 0, 1) := by decide +kernel
theorem dL_act_96 : decode cL_act 96 = .ok (.iload_n 1, 1) := by decide +kernel
theorem dL_act_97 : decode cL_act 97 = .ok (.iconst 4, 1) := by decide +kernel
theorem dL_act_98 : decode cL_act 98 = .ok (.ishr, 1) := by decide +kernel
theorem dL_act_99 : decode cL_act 99 = .ok (.iconst 1, 1) := by decide +kernel
theorem dL_act_100 : decode cL_act 100 = .ok (.iand, 1) := by decide +kernel
theorem dL_act_101 : decode cL_act 101 = .ok (.iload_n 1, 1) := by decide +kernel
theorem dL_act_102 : decode cL_act 102 = .ok (.iconst 5, 1) := by decide +kernel
theorem dL_act_103 : decode cL_act 103 = .ok (.ishr, 1) := by decide +kernel
theorem dL_act_104 : decode cL_act 104 = .ok (.sipush 202, 3) := by decide +kernel
theorem dL_act_107 : decode cL_act 107 = .ok (.invokestatic 31, 3) := by decide +kernel
theorem dL_act_110 : decode cL_act 110 = .ok (.iload_n 1, 1) := by decide +kernel
theorem dL_act_111 : decode cL_act 111 = .ok (.iconst 3, 1) := by decide +kernel
theorem dL_act_112 : decode cL_act 112 = .ok (.ishr, 1) := by decide +kernel
theorem dL_act_113 : decode cL_act 113 = .ok (.sipush 201, 3) := by decide +kernel
theorem dL_act_116 : decode cL_act 116 = .ok (.invokestatic 31, 3) := by decide +kernel
theorem dL_act_119 : decode cL_act 119 = .ok (.iload_n 1, 1) := by decide +kernel
theorem dL_act_120 : decode cL_act 120 = .ok (.bipush 6, 2) := by decide +kernel
theorem dL_act_122 : decode cL_act 122 = .ok (.ishr, 1) := by decide +kernel
theorem dL_act_123 : decode cL_act 123 = .ok (.bipush 101, 2) := by decide +kernel
theorem dL_act_125 : decode cL_act 125 = .ok (.invokestatic 31, 3) := by decide +kernel
theorem dL_act_128 : decode cL_act 128 = .ok (.invokevirtual 42, 3) := by decide +kernel
theorem dL_act_131 : decode cL_act 131 = .ok (.ireturn, 1) := by decide +kernel
theorem dL_act_132 : decode cL_act 132 = .ok (.aload_n 0, 1) := by decide +kernel
theorem dL_act_133 : decode cL_act 133 = .ok (.iconst 1, 1) := by decide +kernel
theorem dL_act_134 : decode cL_act 134 = .ok (.iload_n 1, 1) := by decide +kernel
theorem dL_act_135 : decode cL_act 135 = .ok (.iconst 4, 1) := by decide +kernel
theorem dL_act_136 : decode cL_act 136 = .ok (.ishr, 1) := by decide +kernel
theorem dL_act_137 : decode cL_act 137 = .ok (.bipush 60, 2) := by decide +kernel
theorem dL_act_139 : decode cL_act 139 = .ok (.invokestatic 31, 3) := by decide +kernel
theorem dL_act_142 : decode cL_act 142 = .ok (.iadd, 1) := by decide +kernel
theorem dL_act_143 : decode cL_act 143 = .ok (.iload_n 1, 1) := by decide +kernel
theorem dL_act_144 : decode cL_act 144 = .ok (.bipush 6, 2) := by decide +kernel
theorem dL_act_146 : decode cL_act 146 = .ok (.ishr, 1) := by decide +kernel
theorem dL_act_147 : decode cL_act 147 = .ok (.bipush 7, 2) := by decide +kernel
theorem dL_act_149 : decode cL_act 149 = .ok (.invokestatic 31, 3) := by decide +kernel
theorem dL_act_152 : decode cL_act 152 = .ok (.invokevirtual 46, 3) := by decide +kernel
theorem dL_act_155 : decode cL_act 155 = .ok (.ireturn, 1) := by decide +kernel
theorem dL_act_156 : decode cL_act 156 = .ok (.aload_n 0, 1) := by decide +kernel
theorem dL_act_157 : decode cL_act 157 = .ok (.sipush 1500, 3) := by decide +kernel
theorem dL_act_160 : decode cL_act 160 = .ok (.iload_n 1, 1) := by decide +kernel
theorem dL_act_161 : decode cL_act 161 = .ok (.iconst 4, 1) := by decide +kernel
theorem dL_act_162 : decode cL_act 162 = .ok (.ishr, 1) := by decide +kernel
theorem dL_act_163 : decode cL_act 163 = .ok (.sipush 802, 3) := by decide +kernel
theorem dL_act_166 : decode cL_act 166 = .ok (.invokestatic 31, 3) := by decide +kernel
theorem dL_act_169 : decode cL_act 169 = .ok (.iadd, 1) := by decide +kernel
theorem dL_act_170 : decode cL_act 170 = .ok (.iconst 1, 1) := by decide +kernel
theorem dL_act_171 : decode cL_act 171 = .ok (.iload_n 1, 1) := by decide +kernel
theorem dL_act_172 : decode cL_act 172 = .ok (.iconst 3, 1) := by decide +kernel
theorem dL_act_173 : decode cL_act 173 = .ok (.ishr, 1) := by decide +kernel
theorem dL_act_174 : decode cL_act 174 = .ok (.sipush 600, 3) := by decide +kernel
theorem dL_act_177 : decode cL_act 177 = .ok (.invokestatic 31, 3) := by decide +kernel
theorem dL_act_180 : decode cL_act 180 = .ok (.iadd, 1) := by decide +kernel
theorem dL_act_181 : decode cL_act 181 = .ok (.invokevirtual 49, 3) := by decide +kernel
theorem dL_act_184 : decode cL_act 184 = .ok (.ireturn, 1) := by decide +kernel
theorem dL_act_185 : decode cL_act 185 = .ok (.aload_n 0, 1) := by decide +kernel
theorem dL_act_186 : decode cL_act 186 = .ok (.iconst 1, 1) := by decide +kernel
theorem dL_act_187 : decode cL_act 187 = .ok (.iload_n 1, 1) := by decide +kernel
theorem dL_act_188 : decode cL_act 188 = .ok (.iconst 4, 1) := by decide +kernel
theorem dL_act_189 : decode cL_act 189 = .ok (.ishr, 1) := by decide +kernel
theorem dL_act_190 : decode cL_act 190 = .ok (.bipush 51, 2) := by decide +kernel
theorem dL_act_192 : decode cL_act 192 = .ok (.invokestatic 31, 3) := by decide +kernel
theorem dL_act_195 : decode cL_act 195 = .ok (.iadd, 1) := by decide +kernel
theorem dL_act_196 : decode cL_act 196 = .ok (.invokevirtual 52, 3) := by decide +kernel
theorem dL_act_199 : decode cL_act 199 = .ok (.ireturn, 1) := by decide +kernel
theorem dL_act_200 : decode cL_act 200 = .ok (.aload_n 0, 1) := by decide +kernel
theorem dL_act_201 : decode cL_act 201 = .ok (.iload_n 1, 1) := by decide +kernel
theorem dL_act_202 : decode cL_act 202 = .ok (.iconst 4, 1) := by decide +kernel
theorem dL_act_203 : decode cL_act 203 = .ok (.ishr, 1) := by decide +kernel
theorem dL_act_204 : decode cL_act 204 = .ok (.bipush 60, 2) := by decide +kernel
theorem dL_act_206 : decode cL_act 206 = .ok (.invokestatic 31, 3) := by decide +kernel
theorem dL_act_209 : decode cL_act 209 = .ok (.bipush 7, 2) := by decide +kernel
theorem dL_act_211 : decode cL_act 211 = .ok (.imul, 1) := by decide +kernel
theorem dL_act_212 : decode cL_act 212 = .ok (.iload_n 1, 1) := by decide +kernel
theorem dL_act_213 : decode cL_act 213 = .ok (.iconst 2, 1) := by decide +kernel
theorem dL_act_214 : decode cL_act 214 = .ok (.ishr, 1) := by decide +kernel
theorem dL_act_215 : decode cL_act 215 = .ok (.sipush 3001, 3) := by decide +kernel
theorem dL_act_218 : decode cL_act 218 = .ok (.invokestatic 31, 3) := by decide +kernel
theorem dL_act_221 : decode cL_act 221 = .ok (.invokevirtual 55, 3) := by decide +kernel
theorem dL_act_224 : decode cL_act 224 = .ok (.ireturn, 1) := by decide +kernel
theorem dL_act_225 : decode cL_act 225 = .ok (.aload_n 0, 1) := by decide +kernel
theorem dL_act_226 : decode cL_act 226 = .ok (.iload_n 1, 1) := by decide +kernel
theorem dL_act_227 : decode cL_act 227 = .ok (.iconst 4, 1) := by decide +kernel
theorem dL_act_228 : decode cL_act 228 = .ok (.ishr, 1) := by decide +kernel
theorem dL_act_229 : decode cL_act 229 = .ok (.bipush 60, 2) := by decide +kernel
theorem dL_act_231 : decode cL_act 231 = .ok (.invokestatic 31, 3) := by decide +kernel
theorem dL_act_234 : decode cL_act 234 = .ok (.bipush 7, 2) := by decide +kernel
theorem dL_act_236 : decode cL_act 236 = .ok (.imul, 1) := by decide +kernel
theorem dL_act_237 : decode cL_act 237 = .ok (.invokevirtual 58, 3) := by decide +kernel
theorem dL_act_240 : decode cL_act 240 = .ok (.ireturn, 1) := by decide +kernel
theorem dL_act_241 : decode cL_act 241 = .ok (.aload_n 0, 1) := by decide +kernel
theorem dL_act_242 : decode cL_act 242 = .ok (.iload_n 1, 1) := by decide +kernel
theorem dL_act_243 : decode cL_act 243 = .ok (.iconst 4, 1) := by decide +kernel
theorem dL_act_244 : decode cL_act 244 = .ok (.ishr, 1) := by decide +kernel
theorem dL_act_245 : decode cL_act 245 = .ok (.bipush 31, 2) := by decide +kernel
theorem dL_act_247 : decode cL_act 247 = .ok (.invokestatic 31, 3) := by decide +kernel
theorem dL_act_250 : decode cL_act 250 = .ok (.bipush 100, 2) := by decide +kernel
theorem dL_act_252 : decode cL_act 252 = .ok (.imul, 1) := by decide +kernel
theorem dL_act_253 : decode cL_act 253 = .ok (.iload_n 1, 1) := by decide +kernel
theorem dL_act_254 : decode cL_act 254 = .ok (.iconst 3, 1) := by decide +kernel
theorem dL_act_255 : decode cL_act 255 = .ok (.ishr, 1) := by decide +kernel
theorem dL_act_256 : decode cL_act 256 = .ok (.bipush 40, 2) := by decide +kernel
theorem dL_act_258 : decode cL_act 258 = .ok (.invokestatic 31, 3) := by decide +kernel
theorem dL_act_261 : decode cL_act 261 = .ok (.iconst 1, 1) := by decide +kernel
theorem dL_act_262 : decode cL_act 262 = .ok (.isub, 1) := by decide +kernel
theorem dL_act_263 : decode cL_act 263 = .ok (.invokevirtual 61, 3) := by decide +kernel
theorem dL_act_266 : decode cL_act 266 = .ok (.ireturn, 1) := by decide +kernel
theorem dL_act_267 : decode cL_act 267 = .ok (.aload_n 0, 1) := by decide +kernel
theorem dL_act_268 : decode cL_act 268 = .ok (.bipush 100, 2) := by decide +kernel
theorem dL_act_270 : decode cL_act 270 = .ok (.iload_n 1, 1) := by decide +kernel
theorem dL_act_271 : decode cL_act 271 = .ok (.iconst 4, 1) := by decide +kernel
theorem dL_act_272 : decode cL_act 272 = .ok (.ishr, 1) := by decide +kernel
theorem dL_act_273 : decode cL_act 273 = .ok (.sipush 902, 3) := by decide +kernel
theorem dL_act_276 : decode cL_act 276 = .ok (.invokestatic 31, 3) := by decide +kernel
theorem dL_act_279 : decode cL_act 279 = .ok (.iadd, 1) := by decide +kernel
theorem dL_act_280 : decode cL_act 280 = .ok (.invokevirtual 64, 3) := by decide +kernel
theorem dL_act_283 : decode cL_act 283 = .ok (.ldc 67, 2) := by decide +kernel
theorem dL_act_285 : decode cL_act 285 = .ok (.if_icmp .lt 7, 3) := by decide +kernel
theorem dL_act_288 : decode cL_act 288 = .ok (.iconst 1, 1) := by decide +kernel
theorem dL_act_289 : decode cL_act 289 = .ok (.goto 4, 3) := by decide +kernel
theorem dL_act_292 : decode cL_act 292 = .ok (.iconst (-1), 1) := by decide +kernel
theorem dL_act_293 : decode cL_act 293 = .ok (.ireturn, 1) := by decide +kernel
theorem dL_act_294 : decode cL_act 294 = .ok (.aload_n 0, 1) := by decide +kernel
theorem dL_act_295 : decode cL_act 295 = .ok (.invokevirtual 68, 3) := by decide +kernel
theorem dL_act_298 : decode cL_act 298 = .ok (.ireturn, 1) := by decide +kernel
theorem dL_act_299 : decode cL_act 299 = .ok (.aload_n 0, 1) := by decide +kernel
theorem dL_act_300 : decode cL_act 300 = .ok (.invokevirtual 72, 3) := by decide +kernel
theorem dL_act_303 : decode cL_act 303 = .ok (.ldc 67, 2) := by decide +kernel
theorem dL_act_305 : decode cL_act 305 = .ok (.if_icmp .lt 7, 3) := by decide +kernel
theorem dL_act_308 : decode cL_act 308 = .ok (.iconst 1, 1) := by decide +kernel
theorem dL_act_309 : decode cL_act 309 = .ok (.goto 4, 3) := by decide +kernel
theorem dL_act_312 : decode cL_act 312 = .ok (.iconst (-1), 1) := by decide +kernel
theorem dL_act_313 : decode cL_act 313 = .ok (.ireturn, 1) := by decide +kernel
theorem dL_act_314 : decode cL_act 314 = .ok (.aload_n 0, 1) := by decide +kernel
theorem dL_act_315 : decode cL_act 315 = .ok (.iconst 1, 1) := by decide +kernel
theorem dL_act_316 : decode cL_act 316 = .ok (.iload_n 1, 1) := by decide +kernel
theorem dL_act_317 : decode cL_act 317 = .ok (.iconst 4, 1) := by decide +kernel
theorem dL_act_318 : decode cL_act 318 = .ok (.ishr, 1) := by decide +kernel
theorem dL_act_319 : decode cL_act 319 = .ok (.bipush 120, 2) := by decide +kernel
theorem dL_act_321 : decode cL_act 321 = .ok (.invokestatic 31, 3) := by decide +kernel
theorem dL_act_324 : decode cL_act 324 = .ok (.iadd, 1) := by decide +kernel
theorem dL_act_325 : decode cL_act 325 = .ok (.invokevirtual 75, 3) := by decide +kernel
theorem dL_act_328 : decode cL_act 328 = .ok (.ldc 67, 2) := by decide +kernel
theorem dL_act_330 : decode cL_act 330 = .ok (.if_icmp .lt 7, 3) := by decide +kernel
theorem dL_act_333 : decode cL_act 333 = .ok (.iconst 1, 1) := by decide +kernel
theorem dL_act_334 : decode cL_act 334 = .ok (.goto 4, 3) := by decide +kernel
theorem dL_act_337 : decode cL_act 337 = .ok (.iconst (-1), 1) := by decide +kernel
theorem dL_act_338 : decode cL_act 338 = .ok (.ireturn, 1) := by decide +kernel
theorem dL_isRight_0 : decode cL_isRight 0 = .ok (.aload_n 0, 1) := by decide +kernel
theorem dL_isRight_1 : decode cL_isRight 1 = .ok (.iconst 5, 1) := by decide +kernel
theorem dL_isRight_2 : decode cL_isRight 2 = .ok (.invokevirtual 12, 3) := by decide +kernel
theorem dL_isRight_5 : decode cL_isRight 5 = .ok (.ifCond .lt 69, 3) := by decide +kernel
theorem dL_isRight_8 : decode cL_isRight 8 = .ok (.aload_n 0, 1) := by decide +kernel
theorem dL_isRight_9 : decode cL_isRight 9 = .ok (.iconst 5, 1) := by decide +kernel
theorem dL_isRight_10 : decode cL_isRight 10 = .ok (.invokevirtual 12, 3) := by decide +kernel
theorem dL_isRight_13 : decode cL_isRight 13 = .ok (.bipush 100, 2) := by decide +kernel
theorem dL_isRight_15 : decode cL_isRight 15 = .ok (.if_icmp .gt 59, 3) := by decide +kernel
theorem dL_isRight_18 : decode cL_isRight 18 = .ok (.aload_n 0, 1) := by decide +kernel
theorem dL_isRight_19 : decode cL_isRight 19 = .ok (.bipush 6, 2) := by decide +kernel
theorem dL_isRight_21 : decode cL_isRight 21 = .ok (.invokevirtual 12, 3) := by decide +kernel
theorem dL_isRight_24 : decode cL_isRight 24 = .ok (.iconst 1, 1) := by decide +kernel
theorem dL_isRight_25 : decode cL_isRight 25 = .ok (.if_icmp .lt 49, 3) := by decide +kernel
theorem dL_isRight_28 : decode cL_isRight 28 = .ok (.aload_n 0, 1) := by decide +kernel
theorem dL_isRight_29 : decode cL_isRight 29 = .ok (.bipush 6, 2) := by decide +kernel
theorem dL_isRight_31 : decode cL_isRight 31 = .ok (.invokevirtual 12, 3) := by decide +kernel
theorem dL_isRight_34 : decode cL_isRight 34 = .ok (.bipush 60, 2) := by decide +kernel
theorem dL_isRight_36 : decode cL_isRight 36 = .ok (.if_icmp .gt 38, 3) := by decide +kernel
theorem dL_isRight_39 : decode cL_isRight 39 = .ok (.aload_n 0, 1) := by decide +kernel
theorem dL_isRight_40 : decode cL_isRight 40 = .ok (.bipush 10, 2) := by decide +kernel
theorem dL_isRight_42 : decode cL_isRight 42 = .ok (.invokevirtual 12, 3) := by decide +kernel
theorem dL_isRight_45 : decode cL_isRight 45 = .ok (.bipush 8, 2) := by decide +kernel
theorem dL_isRight_47 : decode cL_isRight 47 = .ok (.if_icmp .gt 27, 3) := by decide +kernel
theorem dL_isRight_50 : decode cL_isRight 50 = .ok (.aload_n 0, 1) := by decide +kernel
theorem dL_isRight_51 : decode cL_isRight 51 = .ok (.bipush 7, 2) := by decide +kernel
theorem dL_isRight_53 : decode cL_isRight 53 = .ok (.invokevirtual 12, 3) := by decide +kernel
theorem dL_isRight_56 : decode cL_isRight 56 = .ok (.sipush 20000, 3) := by decide +kernel
theorem dL_isRight_59 : decode cL_isRight 59 = .ok (.if_icmp .gt 15, 3) := by decide +kernel
theorem dL_isRight_62 : decode cL_isRight 62 = .ok (.aload_n 0, 1) := by decide +kernel
theorem dL_isRight_63 : decode cL_isRight 63 = .ok (.bipush 7, 2) := by decide +kernel
theorem dL_isRight_65 : decode cL_isRight 65 = .ok (.invokevirtual 12, 3) := by decide +kernel
theorem dL_isRight_68 : decode cL_isRight 68 = .ok (.sipush (-20000), 3) := by decide +kernel
theorem dL_isRight_71 : decode cL_isRight 71 = .ok (.if_icmp .ge 5, 3) := by decide +kernel
theorem dL_isRight_74 : decode cL_isRight 74 = .ok (.iconst 0, 1) := by decide +kernel
theorem dL_isRight_75 : decode cL_isRight 75 = .ok (.ireturn, 1) := by decide +kernel
theorem dL_isRight_76 : decode cL_isRight 76 = .ok (.aload_n 0, 1) := by decide +kernel
theorem dL_isRight_77 : decode cL_isRight 77 = .ok (.iconst 1, 1) := by decide +kernel
theorem dL_isRight_78 : decode cL_isRight 78 = .ok (.invokevirtual 12, 3) := by decide +kernel
theorem dL_isRight_81 : decode cL_isRight 81 = .ok (.ifCond .eq 136, 3) := by decide +kernel
theorem dL_isRight_84 : decode cL_isRight 84 = .ok (.aload_n 0, 1) := by decide +kernel
theorem dL_isRight_85 : decode cL_isRight 85 = .ok (.iconst 4, 1) := by decide +kernel
theorem dL_isRight_86 : decode cL_isRight 86 = .ok (.invokevirtual 18, 3) := by decide +kernel
theorem dL_isRight_89 : decode cL_isRight 89 = .ok (.ifCond .lt 73, 3) := by decide +kernel
theorem dL_isRight_92 : decode cL_isRight 92 = .ok (.aload_n 0, 1) := by decide +kernel
theorem dL_isRight_93 : decode cL_isRight 93 = .ok (.iconst 4, 1) := by decide +kernel
theorem dL_isRight_94 : decode cL_isRight 94 = .ok (.invokevirtual 18, 3) := by decide +kernel
theorem dL_isRight_97 : decode cL_isRight 97 = .ok (.sipush 1000, 3) := by decide +kernel
theorem dL_isRight_100 : decode cL_isRight 100 = .ok (.if_icmp .gt 62, 3) := by decide +kernel
theorem dL_isRight_103 : decode cL_isRight 103 = .ok (.aload_n 0, 1) := by decide +kernel
theorem dL_isRight_104 : decode cL_isRight 104 = .ok (.bipush 6, 2) := by decide +kernel
theorem dL_isRight_106 : decode cL_isRight 106 = .ok (.invokevirtual 18, 3) := by decide +kernel
theorem dL_isRight_109 : decode cL_isRight 109 = .ok (.aload_n 0, 1) := by decide +kernel
theorem dL_isRight_110 : decode cL_isRight 110 = .ok (.iconst 4, 1) := by decide +kernel
theorem dL_isRight_111 : decode cL_isRight 111 = .ok (.invokevirtual 18, 3) := by decide +kernel
theorem dL_isRight_114 : decode cL_isRight 114 = .ok (.if_icmp .gt 48, 3) := by decide +kernel
theorem dL_isRight_117 : decode cL_isRight 117 = .ok (.aload_n 0, 1) := by decide +kernel
theorem dL_isRight_118 : decode cL_isRight 118 = .ok (.iconst 5, 1) := by decide +kernel
theorem dL_isRight_119 : decode cL_isRight 119 = .ok (.invokevirtual 18, 3) := by decide +kernel
theorem dL_isRight_122 : decode cL_isRight 122 = .ok (.aload_n 0, 1) := by decide +kernel
theorem dL_isRight_123 : decode cL_isRight 123 = .ok (.bipush 6, 2) := by decide +kernel
theorem dL_isRight_125 : decode cL_isRight 125 = .ok (.invokevirtual 18, 3) := by decide +kernel
theorem dL_isRight_128 : decode cL_isRight 128 = .ok (.if_icmp .gt 34, 3) := by decide +kernel
theorem dL_isRight_131 : decode cL_isRight 131 = .ok (.aload_n 0, 1) := by decide +kernel
theorem dL_isRight_132 : decode cL_isRight 132 = .ok (.iconst 3, 1) := by decide +kernel
theorem dL_isRight_133 : decode cL_isRight 133 = .ok (.invokevirtual 18, 3) := by decide +kernel
theorem dL_isRight_136 : decode cL_isRight 136 = .ok (.ifCond .lt 26, 3) := by decide +kernel
theorem dL_isRight_139 : decode cL_isRight 139 = .ok (.aload_n 0, 1) := by decide +kernel
theorem dL_isRight_140 : decode cL_isRight 140 = .ok (.bipush 9, 2) := by decide +kernel
theorem dL_isRight_142 : decode cL_isRight 142 = .ok (.invokevirtual 18, 3) := by decide +kernel
theorem dL_isRight_145 : decode cL_isRight 145 = .ok (.aload_n 0, 1) := by decide +kernel
theorem dL_isRight_146 : decode cL_isRight 146 = .ok (.iconst 0, 1) := by decide +kernel
theorem dL_isRight_147 : decode cL_isRight 147 = .ok (.invokevirtual 18, 3) := by decide +kernel
theorem dL_isRight_150 : decode cL_isRight 150 = .ok (.if_icmp .ge 14, 3) := by decide +kernel
theorem dL_isRight_153 : decode cL_isRight 153 = .ok (.aload_n 0, 1) := by decide +kernel
theorem dL_isRight_154 : decode cL_isRight 154 = .ok (.iconst 1, 1) := by decide +kernel
theorem dL_isRight_155 : decode cL_isRight 155 = .ok (.invokevirtual 12, 3) := by decide +kernel
theorem dL_isRight_158 : decode cL_isRight 158 = .ok (.iconst 1, 1) := by decide +kernel
theorem dL_isRight_159 : decode cL_isRight 159 = .ok (.if_icmp .ne 5, 3) := by decide +kernel
theorem dL_isRight_162 : decode cL_isRight 162 = .ok (.iconst 0, 1) := by decide +kernel
theorem dL_isRight_163 : decode cL_isRight 163 = .ok (.ireturn, 1) := by decide +kernel
theorem dL_isRight_164 : decode cL_isRight 164 = .ok (.aload_n 0, 1) := by decide +kernel
theorem dL_isRight_165 : decode cL_isRight 165 = .ok (.bipush 7, 2) := by decide +kernel
theorem dL_isRight_167 : decode cL_isRight 167 = .ok (.invokevirtual 18, 3) := by decide +kernel
theorem dL_isRight_170 : decode cL_isRight 170 = .ok (.ifCond .eq 45, 3) := by decide +kernel
theorem dL_isRight_173 : decode cL_isRight 173 = .ok (.aload_n 0, 1) := by decide +kernel
theorem dL_isRight_174 : decode cL_isRight 174 = .ok (.bipush 8, 2) := by decide +kernel
theorem dL_isRight_176 : decode cL_isRight 176 = .ok (.invokevirtual 18, 3) := by decide +kernel
theorem dL_isRight_179 : decode cL_isRight 179 = .ok (.ifCond .lt 18, 3) := by decide +kernel
theorem dL_isRight_182 : decode cL_isRight 182 = .ok (.aload_n 0, 1) := by decide +kernel
theorem dL_isRight_183 : decode cL_isRight 183 = .ok (.bipush 8, 2) := by decide +kernel
theorem dL_isRight_185 : decode cL_isRight 185 = .ok (.invokevirtual 18, 3) := by decide +kernel
theorem dL_isRight_188 : decode cL_isRight 188 = .ok (.aload_n 0, 1) := by decide +kernel
theorem dL_isRight_189 : decode cL_isRight 189 = .ok (.bipush 7, 2) := by decide +kernel
theorem dL_isRight_191 : decode cL_isRight 191 = .ok (.invokevirtual 18, 3) := by decide +kernel
theorem dL_isRight_194 : decode cL_isRight 194 = .ok (.if_icmp .le 21, 3) := by decide +kernel
theorem dL_isRight_197 : decode cL_isRight 197 = .ok (.aload_n 0, 1) := by decide +kernel
theorem dL_isRight_198 : decode cL_isRight 198 = .ok (.bipush 8, 2) := by decide +kernel
theorem dL_isRight_200 : decode cL_isRight 200 = .ok (.invokevirtual 18, 3) := by decide +kernel
theorem dL_isRight_203 : decode cL_isRight 203 = .ok (.ifCond .lt 14, 3) := by decide +kernel
theorem dL_isRight_206 : decode cL_isRight 206 = .ok (.aload_n 0, 1) := by decide +kernel
theorem dL_isRight_207 : decode cL_isRight 207 = .ok (.bipush 7, 2) := by decide +kernel
theorem dL_isRight_209 : decode cL_isRight 209 = .ok (.invokevirtual 18, 3) := by decide +kernel
theorem dL_isRight_212 : decode cL_isRight 212 = .ok (.ifCond .ge 5, 3) := by decide +kernel
theorem dL_isRight_215 : decode cL_isRight 215 = .ok (.iconst 0, 1) := by decide +kernel
theorem dL_isRight_216 : decode cL_isRight 216 = .ok (.ireturn, 1) := by decide +kernel
theorem dL_isRight_217 : decode cL_isRight 217 = .ok (.iconst 1, 1) := by decide +kernel
theorem dL_isRight_218 : decode cL_isRight 218 = .ok (.istore_n 1, 1) := by decide +kernel
theorem dL_isRight_219 : decode cL_isRight 219 = .ok (.iload_n 1, 1) := by decide +kernel
theorem dL_isRight_220 : decode cL_isRight 220 = .ok (.aload_n 0, 1) := by decide +kernel
theorem dL_isRight_221 : decode cL_isRight 221 = .ok (.bipush 10, 2) := by decide +kernel
theorem dL_isRight_223 : decode cL_isRight 223 = .ok (.invokevirtual 12, 3) := by decide +kernel
theorem dL_isRight_226 : decode cL_isRight 226 = .ok (.if_icmp .ge 28, 3) := by decide +kernel
theorem dL_isRight_229 : decode cL_isRight 229 = .ok (.aload_n 0, 1) := by decide +kernel
theorem dL_isRight_230 : decode cL_isRight 230 = .ok (.iload_n 1, 1) := by decide +kernel
theorem dL_isRight_231 : decode cL_isRight 231 = .ok (.iconst 0, 1) := by decide +kernel
theorem dL_isRight_232 : decode cL_isRight 232 = .ok (.invokevirtual 21, 3) := by decide +kernel
theorem dL_isRight_235 : decode cL_isRight 235 = .ok (.aload_n 0, 1) := by decide +kernel
theorem dL_isRight_236 : decode cL_isRight 236 = .ok (.iconst 0, 1) := by decide +kernel
theorem dL_isRight_237 : decode cL_isRight 237 = .ok (.iconst 0, 1) := by decide +kernel
theorem dL_isRight_238 : decode cL_isRight 238 = .ok (.invokevirtual 21, 3) := by decide +kernel
theorem dL_isRight_241 : decode cL_isRight 241 = .ok (.iload_n 1, 1) := by decide +kernel
theorem dL_isRight_242 : decode cL_isRight 242 = .ok (.isub, 1) := by decide +kernel
theorem dL_isRight_243 : decode cL_isRight 243 = .ok (.if_icmp .eq 5, 3) := by decide +kernel
theorem dL_isRight_246 : decode cL_isRight 246 = .ok (.iconst 0, 1) := by decide +kernel
theorem dL_isRight_247 : decode cL_isRight 247 = .ok (.ireturn, 1) := by decide +kernel
theorem dL_isRight_248 : decode cL_isRight 248 = .ok (.iinc 1 1, 3) := by decide +kernel
theorem dL_isRight_251 : decode cL_isRight 251 = .ok (.goto (-32), 3) := by decide +kernel
theorem dL_isRight_254 : decode cL_isRight 254 = .ok (.iconst 1, 1) := by decide +kernel
theorem dL_isRight_255 : decode cL_isRight 255 = .ok (.ireturn, 1) := by decide +kernel
theorem dL_law_0 : decode cL_law 0 = .ok (.new 13, 3) := by decide +kernel
theorem dL_law_3 : decode cL_law 3 = .ok (.dup, 1) := by decide +kernel
theorem dL_law_4 : decode cL_law 4 = .ok (.invokespecial 78, 3) := by decide +kernel
theorem dL_law_7 : decode cL_law 7 = .ok (.astore_n 1, 1) := by decide +kernel
theorem dL_law_8 : decode cL_law 8 = .ok (.aload_n 1, 1) := by decide +kernel
theorem dL_law_9 : decode cL_law 9 = .ok (.bipush 60, 2) := by decide +kernel
theorem dL_law_11 : decode cL_law 11 = .ok (.aload_n 0, 1) := by decide +kernel
theorem dL_law_12 : decode cL_law 12 = .ok (.iconst 0, 1) := by decide +kernel
theorem dL_law_13 : decode cL_law 13 = .ok (.invokestatic 79, 3) := by decide +kernel
theorem dL_law_16 : decode cL_law 16 = .ok (.bipush 41, 2) := by decide +kernel
theorem dL_law_18 : decode cL_law 18 = .ok (.invokestatic 31, 3) := by decide +kernel
theorem dL_law_21 : decode cL_law 21 = .ok (.iadd, 1) := by decide +kernel
theorem dL_law_22 : decode cL_law 22 = .ok (.invokevirtual 39, 3) := by decide +kernel
theorem dL_law_25 : decode cL_law 25 = .ok (.ifCond .ne 38, 3) := by decide +kernel
theorem dL_law_28 : decode cL_law 28 = .ok (.aload_n 1, 1) := by decide +kernel
theorem dL_law_29 : decode cL_law 29 = .ok (.sipush 200, 3) := by decide +kernel
theorem dL_law_32 : decode cL_law 32 = .ok (.invokevirtual 75, 3) := by decide +kernel
theorem dL_law_35 : decode cL_law 35 = .ok (.ldc 67, 2) := by decide +kernel
theorem dL_law_37 : decode cL_law 37 = .ok (.if_icmp .lt 26, 3) := by decide +kernel
theorem dL_law_40 : decode cL_law 40 = .ok (.aload_n 1, 1) := by decide +kernel
theorem dL_law_41 : decode cL_law 41 = .ok (.bipush 100, 2) := by decide +kernel
theorem dL_law_43 : decode cL_law 43 = .ok (.aload_n 0, 1) := by decide +kernel
theorem dL_law_44 : decode cL_law 44 = .ok (.iconst 1, 1) := by decide +kernel
theorem dL_law_45 : decode cL_law 45 = .ok (.invokestatic 79, 3) := by decide +kernel
theorem dL_law_48 : decode cL_law 48 = .ok (.sipush 901, 3) := by decide +kernel
theorem dL_law_51 : decode cL_law 51 = .ok (.invokestatic 31, 3) := by decide +kernel
theorem dL_law_54 : decode cL_law 54 = .ok (.iadd, 1) := by decide +kernel
theorem dL_law_55 : decode cL_law 55 = .ok (.invokevirtual 64, 3) := by decide +kernel
theorem dL_law_58 : decode cL_law 58 = .ok (.ldc 67, 2) := by decide +kernel
theorem dL_law_60 : decode cL_law 60 = .ok (.if_icmp .ge 5, 3) := by decide +kernel
theorem dL_law_63 : decode cL_law 63 = .ok (.iconst 0, 1) := by decide +kernel
theorem dL_law_64 : decode cL_law 64 = .ok (.ireturn, 1) := by decide +kernel
theorem dL_law_65 : decode cL_law 65 = .ok (.iconst 0, 1) := by decide +kernel
theorem dL_law_66 : decode cL_law 66 = .ok (.istore_n 2, 1) := by decide +kernel
theorem dL_law_67 : decode cL_law 67 = .ok (.iload_n 2, 1) := by decide +kernel
theorem dL_law_68 : decode cL_law 68 = .ok (.bipush 17, 2) := by decide +kernel
theorem dL_law_70 : decode cL_law 70 = .ok (.if_icmp .ge 233, 3) := by decide +kernel
theorem dL_law_73 : decode cL_law 73 = .ok (.aload_n 0, 1) := by decide +kernel
theorem dL_law_74 : decode cL_law 74 = .ok (.iconst 2, 1) := by decide +kernel
theorem dL_law_75 : decode cL_law 75 = .ok (.iload_n 2, 1) := by decide +kernel
theorem dL_law_76 : decode cL_law 76 = .ok (.iadd, 1) := by decide +kernel
theorem dL_law_77 : decode cL_law 77 = .ok (.invokestatic 79, 3) := by decide +kernel
theorem dL_law_80 : decode cL_law 80 = .ok (.istore_n 3, 1) := by decide +kernel
theorem dL_law_81 : decode cL_law 81 = .ok (.aload_n 1, 1) := by decide +kernel
theorem dL_law_82 : decode cL_law 82 = .ok (.invokestatic 83, 3) := by decide +kernel
theorem dL_law_85 : decode cL_law 85 = .ok (.lstore 4, 2) := by decide +kernel
theorem dL_law_87 : decode cL_law 87 = .ok (.aload_n 1, 1) := by decide +kernel
theorem dL_law_88 : decode cL_law 88 = .ok (.iload_n 3, 1) := by decide +kernel
theorem dL_law_89 : decode cL_law 89 = .ok (.invokestatic 87, 3) := by decide +kernel
theorem dL_law_92 : decode cL_law 92 = .ok (.istore 6, 2) := by decide +kernel
theorem dL_law_94 : decode cL_law 94 = .ok (.iload 6, 2) := by decide +kernel
theorem dL_law_96 : decode cL_law 96 = .ok (.ifCond .ge 13, 3) := by decide +kernel
theorem dL_law_99 : decode cL_law 99 = .ok (.aload_n 1, 1) := by decide +kernel
theorem dL_law_100 : decode cL_law 100 = .ok (.invokestatic 83, 3) := by decide +kernel
theorem dL_law_103 : decode cL_law 103 = .ok (.lload 4, 2) := by decide +kernel
theorem dL_law_105 : decode cL_law 105 = .ok (.lcmp, 1) := by decide +kernel
theorem dL_law_106 : decode cL_law 106 = .ok (.ifCond .ne 10, 3) := by decide +kernel
theorem dL_law_109 : decode cL_law 109 = .ok (.aload_n 1, 1) := by decide +kernel
theorem dL_law_110 : decode cL_law 110 = .ok (.invokestatic 91, 3) := by decide +kernel
theorem dL_law_113 : decode cL_law 113 = .ok (.ifCond .ne 5, 3) := by decide +kernel
theorem dL_law_116 : decode cL_law 116 = .ok (.iconst 0, 1) := by decide +kernel
theorem dL_law_117 : decode cL_law 117 = .ok (.ireturn, 1) := by decide +kernel
theorem dL_law_118 : decode cL_law 118 = .ok (.iload 6, 2) := by decide +kernel
theorem dL_law_120 : decode cL_law 120 = .ok (.ifCond .lt 55, 3) := by decide +kernel
theorem dL_law_123 : decode cL_law 123 = .ok (.iload_n 2, 1) := by decide +kernel
theorem dL_law_124 : decode cL_law 124 = .ok (.iconst 3, 1) := by decide +kernel
theorem dL_law_125 : decode cL_law 125 = .ok (.iand, 1) := by decide +kernel
theorem dL_law_126 : decode cL_law 126 = .ok (.iconst 1, 1) := by decide +kernel
theorem dL_law_127 : decode cL_law 127 = .ok (.if_icmp .ne 48, 3) := by decide +kernel
theorem dL_law_130 : decode cL_law 130 = .ok (.aload_n 1, 1) := by decide +kernel
theorem dL_law_131 : decode cL_law 131 = .ok (.invokestatic 83, 3) := by decide +kernel
theorem dL_law_134 : decode cL_law 134 = .ok (.lstore 7, 2) := by decide +kernel
theorem dL_law_136 : decode cL_law 136 = .ok (.aload_n 1, 1) := by decide +kernel
theorem dL_law_137 : decode cL_law 137 = .ok (.invokevirtual 95, 3) := by decide +kernel
theorem dL_law_140 : decode cL_law 140 = .ok (.ifCond .lt 33, 3) := by decide +kernel
theorem dL_law_143 : decode cL_law 143 = .ok (.aload_n 1, 1) := by decide +kernel
theorem dL_law_144 : decode cL_law 144 = .ok (.invokestatic 83, 3) := by decide +kernel
theorem dL_law_147 : decode cL_law 147 = .ok (.lload 4, 2) := by decide +kernel
theorem dL_law_149 : decode cL_law 149 = .ok (.lcmp, 1) := by decide +kernel
theorem dL_law_150 : decode cL_law 150 = .ok (.ifCond .ne 23, 3) := by decide +kernel
theorem dL_law_153 : decode cL_law 153 = .ok (.aload_n 1, 1) := by decide +kernel
theorem dL_law_154 : decode cL_law 154 = .ok (.iload_n 3, 1) := by decide +kernel
theorem dL_law_155 : decode cL_law 155 = .ok (.invokestatic 87, 3) := by decide +kernel
theorem dL_law_158 : decode cL_law 158 = .ok (.iload 6, 2) := by decide +kernel
theorem dL_law_160 : decode cL_law 160 = .ok (.if_icmp .ne 13, 3) := by decide +kernel
theorem dL_law_163 : decode cL_law 163 = .ok (.aload_n 1, 1) := by decide +kernel
theorem dL_law_164 : decode cL_law 164 = .ok (.invokestatic 83, 3) := by decide +kernel
theorem dL_law_167 : decode cL_law 167 = .ok (.lload 7, 2) := by decide +kernel
theorem dL_law_169 : decode cL_law 169 = .ok (.lcmp, 1) := by decide +kernel
theorem dL_law_170 : decode cL_law 170 = .ok (.ifCond .eq 5, 3) := by decide +kernel
theorem dL_law_173 : decode cL_law 173 = .ok (.iconst 0, 1) := by decide +kernel
theorem dL_law_174 : decode cL_law 174 = .ok (.ireturn, 1) := by decide +kernel
theorem dL_law_175 : decode cL_law 175 = .ok (.iload_n 2, 1) := by decide +kernel
theorem dL_law_176 : decode cL_law 176 = .ok (.iconst 5, 1) := by decide +kernel
theorem dL_law_177 : decode cL_law 177 = .ok (.irem, 1) := by decide +kernel
theorem dL_law_178 : decode cL_law 178 = .ok (.iconst 3, 1) := by decide +kernel
theorem dL_law_179 : decode cL_law 179 = .ok (.if_icmp .ne 118, 3) := by decide +kernel
theorem dL_law_182 : decode cL_law 182 = .ok (.aload_n 1, 1) := by decide +kernel
theorem dL_law_183 : decode cL_law 183 = .ok (.invokestatic 83, 3) := by decide +kernel
theorem dL_law_186 : decode cL_law 186 = .ok (.lstore 7, 2) := by decide +kernel
theorem dL_law_188 : decode cL_law 188 = .ok (.aload_n 1, 1) := by decide +kernel
theorem dL_law_189 : decode cL_law 189 = .ok (.iconst 1, 1) := by decide +kernel
theorem dL_law_190 : decode cL_law 190 = .ok (.invokevirtual 12, 3) := by decide +kernel
theorem dL_law_193 : decode cL_law 193 = .ok (.iconst 1, 1) := by decide +kernel
theorem dL_law_194 : decode cL_law 194 = .ok (.if_icmp .ne 7, 3) := by decide +kernel
theorem dL_law_197 : decode cL_law 197 = .ok (.iconst 1, 1) := by decide +kernel
theorem dL_law_198 : decode cL_law 198 = .ok (.goto 4, 3) := by decide +kernel
theorem dL_law_201 : decode cL_law 201 = .ok (.iconst 0, 1) := by decide +kernel
theorem dL_law_202 : decode cL_law 202 = .ok (.istore 9, 2) := by decide +kernel
theorem dL_law_204 : decode cL_law 204 = .ok (.aload_n 1, 1) := by decide +kernel
theorem dL_law_205 : decode cL_law 205 = .ok (.sipush 1500, 3) := by decide +kernel
theorem dL_law_208 : decode cL_law 208 = .ok (.invokevirtual 98, 3) := by decide +kernel
theorem dL_law_211 : decode cL_law 211 = .ok (.ldc 101, 2) := by decide +kernel
theorem dL_law_213 : decode cL_law 213 = .ok (.if_icmp .ne 7, 3) := by decide +kernel
theorem dL_law_216 : decode cL_law 216 = .ok (.iconst 1, 1) := by decide +kernel
theorem dL_law_217 : decode cL_law 217 = .ok (.goto 4, 3) := by decide +kernel
theorem dL_law_220 : decode cL_law 220 = .ok (.iconst 0, 1) := by decide +kernel
theorem dL_law_221 : decode cL_law 221 = .ok (.iload 9, 2) := by decide +kernel
theorem dL_law_223 : decode cL_law 223 = .ok (.if_icmp .eq 72, 3) := by decide +kernel
theorem dL_law_226 : decode cL_law 226 = .ok (.aload_n 1, 1) := by decide +kernel
theorem dL_law_227 : decode cL_law 227 = .ok (.bipush 50, 2) := by decide +kernel
theorem dL_law_229 : decode cL_law 229 = .ok (.invokevirtual 102, 3) := by decide +kernel
theorem dL_law_232 : decode cL_law 232 = .ok (.ldc 101, 2) := by decide +kernel
theorem dL_law_234 : decode cL_law 234 = .ok (.if_icmp .ne 7, 3) := by decide +kernel
theorem dL_law_237 : decode cL_law 237 = .ok (.iconst 1, 1) := by decide +kernel
theorem dL_law_238 : decode cL_law 238 = .ok (.goto 4, 3) := by decide +kernel
theorem dL_law_241 : decode cL_law 241 = .ok (.iconst 0, 1) := by decide +kernel
theorem dL_law_242 : decode cL_law 242 = .ok (.iload 9, 2) := by decide +kernel
theorem dL_law_244 : decode cL_law 244 = .ok (.if_icmp .eq 51, 3) := by decide +kernel
theorem dL_law_247 : decode cL_law 247 = .ok (.aload_n 1, 1) := by decide +kernel
theorem dL_law_248 : decode cL_law 248 = .ok (.bipush 9, 2) := by decide +kernel
theorem dL_law_250 : decode cL_law 250 = .ok (.invokevirtual 105, 3) := by decide +kernel
theorem dL_law_253 : decode cL_law 253 = .ok (.ldc 101, 2) := by decide +kernel
theorem dL_law_255 : decode cL_law 255 = .ok (.if_icmp .ne 7, 3) := by decide +kernel
theorem dL_law_258 : decode cL_law 258 = .ok (.iconst 1, 1) := by decide +kernel
theorem dL_law_259 : decode cL_law 259 = .ok (.goto 4, 3) := by decide +kernel
theorem dL_law_262 : decode cL_law 262 = .ok (.iconst 0, 1) := by decide +kernel
theorem dL_law_263 : decode cL_law 263 = .ok (.iload 9, 2) := by decide +kernel
theorem dL_law_265 : decode cL_law 265 = .ok (.ifCond .eq 12, 3) := by decide +kernel
theorem dL_law_268 : decode cL_law 268 = .ok (.aload_n 1, 1) := by decide +kernel
theorem dL_law_269 : decode cL_law 269 = .ok (.bipush 8, 2) := by decide +kernel
theorem dL_law_271 : decode cL_law 271 = .ok (.invokevirtual 12, 3) := by decide +kernel
theorem dL_law_274 : decode cL_law 274 = .ok (.ifCond .ne 7, 3) := by decide +kernel
theorem dL_law_277 : decode cL_law 277 = .ok (.iconst 1, 1) := by decide +kernel
theorem dL_law_278 : decode cL_law 278 = .ok (.goto 4, 3) := by decide +kernel
theorem dL_law_281 : decode cL_law 281 = .ok (.iconst 0, 1) := by decide +kernel
theorem dL_law_282 : decode cL_law 282 = .ok (.if_icmp .ne 13, 3) := by decide +kernel
theorem dL_law_285 : decode cL_law 285 = .ok (.aload_n 1, 1) := by decide +kernel
theorem dL_law_286 : decode cL_law 286 = .ok (.invokestatic 83, 3) := by decide +kernel
theorem dL_law_289 : decode cL_law 289 = .ok (.lload 7, 2) := by decide +kernel
theorem dL_law_291 : decode cL_law 291 = .ok (.lcmp, 1) := by decide +kernel
theorem dL_law_292 : decode cL_law 292 = .ok (.ifCond .eq 5, 3) := by decide +kernel
theorem dL_law_295 : decode cL_law 295 = .ok (.iconst 0, 1) := by decide +kernel
theorem dL_law_296 : decode cL_law 296 = .ok (.ireturn, 1) := by decide +kernel
theorem dL_law_297 : decode cL_law 297 = .ok (.iinc 2 1, 3) := by decide +kernel
theorem dL_law_300 : decode cL_law 300 = .ok (.goto (-233), 3) := by decide +kernel
theorem dL_law_303 : decode cL_law 303 = .ok (.aload_n 1, 1) := by decide +kernel
theorem dL_law_304 : decode cL_law 304 = .ok (.invokestatic 83, 3) := by decide +kernel
theorem dL_law_307 : decode cL_law 307 = .ok (.lstore_n 2, 1) := by decide +kernel
theorem dL_law_308 : decode cL_law 308 = .ok (.aload_n 1, 1) := by decide +kernel
theorem dL_law_309 : decode cL_law 309 = .ok (.bipush 101, 2) := by decide +kernel
theorem dL_law_311 : decode cL_law 311 = .ok (.invokevirtual 39, 3) := by decide +kernel
theorem dL_law_314 : decode cL_law 314 = .ok (.ldc 108, 2) := by decide +kernel
theorem dL_law_316 : decode cL_law 316 = .ok (.if_icmp .ne 68, 3) := by decide +kernel
theorem dL_law_319 : decode cL_law 319 = .ok (.aload_n 1, 1) := by decide +kernel
theorem dL_law_320 : decode cL_law 320 = .ok (.iconst 0, 1) := by decide +kernel
theorem dL_law_321 : decode cL_law 321 = .ok (.invokevirtual 52, 3) := by decide +kernel
theorem dL_law_324 : decode cL_law 324 = .ok (.ldc 108, 2) := by decide +kernel
theorem dL_law_326 : decode cL_law 326 = .ok (.if_icmp .ne 58, 3) := by decide +kernel
theorem dL_law_329 : decode cL_law 329 = .ok (.aload_n 1, 1) := by decide +kernel
theorem dL_law_330 : decode cL_law 330 = .ok (.sipush 3001, 3) := by decide +kernel
theorem dL_law_333 : decode cL_law 333 = .ok (.iconst 1, 1) := by decide +kernel
theorem dL_law_334 : decode cL_law 334 = .ok (.invokevirtual 61, 3) := by decide +kernel
theorem dL_law_337 : decode cL_law 337 = .ok (.ldc 108, 2) := by decide +kernel
theorem dL_law_339 : decode cL_law 339 = .ok (.if_icmp .ne 45, 3) := by decide +kernel
theorem dL_law_342 : decode cL_law 342 = .ok (.aload_n 1, 1) := by decide +kernel
theorem dL_law_343 : decode cL_law 343 = .ok (.bipush 99, 2) := by decide +kernel
theorem dL_law_345 : decode cL_law 345 = .ok (.invokevirtual 64, 3) := by decide +kernel
theorem dL_law_348 : decode cL_law 348 = .ok (.ldc 108, 2) := by decide +kernel
theorem dL_law_350 : decode cL_law 350 = .ok (.if_icmp .ne 34, 3) := by decide +kernel
theorem dL_law_353 : decode cL_law 353 = .ok (.aload_n 1, 1) := by decide +kernel
theorem dL_law_354 : decode cL_law 354 = .ok (.iconst 0, 1) := by decide +kernel
theorem dL_law_355 : decode cL_law 355 = .ok (.invokevirtual 75, 3) := by decide +kernel
theorem dL_law_358 : decode cL_law 358 = .ok (.ldc 108, 2) := by decide +kernel
theorem dL_law_360 : decode cL_law 360 = .ok (.if_icmp .ne 24, 3) := by decide +kernel
theorem dL_law_363 : decode cL_law 363 = .ok (.aload_n 1, 1) := by decide +kernel
theorem dL_law_364 : decode cL_law 364 = .ok (.sipush 1001, 3) := by decide +kernel
theorem dL_law_367 : decode cL_law 367 = .ok (.invokevirtual 25, 3) := by decide +kernel
theorem dL_law_370 : decode cL_law 370 = .ok (.ldc 108, 2) := by decide +kernel
theorem dL_law_372 : decode cL_law 372 = .ok (.if_icmp .ne 12, 3) := by decide +kernel
theorem dL_law_375 : decode cL_law 375 = .ok (.aload_n 1, 1) := by decide +kernel
theorem dL_law_376 : decode cL_law 376 = .ok (.invokestatic 83, 3) := by decide +kernel
theorem dL_law_379 : decode cL_law 379 = .ok (.lload_n 2, 1) := by decide +kernel
theorem dL_law_380 : decode cL_law 380 = .ok (.lcmp, 1) := by decide +kernel
theorem dL_law_381 : decode cL_law 381 = .ok (.ifCond .eq 5, 3) := by decide +kernel
theorem dL_law_384 : decode cL_law 384 = .ok (.iconst 0, 1) := by decide +kernel
theorem dL_law_385 : decode cL_law 385 = .ok (.ireturn, 1) := by decide +kernel
theorem dL_law_386 : decode cL_law 386 = .ok (.aload_n 1, 1) := by decide +kernel
theorem dL_law_387 : decode cL_law 387 = .ok (.invokevirtual 109, 3) := by decide +kernel
theorem dL_law_390 : decode cL_law 390 = .ok (.ifCond .ne 53, 3) := by decide +kernel
theorem dL_law_393 : decode cL_law 393 = .ok (.aload_n 1, 1) := by decide +kernel
theorem dL_law_394 : decode cL_law 394 = .ok (.bipush 8, 2) := by decide +kernel
theorem dL_law_396 : decode cL_law 396 = .ok (.invokevirtual 12, 3) := by decide +kernel
theorem dL_law_399 : decode cL_law 399 = .ok (.ifCond .ne 44, 3) := by decide +kernel
theorem dL_law_402 : decode cL_law 402 = .ok (.aload_n 1, 1) := by decide +kernel
theorem dL_law_403 : decode cL_law 403 = .ok (.invokevirtual 95, 3) := by decide +kernel
theorem dL_law_406 : decode cL_law 406 = .ok (.ifCond .lt 37, 3) := by decide +kernel
theorem dL_law_409 : decode cL_law 409 = .ok (.aload_n 1, 1) := by decide +kernel
theorem dL_law_410 : decode cL_law 410 = .ok (.invokestatic 83, 3) := by decide +kernel
theorem dL_law_413 : decode cL_law 413 = .ok (.lload_n 2, 1) := by decide +kernel
theorem dL_law_414 : decode cL_law 414 = .ok (.lcmp, 1) := by decide +kernel
theorem dL_law_415 : decode cL_law 415 = .ok (.ifCond .ne 28, 3) := by decide +kernel
theorem dL_law_418 : decode cL_law 418 = .ok (.aload_n 1, 1) := by decide +kernel
theorem dL_law_419 : decode cL_law 419 = .ok (.bipush 13, 2) := by decide +kernel
theorem dL_law_421 : decode cL_law 421 = .ok (.invokevirtual 12, 3) := by decide +kernel
theorem dL_law_424 : decode cL_law 424 = .ok (.ldc 108, 2) := by decide +kernel
theorem dL_law_426 : decode cL_law 426 = .ok (.if_icmp .ne 17, 3) := by decide +kernel
theorem dL_law_429 : decode cL_law 429 = .ok (.aload_n 1, 1) := by decide +kernel
theorem dL_law_430 : decode cL_law 430 = .ok (.iconst 0, 1) := by decide +kernel
theorem dL_law_431 : decode cL_law 431 = .ok (.invokevirtual 112, 3) := by decide +kernel
theorem dL_law_434 : decode cL_law 434 = .ok (.ldc 108, 2) := by decide +kernel
theorem dL_law_436 : decode cL_law 436 = .ok (.if_icmp .ne 7, 3) := by decide +kernel
theorem dL_law_439 : decode cL_law 439 = .ok (.iconst 1, 1) := by decide +kernel
theorem dL_law_440 : decode cL_law 440 = .ok (.goto 4, 3) := by decide +kernel
theorem dL_law_443 : decode cL_law 443 = .ok (.iconst 0, 1) := by decide +kernel
theorem dL_law_444 : decode cL_law 444 = .ok (.ireturn, 1) := by decide +kernel
