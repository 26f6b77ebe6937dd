theorem dX9_setRow_98 : decode cX9_setRow 98 = .ok (.aload_n 0, 1) := by decide +kernel
theorem dX9_setRow_99 : decode cX9_setRow 99 = .ok (.getfield 36, 3) := by decide +kernel
theorem dX9_setRow_102 : decode cX9_setRow 102 = .ok (.iload_n 1, 1) := by decide +kernel
theorem dX9_setRow_103 : decode cX9_setRow 103 = .ok (.iload_n 2, 1) := by decide +kernel
theorem dX9_setRow_104 : decode cX9_setRow 104 = .ok (.invokevirtual 67, 3) := by decide +kernel
theorem dX9_setRow_107 : decode cX9_setRow 107 = .ok (.aload_n 0, 1) := by decide +kernel
theorem dX9_setRow_108 : decode cX9_setRow 108 = .ok (.getfield 36, 3) := by decide +kernel
theorem dX9_setRow_111 : decode cX9_setRow 111 = .ok (.getfield 123, 3) := by decide +kernel
theorem dX9_setRow_114 : decode cX9_setRow 114 = .ok (.ireturn, 1) := by decide +kernel
theorem dX9_append_0 : decode cX9_append 0 = .ok (.iload_n 1, 1) := by decide +kernel
theorem dX9_append_1 : decode cX9_append 1 = .ok (.iconst 1, 1) := by decide +kernel
theorem dX9_append_2 : decode cX9_append 2 = .ok (.sipush 255, 3) := by decide +kernel
theorem dX9_append_5 : decode cX9_append 5 = .ok (.invokestatic 73, 3) := by decide +kernel
theorem dX9_append_8 : decode cX9_append 8 = .ok (.ifCond .ne 6, 3) := by decide +kernel
theorem dX9_append_11 : decode cX9_append 11 = .ok (.ldc 77, 2) := by decide +kernel
theorem dX9_append_13 : decode cX9_append 13 = .ok (.ireturn, 1) := by decide +kernel
theorem dX9_append_14 : decode cX9_append 14 = .ok (.aload_n 0, 1) := by decide +kernel
theorem dX9_append_15 : decode cX9_append 15 = .ok (.getfield 52, 3) := by decide +kernel
theorem dX9_append_18 : decode cX9_append 18 = .ok (.getfield 138, 3) := by decide +kernel
theorem dX9_append_21 : decode cX9_append 21 = .ok (.bipush 100, 2) := by decide +kernel
theorem dX9_append_23 : decode cX9_append 23 = .ok (.if_icmp .lt 6, 3) := by decide +kernel
theorem dX9_append_26 : decode cX9_append 26 = .ok (.ldc 122, 2) := by decide +kernel
theorem dX9_append_28 : decode cX9_append 28 = .ok (.ireturn, 1) := by decide +kernel
theorem dX9_append_29 : decode cX9_append 29 = .ok (.aload_n 0, 1) := by decide +kernel
theorem dX9_append_30 : decode cX9_append 30 = .ok (.getfield 52, 3) := by decide +kernel
theorem dX9_append_33 : decode cX9_append 33 = .ok (.iload_n 1, 1) := by decide +kernel
theorem dX9_append_34 : decode cX9_append 34 = .ok (.invokevirtual 141, 3) := by decide +kernel
theorem dX9_append_37 : decode cX9_append 37 = .ok (.aload_n 0, 1) := by decide +kernel
theorem dX9_append_38 : decode cX9_append 38 = .ok (.getfield 52, 3) := by decide +kernel
theorem dX9_append_41 : decode cX9_append 41 = .ok (.getfield 138, 3) := by decide +kernel
theorem dX9_append_44 : decode cX9_append 44 = .ok (.ireturn, 1) := by decide +kernel
theorem dX9_clearText_0 : decode cX9_clearText 0 = .ok (.aload_n 0, 1) := by decide +kernel
theorem dX9_clearText_1 : decode cX9_clearText 1 = .ok (.getfield 52, 3) := by decide +kernel
theorem dX9_clearText_4 : decode cX9_clearText 4 = .ok (.getfield 138, 3) := by decide +kernel
theorem dX9_clearText_7 : decode cX9_clearText 7 = .ok (.istore_n 1, 1) := by decide +kernel
theorem dX9_clearText_8 : decode cX9_clearText 8 = .ok (.aload_n 0, 1) := by decide +kernel
theorem dX9_clearText_9 : decode cX9_clearText 9 = .ok (.getfield 52, 3) := by decide +kernel
theorem dX9_clearText_12 : decode cX9_clearText 12 = .ok (.iconst 0, 1) := by decide +kernel
theorem dX9_clearText_13 : decode cX9_clearText 13 = .ok (.putfield 138, 3) := by decide +kernel
theorem dX9_clearText_16 : decode cX9_clearText 16 = .ok (.iload_n 1, 1) := by decide +kernel
theorem dX9_clearText_17 : decode cX9_clearText 17 = .ok (.ireturn, 1) := by decide +kernel
theorem dX9_load_0 : decode cX9_load 0 = .ok (.aload_n 0, 1) := by decide +kernel
theorem dX9_load_1 : decode cX9_load 1 = .ok (.getfield 59, 3) := by decide +kernel
theorem dX9_load_4 : decode cX9_load 4 = .ok (.aload_n 0, 1) := by decide +kernel
theorem dX9_load_5 : decode cX9_load 5 = .ok (.getfield 52, 3) := by decide +kernel
theorem dX9_load_8 : decode cX9_load 8 = .ok (.invokevirtual 144, 3) := by decide +kernel
theorem dX9_load_11 : decode cX9_load 11 = .ok (.istore_n 1, 1) := by decide +kernel
theorem dX9_load_12 : decode cX9_load 12 = .ok (.iload_n 1, 1) := by decide +kernel
theorem dX9_load_13 : decode cX9_load 13 = .ok (.iconst (-1), 1) := by decide +kernel
theorem dX9_load_14 : decode cX9_load 14 = .ok (.if_icmp .eq 8, 3) := by decide +kernel
theorem dX9_load_17 : decode cX9_load 17 = .ok (.ldc 148, 2) := by decide +kernel
theorem dX9_load_19 : decode cX9_load 19 = .ok (.iload_n 1, 1) := by decide +kernel
theorem dX9_load_20 : decode cX9_load 20 = .ok (.isub, 1) := by decide +kernel
theorem dX9_load_21 : decode cX9_load 21 = .ok (.ireturn, 1) := by decide +kernel
theorem dX9_load_22 : decode cX9_load 22 = .ok (.aload_n 0, 1) := by decide +kernel
theorem dX9_load_23 : decode cX9_load 23 = .ok (.getfield 45, 3) := by decide +kernel
theorem dX9_load_26 : decode cX9_load 26 = .ok (.aload_n 0, 1) := by decide +kernel
theorem dX9_load_27 : decode cX9_load 27 = .ok (.getfield 10, 3) := by decide +kernel
theorem dX9_load_30 : decode cX9_load 30 = .ok (.invokevirtual 78, 3) := by decide +kernel
theorem dX9_load_33 : decode cX9_load 33 = .ok (.aload_n 0, 1) := by decide +kernel
theorem dX9_load_34 : decode cX9_load 34 = .ok (.getfield 32, 3) := by decide +kernel
theorem dX9_load_37 : decode cX9_load 37 = .ok (.aload_n 0, 1) := by decide +kernel
theorem dX9_load_38 : decode cX9_load 38 = .ok (.getfield 59, 3) := by decide +kernel
theorem dX9_load_41 : decode cX9_load 41 = .ok (.getfield 149, 3) := by decide +kernel
theorem dX9_load_44 : decode cX9_load 44 = .ok (.invokevirtual 152, 3) := by decide +kernel
theorem dX9_load_47 : decode cX9_load 47 = .ok (.aload_n 0, 1) := by decide +kernel
theorem dX9_load_48 : decode cX9_load 48 = .ok (.getfield 52, 3) := by decide +kernel
theorem dX9_load_51 : decode cX9_load 51 = .ok (.iconst 0, 1) := by decide +kernel
theorem dX9_load_52 : decode cX9_load 52 = .ok (.putfield 138, 3) := by decide +kernel
theorem dX9_load_55 : decode cX9_load 55 = .ok (.aload_n 0, 1) := by decide +kernel
theorem dX9_load_56 : decode cX9_load 56 = .ok (.getfield 32, 3) := by decide +kernel
theorem dX9_load_59 : decode cX9_load 59 = .ok (.getfield 123, 3) := by decide +kernel
theorem dX9_load_62 : decode cX9_load 62 = .ok (.ireturn, 1) := by decide +kernel
theorem dX9_charge_0 : decode cX9_charge 0 = .ok (.iload_n 1, 1) := by decide +kernel
theorem dX9_charge_1 : decode cX9_charge 1 = .ok (.bipush 100, 2) := by decide +kernel
theorem dX9_charge_3 : decode cX9_charge 3 = .ok (.sipush 1000, 3) := by decide +kernel
theorem dX9_charge_6 : decode cX9_charge 6 = .ok (.invokestatic 73, 3) := by decide +kernel
theorem dX9_charge_9 : decode cX9_charge 9 = .ok (.ifCond .ne 6, 3) := by decide +kernel
theorem dX9_charge_12 : decode cX9_charge 12 = .ok (.ldc 77, 2) := by decide +kernel
theorem dX9_charge_14 : decode cX9_charge 14 = .ok (.ireturn, 1) := by decide +kernel
theorem dX9_charge_15 : decode cX9_charge 15 = .ok (.aload_n 0, 1) := by decide +kernel
theorem dX9_charge_16 : decode cX9_charge 16 = .ok (.getfield 20, 3) := by decide +kernel
theorem dX9_charge_19 : decode cX9_charge 19 = .ok (.getfield 156, 3) := by decide +kernel
theorem dX9_charge_22 : decode cX9_charge 22 = .ok (.ifCond .eq 6, 3) := by decide +kernel
theorem dX9_charge_25 : decode cX9_charge 25 = .ok (.ldc 129, 2) := by decide +kernel
theorem dX9_charge_27 : decode cX9_charge 27 = .ok (.ireturn, 1) := by decide +kernel
theorem dX9_charge_28 : decode cX9_charge 28 = .ok (.aload_n 0, 1) := by decide +kernel
theorem dX9_charge_29 : decode cX9_charge 29 = .ok (.getfield 45, 3) := by decide +kernel
theorem dX9_charge_32 : decode cX9_charge 32 = .ok (.aload_n 0, 1) := by decide +kernel
theorem dX9_charge_33 : decode cX9_charge 33 = .ok (.getfield 10, 3) := by decide +kernel
theorem dX9_charge_36 : decode cX9_charge 36 = .ok (.invokevirtual 78, 3) := by decide +kernel
theorem dX9_charge_39 : decode cX9_charge 39 = .ok (.aload_n 0, 1) := by decide +kernel
theorem dX9_charge_40 : decode cX9_charge 40 = .ok (.getfield 20, 3) := by decide +kernel
theorem dX9_charge_43 : decode cX9_charge 43 = .ok (.iload_n 1, 1) := by decide +kernel
theorem dX9_charge_44 : decode cX9_charge 44 = .ok (.invokevirtual 159, 3) := by decide +kernel
theorem dX9_charge_47 : decode cX9_charge 47 = .ok (.aload_n 0, 1) := by decide +kernel
theorem dX9_charge_48 : decode cX9_charge 48 = .ok (.getfield 20, 3) := by decide +kernel
theorem dX9_charge_51 : decode cX9_charge 51 = .ok (.getfield 162, 3) := by decide +kernel
theorem dX9_charge_54 : decode cX9_charge 54 = .ok (.ireturn, 1) := by decide +kernel
theorem dX9_drop_0 : decode cX9_drop 0 = .ok (.aload_n 0, 1) := by decide +kernel
theorem dX9_drop_1 : decode cX9_drop 1 = .ok (.getfield 20, 3) := by decide +kernel
theorem dX9_drop_4 : decode cX9_drop 4 = .ok (.getfield 156, 3) := by decide +kernel
theorem dX9_drop_7 : decode cX9_drop 7 = .ok (.iconst 1, 1) := by decide +kernel
theorem dX9_drop_8 : decode cX9_drop 8 = .ok (.if_icmp .eq 6, 3) := by decide +kernel
theorem dX9_drop_11 : decode cX9_drop 11 = .ok (.ldc 129, 2) := by decide +kernel
theorem dX9_drop_13 : decode cX9_drop 13 = .ok (.ireturn, 1) := by decide +kernel
theorem dX9_drop_14 : decode cX9_drop 14 = .ok (.aload_n 0, 1) := by decide +kernel
theorem dX9_drop_15 : decode cX9_drop 15 = .ok (.getfield 45, 3) := by decide +kernel
theorem dX9_drop_18 : decode cX9_drop 18 = .ok (.aload_n 0, 1) := by decide +kernel
theorem dX9_drop_19 : decode cX9_drop 19 = .ok (.getfield 10, 3) := by decide +kernel
theorem dX9_drop_22 : decode cX9_drop 22 = .ok (.invokevirtual 78, 3) := by decide +kernel
theorem dX9_drop_25 : decode cX9_drop 25 = .ok (.aload_n 0, 1) := by decide +kernel
theorem dX9_drop_26 : decode cX9_drop 26 = .ok (.getfield 20, 3) := by decide +kernel
theorem dX9_drop_29 : decode cX9_drop 29 = .ok (.iconst 2, 1) := by decide +kernel
theorem dX9_drop_30 : decode cX9_drop 30 = .ok (.putfield 156, 3) := by decide +kernel
theorem dX9_drop_33 : decode cX9_drop 33 = .ok (.aload_n 0, 1) := by decide +kernel
theorem dX9_drop_34 : decode cX9_drop 34 = .ok (.getfield 41, 3) := by decide +kernel
theorem dX9_drop_37 : decode cX9_drop 37 = .ok (.aload_n 0, 1) := by decide +kernel
theorem dX9_drop_38 : decode cX9_drop 38 = .ok (.getfield 20, 3) := by decide +kernel
theorem dX9_drop_41 : decode cX9_drop 41 = .ok (.getfield 165, 3) := by decide +kernel
theorem dX9_drop_44 : decode cX9_drop 44 = .ok (.invokevirtual 169, 3) := by decide +kernel
theorem dX9_drop_47 : decode cX9_drop 47 = .ok (.aload_n 0, 1) := by decide +kernel
theorem dX9_drop_48 : decode cX9_drop 48 = .ok (.getfield 27, 3) := by decide +kernel
theorem dX9_drop_51 : decode cX9_drop 51 = .ok (.aload_n 0, 1) := by decide +kernel
theorem dX9_drop_52 : decode cX9_drop 52 = .ok (.getfield 27, 3) := by decide +kernel
theorem dX9_drop_55 : decode cX9_drop 55 = .ok (.getfield 103, 3) := by decide +kernel
theorem dX9_drop_58 : decode cX9_drop 58 = .ok (.aload_n 0, 1) := by decide +kernel
theorem dX9_drop_59 : decode cX9_drop 59 = .ok (.getfield 27, 3) := by decide +kernel
theorem dX9_drop_62 : decode cX9_drop 62 = .ok (.getfield 106, 3) := by decide +kernel
theorem dX9_drop_65 : decode cX9_drop 65 = .ok (.iadd, 1) := by decide +kernel
theorem dX9_drop_66 : decode cX9_drop 66 = .ok (.bipush 60, 2) := by decide +kernel
theorem dX9_drop_68 : decode cX9_drop 68 = .ok (.invokestatic 175, 3) := by decide +kernel
theorem dX9_drop_71 : decode cX9_drop 71 = .ok (.putfield 103, 3) := by decide +kernel
theorem dX9_drop_74 : decode cX9_drop 74 = .ok (.aload_n 0, 1) := by decide +kernel
theorem dX9_drop_75 : decode cX9_drop 75 = .ok (.getfield 20, 3) := by decide +kernel
theorem dX9_drop_78 : decode cX9_drop 78 = .ok (.getfield 165, 3) := by decide +kernel
theorem dX9_drop_81 : decode cX9_drop 81 = .ok (.getfield 181, 3) := by decide +kernel
theorem dX9_drop_84 : decode cX9_drop 84 = .ok (.ireturn, 1) := by decide +kernel
theorem dX9_takeAway_0 : decode cX9_takeAway 0 = .ok (.aload_n 0, 1) := by decide +kernel
theorem dX9_takeAway_1 : decode cX9_takeAway 1 = .ok (.getfield 20, 3) := by decide +kernel
theorem dX9_takeAway_4 : decode cX9_takeAway 4 = .ok (.getfield 156, 3) := by decide +kernel
theorem dX9_takeAway_7 : decode cX9_takeAway 7 = .ok (.iconst 2, 1) := by decide +kernel
theorem dX9_takeAway_8 : decode cX9_takeAway 8 = .ok (.if_icmp .ne 27, 3) := by decide +kernel
theorem dX9_takeAway_11 : decode cX9_takeAway 11 = .ok (.aload_n 0, 1) := by decide +kernel
theorem dX9_takeAway_12 : decode cX9_takeAway 12 = .ok (.getfield 20, 3) := by decide +kernel
theorem dX9_takeAway_15 : decode cX9_takeAway 15 = .ok (.getfield 165, 3) := by decide +kernel
theorem dX9_takeAway_18 : decode cX9_takeAway 18 = .ok (.getfield 186, 3) := by decide +kernel
theorem dX9_takeAway_21 : decode cX9_takeAway 21 = .ok (.aload_n 0, 1) := by decide +kernel
theorem dX9_takeAway_22 : decode cX9_takeAway 22 = .ok (.getfield 27, 3) := by decide +kernel
theorem dX9_takeAway_25 : decode cX9_takeAway 25 = .ok (.getfield 82, 3) := by decide +kernel
theorem dX9_takeAway_28 : decode cX9_takeAway 28 = .ok (.isub, 1) := by decide +kernel
theorem dX9_takeAway_29 : decode cX9_takeAway 29 = .ok (.sipush 150, 3) := by decide +kernel
theorem dX9_takeAway_32 : decode cX9_takeAway 32 = .ok (.if_icmp .le 6, 3) := by decide +kernel
theorem dX9_takeAway_35 : decode cX9_takeAway 35 = .ok (.ldc 129, 2) := by decide +kernel
theorem dX9_takeAway_37 : decode cX9_takeAway 37 = .ok (.ireturn, 1) := by decide +kernel
theorem dX9_takeAway_38 : decode cX9_takeAway 38 = .ok (.aload_n 0, 1) := by decide +kernel
theorem dX9_takeAway_39 : decode cX9_takeAway 39 = .ok (.getfield 45, 3) := by decide +kernel
theorem dX9_takeAway_42 : decode cX9_takeAway 42 = .ok (.aload_n 0, 1) := by decide +kernel
theorem dX9_takeAway_43 : decode cX9_takeAway 43 = .ok (.getfield 10, 3) := by decide +kernel
theorem dX9_takeAway_46 : decode cX9_takeAway 46 = .ok (.invokevirtual 78, 3) := by decide +kernel
theorem dX9_takeAway_49 : decode cX9_takeAway 49 = .ok (.aload_n 0, 1) := by decide +kernel
theorem dX9_takeAway_50 : decode cX9_takeAway 50 = .ok (.getfield 20, 3) := by decide +kernel
theorem dX9_takeAway_53 : decode cX9_takeAway 53 = .ok (.iconst 0, 1) := by decide +kernel
theorem dX9_takeAway_54 : decode cX9_takeAway 54 = .ok (.putfield 156, 3) := by decide +kernel
theorem dX9_takeAway_57 : decode cX9_takeAway 57 = .ok (.aload_n 0, 1) := by decide +kernel
theorem dX9_takeAway_58 : decode cX9_takeAway 58 = .ok (.getfield 20, 3) := by decide +kernel
theorem dX9_takeAway_61 : decode cX9_takeAway 61 = .ok (.getfield 165, 3) := by decide +kernel
theorem dX9_takeAway_64 : decode cX9_takeAway 64 = .ok (.getfield 186, 3) := by decide +kernel
theorem dX9_takeAway_67 : decode cX9_takeAway 67 = .ok (.ireturn, 1) := by decide +kernel
theorem dX9_run_0 : decode cX9_run 0 = .ok (.iload_n 1, 1) := by decide +kernel
theorem dX9_run_1 : decode cX9_run 1 = .ok (.iconst 1, 1) := by decide +kernel
theorem dX9_run_2 : decode cX9_run 2 = .ok (.sipush 200, 3) := by decide +kernel
theorem dX9_run_5 : decode cX9_run 5 = .ok (.invokestatic 73, 3) := by decide +kernel
theorem dX9_run_8 : decode cX9_run 8 = .ok (.ifCond .ne 6, 3) := by decide +kernel
theorem dX9_run_11 : decode cX9_run 11 = .ok (.ldc 77, 2) := by decide +kernel
theorem dX9_run_13 : decode cX9_run 13 = .ok (.ireturn, 1) := by decide +kernel
theorem dX9_run_14 : decode cX9_run 14 = .ok (.aload_n 0, 1) := by decide +kernel
theorem dX9_run_15 : decode cX9_run 15 = .ok (.getfield 20, 3) := by decide +kernel
theorem dX9_run_18 : decode cX9_run 18 = .ok (.getfield 189, 3) := by decide +kernel
theorem dX9_run_21 : decode cX9_run 21 = .ok (.iload_n 1, 1) := by decide +kernel
theorem dX9_run_22 : decode cX9_run 22 = .ok (.iadd, 1) := by decide +kernel
theorem dX9_run_23 : decode cX9_run 23 = .ok (.sipush 10000, 3) := by decide +kernel
theorem dX9_run_26 : decode cX9_run 26 = .ok (.if_icmp .le 6, 3) := by decide +kernel
theorem dX9_run_29 : decode cX9_run 29 = .ok (.ldc 122, 2) := by decide +kernel
theorem dX9_run_31 : decode cX9_run 31 = .ok (.ireturn, 1) := by decide +kernel
theorem dX9_run_32 : decode cX9_run 32 = .ok (.aload_n 0, 1) := by decide +kernel
theorem dX9_run_33 : decode cX9_run 33 = .ok (.getfield 45, 3) := by decide +kernel
theorem dX9_run_36 : decode cX9_run 36 = .ok (.aload_n 0, 1) := by decide +kernel
theorem dX9_run_37 : decode cX9_run 37 = .ok (.getfield 10, 3) := by decide +kernel
theorem dX9_run_40 : decode cX9_run 40 = .ok (.invokevirtual 78, 3) := by decide +kernel
theorem dX9_run_43 : decode cX9_run 43 = .ok (.iconst 0, 1) := by decide +kernel
theorem dX9_run_44 : decode cX9_run 44 = .ok (.istore_n 2, 1) := by decide +kernel
theorem dX9_run_45 : decode cX9_run 45 = .ok (.iload_n 2, 1) := by decide +kernel
theorem dX9_run_46 : decode cX9_run 46 = .ok (.iload_n 1, 1) := by decide +kernel
theorem dX9_run_47 : decode cX9_run 47 = .ok (.if_icmp .ge 24, 3) := by decide +kernel
theorem dX9_run_50 : decode cX9_run 50 = .ok (.aload_n 0, 1) := by decide +kernel
theorem dX9_run_51 : decode cX9_run 51 = .ok (.getfield 20, 3) := by decide +kernel
theorem dX9_run_54 : decode cX9_run 54 = .ok (.aload_n 0, 1) := by decide +kernel
theorem dX9_run_55 : decode cX9_run 55 = .ok (.getfield 32, 3) := by decide +kernel
theorem dX9_run_58 : decode cX9_run 58 = .ok (.aload_n 0, 1) := by decide +kernel
theorem dX9_run_59 : decode cX9_run 59 = .ok (.getfield 36, 3) := by decide +kernel
theorem dX9_run_62 : decode cX9_run 62 = .ok (.invokevirtual 192, 3) := by decide +kernel
theorem dX9_run_65 : decode cX9_run 65 = .ok (.iinc 2 1, 3) := by decide +kernel
theorem dX9_run_68 : decode cX9_run 68 = .ok (.goto (-23), 3) := by decide +kernel
theorem dX9_run_71 : decode cX9_run 71 = .ok (.aload_n 0, 1) := by decide +kernel
theorem dX9_run_72 : decode cX9_run 72 = .ok (.getfield 20, 3) := by decide +kernel
theorem dX9_run_75 : decode cX9_run 75 = .ok (.getfield 196, 3) := by decide +kernel
theorem dX9_run_78 : decode cX9_run 78 = .ok (.ireturn, 1) := by decide +kernel
theorem dX9_undo_0 : decode cX9_undo 0 = .ok (.aload_n 0, 1) := by decide +kernel
theorem dX9_undo_1 : decode cX9_undo 1 = .ok (.getfield 45, 3) := by decide +kernel
theorem dX9_undo_4 : decode cX9_undo 4 = .ok (.getfield 199, 3) := by decide +kernel
theorem dX9_undo_7 : decode cX9_undo 7 = .ok (.ifCond .gt 6, 3) := by decide +kernel
theorem dX9_undo_10 : decode cX9_undo 10 = .ok (.ldc 129, 2) := by decide +kernel
theorem dX9_undo_12 : decode cX9_undo 12 = .ok (.ireturn, 1) := by decide +kernel
theorem dX9_undo_13 : decode cX9_undo 13 = .ok (.aload_n 0, 1) := by decide +kernel
theorem dX9_undo_14 : decode cX9_undo 14 = .ok (.getfield 45, 3) := by decide +kernel
theorem dX9_undo_17 : decode cX9_undo 17 = .ok (.aload_n 0, 1) := by decide +kernel
theorem dX9_undo_18 : decode cX9_undo 18 = .ok (.getfield 10, 3) := by decide +kernel
theorem dX9_undo_21 : decode cX9_undo 21 = .ok (.invokevirtual 200, 3) := by decide +kernel
theorem dX9_undo_24 : decode cX9_undo 24 = .ok (.aload_n 0, 1) := by decide +kernel
theorem dX9_undo_25 : decode cX9_undo 25 = .ok (.getfield 45, 3) := by decide +kernel
theorem dX9_undo_28 : decode cX9_undo 28 = .ok (.getfield 199, 3) := by decide +kernel
theorem dX9_undo_31 : decode cX9_undo 31 = .ok (.ireturn, 1) := by decide +kernel
theorem dX9_count_0 : decode cX9_count 0 = .ok (.iload_n 1, 1) := by decide +kernel
theorem dX9_count_1 : decode cX9_count 1 = .ok (.tableswitch 171 0 12 #[67, 75, 83, 91, 99, 107, 115, 123, 131, 139, 147, 155, 163], 67) := by decide +kernel
theorem dX9_count_68 : decode cX9_count 68 = .ok (.aload_n 0, 1) := by decide +kernel
theorem dX9_count_69 : decode cX9_count 69 = .ok (.getfield 20, 3) := by decide +kernel
theorem dX9_count_72 : decode cX9_count 72 = .ok (.getfield 189, 3) := by decide +kernel
theorem dX9_count_75 : decode cX9_count 75 = .ok (.ireturn, 1) := by decide +kernel
theorem dX9_count_76 : decode cX9_count 76 = .ok (.aload_n 0, 1) := by decide +kernel
theorem dX9_count_77 : decode cX9_count 77 = .ok (.getfield 20, 3) := by decide +kernel
theorem dX9_count_80 : decode cX9_count 80 = .ok (.getfield 156, 3) := by decide +kernel
theorem dX9_count_83 : decode cX9_count 83 = .ok (.ireturn, 1) := by decide +kernel
theorem dX9_count_84 : decode cX9_count 84 = .ok (.aload_n 0, 1) := by decide +kernel
theorem dX9_count_85 : decode cX9_count 85 = .ok (.getfield 20, 3) := by decide +kernel
theorem dX9_count_88 : decode cX9_count 88 = .ok (.getfield 162, 3) := by decide +kernel
theorem dX9_count_91 : decode cX9_count 91 = .ok (.ireturn, 1) := by decide +kernel
theorem dX9_count_92 : decode cX9_count 92 = .ok (.aload_n 0, 1) := by decide +kernel
theorem dX9_count_93 : decode cX9_count 93 = .ok (.getfield 20, 3) := by decide +kernel
theorem dX9_count_96 : decode cX9_count 96 = .ok (.getfield 196, 3) := by decide +kernel
theorem dX9_count_99 : decode cX9_count 99 = .ok (.ireturn, 1) := by decide +kernel
theorem dX9_count_100 : decode cX9_count 100 = .ok (.aload_n 0, 1) := by decide +kernel
theorem dX9_count_101 : decode cX9_count 101 = .ok (.getfield 27, 3) := by decide +kernel
theorem dX9_count_104 : decode cX9_count 104 = .ok (.getfield 82, 3) := by decide +kernel
theorem dX9_count_107 : decode cX9_count 107 = .ok (.ireturn, 1) := by decide +kernel
theorem dX9_count_108 : decode cX9_count 108 = .ok (.aload_n 0, 1) := by decide +kernel
theorem dX9_count_109 : decode cX9_count 109 = .ok (.getfield 20, 3) := by decide +kernel
theorem dX9_count_112 : decode cX9_count 112 = .ok (.getfield 88, 3) := by decide +kernel
theorem dX9_count_115 : decode cX9_count 115 = .ok (.ireturn, 1) := by decide +kernel
theorem dX9_count_116 : decode cX9_count 116 = .ok (.aload_n 0, 1) := by decide +kernel
theorem dX9_count_117 : decode cX9_count 117 = .ok (.getfield 27, 3) := by decide +kernel
theorem dX9_count_120 : decode cX9_count 120 = .ok (.getfield 103, 3) := by decide +kernel
theorem dX9_count_123 : decode cX9_count 123 = .ok (.ireturn, 1) := by decide +kernel
theorem dX9_count_124 : decode cX9_count 124 = .ok (.aload_n 0, 1) := by decide +kernel
theorem dX9_count_125 : decode cX9_count 125 = .ok (.getfield 20, 3) := by decide +kernel
theorem dX9_count_128 : decode cX9_count 128 = .ok (.getfield 203, 3) := by decide +kernel
theorem dX9_count_131 : decode cX9_count 131 = .ok (.ireturn, 1) := by decide +kernel
theorem dX9_count_132 : decode cX9_count 132 = .ok (.aload_n 0, 1) := by decide +kernel
theorem dX9_count_133 : decode cX9_count 133 = .ok (.getfield 32, 3) := by decide +kernel
theorem dX9_count_136 : decode cX9_count 136 = .ok (.getfield 123, 3) := by decide +kernel
theorem dX9_count_139 : decode cX9_count 139 = .ok (.ireturn, 1) := by decide +kernel
theorem dX9_count_140 : decode cX9_count 140 = .ok (.aload_n 0, 1) := by decide +kernel
theorem dX9_count_141 : decode cX9_count 141 = .ok (.getfield 36, 3) := by decide +kernel
theorem dX9_count_144 : decode cX9_count 144 = .ok (.getfield 123, 3) := by decide +kernel
theorem dX9_count_147 : decode cX9_count 147 = .ok (.ireturn, 1) := by decide +kernel
theorem dX9_count_148 : decode cX9_count 148 = .ok (.aload_n 0, 1) := by decide +kernel
theorem dX9_count_149 : decode cX9_count 149 = .ok (.getfield 41, 3) := by decide +kernel
theorem dX9_count_152 : decode cX9_count 152 = .ok (.getfield 206, 3) := by decide +kernel
theorem dX9_count_155 : decode cX9_count 155 = .ok (.ireturn, 1) := by decide +kernel
theorem dX9_count_156 : decode cX9_count 156 = .ok (.aload_n 0, 1) := by decide +kernel
theorem dX9_count_157 : decode cX9_count 157 = .ok (.getfield 45, 3) := by decide +kernel
theorem dX9_count_160 : decode cX9_count 160 = .ok (.getfield 199, 3) := by decide +kernel
theorem dX9_count_163 : decode cX9_count 163 = .ok (.ireturn, 1) := by decide +kernel
theorem dX9_count_164 : decode cX9_count 164 = .ok (.aload_n 0, 1) := by decide +kernel
theorem dX9_count_165 : decode cX9_count 165 = .ok (.getfield 52, 3) := by decide +kernel
theorem dX9_count_168 : decode cX9_count 168 = .ok (.getfield 138, 3) := by decide +kernel
theorem dX9_count_171 : decode cX9_count 171 = .ok (.ireturn, 1) := by decide +kernel
theorem dX9_count_172 : decode cX9_count 172 = .ok (.ldc 77, 2) := by decide +kernel
theorem dX9_count_174 : decode cX9_count 174 = .ok (.ireturn, 1) := by decide +kernel
theorem dX9_batch_0 : decode cX9_batch 0 = .ok (.iload_n 1, 1) := by decide +kernel
theorem dX9_batch_1 : decode cX9_batch 1 = .ok (.iconst 0, 1) := by decide +kernel
theorem dX9_batch_2 : decode cX9_batch 2 = .ok (.bipush 9, 2) := by decide +kernel
theorem dX9_batch_4 : decode cX9_batch 4 = .ok (.invokestatic 73, 3) := by decide +kernel
theorem dX9_batch_7 : decode cX9_batch 7 = .ok (.ifCond .ne 6, 3) := by decide +kernel
theorem dX9_batch_10 : decode cX9_batch 10 = .ok (.ldc 77, 2) := by decide +kernel
theorem dX9_batch_12 : decode cX9_batch 12 = .ok (.ireturn, 1) := by decide +kernel
theorem dX9_batch_13 : decode cX9_batch 13 = .ok (.aload_n 0, 1) := by decide +kernel
theorem dX9_batch_14 : decode cX9_batch 14 = .ok (.getfield 20, 3) := by decide +kernel
theorem dX9_batch_17 : decode cX9_batch 17 = .ok (.getfield 156, 3) := by decide +kernel
theorem dX9_batch_20 : decode cX9_batch 20 = .ok (.ifCond .ne 6, 3) := by decide +kernel
theorem dX9_batch_23 : decode cX9_batch 23 = .ok (.ldc 129, 2) := by decide +kernel
theorem dX9_batch_25 : decode cX9_batch 25 = .ok (.ireturn, 1) := by decide +kernel
theorem dX9_batch_26 : decode cX9_batch 26 = .ok (.aload_n 0, 1) := by decide +kernel
theorem dX9_batch_27 : decode cX9_batch 27 = .ok (.getfield 20, 3) := by decide +kernel
theorem dX9_batch_30 : decode cX9_batch 30 = .ok (.getfield 165, 3) := by decide +kernel
theorem dX9_batch_33 : decode cX9_batch 33 = .ok (.iload_n 1, 1) := by decide +kernel
theorem dX9_batch_34 : decode cX9_batch 34 = .ok (.invokevirtual 207, 3) := by decide +kernel
theorem dX9_batch_37 : decode cX9_batch 37 = .ok (.ireturn, 1) := by decide +kernel
theorem dX9_target_0 : decode cX9_target 0 = .ok (.iload_n 1, 1) := by decide +kernel
theorem dX9_target_1 : decode cX9_target 1 = .ok (.iconst 0, 1) := by decide +kernel
theorem dX9_target_2 : decode cX9_target 2 = .ok (.sipush 1000, 3) := by decide +kernel
theorem dX9_target_5 : decode cX9_target 5 = .ok (.invokestatic 73, 3) := by decide +kernel
theorem dX9_target_8 : decode cX9_target 8 = .ok (.ifCond .ne 6, 3) := by decide +kernel
theorem dX9_target_11 : decode cX9_target 11 = .ok (.ldc 77, 2) := by decide +kernel
theorem dX9_target_13 : decode cX9_target 13 = .ok (.ireturn, 1) := by decide +kernel
theorem dX9_target_14 : decode cX9_target 14 = .ok (.aload_n 0, 1) := by decide +kernel
theorem dX9_target_15 : decode cX9_target 15 = .ok (.getfield 32, 3) := by decide +kernel
theorem dX9_target_18 : decode cX9_target 18 = .ok (.getfield 123, 3) := by decide +kernel
theorem dX9_target_21 : decode cX9_target 21 = .ok (.ifCond .ne 8, 3) := by decide +kernel
theorem dX9_target_24 : decode cX9_target 24 = .ok (.ldc 210, 2) := by decide +kernel
theorem dX9_target_26 : decode cX9_target 26 = .ok (.goto 11, 3) := by decide +kernel
theorem dX9_target_29 : decode cX9_target 29 = .ok (.aload_n 0, 1) := by decide +kernel
theorem dX9_target_30 : decode cX9_target 30 = .ok (.getfield 32, 3) := by decide +kernel
theorem dX9_target_33 : decode cX9_target 33 = .ok (.iload_n 1, 1) := by decide +kernel
theorem dX9_target_34 : decode cX9_target 34 = .ok (.invokevirtual 211, 3) := by decide +kernel
theorem dX9_target_37 : decode cX9_target 37 = .ok (.ireturn, 1) := by decide +kernel
theorem dX9_rate_0 : decode cX9_rate 0 = .ok (.iload_n 1, 1) := by decide +kernel
theorem dX9_rate_1 : decode cX9_rate 1 = .ok (.iconst 0, 1) := by decide +kernel
theorem dX9_rate_2 : decode cX9_rate 2 = .ok (.sipush 3000, 3) := by decide +kernel
theorem dX9_rate_5 : decode cX9_rate 5 = .ok (.invokestatic 73, 3) := by decide +kernel
theorem dX9_rate_8 : decode cX9_rate 8 = .ok (.ifCond .ne 6, 3) := by decide +kernel
theorem dX9_rate_11 : decode cX9_rate 11 = .ok (.ldc 77, 2) := by decide +kernel
theorem dX9_rate_13 : decode cX9_rate 13 = .ok (.ireturn, 1) := by decide +kernel
theorem dX9_rate_14 : decode cX9_rate 14 = .ok (.aload_n 0, 1) := by decide +kernel
theorem dX9_rate_15 : decode cX9_rate 15 = .ok (.getfield 36, 3) := by decide +kernel
theorem dX9_rate_18 : decode cX9_rate 18 = .ok (.iload_n 1, 1) := by decide +kernel
theorem dX9_rate_19 : decode cX9_rate 19 = .ok (.invokevirtual 130, 3) := by decide +kernel
theorem dX9_rate_22 : decode cX9_rate 22 = .ok (.ireturn, 1) := by decide +kernel
theorem dX9_logged_0 : decode cX9_logged 0 = .ok (.iload_n 1, 1) := by decide +kernel
theorem dX9_logged_1 : decode cX9_logged 1 = .ok (.ifCond .lt 12, 3) := by decide +kernel
theorem dX9_logged_4 : decode cX9_logged 4 = .ok (.iload_n 2, 1) := by decide +kernel
theorem dX9_logged_5 : decode cX9_logged 5 = .ok (.iconst 0, 1) := by decide +kernel
theorem dX9_logged_6 : decode cX9_logged 6 = .ok (.iconst 5, 1) := by decide +kernel
theorem dX9_logged_7 : decode cX9_logged 7 = .ok (.invokestatic 73, 3) := by decide +kernel
theorem dX9_logged_10 : decode cX9_logged 10 = .ok (.ifCond .ne 6, 3) := by decide +kernel
theorem dX9_logged_13 : decode cX9_logged 13 = .ok (.ldc 77, 2) := by decide +kernel
theorem dX9_logged_15 : decode cX9_logged 15 = .ok (.ireturn, 1) := by decide +kernel
theorem dX9_logged_16 : decode cX9_logged 16 = .ok (.iload_n 1, 1) := by decide +kernel
theorem dX9_logged_17 : decode cX9_logged 17 = .ok (.aload_n 0, 1) := by decide +kernel
theorem dX9_logged_18 : decode cX9_logged 18 = .ok (.getfield 41, 3) := by decide +kernel
theorem dX9_logged_21 : decode cX9_logged 21 = .ok (.getfield 206, 3) := by decide +kernel
theorem dX9_logged_24 : decode cX9_logged 24 = .ok (.if_icmp .ge 15, 3) := by decide +kernel
theorem dX9_logged_27 : decode cX9_logged 27 = .ok (.aload_n 0, 1) := by decide +kernel
theorem dX9_logged_28 : decode cX9_logged 28 = .ok (.getfield 41, 3) := by decide +kernel
theorem dX9_logged_31 : decode cX9_logged 31 = .ok (.iload_n 1, 1) := by decide +kernel
theorem dX9_logged_32 : decode cX9_logged 32 = .ok (.iload_n 2, 1) := by decide +kernel
theorem dX9_logged_33 : decode cX9_logged 33 = .ok (.invokevirtual 214, 3) := by decide +kernel
theorem dX9_logged_36 : decode cX9_logged 36 = .ok (.goto 5, 3) := by decide +kernel
theorem dX9_logged_39 : decode cX9_logged 39 = .ok (.ldc 210, 2) := by decide +kernel
theorem dX9_logged_41 : decode cX9_logged 41 = .ok (.ireturn, 1) := by decide +kernel
theorem dX9_drift_0 : decode cX9_drift 0 = .ok (.iload_n 1, 1) := by decide +kernel
theorem dX9_drift_1 : decode cX9_drift 1 = .ok (.iconst 1, 1) := by decide +kernel
theorem dX9_drift_2 : decode cX9_drift 2 = .ok (.iconst 5, 1) := by decide +kernel
theorem dX9_drift_3 : decode cX9_drift 3 = .ok (.invokestatic 73, 3) := by decide +kernel
theorem dX9_drift_6 : decode cX9_drift 6 = .ok (.ifCond .ne 6, 3) := by decide +kernel
theorem dX9_drift_9 : decode cX9_drift 9 = .ok (.ldc 77, 2) := by decide +kernel
theorem dX9_drift_11 : decode cX9_drift 11 = .ok (.ireturn, 1) := by decide +kernel
theorem dX9_drift_12 : decode cX9_drift 12 = .ok (.aload_n 0, 1) := by decide +kernel
theorem dX9_drift_13 : decode cX9_drift 13 = .ok (.getfield 41, 3) := by decide +kernel
theorem dX9_drift_16 : decode cX9_drift 16 = .ok (.iload_n 1, 1) := by decide +kernel
theorem dX9_drift_17 : decode cX9_drift 17 = .ok (.invokevirtual 217, 3) := by decide +kernel
theorem dX9_drift_20 : decode cX9_drift 20 = .ok (.ireturn, 1) := by decide +kernel
theorem dX9_ticksTo_0 : decode cX9_ticksTo 0 = .ok (.iload_n 1, 1) := by decide +kernel
theorem dX9_ticksTo_1 : decode cX9_ticksTo 1 = .ok (.iconst 0, 1) := by decide +kernel
theorem dX9_ticksTo_2 : decode cX9_ticksTo 2 = .ok (.sipush 3000, 3) := by decide +kernel
theorem dX9_ticksTo_5 : decode cX9_ticksTo 5 = .ok (.invokestatic 73, 3) := by decide +kernel
theorem dX9_ticksTo_8 : decode cX9_ticksTo 8 = .ok (.ifCond .ne 6, 3) := by decide +kernel
theorem dX9_ticksTo_11 : decode cX9_ticksTo 11 = .ok (.ldc 77, 2) := by decide +kernel
theorem dX9_ticksTo_13 : decode cX9_ticksTo 13 = .ok (.ireturn, 1) := by decide +kernel
theorem dX9_ticksTo_14 : decode cX9_ticksTo 14 = .ok (.aload_n 0, 1) := by decide +kernel
theorem dX9_ticksTo_15 : decode cX9_ticksTo 15 = .ok (.getfield 20, 3) := by decide +kernel
theorem dX9_ticksTo_18 : decode cX9_ticksTo 18 = .ok (.getfield 156, 3) := by decide +kernel
theorem dX9_ticksTo_21 : decode cX9_ticksTo 21 = .ok (.iconst 1, 1) := by decide +kernel
theorem dX9_ticksTo_22 : decode cX9_ticksTo 22 = .ok (.if_icmp .eq 6, 3) := by decide +kernel
theorem dX9_ticksTo_25 : decode cX9_ticksTo 25 = .ok (.ldc 129, 2) := by decide +kernel
theorem dX9_ticksTo_27 : decode cX9_ticksTo 27 = .ok (.ireturn, 1) := by decide +kernel
theorem dX9_ticksTo_28 : decode cX9_ticksTo 28 = .ok (.aload_n 0, 1) := by decide +kernel
theorem dX9_ticksTo_29 : decode cX9_ticksTo 29 = .ok (.getfield 64, 3) := by decide +kernel
theorem dX9_ticksTo_32 : decode cX9_ticksTo 32 = .ok (.aload_n 0, 1) := by decide +kernel
theorem dX9_ticksTo_33 : decode cX9_ticksTo 33 = .ok (.getfield 20, 3) := by decide +kernel
theorem dX9_ticksTo_36 : decode cX9_ticksTo 36 = .ok (.invokevirtual 220, 3) := by decide +kernel
theorem dX9_ticksTo_39 : decode cX9_ticksTo 39 = .ok (.iconst 0, 1) := by decide +kernel
theorem dX9_ticksTo_40 : decode cX9_ticksTo 40 = .ok (.istore_n 2, 1) := by decide +kernel
theorem dX9_ticksTo_41 : decode cX9_ticksTo 41 = .ok (.iload_n 2, 1) := by decide +kernel
theorem dX9_ticksTo_42 : decode cX9_ticksTo 42 = .ok (.sipush 200, 3) := by decide +kernel
theorem dX9_ticksTo_45 : decode cX9_ticksTo 45 = .ok (.if_icmp .gt 40, 3) := by decide +kernel
theorem dX9_ticksTo_48 : decode cX9_ticksTo 48 = .ok (.aload_n 0, 1) := by decide +kernel
theorem dX9_ticksTo_49 : decode cX9_ticksTo 49 = .ok (.getfield 64, 3) := by decide +kernel
theorem dX9_ticksTo_52 : decode cX9_ticksTo 52 = .ok (.getfield 165, 3) := by decide +kernel
theorem dX9_ticksTo_55 : decode cX9_ticksTo 55 = .ok (.getfield 186, 3) := by decide +kernel
theorem dX9_ticksTo_58 : decode cX9_ticksTo 58 = .ok (.iload_n 1, 1) := by decide +kernel
theorem dX9_ticksTo_59 : decode cX9_ticksTo 59 = .ok (.if_icmp .lt 5, 3) := by decide +kernel
theorem dX9_ticksTo_62 : decode cX9_ticksTo 62 = .ok (.iload_n 2, 1) := by decide +kernel
theorem dX9_ticksTo_63 : decode cX9_ticksTo 63 = .ok (.ireturn, 1) := by decide +kernel
theorem dX9_ticksTo_64 : decode cX9_ticksTo 64 = .ok (.aload_n 0, 1) := by decide +kernel
theorem dX9_ticksTo_65 : decode cX9_ticksTo 65 = .ok (.getfield 64, 3) := by decide +kernel
theorem dX9_ticksTo_68 : decode cX9_ticksTo 68 = .ok (.aload_n 0, 1) := by decide +kernel
theorem dX9_ticksTo_69 : decode cX9_ticksTo 69 = .ok (.getfield 32, 3) := by decide +kernel
theorem dX9_ticksTo_72 : decode cX9_ticksTo 72 = .ok (.aload_n 0, 1) := by decide +kernel
theorem dX9_ticksTo_73 : decode cX9_ticksTo 73 = .ok (.getfield 36, 3) := by decide +kernel
theorem dX9_ticksTo_76 : decode cX9_ticksTo 76 = .ok (.invokevirtual 192, 3) := by decide +kernel
theorem dX9_ticksTo_79 : decode cX9_ticksTo 79 = .ok (.iinc 2 1, 3) := by decide +kernel
theorem dX9_ticksTo_82 : decode cX9_ticksTo 82 = .ok (.goto (-41), 3) := by decide +kernel
theorem dX9_ticksTo_85 : decode cX9_ticksTo 85 = .ok (.ldc 210, 2) := by decide +kernel
theorem dX9_ticksTo_87 : decode cX9_ticksTo 87 = .ok (.ireturn, 1) := by decide +kernel
theorem dX9_ticksToLoss_0 : decode cX9_ticksToLoss 0 = .ok (.iload_n 1, 1) := by decide +kernel
theorem dX9_ticksToLoss_1 : decode cX9_ticksToLoss 1 = .ok (.iconst 0, 1) := by decide +kernel
theorem dX9_ticksToLoss_2 : decode cX9_ticksToLoss 2 = .ok (.ldc 223, 2) := by decide +kernel
theorem dX9_ticksToLoss_4 : decode cX9_ticksToLoss 4 = .ok (.invokestatic 73, 3) := by decide +kernel
theorem dX9_ticksToLoss_7 : decode cX9_ticksToLoss 7 = .ok (.ifCond .ne 6, 3) := by decide +kernel
theorem dX9_ticksToLoss_10 : decode cX9_ticksToLoss 10 = .ok (.ldc 77, 2) := by decide +kernel
theorem dX9_ticksToLoss_12 : decode cX9_ticksToLoss 12 = .ok (.ireturn, 1) := by decide +kernel
theorem dX9_ticksToLoss_13 : decode cX9_ticksToLoss 13 = .ok (.aload_n 0, 1) := by decide +kernel
theorem dX9_ticksToLoss_14 : decode cX9_ticksToLoss 14 = .ok (.getfield 20, 3) := by decide +kernel
theorem dX9_ticksToLoss_17 : decode cX9_ticksToLoss 17 = .ok (.getfield 156, 3) := by decide +kernel
theorem dX9_ticksToLoss_20 : decode cX9_ticksToLoss 20 = .ok (.iconst 1, 1) := by decide +kernel
theorem dX9_ticksToLoss_21 : decode cX9_ticksToLoss 21 = .ok (.if_icmp .eq 6, 3) := by decide +kernel
theorem dX9_ticksToLoss_24 : decode cX9_ticksToLoss 24 = .ok (.ldc 129, 2) := by decide +kernel
theorem dX9_ticksToLoss_26 : decode cX9_ticksToLoss 26 = .ok (.ireturn, 1) := by decide +kernel
theorem dX9_ticksToLoss_27 : decode cX9_ticksToLoss 27 = .ok (.aload_n 0, 1) := by decide +kernel
theorem dX9_ticksToLoss_28 : decode cX9_ticksToLoss 28 = .ok (.getfield 64, 3) := by decide +kernel
theorem dX9_ticksToLoss_31 : decode cX9_ticksToLoss 31 = .ok (.aload_n 0, 1) := by decide +kernel
theorem dX9_ticksToLoss_32 : decode cX9_ticksToLoss 32 = .ok (.getfield 20, 3) := by decide +kernel
theorem dX9_ticksToLoss_35 : decode cX9_ticksToLoss 35 = .ok (.invokevirtual 220, 3) := by decide +kernel
theorem dX9_ticksToLoss_38 : decode cX9_ticksToLoss 38 = .ok (.iconst 0, 1) := by decide +kernel
theorem dX9_ticksToLoss_39 : decode cX9_ticksToLoss 39 = .ok (.istore_n 2, 1) := by decide +kernel
theorem dX9_ticksToLoss_40 : decode cX9_ticksToLoss 40 = .ok (.iload_n 2, 1) := by decide +kernel
theorem dX9_ticksToLoss_41 : decode cX9_ticksToLoss 41 = .ok (.sipush 200, 3) := by decide +kernel
theorem dX9_ticksToLoss_44 : decode cX9_ticksToLoss 44 = .ok (.if_icmp .gt 40, 3) := by decide +kernel
theorem dX9_ticksToLoss_47 : decode cX9_ticksToLoss 47 = .ok (.aload_n 0, 1) := by decide +kernel
theorem dX9_ticksToLoss_48 : decode cX9_ticksToLoss 48 = .ok (.getfield 64, 3) := by decide +kernel
theorem dX9_ticksToLoss_51 : decode cX9_ticksToLoss 51 = .ok (.getfield 165, 3) := by decide +kernel
theorem dX9_ticksToLoss_54 : decode cX9_ticksToLoss 54 = .ok (.getfield 181, 3) := by decide +kernel
theorem dX9_ticksToLoss_57 : decode cX9_ticksToLoss 57 = .ok (.iload_n 1, 1) := by decide +kernel
theorem dX9_ticksToLoss_58 : decode cX9_ticksToLoss 58 = .ok (.if_icmp .lt 5, 3) := by decide +kernel
theorem dX9_ticksToLoss_61 : decode cX9_ticksToLoss 61 = .ok (.iload_n 2, 1) := by decide +kernel
theorem dX9_ticksToLoss_62 : decode cX9_ticksToLoss 62 = .ok (.ireturn, 1) := by decide +kernel
theorem dX9_ticksToLoss_63 : decode cX9_ticksToLoss 63 = .ok (.aload_n 0, 1) := by decide +kernel
theorem dX9_ticksToLoss_64 : decode cX9_ticksToLoss 64 = .ok (.getfield 64, 3) := by decide +kernel
theorem dX9_ticksToLoss_67 : decode cX9_ticksToLoss 67 = .ok (.aload_n 0, 1) := by decide +kernel
theorem dX9_ticksToLoss_68 : decode cX9_ticksToLoss 68 = .ok (.getfield 32, 3) := by decide +kernel
theorem dX9_ticksToLoss_71 : decode cX9_ticksToLoss 71 = .ok (.aload_n 0, 1) := by decide +kernel
theorem dX9_ticksToLoss_72 : decode cX9_ticksToLoss 72 = .ok (.getfield 36, 3) := by decide +kernel
theorem dX9_ticksToLoss_75 : decode cX9_ticksToLoss 75 = .ok (.invokevirtual 192, 3) := by decide +kernel
theorem dX9_ticksToLoss_78 : decode cX9_ticksToLoss 78 = .ok (.iinc 2 1, 3) := by decide +kernel
theorem dX9_ticksToLoss_81 : decode cX9_ticksToLoss 81 = .ok (.goto (-41), 3) := by decide +kernel
theorem dX9_ticksToLoss_84 : decode cX9_ticksToLoss 84 = .ok (.ldc 210, 2) := by decide +kernel
theorem dX9_ticksToLoss_86 : decode cX9_ticksToLoss 86 = .ok (.ireturn, 1) := by decide +kernel
theorem dX9_bestBias_0 : decode cX9_bestBias 0 = .ok (.iload_n 1, 1) := by decide +kernel
theorem dX9_bestBias_1 : decode cX9_bestBias 1 = .ok (.iconst 1, 1) := by decide +kernel
theorem dX9_bestBias_2 : decode cX9_bestBias 2 = .ok (.bipush 100, 2) := by decide +kernel
theorem dX9_bestBias_4 : decode cX9_bestBias 4 = .ok (.invokestatic 73, 3) := by decide +kernel
theorem dX9_bestBias_7 : decode cX9_bestBias 7 = .ok (.ifCond .ne 6, 3) := by decide +kernel
theorem dX9_bestBias_10 : decode cX9_bestBias 10 = .ok (.ldc 77, 2) := by decide +kernel
theorem dX9_bestBias_12 : decode cX9_bestBias 12 = .ok (.ireturn, 1) := by decide +kernel
theorem dX9_bestBias_13 : decode cX9_bestBias 13 = .ok (.aload_n 0, 1) := by decide +kernel
theorem dX9_bestBias_14 : decode cX9_bestBias 14 = .ok (.getfield 20, 3) := by decide +kernel
theorem dX9_bestBias_17 : decode cX9_bestBias 17 = .ok (.getfield 156, 3) := by decide +kernel
theorem dX9_bestBias_20 : decode cX9_bestBias 20 = .ok (.iconst 1, 1) := by decide +kernel
theorem dX9_bestBias_21 : decode cX9_bestBias 21 = .ok (.if_icmp .ne 13, 3) := by decide +kernel
theorem dX9_bestBias_24 : decode cX9_bestBias 24 = .ok (.aload_n 0, 1) := by decide +kernel
theorem dX9_bestBias_25 : decode cX9_bestBias 25 = .ok (.getfield 32, 3) := by decide +kernel
theorem dX9_bestBias_28 : decode cX9_bestBias 28 = .ok (.getfield 123, 3) := by decide +kernel
theorem dX9_bestBias_31 : decode cX9_bestBias 31 = .ok (.ifCond .ne 6, 3) := by decide +kernel
theorem dX9_bestBias_34 : decode cX9_bestBias 34 = .ok (.ldc 129, 2) := by decide +kernel
theorem dX9_bestBias_36 : decode cX9_bestBias 36 = .ok (.ireturn, 1) := by decide +kernel
theorem dX9_bestBias_37 : decode cX9_bestBias 37 = .ok (.iconst 0, 1) := by decide +kernel
theorem dX9_bestBias_38 : decode cX9_bestBias 38 = .ok (.istore_n 2, 1) := by decide +kernel
theorem dX9_bestBias_39 : decode cX9_bestBias 39 = .ok (.aload_n 0, 1) := by decide +kernel
theorem dX9_bestBias_40 : decode cX9_bestBias 40 = .ok (.iconst 0, 1) := by decide +kernel
theorem dX9_bestBias_41 : decode cX9_bestBias 41 = .ok (.iload_n 1, 1) := by decide +kernel
theorem dX9_bestBias_42 : decode cX9_bestBias 42 = .ok (.invokevirtual 224, 3) := by decide +kernel
theorem dX9_bestBias_45 : decode cX9_bestBias 45 = .ok (.istore_n 3, 1) := by decide +kernel
theorem dX9_bestBias_46 : decode cX9_bestBias 46 = .ok (.iconst 1, 1) := by decide +kernel
theorem dX9_bestBias_47 : decode cX9_bestBias 47 = .ok (.istore 4, 2) := by decide +kernel
theorem dX9_bestBias_49 : decode cX9_bestBias 49 = .ok (.iload 4, 2) := by decide +kernel
theorem dX9_bestBias_51 : decode cX9_bestBias 51 = .ok (.bipush 100, 2) := by decide +kernel
theorem dX9_bestBias_53 : decode cX9_bestBias 53 = .ok (.if_icmp .gt 30, 3) := by decide +kernel
theorem dX9_bestBias_56 : decode cX9_bestBias 56 = .ok (.aload_n 0, 1) := by decide +kernel
theorem dX9_bestBias_57 : decode cX9_bestBias 57 = .ok (.iload 4, 2) := by decide +kernel
theorem dX9_bestBias_59 : decode cX9_bestBias 59 = .ok (.iload_n 1, 1) := by decide +kernel
theorem dX9_bestBias_60 : decode cX9_bestBias 60 = .ok (.invokevirtual 224, 3) := by decide +kernel
theorem dX9_bestBias_63 : decode cX9_bestBias 63 = .ok (.istore 5, 2) := by decide +kernel
theorem dX9_bestBias_65 : decode cX9_bestBias 65 = .ok (.iload 5, 2) := by decide +kernel
theorem dX9_bestBias_67 : decode cX9_bestBias 67 = .ok (.iload_n 3, 1) := by decide +kernel
theorem dX9_bestBias_68 : decode cX9_bestBias 68 = .ok (.if_icmp .ge 9, 3) := by decide +kernel
theorem dX9_bestBias_71 : decode cX9_bestBias 71 = .ok (.iload 5, 2) := by decide +kernel
theorem dX9_bestBias_73 : decode cX9_bestBias 73 = .ok (.istore_n 3, 1) := by decide +kernel
theorem dX9_bestBias_74 : decode cX9_bestBias 74 = .ok (.iload 4, 2) := by decide +kernel
theorem dX9_bestBias_76 : decode cX9_bestBias 76 = .ok (.istore_n 2, 1) := by decide +kernel
theorem dX9_bestBias_77 : decode cX9_bestBias 77 = .ok (.iinc 4 1, 3) := by decide +kernel
theorem dX9_bestBias_80 : decode cX9_bestBias 80 = .ok (.goto (-31), 3) := by decide +kernel
theorem dX9_bestBias_83 : decode cX9_bestBias 83 = .ok (.iload_n 2, 1) := by decide +kernel
theorem dX9_bestBias_84 : decode cX9_bestBias 84 = .ok (.ireturn, 1) := by decide +kernel
theorem dX9_deviationWith_0 : decode cX9_deviationWith 0 = .ok (.aload_n 0, 1) := by decide +kernel
theorem dX9_deviationWith_1 : decode cX9_deviationWith 1 = .ok (.getfield 64, 3) := by decide +kernel
theorem dX9_deviationWith_4 : decode cX9_deviationWith 4 = .ok (.aload_n 0, 1) := by decide +kernel
theorem dX9_deviationWith_5 : decode cX9_deviationWith 5 = .ok (.getfield 20, 3) := by decide +kernel
theorem dX9_deviationWith_8 : decode cX9_deviationWith 8 = .ok (.invokevirtual 220, 3) := by decide +kernel
theorem dX9_deviationWith_11 : decode cX9_deviationWith 11 = .ok (.aload_n 0, 1) := by decide +kernel
theorem dX9_deviationWith_12 : decode cX9_deviationWith 12 = .ok (.getfield 64, 3) := by decide +kernel
theorem dX9_deviationWith_15 : decode cX9_deviationWith 15 = .ok (.getfield 21, 3) := by decide +kernel
theorem dX9_deviationWith_18 : decode cX9_deviationWith 18 = .ok (.iconst 1, 1) := by decide +kernel
theorem dX9_deviationWith_19 : decode cX9_deviationWith 19 = .ok (.putfield 91, 3) := by decide +kernel
theorem dX9_deviationWith_22 : decode cX9_deviationWith 22 = .ok (.aload_n 0, 1) := by decide +kernel
theorem dX9_deviationWith_23 : decode cX9_deviationWith 23 = .ok (.getfield 64, 3) := by decide +kernel
theorem dX9_deviationWith_26 : decode cX9_deviationWith 26 = .ok (.getfield 21, 3) := by decide +kernel
theorem dX9_deviationWith_29 : decode cX9_deviationWith 29 = .ok (.iload_n 1, 1) := by decide +kernel
theorem dX9_deviationWith_30 : decode cX9_deviationWith 30 = .ok (.putfield 100, 3) := by decide +kernel
theorem dX9_deviationWith_33 : decode cX9_deviationWith 33 = .ok (.iconst 0, 1) := by decide +kernel
theorem dX9_deviationWith_34 : decode cX9_deviationWith 34 = .ok (.istore_n 3, 1) := by decide +kernel
theorem dX9_deviationWith_35 : decode cX9_deviationWith 35 = .ok (.iconst 0, 1) := by decide +kernel
theorem dX9_deviationWith_36 : decode cX9_deviationWith 36 = .ok (.istore 4, 2) := by decide +kernel
theorem dX9_deviationWith_38 : decode cX9_deviationWith 38 = .ok (.iload 4, 2) := by decide +kernel
theorem dX9_deviationWith_40 : decode cX9_deviationWith 40 = .ok (.iload_n 2, 1) := by decide +kernel
theorem dX9_deviationWith_41 : decode cX9_deviationWith 41 = .ok (.if_icmp .ge 55, 3) := by decide +kernel
theorem dX9_deviationWith_44 : decode cX9_deviationWith 44 = .ok (.aload_n 0, 1) := by decide +kernel
theorem dX9_deviationWith_45 : decode cX9_deviationWith 45 = .ok (.getfield 64, 3) := by decide +kernel
theorem dX9_deviationWith_48 : decode cX9_deviationWith 48 = .ok (.aload_n 0, 1) := by decide +kernel
theorem dX9_deviationWith_49 : decode cX9_deviationWith 49 = .ok (.getfield 32, 3) := by decide +kernel
theorem dX9_deviationWith_52 : decode cX9_deviationWith 52 = .ok (.aload_n 0, 1) := by decide +kernel
theorem dX9_deviationWith_53 : decode cX9_deviationWith 53 = .ok (.getfield 36, 3) := by decide +kernel
theorem dX9_deviationWith_56 : decode cX9_deviationWith 56 = .ok (.invokevirtual 192, 3) := by decide +kernel
theorem dX9_deviationWith_59 : decode cX9_deviationWith 59 = .ok (.iload_n 3, 1) := by decide +kernel
theorem dX9_deviationWith_60 : decode cX9_deviationWith 60 = .ok (.aload_n 0, 1) := by decide +kernel
theorem dX9_deviationWith_61 : decode cX9_deviationWith 61 = .ok (.getfield 32, 3) := by decide +kernel
theorem dX9_deviationWith_64 : decode cX9_deviationWith 64 = .ok (.aload_n 0, 1) := by decide +kernel
theorem dX9_deviationWith_65 : decode cX9_deviationWith 65 = .ok (.getfield 64, 3) := by decide +kernel
theorem dX9_deviationWith_68 : decode cX9_deviationWith 68 = .ok (.getfield 165, 3) := by decide +kernel
theorem dX9_deviationWith_71 : decode cX9_deviationWith 71 = .ok (.getfield 227, 3) := by decide +kernel
theorem dX9_deviationWith_74 : decode cX9_deviationWith 74 = .ok (.invokevirtual 211, 3) := by decide +kernel
theorem dX9_deviationWith_77 : decode cX9_deviationWith 77 = .ok (.aload_n 0, 1) := by decide +kernel
theorem dX9_deviationWith_78 : decode cX9_deviationWith 78 = .ok (.getfield 64, 3) := by decide +kernel
theorem dX9_deviationWith_81 : decode cX9_deviationWith 81 = .ok (.getfield 196, 3) := by decide +kernel
theorem dX9_deviationWith_84 : decode cX9_deviationWith 84 = .ok (.isub, 1) := by decide +kernel
theorem dX9_deviationWith_85 : decode cX9_deviationWith 85 = .ok (.invokestatic 230, 3) := by decide +kernel
theorem dX9_deviationWith_88 : decode cX9_deviationWith 88 = .ok (.iadd, 1) := by decide +kernel
theorem dX9_deviationWith_89 : decode cX9_deviationWith 89 = .ok (.istore_n 3, 1) := by decide +kernel
theorem dX9_deviationWith_90 : decode cX9_deviationWith 90 = .ok (.iinc 4 1, 3) := by decide +kernel
theorem dX9_deviationWith_93 : decode cX9_deviationWith 93 = .ok (.goto (-55), 3) := by decide +kernel
theorem dX9_deviationWith_96 : decode cX9_deviationWith 96 = .ok (.iload_n 3, 1) := by decide +kernel
theorem dX9_deviationWith_97 : decode cX9_deviationWith 97 = .ok (.ireturn, 1) := by decide +kernel
theorem dX9_inRange_0 : decode cX9_inRange 0 = .ok (.iload_n 0, 1) := by decide +kernel
theorem dX9_inRange_1 : decode cX9_inRange 1 = .ok (.iload_n 1, 1) := by decide +kernel
theorem dX9_inRange_2 : decode cX9_inRange 2 = .ok (.if_icmp .lt 12, 3) := by decide +kernel
theorem dX9_inRange_5 : decode cX9_inRange 5 = .ok (.iload_n 0, 1) := by decide +kernel
theorem dX9_inRange_6 : decode cX9_inRange 6 = .ok (.iload_n 2, 1) := by decide +kernel
theorem dX9_inRange_7 : decode cX9_inRange 7 = .ok (.if_icmp .gt 7, 3) := by decide +kernel
theorem dX9_inRange_10 : decode cX9_inRange 10 = .ok (.iconst 1, 1) := by decide +kernel
theorem dX9_inRange_11 : decode cX9_inRange 11 = .ok (.goto 4, 3) := by decide +kernel
theorem dX9_inRange_14 : decode cX9_inRange 14 = .ok (.iconst 0, 1) := by decide +kernel
theorem dX9_inRange_15 : decode cX9_inRange 15 = .ok (.ireturn, 1) := by decide +kernel
theorem dX9_clamp_0 : decode cX9_clamp 0 = .ok (.iload_n 1, 1) := by decide +kernel
theorem dX9_clamp_1 : decode cX9_clamp 1 = .ok (.iload_n 0, 1) := by decide +kernel
theorem dX9_clamp_2 : decode cX9_clamp 2 = .ok (.iload_n 2, 1) := by decide +kernel
theorem dX9_clamp_3 : decode cX9_clamp 3 = .ok (.invokestatic 175, 3) := by decide +kernel
theorem dX9_clamp_6 : decode cX9_clamp 6 = .ok (.invokestatic 233, 3) := by decide +kernel
theorem dX9_clamp_9 : decode cX9_clamp 9 = .ok (.ireturn, 1) := by decide +kernel
theorem dX9_quotient_0 : decode cX9_quotient 0 = .ok (.lload_n 2, 1) := by decide +kernel
theorem dX9_quotient_1 : decode cX9_quotient 1 = .ok (.lconst 0, 1) := by decide +kernel
theorem dX9_quotient_2 : decode cX9_quotient 2 = .ok (.lcmp, 1) := by decide +kernel
theorem dX9_quotient_3 : decode cX9_quotient 3 = .ok (.ifCond .le 11, 3) := by decide +kernel
theorem dX9_quotient_6 : decode cX9_quotient 6 = .ok (.lload_n 0, 1) := by decide +kernel
theorem dX9_quotient_7 : decode cX9_quotient 7 = .ok (.lload_n 2, 1) := by decide +kernel
theorem dX9_quotient_8 : decode cX9_quotient 8 = .ok (.invokestatic 236, 3) := by decide +kernel
theorem dX9_quotient_11 : decode cX9_quotient 11 = .ok (.goto 4, 3) := by decide +kernel
theorem dX9_quotient_14 : decode cX9_quotient 14 = .ok (.lconst 0, 1) := by decide +kernel
theorem dX9_quotient_15 : decode cX9_quotient 15 = .ok (.lreturn, 1) := by decide +kernel
theorem dX9_at_0 : decode cX9_at 0 = .ok (.iload_n 1, 1) := by decide +kernel
theorem dX9_at_1 : decode cX9_at 1 = .ok (.ifCond .lt 15, 3) := by decide +kernel
theorem dX9_at_4 : decode cX9_at 4 = .ok (.iload_n 1, 1) := by decide +kernel
theorem dX9_at_5 : decode cX9_at 5 = .ok (.aload_n 0, 1) := by decide +kernel
theorem dX9_at_6 : decode cX9_at 6 = .ok (.arraylength, 1) := by decide +kernel
theorem dX9_at_7 : decode cX9_at 7 = .ok (.if_icmp .ge 9, 3) := by decide +kernel
theorem dX9_at_10 : decode cX9_at 10 = .ok (.aload_n 0, 1) := by decide +kernel
theorem dX9_at_11 : decode cX9_at 11 = .ok (.iload_n 1, 1) := by decide +kernel
theorem dX9_at_12 : decode cX9_at 12 = .ok (.iaload, 1) := by decide +kernel
theorem dX9_at_13 : decode cX9_at 13 = .ok (.goto 4, 3) := by decide +kernel
theorem dX9_at_16 : decode cX9_at 16 = .ok (.iconst 0, 1) := by decide +kernel
theorem dX9_at_17 : decode cX9_at 17 = .ok (.ireturn, 1) := by decide +kernel
theorem dX9_put_0 : decode cX9_put 0 = .ok (.iload_n 1, 1) := by decide +kernel
theorem dX9_put_1 : decode cX9_put 1 = .ok (.ifCond .lt 13, 3) := by decide +kernel
theorem dX9_put_4 : decode cX9_put 4 = .ok (.iload_n 1, 1) := by decide +kernel
theorem dX9_put_5 : decode cX9_put 5 = .ok (.aload_n 0, 1) := by decide +kernel
theorem dX9_put_6 : decode cX9_put 6 = .ok (.arraylength, 1) := by decide +kernel
theorem dX9_put_7 : decode cX9_put 7 = .ok (.if_icmp .ge 7, 3) := by decide +kernel
theorem dX9_put_10 : decode cX9_put 10 = .ok (.aload_n 0, 1) := by decide +kernel
theorem dX9_put_11 : decode cX9_put 11 = .ok (.iload_n 1, 1) := by decide +kernel
theorem dX9_put_12 : decode cX9_put 12 = .ok (.iload_n 2, 1) := by decide +kernel
theorem dX9_put_13 : decode cX9_put 13 = .ok (.iastore, 1) := by decide +kernel
theorem dX9_put_14 : decode cX9_put 14 = .ok (.return_, 1) := by decide +kernel
theorem dX9_copyRow_0 : decode cX9_copyRow 0 = .ok (.aload_n 0, 1) := by decide +kernel
theorem dX9_copyRow_1 : decode cX9_copyRow 1 = .ok (.iconst 0, 1) := by decide +kernel
theorem dX9_copyRow_2 : decode cX9_copyRow 2 = .ok (.aload_n 1, 1) := by decide +kernel
theorem dX9_copyRow_3 : decode cX9_copyRow 3 = .ok (.iconst 0, 1) := by decide +kernel
theorem dX9_copyRow_4 : decode cX9_copyRow 4 = .ok (.aload_n 0, 1) := by decide +kernel
theorem dX9_copyRow_5 : decode cX9_copyRow 5 = .ok (.arraylength, 1) := by decide +kernel
theorem dX9_copyRow_6 : decode cX9_copyRow 6 = .ok (.aload_n 1, 1) := by decide +kernel
theorem dX9_copyRow_7 : decode cX9_copyRow 7 = .ok (.arraylength, 1) := by decide +kernel
theorem dX9_copyRow_8 : decode cX9_copyRow 8 = .ok (.invokestatic 175, 3) := by decide +kernel
theorem dX9_copyRow_11 : decode cX9_copyRow 11 = .ok (.invokestatic 240, 3) := by decide +kernel
theorem dX9_copyRow_14 : decode cX9_copyRow 14 = .ok (.return_, 1) := by decide +kernel
theorem dX10_init_0 : decode cX10_init 0 = .ok (.aload_n 0, 1) := by decide +kernel
theorem dX10_init_1 : decode cX10_init 1 = .ok (.invokespecial 1, 3) := by decide +kernel
theorem dX10_init_4 : decode cX10_init 4 = .ok (.aload_n 0, 1) := by decide +kernel
theorem dX10_init_5 : decode cX10_init 5 = .ok (.bipush 112, 2) := by decide +kernel
theorem dX10_init_7 : decode cX10_init 7 = .ok (.newarray .int, 2) := by decide +kernel
theorem dX10_init_9 : decode cX10_init 9 = .ok (.putfield 7, 3) := by decide +kernel
theorem dX10_init_12 : decode cX10_init 12 = .ok (.aload_n 0, 1) := by decide +kernel
theorem dX10_init_13 : decode cX10_init 13 = .ok (.bipush 112, 2) := by decide +kernel
theorem dX10_init_15 : decode cX10_init 15 = .ok (.newarray .int, 2) := by decide +kernel
theorem dX10_init_17 : decode cX10_init 17 = .ok (.putfield 13, 3) := by decide +kernel
theorem dX10_init_20 : decode cX10_init 20 = .ok (.aload_n 0, 1) := by decide +kernel
theorem dX10_init_21 : decode cX10_init 21 = .ok (.sipush 560, 3) := by decide +kernel
theorem dX10_init_24 : decode cX10_init 24 = .ok (.newarray .int, 2) := by decide +kernel
theorem dX10_init_26 : decode cX10_init 26 = .ok (.putfield 16, 3) := by decide +kernel
theorem dX10_init_29 : decode cX10_init 29 = .ok (.aload_n 0, 1) := by decide +kernel
theorem dX10_init_30 : decode cX10_init 30 = .ok (.bipush 100, 2) := by decide +kernel
theorem dX10_init_32 : decode cX10_init 32 = .ok (.newarray .int, 2) := by decide +kernel
theorem dX10_init_34 : decode cX10_init 34 = .ok (.putfield 19, 3) := by decide +kernel
theorem dX10_init_37 : decode cX10_init 37 = .ok (.aload_n 0, 1) := by decide +kernel
theorem dX10_init_38 : decode cX10_init 38 = .ok (.bipush 16, 2) := by decide +kernel
theorem dX10_init_40 : decode cX10_init 40 = .ok (.newarray .int, 2) := by decide +kernel
theorem dX10_init_42 : decode cX10_init 42 = .ok (.putfield 22, 3) := by decide +kernel
theorem dX10_init_45 : decode cX10_init 45 = .ok (.aload_n 0, 1) := by decide +kernel
theorem dX10_init_46 : decode cX10_init 46 = .ok (.iconst 0, 1) := by decide +kernel
theorem dX10_init_47 : decode cX10_init 47 = .ok (.putfield 25, 3) := by decide +kernel
theorem dX10_init_50 : decode cX10_init 50 = .ok (.aload_n 0, 1) := by decide +kernel
theorem dX10_init_51 : decode cX10_init 51 = .ok (.getfield 7, 3) := by decide +kernel
theorem dX10_init_54 : decode cX10_init 54 = .ok (.iconst 2, 1) := by decide +kernel
theorem dX10_init_55 : decode cX10_init 55 = .ok (.sipush 250, 3) := by decide +kernel
theorem dX10_init_58 : decode cX10_init 58 = .ok (.iastore, 1) := by decide +kernel
theorem dX10_init_59 : decode cX10_init 59 = .ok (.aload_n 0, 1) := by decide +kernel
theorem dX10_init_60 : decode cX10_init 60 = .ok (.getfield 7, 3) := by decide +kernel
theorem dX10_init_63 : decode cX10_init 63 = .ok (.iconst 3, 1) := by decide +kernel
theorem dX10_init_64 : decode cX10_init 64 = .ok (.sipush 250, 3) := by decide +kernel
theorem dX10_init_67 : decode cX10_init 67 = .ok (.iastore, 1) := by decide +kernel
theorem dX10_init_68 : decode cX10_init 68 = .ok (.aload_n 0, 1) := by decide +kernel
theorem dX10_init_69 : decode cX10_init 69 = .ok (.getfield 7, 3) := by decide +kernel
theorem dX10_init_72 : decode cX10_init 72 = .ok (.iconst 4, 1) := by decide +kernel
theorem dX10_init_73 : decode cX10_init 73 = .ok (.sipush 250, 3) := by decide +kernel
theorem dX10_init_76 : decode cX10_init 76 = .ok (.iastore, 1) := by decide +kernel
theorem dX10_init_77 : decode cX10_init 77 = .ok (.aload_n 0, 1) := by decide +kernel
theorem dX10_init_78 : decode cX10_init 78 = .ok (.getfield 7, 3) := by decide +kernel
theorem dX10_init_81 : decode cX10_init 81 = .ok (.iconst 5, 1) := by decide +kernel
theorem dX10_init_82 : decode cX10_init 82 = .ok (.iconst 4, 1) := by decide +kernel
theorem dX10_init_83 : decode cX10_init 83 = .ok (.iastore, 1) := by decide +kernel
theorem dX10_init_84 : decode cX10_init 84 = .ok (.aload_n 0, 1) := by decide +kernel
theorem dX10_init_85 : decode cX10_init 85 = .ok (.getfield 7, 3) := by decide +kernel
theorem dX10_init_88 : decode cX10_init 88 = .ok (.bipush 8, 2) := by decide +kernel
theorem dX10_init_90 : decode cX10_init 90 = .ok (.bipush 10, 2) := by decide +kernel
theorem dX10_init_92 : decode cX10_init 92 = .ok (.iastore, 1) := by decide +kernel
theorem dX10_init_93 : decode cX10_init 93 = .ok (.aload_n 0, 1) := by decide +kernel
theorem dX10_init_94 : decode cX10_init 94 = .ok (.getfield 7, 3) := by decide +kernel
theorem dX10_init_97 : decode cX10_init 97 = .ok (.bipush 10, 2) := by decide +kernel
theorem dX10_init_99 : decode cX10_init 99 = .ok (.bipush 50, 2) := by decide +kernel
theorem dX10_init_101 : decode cX10_init 101 = .ok (.iastore, 1) := by decide +kernel
theorem dX10_init_102 : decode cX10_init 102 = .ok (.aload_n 0, 1) := by decide +kernel
theorem dX10_init_103 : decode cX10_init 103 = .ok (.getfield 7, 3) := by decide +kernel
theorem dX10_init_106 : decode cX10_init 106 = .ok (.bipush 11, 2) := by decide +kernel
theorem dX10_init_108 : decode cX10_init 108 = .ok (.iconst 5, 1) := by decide +kernel
theorem dX10_init_109 : decode cX10_init 109 = .ok (.iastore, 1) := by decide +kernel
theorem dX10_init_110 : decode cX10_init 110 = .ok (.aload_n 0, 1) := by decide +kernel
theorem dX10_init_111 : decode cX10_init 111 = .ok (.getfield 7, 3) := by decide +kernel
theorem dX10_init_114 : decode cX10_init 114 = .ok (.bipush 12, 2) := by decide +kernel
theorem dX10_init_116 : decode cX10_init 116 = .ok (.bipush 50, 2) := by decide +kernel
theorem dX10_init_118 : decode cX10_init 118 = .ok (.iastore, 1) := by decide +kernel
theorem dX10_init_119 : decode cX10_init 119 = .ok (.aload_n 0, 1) := by decide +kernel
theorem dX10_init_120 : decode cX10_init 120 = .ok (.getfield 7, 3) := by decide +kernel
theorem dX10_init_123 : decode cX10_init 123 = .ok (.bipush 14, 2) := by decide +kernel
theorem dX10_init_125 : decode cX10_init 125 = .ok (.sipush 1960, 3) := by decide +kernel
theorem dX10_init_128 : decode cX10_init 128 = .ok (.iastore, 1) := by decide +kernel
theorem dX10_init_129 : decode cX10_init 129 = .ok (.aload_n 0, 1) := by decide +kernel
theorem dX10_init_130 : decode cX10_init 130 = .ok (.getfield 7, 3) := by decide +kernel
theorem dX10_init_133 : decode cX10_init 133 = .ok (.bipush 15, 2) := by decide +kernel
theorem dX10_init_135 : decode cX10_init 135 = .ok (.bipush 30, 2) := by decide +kernel
theorem dX10_init_137 : decode cX10_init 137 = .ok (.iastore, 1) := by decide +kernel
theorem dX10_init_138 : decode cX10_init 138 = .ok (.aload_n 0, 1) := by decide +kernel
theorem dX10_init_139 : decode cX10_init 139 = .ok (.getfield 7, 3) := by decide +kernel
theorem dX10_init_142 : decode cX10_init 142 = .ok (.bipush 49, 2) := by decide +kernel
theorem dX10_init_144 : decode cX10_init 144 = .ok (.iconst 4, 1) := by decide +kernel
theorem dX10_init_145 : decode cX10_init 145 = .ok (.iastore, 1) := by decide +kernel
theorem dX10_init_146 : decode cX10_init 146 = .ok (.aload_n 0, 1) := by decide +kernel
theorem dX10_init_147 : decode cX10_init 147 = .ok (.iconst 0, 1) := by decide +kernel
theorem dX10_init_148 : decode cX10_init 148 = .ok (.sipush 1000, 3) := by decide +kernel
theorem dX10_init_151 : decode cX10_init 151 = .ok (.iconst 2, 1) := by decide +kernel
theorem dX10_init_152 : decode cX10_init 152 = .ok (.invokevirtual 29, 3) := by decide +kernel
theorem dX10_init_155 : decode cX10_init 155 = .ok (.aload_n 0, 1) := by decide +kernel
theorem dX10_init_156 : decode cX10_init 156 = .ok (.iconst 1, 1) := by decide +kernel
theorem dX10_init_157 : decode cX10_init 157 = .ok (.sipush 1500, 3) := by decide +kernel
theorem dX10_init_160 : decode cX10_init 160 = .ok (.bipush 6, 2) := by decide +kernel
theorem dX10_init_162 : decode cX10_init 162 = .ok (.invokevirtual 29, 3) := by decide +kernel
theorem dX10_init_165 : decode cX10_init 165 = .ok (.aload_n 0, 1) := by decide +kernel
theorem dX10_init_166 : decode cX10_init 166 = .ok (.iconst 2, 1) := by decide +kernel
theorem dX10_init_167 : decode cX10_init 167 = .ok (.sipush 1900, 3) := by decide +kernel
theorem dX10_init_170 : decode cX10_init 170 = .ok (.bipush 14, 2) := by decide +kernel
theorem dX10_init_172 : decode cX10_init 172 = .ok (.invokevirtual 29, 3) := by decide +kernel
theorem dX10_init_175 : decode cX10_init 175 = .ok (.aload_n 0, 1) := by decide +kernel
theorem dX10_init_176 : decode cX10_init 176 = .ok (.iconst 3, 1) := by decide +kernel
theorem dX10_init_177 : decode cX10_init 177 = .ok (.sipush 2100, 3) := by decide +kernel
theorem dX10_init_180 : decode cX10_init 180 = .ok (.bipush 25, 2) := by decide +kernel
theorem dX10_init_182 : decode cX10_init 182 = .ok (.invokevirtual 29, 3) := by decide +kernel
theorem dX10_init_185 : decode cX10_init 185 = .ok (.return_, 1) := by decide +kernel
theorem dX10_in_0 : decode cX10_in 0 = .ok (.iload_n 0, 1) := by decide +kernel
theorem dX10_in_1 : decode cX10_in 1 = .ok (.iload_n 1, 1) := by decide +kernel
theorem dX10_in_2 : decode cX10_in 2 = .ok (.if_icmp .lt 12, 3) := by decide +kernel
theorem dX10_in_5 : decode cX10_in 5 = .ok (.iload_n 0, 1) := by decide +kernel
theorem dX10_in_6 : decode cX10_in 6 = .ok (.iload_n 2, 1) := by decide +kernel
theorem dX10_in_7 : decode cX10_in 7 = .ok (.if_icmp .gt 7, 3) := by decide +kernel
theorem dX10_in_10 : decode cX10_in 10 = .ok (.iconst 1, 1) := by decide +kernel
theorem dX10_in_11 : decode cX10_in 11 = .ok (.goto 4, 3) := by decide +kernel
theorem dX10_in_14 : decode cX10_in 14 = .ok (.iconst 0, 1) := by decide +kernel
theorem dX10_in_15 : decode cX10_in 15 = .ok (.ireturn, 1) := by decide +kernel
theorem dX10_down_0 : decode cX10_down 0 = .ok (.iload_n 0, 1) := by decide +kernel
theorem dX10_down_1 : decode cX10_down 1 = .ok (.iload_n 1, 1) := by decide +kernel
theorem dX10_down_2 : decode cX10_down 2 = .ok (.idiv, 1) := by decide +kernel
theorem dX10_down_3 : decode cX10_down 3 = .ok (.istore_n 2, 1) := by decide +kernel
theorem dX10_down_4 : decode cX10_down 4 = .ok (.iload_n 0, 1) := by decide +kernel
theorem dX10_down_5 : decode cX10_down 5 = .ok (.iload_n 1, 1) := by decide +kernel
theorem dX10_down_6 : decode cX10_down 6 = .ok (.irem, 1) := by decide +kernel
theorem dX10_down_7 : decode cX10_down 7 = .ok (.ifCond .ge 9, 3) := by decide +kernel
theorem dX10_down_10 : decode cX10_down 10 = .ok (.iload_n 2, 1) := by decide +kernel
theorem dX10_down_11 : decode cX10_down 11 = .ok (.iconst 1, 1) := by decide +kernel
theorem dX10_down_12 : decode cX10_down 12 = .ok (.isub, 1) := by decide +kernel
theorem dX10_down_13 : decode cX10_down 13 = .ok (.goto 4, 3) := by decide +kernel
theorem dX10_down_16 : decode cX10_down 16 = .ok (.iload_n 2, 1) := by decide +kernel
theorem dX10_down_17 : decode cX10_down 17 = .ok (.ireturn, 1) := by decide +kernel
theorem dX10_clamp_0 : decode cX10_clamp 0 = .ok (.iload_n 0, 1) := by decide +kernel
theorem dX10_clamp_1 : decode cX10_clamp 1 = .ok (.iload_n 1, 1) := by decide +kernel
theorem dX10_clamp_2 : decode cX10_clamp 2 = .ok (.if_icmp .ge 7, 3) := by decide +kernel
theorem dX10_clamp_5 : decode cX10_clamp 5 = .ok (.iload_n 1, 1) := by decide +kernel
theorem dX10_clamp_6 : decode cX10_clamp 6 = .ok (.goto 13, 3) := by decide +kernel
theorem dX10_clamp_9 : decode cX10_clamp 9 = .ok (.iload_n 0, 1) := by decide +kernel
theorem dX10_clamp_10 : decode cX10_clamp 10 = .ok (.iload_n 2, 1) := by decide +kernel
theorem dX10_clamp_11 : decode cX10_clamp 11 = .ok (.if_icmp .le 7, 3) := by decide +kernel
theorem dX10_clamp_14 : decode cX10_clamp 14 = .ok (.iload_n 2, 1) := by decide +kernel
theorem dX10_clamp_15 : decode cX10_clamp 15 = .ok (.goto 4, 3) := by decide +kernel
theorem dX10_clamp_18 : decode cX10_clamp 18 = .ok (.iload_n 0, 1) := by decide +kernel
theorem dX10_clamp_19 : decode cX10_clamp 19 = .ok (.ireturn, 1) := by decide +kernel
theorem dX10_row_0 : decode cX10_row 0 = .ok (.aload_n 0, 1) := by decide +kernel
theorem dX10_row_1 : decode cX10_row 1 = .ok (.getfield 7, 3) := by decide +kernel
theorem dX10_row_4 : decode cX10_row 4 = .ok (.bipush 50, 2) := by decide +kernel
theorem dX10_row_6 : decode cX10_row 6 = .ok (.iconst 2, 1) := by decide +kernel
theorem dX10_row_7 : decode cX10_row 7 = .ok (.iload_n 1, 1) := by decide +kernel
theorem dX10_row_8 : decode cX10_row 8 = .ok (.imul, 1) := by decide +kernel
theorem dX10_row_9 : decode cX10_row 9 = .ok (.iadd, 1) := by decide +kernel
theorem dX10_row_10 : decode cX10_row 10 = .ok (.iload_n 2, 1) := by decide +kernel
theorem dX10_row_11 : decode cX10_row 11 = .ok (.iastore, 1) := by decide +kernel
theorem dX10_row_12 : decode cX10_row 12 = .ok (.aload_n 0, 1) := by decide +kernel
theorem dX10_row_13 : decode cX10_row 13 = .ok (.getfield 7, 3) := by decide +kernel
theorem dX10_row_16 : decode cX10_row 16 = .ok (.bipush 50, 2) := by decide +kernel
theorem dX10_row_18 : decode cX10_row 18 = .ok (.iconst 2, 1) := by decide +kernel
theorem dX10_row_19 : decode cX10_row 19 = .ok (.iload_n 1, 1) := by decide +kernel
theorem dX10_row_20 : decode cX10_row 20 = .ok (.imul, 1) := by decide +kernel
theorem dX10_row_21 : decode cX10_row 21 = .ok (.iadd, 1) := by decide +kernel
theorem dX10_row_22 : decode cX10_row 22 = .ok (.iconst 1, 1) := by decide +kernel
theorem dX10_row_23 : decode cX10_row 23 = .ok (.iadd, 1) := by decide +kernel
theorem dX10_row_24 : decode cX10_row 24 = .ok (.iload_n 3, 1) := by decide +kernel
theorem dX10_row_25 : decode cX10_row 25 = .ok (.iastore, 1) := by decide +kernel
theorem dX10_row_26 : decode cX10_row 26 = .ok (.return_, 1) := by decide +kernel
theorem dX10_hold_0 : decode cX10_hold 0 = .ok (.iconst 0, 1) := by decide +kernel
theorem dX10_hold_1 : decode cX10_hold 1 = .ok (.istore_n 1, 1) := by decide +kernel
theorem dX10_hold_2 : decode cX10_hold 2 = .ok (.iload_n 1, 1) := by decide +kernel
theorem dX10_hold_3 : decode cX10_hold 3 = .ok (.bipush 112, 2) := by decide +kernel
theorem dX10_hold_5 : decode cX10_hold 5 = .ok (.if_icmp .ge 21, 3) := by decide +kernel
theorem dX10_hold_8 : decode cX10_hold 8 = .ok (.aload_n 0, 1) := by decide +kernel
theorem dX10_hold_9 : decode cX10_hold 9 = .ok (.getfield 13, 3) := by decide +kernel
theorem dX10_hold_12 : decode cX10_hold 12 = .ok (.iload_n 1, 1) := by decide +kernel
theorem dX10_hold_13 : decode cX10_hold 13 = .ok (.aload_n 0, 1) := by decide +kernel
theorem dX10_hold_14 : decode cX10_hold 14 = .ok (.getfield 7, 3) := by decide +kernel
theorem dX10_hold_17 : decode cX10_hold 17 = .ok (.iload_n 1, 1) := by decide +kernel
theorem dX10_hold_18 : decode cX10_hold 18 = .ok (.iaload, 1) := by decide +kernel
theorem dX10_hold_19 : decode cX10_hold 19 = .ok (.iastore, 1) := by decide +kernel
theorem dX10_hold_20 : decode cX10_hold 20 = .ok (.iinc 1 1, 3) := by decide +kernel
theorem dX10_hold_23 : decode cX10_hold 23 = .ok (.goto (-21), 3) := by decide +kernel
theorem dX10_hold_26 : decode cX10_hold 26 = .ok (.return_, 1) := by decide +kernel
theorem dX10_release_0 : decode cX10_release 0 = .ok (.iconst 0, 1) := by decide +kernel
theorem dX10_release_1 : decode cX10_release 1 = .ok (.istore_n 1, 1) := by decide +kernel
theorem dX10_release_2 : decode cX10_release 2 = .ok (.iload_n 1, 1) := by decide +kernel
theorem dX10_release_3 : decode cX10_release 3 = .ok (.bipush 112, 2) := by decide +kernel
theorem dX10_release_5 : decode cX10_release 5 = .ok (.if_icmp .ge 21, 3) := by decide +kernel
theorem dX10_release_8 : decode cX10_release 8 = .ok (.aload_n 0, 1) := by decide +kernel
theorem dX10_release_9 : decode cX10_release 9 = .ok (.getfield 7, 3) := by decide +kernel
theorem dX10_release_12 : decode cX10_release 12 = .ok (.iload_n 1, 1) := by decide +kernel
theorem dX10_release_13 : decode cX10_release 13 = .ok (.aload_n 0, 1) := by decide +kernel
theorem dX10_release_14 : decode cX10_release 14 = .ok (.getfield 13, 3) := by decide +kernel
theorem dX10_release_17 : decode cX10_release 17 = .ok (.iload_n 1, 1) := by decide +kernel
theorem dX10_release_18 : decode cX10_release 18 = .ok (.iaload, 1) := by decide +kernel
theorem dX10_release_19 : decode cX10_release 19 = .ok (.iastore, 1) := by decide +kernel
theorem dX10_release_20 : decode cX10_release 20 = .ok (.iinc 1 1, 3) := by decide +kernel
theorem dX10_release_23 : decode cX10_release 23 = .ok (.goto (-21), 3) := by decide +kernel
theorem dX10_release_26 : decode cX10_release 26 = .ok (.return_, 1) := by decide +kernel
theorem dX10_act_0 : decode cX10_act 0 = .ok (.aload_n 0, 1) := by decide +kernel
theorem dX10_act_1 : decode cX10_act 1 = .ok (.getfield 33, 3) := by decide +kernel
theorem dX10_act_4 : decode cX10_act 4 = .ok (.iconst 5, 1) := by decide +kernel
theorem dX10_act_5 : decode cX10_act 5 = .ok (.if_icmp .ne 43, 3) := by decide +kernel
theorem dX10_act_8 : decode cX10_act 8 = .ok (.iconst 0, 1) := by decide +kernel
theorem dX10_act_9 : decode cX10_act 9 = .ok (.istore_n 1, 1) := by decide +kernel
theorem dX10_act_10 : decode cX10_act 10 = .ok (.iload_n 1, 1) := by decide +kernel
theorem dX10_act_11 : decode cX10_act 11 = .ok (.sipush 448, 3) := by decide +kernel
theorem dX10_act_14 : decode cX10_act 14 = .ok (.if_icmp .ge 24, 3) := by decide +kernel
theorem dX10_act_17 : decode cX10_act 17 = .ok (.aload_n 0, 1) := by decide +kernel
theorem dX10_act_18 : decode cX10_act 18 = .ok (.getfield 16, 3) := by decide +kernel
theorem dX10_act_21 : decode cX10_act 21 = .ok (.iload_n 1, 1) := by decide +kernel
theorem dX10_act_22 : decode cX10_act 22 = .ok (.aload_n 0, 1) := by decide +kernel
theorem dX10_act_23 : decode cX10_act 23 = .ok (.getfield 16, 3) := by decide +kernel
theorem dX10_act_26 : decode cX10_act 26 = .ok (.iload_n 1, 1) := by decide +kernel
theorem dX10_act_27 : decode cX10_act 27 = .ok (.bipush 112, 2) := by decide +kernel
theorem dX10_act_29 : decode cX10_act 29 = .ok (.iadd, 1) := by decide +kernel
theorem dX10_act_30 : decode cX10_act 30 = .ok (.iaload, 1) := by decide +kernel
theorem dX10_act_31 : decode cX10_act 31 = .ok (.iastore, 1) := by decide +kernel
theorem dX10_act_32 : decode cX10_act 32 = .ok (.iinc 1 1, 3) := by decide +kernel
theorem dX10_act_35 : decode cX10_act 35 = .ok (.goto (-25), 3) := by decide +kernel
theorem dX10_act_38 : decode cX10_act 38 = .ok (.aload_n 0, 1) := by decide +kernel
theorem dX10_act_39 : decode cX10_act 39 = .ok (.dup, 1) := by decide +kernel
theorem dX10_act_40 : decode cX10_act 40 = .ok (.getfield 33, 3) := by decide +kernel
theorem dX10_act_43 : decode cX10_act 43 = .ok (.iconst 1, 1) := by decide +kernel
theorem dX10_act_44 : decode cX10_act 44 = .ok (.isub, 1) := by decide +kernel
theorem dX10_act_45 : decode cX10_act 45 = .ok (.putfield 33, 3) := by decide +kernel
theorem dX10_act_48 : decode cX10_act 48 = .ok (.iconst 0, 1) := by decide +kernel
theorem dX10_act_49 : decode cX10_act 49 = .ok (.istore_n 1, 1) := by decide +kernel
theorem dX10_act_50 : decode cX10_act 50 = .ok (.iload_n 1, 1) := by decide +kernel
theorem dX10_act_51 : decode cX10_act 51 = .ok (.bipush 112, 2) := by decide +kernel
theorem dX10_act_53 : decode cX10_act 53 = .ok (.if_icmp .ge 29, 3) := by decide +kernel
theorem dX10_act_56 : decode cX10_act 56 = .ok (.aload_n 0, 1) := by decide +kernel
theorem dX10_act_57 : decode cX10_act 57 = .ok (.getfield 16, 3) := by decide +kernel
theorem dX10_act_60 : decode cX10_act 60 = .ok (.bipush 112, 2) := by decide +kernel
theorem dX10_act_62 : decode cX10_act 62 = .ok (.aload_n 0, 1) := by decide +kernel
theorem dX10_act_63 : decode cX10_act 63 = .ok (.getfield 33, 3) := by decide +kernel
theorem dX10_act_66 : decode cX10_act 66 = .ok (.imul, 1) := by decide +kernel
theorem dX10_act_67 : decode cX10_act 67 = .ok (.iload_n 1, 1) := by decide +kernel
theorem dX10_act_68 : decode cX10_act 68 = .ok (.iadd, 1) := by decide +kernel
theorem dX10_act_69 : decode cX10_act 69 = .ok (.aload_n 0, 1) := by decide +kernel
theorem dX10_act_70 : decode cX10_act 70 = .ok (.getfield 7, 3) := by decide +kernel
theorem dX10_act_73 : decode cX10_act 73 = .ok (.iload_n 1, 1) := by decide +kernel
theorem dX10_act_74 : decode cX10_act 74 = .ok (.iaload, 1) := by decide +kernel
theorem dX10_act_75 : decode cX10_act 75 = .ok (.iastore, 1) := by decide +kernel
theorem dX10_act_76 : decode cX10_act 76 = .ok (.iinc 1 1, 3) := by decide +kernel
theorem dX10_act_79 : decode cX10_act 79 = .ok (.goto (-29), 3) := by decide +kernel
theorem dX10_act_82 : decode cX10_act 82 = .ok (.aload_n 0, 1) := by decide +kernel
theorem dX10_act_83 : decode cX10_act 83 = .ok (.dup, 1) := by decide +kernel
theorem dX10_act_84 : decode cX10_act 84 = .ok (.getfield 33, 3) := by decide +kernel
theorem dX10_act_87 : decode cX10_act 87 = .ok (.iconst 1, 1) := by decide +kernel
theorem dX10_act_88 : decode cX10_act 88 = .ok (.iadd, 1) := by decide +kernel
theorem dX10_act_89 : decode cX10_act 89 = .ok (.putfield 33, 3) := by decide +kernel
theorem dX10_act_92 : decode cX10_act 92 = .ok (.return_, 1) := by decide +kernel
theorem dX10_isRoasting_0 : decode cX10_isRoasting 0 = .ok (.aload_n 0, 1) := by decide +kernel
theorem dX10_isRoasting_1 : decode cX10_isRoasting 1 = .ok (.getfield 7, 3) := by decide +kernel
theorem dX10_isRoasting_4 : decode cX10_isRoasting 4 = .ok (.iconst 1, 1) := by decide +kernel
theorem dX10_isRoasting_5 : decode cX10_isRoasting 5 = .ok (.iaload, 1) := by decide +kernel
theorem dX10_isRoasting_6 : decode cX10_isRoasting 6 = .ok (.iconst 1, 1) := by decide +kernel
theorem dX10_isRoasting_7 : decode cX10_isRoasting 7 = .ok (.if_icmp .ne 7, 3) := by decide +kernel
theorem dX10_isRoasting_10 : decode cX10_isRoasting 10 = .ok (.iconst 1, 1) := by decide +kernel
theorem dX10_isRoasting_11 : decode cX10_isRoasting 11 = .ok (.goto 4, 3) := by decide +kernel
theorem dX10_isRoasting_14 : decode cX10_isRoasting 14 = .ok (.iconst 0, 1) := by decide +kernel
theorem dX10_isRoasting_15 : decode cX10_isRoasting 15 = .ok (.ireturn, 1) := by decide +kernel
theorem dX10_put_0 : decode cX10_put 0 = .ok (.aload_n 0, 1) := by decide +kernel
theorem dX10_put_1 : decode cX10_put 1 = .ok (.invokevirtual 36, 3) := by decide +kernel
theorem dX10_put_4 : decode cX10_put 4 = .ok (.aload_n 0, 1) := by decide +kernel
theorem dX10_put_5 : decode cX10_put 5 = .ok (.getfield 7, 3) := by decide +kernel
theorem dX10_put_8 : decode cX10_put 8 = .ok (.iload_n 1, 1) := by decide +kernel
theorem dX10_put_9 : decode cX10_put 9 = .ok (.iaload, 1) := by decide +kernel
theorem dX10_put_10 : decode cX10_put 10 = .ok (.istore_n 3, 1) := by decide +kernel
theorem dX10_put_11 : decode cX10_put 11 = .ok (.aload_n 0, 1) := by decide +kernel
theorem dX10_put_12 : decode cX10_put 12 = .ok (.getfield 7, 3) := by decide +kernel
theorem dX10_put_15 : decode cX10_put 15 = .ok (.iload_n 1, 1) := by decide +kernel
theorem dX10_put_16 : decode cX10_put 16 = .ok (.iload_n 2, 1) := by decide +kernel
theorem dX10_put_17 : decode cX10_put 17 = .ok (.iastore, 1) := by decide +kernel
theorem dX10_put_18 : decode cX10_put 18 = .ok (.iload_n 3, 1) := by decide +kernel
theorem dX10_put_19 : decode cX10_put 19 = .ok (.ireturn, 1) := by decide +kernel
theorem dX10_setAmbient_0 : decode cX10_setAmbient 0 = .ok (.aload_n 0, 1) := by decide +kernel
theorem dX10_setAmbient_1 : decode cX10_setAmbient 1 = .ok (.iconst 0, 1) := by decide +kernel
theorem dX10_setAmbient_2 : decode cX10_setAmbient 2 = .ok (.putfield 25, 3) := by decide +kernel
theorem dX10_setAmbient_5 : decode cX10_setAmbient 5 = .ok (.iload_n 1, 1) := by decide +kernel
theorem dX10_setAmbient_6 : decode cX10_setAmbient 6 = .ok (.iconst 0, 1) := by decide +kernel
theorem dX10_setAmbient_7 : decode cX10_setAmbient 7 = .ok (.sipush 400, 3) := by decide +kernel
theorem dX10_setAmbient_10 : decode cX10_setAmbient 10 = .ok (.invokestatic 39, 3) := by decide +kernel
theorem dX10_setAmbient_13 : decode cX10_setAmbient 13 = .ok (.ifCond .eq 12, 3) := by decide +kernel
theorem dX10_setAmbient_16 : decode cX10_setAmbient 16 = .ok (.aload_n 0, 1) := by decide +kernel
theorem dX10_setAmbient_17 : decode cX10_setAmbient 17 = .ok (.iconst 3, 1) := by decide +kernel
theorem dX10_setAmbient_18 : decode cX10_setAmbient 18 = .ok (.iload_n 1, 1) := by decide +kernel
theorem dX10_setAmbient_19 : decode cX10_setAmbient 19 = .ok (.invokevirtual 43, 3) := by decide +kernel
theorem dX10_setAmbient_22 : decode cX10_setAmbient 22 = .ok (.goto 5, 3) := by decide +kernel
theorem dX10_setAmbient_25 : decode cX10_setAmbient 25 = .ok (.ldc 47, 2) := by decide +kernel
theorem dX10_setAmbient_27 : decode cX10_setAmbient 27 = .ok (.ireturn, 1) := by decide +kernel
theorem dX10_setPower_0 : decode cX10_setPower 0 = .ok (.aload_n 0, 1) := by decide +kernel
theorem dX10_setPower_1 : decode cX10_setPower 1 = .ok (.iconst 0, 1) := by decide +kernel
theorem dX10_setPower_2 : decode cX10_setPower 2 = .ok (.putfield 25, 3) := by decide +kernel
theorem dX10_setPower_5 : decode cX10_setPower 5 = .ok (.iload_n 1, 1) := by decide +kernel
theorem dX10_setPower_6 : decode cX10_setPower 6 = .ok (.iconst 0, 1) := by decide +kernel
theorem dX10_setPower_7 : decode cX10_setPower 7 = .ok (.bipush 100, 2) := by decide +kernel
theorem dX10_setPower_9 : decode cX10_setPower 9 = .ok (.invokestatic 39, 3) := by decide +kernel
theorem dX10_setPower_12 : decode cX10_setPower 12 = .ok (.ifCond .eq 13, 3) := by decide +kernel
theorem dX10_setPower_15 : decode cX10_setPower 15 = .ok (.aload_n 0, 1) := by decide +kernel
theorem dX10_setPower_16 : decode cX10_setPower 16 = .ok (.bipush 7, 2) := by decide +kernel
theorem dX10_setPower_18 : decode cX10_setPower 18 = .ok (.iload_n 1, 1) := by decide +kernel
theorem dX10_setPower_19 : decode cX10_setPower 19 = .ok (.invokevirtual 43, 3) := by decide +kernel
theorem dX10_setPower_22 : decode cX10_setPower 22 = .ok (.goto 5, 3) := by decide +kernel
theorem dX10_setPower_25 : decode cX10_setPower 25 = .ok (.ldc 47, 2) := by decide +kernel
theorem dX10_setPower_27 : decode cX10_setPower 27 = .ok (.ireturn, 1) := by decide +kernel
theorem dX10_setController_0 : decode cX10_setController 0 = .ok (.aload_n 0, 1) := by decide +kernel
theorem dX10_setController_1 : decode cX10_setController 1 = .ok (.iconst 0, 1) := by decide +kernel
theorem dX10_setController_2 : decode cX10_setController 2 = .ok (.putfield 25, 3) := by decide +kernel
theorem dX10_setController_5 : decode cX10_setController 5 = .ok (.iload_n 1, 1) := by decide +kernel
theorem dX10_setController_6 : decode cX10_setController 6 = .ok (.iconst 0, 1) := by decide +kernel
theorem dX10_setController_7 : decode cX10_setController 7 = .ok (.iconst 1, 1) := by decide +kernel
theorem dX10_setController_8 : decode cX10_setController 8 = .ok (.invokestatic 39, 3) := by decide +kernel
theorem dX10_setController_11 : decode cX10_setController 11 = .ok (.ifCond .eq 36, 3) := by decide +kernel
theorem dX10_setController_14 : decode cX10_setController 14 = .ok (.iload_n 2, 1) := by decide +kernel
theorem dX10_setController_15 : decode cX10_setController 15 = .ok (.iconst 0, 1) := by decide +kernel
theorem dX10_setController_16 : decode cX10_setController 16 = .ok (.sipush 200, 3) := by decide +kernel
theorem dX10_setController_19 : decode cX10_setController 19 = .ok (.invokestatic 39, 3) := by decide +kernel
theorem dX10_setController_22 : decode cX10_setController 22 = .ok (.ifCond .eq 25, 3) := by decide +kernel
theorem dX10_setController_25 : decode cX10_setController 25 = .ok (.iload_n 3, 1) := by decide +kernel
theorem dX10_setController_26 : decode cX10_setController 26 = .ok (.iconst 0, 1) := by decide +kernel
theorem dX10_setController_27 : decode cX10_setController 27 = .ok (.sipush 200, 3) := by decide +kernel
theorem dX10_setController_30 : decode cX10_setController 30 = .ok (.invokestatic 39, 3) := by decide +kernel
theorem dX10_setController_33 : decode cX10_setController 33 = .ok (.ifCond .eq 14, 3) := by decide +kernel
theorem dX10_setController_36 : decode cX10_setController 36 = .ok (.iload 4, 2) := by decide +kernel
theorem dX10_setController_38 : decode cX10_setController 38 = .ok (.iconst 0, 1) := by decide +kernel
theorem dX10_setController_39 : decode cX10_setController 39 = .ok (.bipush 100, 2) := by decide +kernel
theorem dX10_setController_41 : decode cX10_setController 41 = .ok (.invokestatic 39, 3) := by decide +kernel
theorem dX10_setController_44 : decode cX10_setController 44 = .ok (.ifCond .ne 6, 3) := by decide +kernel
theorem dX10_setController_47 : decode cX10_setController 47 = .ok (.ldc 47, 2) := by decide +kernel
theorem dX10_setController_49 : decode cX10_setController 49 = .ok (.ireturn, 1) := by decide +kernel
theorem dX10_setController_50 : decode cX10_setController 50 = .ok (.aload_n 0, 1) := by decide +kernel
theorem dX10_setController_51 : decode cX10_setController 51 = .ok (.getfield 7, 3) := by decide +kernel
theorem dX10_setController_54 : decode cX10_setController 54 = .ok (.bipush 9, 2) := by decide +kernel
theorem dX10_setController_56 : decode cX10_setController 56 = .ok (.iaload, 1) := by decide +kernel
theorem dX10_setController_57 : decode cX10_setController 57 = .ok (.iload_n 1, 1) := by decide +kernel
theorem dX10_setController_58 : decode cX10_setController 58 = .ok (.if_icmp .ne 41, 3) := by decide +kernel
theorem dX10_setController_61 : decode cX10_setController 61 = .ok (.aload_n 0, 1) := by decide +kernel
theorem dX10_setController_62 : decode cX10_setController 62 = .ok (.getfield 7, 3) := by decide +kernel
theorem dX10_setController_65 : decode cX10_setController 65 = .ok (.bipush 10, 2) := by decide +kernel
theorem dX10_setController_67 : decode cX10_setController 67 = .ok (.iaload, 1) := by decide +kernel
theorem dX10_setController_68 : decode cX10_setController 68 = .ok (.iload_n 2, 1) := by decide +kernel
theorem dX10_setController_69 : decode cX10_setController 69 = .ok (.if_icmp .ne 30, 3) := by decide +kernel
theorem dX10_setController_72 : decode cX10_setController 72 = .ok (.aload_n 0, 1) := by decide +kernel
theorem dX10_setController_73 : decode cX10_setController 73 = .ok (.getfield 7, 3) := by decide +kernel
theorem dX10_setController_76 : decode cX10_setController 76 = .ok (.bipush 11, 2) := by decide +kernel
theorem dX10_setController_78 : decode cX10_setController 78 = .ok (.iaload, 1) := by decide +kernel
theorem dX10_setController_79 : decode cX10_setController 79 = .ok (.iload_n 3, 1) := by decide +kernel
theorem dX10_setController_80 : decode cX10_setController 80 = .ok (.if_icmp .ne 19, 3) := by decide +kernel
theorem dX10_setController_83 : decode cX10_setController 83 = .ok (.aload_n 0, 1) := by decide +kernel
theorem dX10_setController_84 : decode cX10_setController 84 = .ok (.getfield 7, 3) := by decide +kernel
theorem dX10_setController_87 : decode cX10_setController 87 = .ok (.bipush 12, 2) := by decide +kernel
theorem dX10_setController_89 : decode cX10_setController 89 = .ok (.iaload, 1) := by decide +kernel
theorem dX10_setController_90 : decode cX10_setController 90 = .ok (.iload 4, 2) := by decide +kernel
theorem dX10_setController_92 : decode cX10_setController 92 = .ok (.if_icmp .ne 7, 3) := by decide +kernel
theorem dX10_setController_95 : decode cX10_setController 95 = .ok (.iconst 1, 1) := by decide +kernel
theorem dX10_setController_96 : decode cX10_setController 96 = .ok (.goto 4, 3) := by decide +kernel
theorem dX10_setController_99 : decode cX10_setController 99 = .ok (.iconst 0, 1) := by decide +kernel
theorem dX10_setController_100 : decode cX10_setController 100 = .ok (.istore 5, 2) := by decide +kernel
theorem dX10_setController_102 : decode cX10_setController 102 = .ok (.aload_n 0, 1) := by decide +kernel
theorem dX10_setController_103 : decode cX10_setController 103 = .ok (.invokevirtual 36, 3) := by decide +kernel
theorem dX10_setController_106 : decode cX10_setController 106 = .ok (.aload_n 0, 1) := by decide +kernel
theorem dX10_setController_107 : decode cX10_setController 107 = .ok (.getfield 7, 3) := by decide +kernel
theorem dX10_setController_110 : decode cX10_setController 110 = .ok (.bipush 9, 2) := by decide +kernel
theorem dX10_setController_112 : decode cX10_setController 112 = .ok (.iload_n 1, 1) := by decide +kernel
theorem dX10_setController_113 : decode cX10_setController 113 = .ok (.iastore, 1) := by decide +kernel
theorem dX10_setController_114 : decode cX10_setController 114 = .ok (.aload_n 0, 1) := by decide +kernel
theorem dX10_setController_115 : decode cX10_setController 115 = .ok (.getfield 7, 3) := by decide +kernel
theorem dX10_setController_118 : decode cX10_setController 118 = .ok (.bipush 10, 2) := by decide +kernel
theorem dX10_setController_120 : decode cX10_setController 120 = .ok (.iload_n 2, 1) := by decide +kernel
theorem dX10_setController_121 : decode cX10_setController 121 = .ok (.iastore, 1) := by decide +kernel
theorem dX10_setController_122 : decode cX10_setController 122 = .ok (.aload_n 0, 1) := by decide +kernel
theorem dX10_setController_123 : decode cX10_setController 123 = .ok (.getfield 7, 3) := by decide +kernel
theorem dX10_setController_126 : decode cX10_setController 126 = .ok (.bipush 11, 2) := by decide +kernel
theorem dX10_setController_128 : decode cX10_setController 128 = .ok (.iload_n 3, 1) := by decide +kernel
theorem dX10_setController_129 : decode cX10_setController 129 = .ok (.iastore, 1) := by decide +kernel
theorem dX10_setController_130 : decode cX10_setController 130 = .ok (.aload_n 0, 1) := by decide +kernel
theorem dX10_setController_131 : decode cX10_setController 131 = .ok (.getfield 7, 3) := by decide +kernel
theorem dX10_setController_134 : decode cX10_setController 134 = .ok (.bipush 12, 2) := by decide +kernel
theorem dX10_setController_136 : decode cX10_setController 136 = .ok (.iload 4, 2) := by decide +kernel
theorem dX10_setController_138 : decode cX10_setController 138 = .ok (.iastore, 1) := by decide +kernel
theorem dX10_setController_139 : decode cX10_setController 139 = .ok (.iload 5, 2) := by decide +kernel
theorem dX10_setController_141 : decode cX10_setController 141 = .ok (.ifCond .eq 7, 3) := by decide +kernel
theorem dX10_setController_144 : decode cX10_setController 144 = .ok (.iconst 0, 1) := by decide +kernel
theorem dX10_setController_145 : decode cX10_setController 145 = .ok (.goto 4, 3) := by decide +kernel
theorem dX10_setController_148 : decode cX10_setController 148 = .ok (.iconst 1, 1) := by decide +kernel
theorem dX10_setController_149 : decode cX10_setController 149 = .ok (.ireturn, 1) := by decide +kernel
theorem dX10_setProbe_0 : decode cX10_setProbe 0 = .ok (.aload_n 0, 1) := by decide +kernel
theorem dX10_setProbe_1 : decode cX10_setProbe 1 = .ok (.iconst 0, 1) := by decide +kernel
theorem dX10_setProbe_2 : decode cX10_setProbe 2 = .ok (.putfield 25, 3) := by decide +kernel
theorem dX10_setProbe_5 : decode cX10_setProbe 5 = .ok (.iload_n 1, 1) := by decide +kernel
theorem dX10_setProbe_6 : decode cX10_setProbe 6 = .ok (.iconst 1, 1) := by decide +kernel
theorem dX10_setProbe_7 : decode cX10_setProbe 7 = .ok (.bipush 60, 2) := by decide +kernel
theorem dX10_setProbe_9 : decode cX10_setProbe 9 = .ok (.invokestatic 39, 3) := by decide +kernel
theorem dX10_setProbe_12 : decode cX10_setProbe 12 = .ok (.ifCond .eq 12, 3) := by decide +kernel
theorem dX10_setProbe_15 : decode cX10_setProbe 15 = .ok (.iload_n 2, 1) := by decide +kernel
theorem dX10_setProbe_16 : decode cX10_setProbe 16 = .ok (.iconst 0, 1) := by decide +kernel
theorem dX10_setProbe_17 : decode cX10_setProbe 17 = .ok (.iconst 5, 1) := by decide +kernel
theorem dX10_setProbe_18 : decode cX10_setProbe 18 = .ok (.invokestatic 39, 3) := by decide +kernel
theorem dX10_setProbe_21 : decode cX10_setProbe 21 = .ok (.ifCond .ne 6, 3) := by decide +kernel
theorem dX10_setProbe_24 : decode cX10_setProbe 24 = .ok (.ldc 47, 2) := by decide +kernel
theorem dX10_setProbe_26 : decode cX10_setProbe 26 = .ok (.ireturn, 1) := by decide +kernel
theorem dX10_setProbe_27 : decode cX10_setProbe 27 = .ok (.aload_n 0, 1) := by decide +kernel
theorem dX10_setProbe_28 : decode cX10_setProbe 28 = .ok (.iconst 5, 1) := by decide +kernel
theorem dX10_setProbe_29 : decode cX10_setProbe 29 = .ok (.iload_n 1, 1) := by decide +kernel
theorem dX10_setProbe_30 : decode cX10_setProbe 30 = .ok (.invokevirtual 43, 3) := by decide +kernel
theorem dX10_setProbe_33 : decode cX10_setProbe 33 = .ok (.istore_n 3, 1) := by decide +kernel
theorem dX10_setProbe_34 : decode cX10_setProbe 34 = .ok (.aload_n 0, 1) := by decide +kernel
theorem dX10_setProbe_35 : decode cX10_setProbe 35 = .ok (.getfield 7, 3) := by decide +kernel
theorem dX10_setProbe_38 : decode cX10_setProbe 38 = .ok (.bipush 6, 2) := by decide +kernel
theorem dX10_setProbe_40 : decode cX10_setProbe 40 = .ok (.iload_n 2, 1) := by decide +kernel
theorem dX10_setProbe_41 : decode cX10_setProbe 41 = .ok (.iastore, 1) := by decide +kernel
theorem dX10_setProbe_42 : decode cX10_setProbe 42 = .ok (.iload_n 3, 1) := by decide +kernel
theorem dX10_setProbe_43 : decode cX10_setProbe 43 = .ok (.ireturn, 1) := by decide +kernel
theorem dX10_setCrack_0 : decode cX10_setCrack 0 = .ok (.aload_n 0, 1) := by decide +kernel
theorem dX10_setCrack_1 : decode cX10_setCrack 1 = .ok (.iconst 0, 1) := by decide +kernel
theorem dX10_setCrack_2 : decode cX10_setCrack 2 = .ok (.putfield 25, 3) := by decide +kernel
theorem dX10_setCrack_5 : decode cX10_setCrack 5 = .ok (.iload_n 1, 1) := by decide +kernel
theorem dX10_setCrack_6 : decode cX10_setCrack 6 = .ok (.sipush 1500, 3) := by decide +kernel
theorem dX10_setCrack_9 : decode cX10_setCrack 9 = .ok (.sipush 2300, 3) := by decide +kernel
theorem dX10_setCrack_12 : decode cX10_setCrack 12 = .ok (.invokestatic 39, 3) := by decide +kernel
theorem dX10_setCrack_15 : decode cX10_setCrack 15 = .ok (.ifCond .eq 14, 3) := by decide +kernel
theorem dX10_setCrack_18 : decode cX10_setCrack 18 = .ok (.iload_n 2, 1) := by decide +kernel
theorem dX10_setCrack_19 : decode cX10_setCrack 19 = .ok (.iconst 1, 1) := by decide +kernel
theorem dX10_setCrack_20 : decode cX10_setCrack 20 = .ok (.sipush 600, 3) := by decide +kernel
theorem dX10_setCrack_23 : decode cX10_setCrack 23 = .ok (.invokestatic 39, 3) := by decide +kernel
theorem dX10_setCrack_26 : decode cX10_setCrack 26 = .ok (.ifCond .ne 6, 3) := by decide +kernel
theorem dX10_setCrack_29 : decode cX10_setCrack 29 = .ok (.ldc 47, 2) := by decide +kernel
theorem dX10_setCrack_31 : decode cX10_setCrack 31 = .ok (.ireturn, 1) := by decide +kernel
theorem dX10_setCrack_32 : decode cX10_setCrack 32 = .ok (.aload_n 0, 1) := by decide +kernel
theorem dX10_setCrack_33 : decode cX10_setCrack 33 = .ok (.getfield 7, 3) := by decide +kernel
theorem dX10_setCrack_36 : decode cX10_setCrack 36 = .ok (.bipush 14, 2) := by decide +kernel
theorem dX10_setCrack_38 : decode cX10_setCrack 38 = .ok (.iaload, 1) := by decide +kernel
theorem dX10_setCrack_39 : decode cX10_setCrack 39 = .ok (.iload_n 1, 1) := by decide +kernel
theorem dX10_setCrack_40 : decode cX10_setCrack 40 = .ok (.if_icmp .ne 18, 3) := by decide +kernel
theorem dX10_setCrack_43 : decode cX10_setCrack 43 = .ok (.aload_n 0, 1) := by decide +kernel
theorem dX10_setCrack_44 : decode cX10_setCrack 44 = .ok (.getfield 7, 3) := by decide +kernel
theorem dX10_setCrack_47 : decode cX10_setCrack 47 = .ok (.bipush 15, 2) := by decide +kernel
theorem dX10_setCrack_49 : decode cX10_setCrack 49 = .ok (.iaload, 1) := by decide +kernel
theorem dX10_setCrack_50 : decode cX10_setCrack 50 = .ok (.iload_n 2, 1) := by decide +kernel
theorem dX10_setCrack_51 : decode cX10_setCrack 51 = .ok (.if_icmp .ne 7, 3) := by decide +kernel
theorem dX10_setCrack_54 : decode cX10_setCrack 54 = .ok (.iconst 1, 1) := by decide +kernel
theorem dX10_setCrack_55 : decode cX10_setCrack 55 = .ok (.goto 4, 3) := by decide +kernel
theorem dX10_setCrack_58 : decode cX10_setCrack 58 = .ok (.iconst 0, 1) := by decide +kernel
theorem dX10_setCrack_59 : decode cX10_setCrack 59 = .ok (.istore_n 3, 1) := by decide +kernel
theorem dX10_setCrack_60 : decode cX10_setCrack 60 = .ok (.aload_n 0, 1) := by decide +kernel
theorem dX10_setCrack_61 : decode cX10_setCrack 61 = .ok (.invokevirtual 36, 3) := by decide +kernel
theorem dX10_setCrack_64 : decode cX10_setCrack 64 = .ok (.aload_n 0, 1) := by decide +kernel
theorem dX10_setCrack_65 : decode cX10_setCrack 65 = .ok (.getfield 7, 3) := by decide +kernel
theorem dX10_setCrack_68 : decode cX10_setCrack 68 = .ok (.bipush 14, 2) := by decide +kernel
theorem dX10_setCrack_70 : decode cX10_setCrack 70 = .ok (.iload_n 1, 1) := by decide +kernel
theorem dX10_setCrack_71 : decode cX10_setCrack 71 = .ok (.iastore, 1) := by decide +kernel
theorem dX10_setCrack_72 : decode cX10_setCrack 72 = .ok (.aload_n 0, 1) := by decide +kernel
theorem dX10_setCrack_73 : decode cX10_setCrack 73 = .ok (.getfield 7, 3) := by decide +kernel
theorem dX10_setCrack_76 : decode cX10_setCrack 76 = .ok (.bipush 15, 2) := by decide +kernel
theorem dX10_setCrack_78 : decode cX10_setCrack 78 = .ok (.iload_n 2, 1) := by decide +kernel
theorem dX10_setCrack_79 : decode cX10_setCrack 79 = .ok (.iastore, 1) := by decide +kernel
theorem dX10_setCrack_80 : decode cX10_setCrack 80 = .ok (.iload_n 3, 1) := by decide +kernel
theorem dX10_setCrack_81 : decode cX10_setCrack 81 = .ok (.ifCond .eq 7, 3) := by decide +kernel
theorem dX10_setCrack_84 : decode cX10_setCrack 84 = .ok (.iconst 0, 1) := by decide +kernel
theorem dX10_setCrack_85 : decode cX10_setCrack 85 = .ok (.goto 4, 3) := by decide +kernel
theorem dX10_setCrack_88 : decode cX10_setCrack 88 = .ok (.iconst 1, 1) := by decide +kernel
theorem dX10_setCrack_89 : decode cX10_setCrack 89 = .ok (.ireturn, 1) := by decide +kernel
theorem dX10_setFan_0 : decode cX10_setFan 0 = .ok (.aload_n 0, 1) := by decide +kernel
theorem dX10_setFan_1 : decode cX10_setFan 1 = .ok (.iconst 0, 1) := by decide +kernel
theorem dX10_setFan_2 : decode cX10_setFan 2 = .ok (.putfield 25, 3) := by decide +kernel
theorem dX10_setFan_5 : decode cX10_setFan 5 = .ok (.iload_n 1, 1) := by decide +kernel
theorem dX10_setFan_6 : decode cX10_setFan 6 = .ok (.iconst 1, 1) := by decide +kernel
theorem dX10_setFan_7 : decode cX10_setFan 7 = .ok (.bipush 50, 2) := by decide +kernel
theorem dX10_setFan_9 : decode cX10_setFan 9 = .ok (.invokestatic 39, 3) := by decide +kernel
theorem dX10_setFan_12 : decode cX10_setFan 12 = .ok (.ifCond .eq 13, 3) := by decide +kernel
theorem dX10_setFan_15 : decode cX10_setFan 15 = .ok (.aload_n 0, 1) := by decide +kernel
theorem dX10_setFan_16 : decode cX10_setFan 16 = .ok (.bipush 8, 2) := by decide +kernel
theorem dX10_setFan_18 : decode cX10_setFan 18 = .ok (.iload_n 1, 1) := by decide +kernel
theorem dX10_setFan_19 : decode cX10_setFan 19 = .ok (.invokevirtual 43, 3) := by decide +kernel
theorem dX10_setFan_22 : decode cX10_setFan 22 = .ok (.goto 5, 3) := by decide +kernel
theorem dX10_setFan_25 : decode cX10_setFan 25 = .ok (.ldc 47, 2) := by decide +kernel
theorem dX10_setFan_27 : decode cX10_setFan 27 = .ok (.ireturn, 1) := by decide +kernel
theorem dX10_place_0 : decode cX10_place 0 = .ok (.iconst 0, 1) := by decide +kernel
theorem dX10_place_1 : decode cX10_place 1 = .ok (.istore 4, 2) := by decide +kernel
theorem dX10_place_3 : decode cX10_place 3 = .ok (.iload 4, 2) := by decide +kernel
theorem dX10_place_5 : decode cX10_place 5 = .ok (.iload_n 2, 1) := by decide +kernel
theorem dX10_place_6 : decode cX10_place 6 = .ok (.if_icmp .ge 24, 3) := by decide +kernel
theorem dX10_place_9 : decode cX10_place 9 = .ok (.aload_n 0, 1) := by decide +kernel
theorem dX10_place_10 : decode cX10_place 10 = .ok (.getfield 7, 3) := by decide +kernel
theorem dX10_place_13 : decode cX10_place 13 = .ok (.iload_n 1, 1) := by decide +kernel
theorem dX10_place_14 : decode cX10_place 14 = .ok (.iconst 2, 1) := by decide +kernel
theorem dX10_place_15 : decode cX10_place 15 = .ok (.iload 4, 2) := by decide +kernel
theorem dX10_place_17 : decode cX10_place 17 = .ok (.imul, 1) := by decide +kernel
theorem dX10_place_18 : decode cX10_place 18 = .ok (.iadd, 1) := by decide +kernel
theorem dX10_place_19 : decode cX10_place 19 = .ok (.iaload, 1) := by decide +kernel
theorem dX10_place_20 : decode cX10_place 20 = .ok (.iload_n 3, 1) := by decide +kernel
theorem dX10_place_21 : decode cX10_place 21 = .ok (.if_icmp .ge 9, 3) := by decide +kernel
theorem dX10_place_24 : decode cX10_place 24 = .ok (.iinc 4 1, 3) := by decide +kernel
theorem dX10_place_27 : decode cX10_place 27 = .ok (.goto (-24), 3) := by decide +kernel
theorem dX10_place_30 : decode cX10_place 30 = .ok (.iload 4, 2) := by decide +kernel
theorem dX10_place_32 : decode cX10_place 32 = .ok (.ireturn, 1) := by decide +kernel
theorem dX10_isAt_0 : decode cX10_isAt 0 = .ok (.iload_n 3, 1) := by decide +kernel
theorem dX10_isAt_1 : decode cX10_isAt 1 = .ok (.iload_n 2, 1) := by decide +kernel
theorem dX10_isAt_2 : decode cX10_isAt 2 = .ok (.if_icmp .ge 22, 3) := by decide +kernel
theorem dX10_isAt_5 : decode cX10_isAt 5 = .ok (.aload_n 0, 1) := by decide +kernel
theorem dX10_isAt_6 : decode cX10_isAt 6 = .ok (.getfield 7, 3) := by decide +kernel
theorem dX10_isAt_9 : decode cX10_isAt 9 = .ok (.iload_n 1, 1) := by decide +kernel
theorem dX10_isAt_10 : decode cX10_isAt 10 = .ok (.iconst 2, 1) := by decide +kernel
theorem dX10_isAt_11 : decode cX10_isAt 11 = .ok (.iload_n 3, 1) := by decide +kernel
theorem dX10_isAt_12 : decode cX10_isAt 12 = .ok (.imul, 1) := by decide +kernel
theorem dX10_isAt_13 : decode cX10_isAt 13 = .ok (.iadd, 1) := by decide +kernel
theorem dX10_isAt_14 : decode cX10_isAt 14 = .ok (.iaload, 1) := by decide +kernel
theorem dX10_isAt_15 : decode cX10_isAt 15 = .ok (.iload 4, 2) := by decide +kernel
theorem dX10_isAt_17 : decode cX10_isAt 17 = .ok (.if_icmp .ne 7, 3) := by decide +kernel
theorem dX10_isAt_20 : decode cX10_isAt 20 = .ok (.iconst 1, 1) := by decide +kernel
theorem dX10_isAt_21 : decode cX10_isAt 21 = .ok (.goto 4, 3) := by decide +kernel
theorem dX10_isAt_24 : decode cX10_isAt 24 = .ok (.iconst 0, 1) := by decide +kernel
theorem dX10_isAt_25 : decode cX10_isAt 25 = .ok (.ireturn, 1) := by decide +kernel
theorem dX10_insert_0 : decode cX10_insert 0 = .ok (.aload_n 0, 1) := by decide +kernel
theorem dX10_insert_1 : decode cX10_insert 1 = .ok (.iload_n 1, 1) := by decide +kernel
theorem dX10_insert_2 : decode cX10_insert 2 = .ok (.aload_n 0, 1) := by decide +kernel
theorem dX10_insert_3 : decode cX10_insert 3 = .ok (.getfield 7, 3) := by decide +kernel
theorem dX10_insert_6 : decode cX10_insert 6 = .ok (.iload_n 2, 1) := by decide +kernel
theorem dX10_insert_7 : decode cX10_insert 7 = .ok (.iaload, 1) := by decide +kernel
theorem dX10_insert_8 : decode cX10_insert 8 = .ok (.iload_n 3, 1) := by decide +kernel
theorem dX10_insert_9 : decode cX10_insert 9 = .ok (.invokevirtual 48, 3) := by decide +kernel
theorem dX10_insert_12 : decode cX10_insert 12 = .ok (.istore 5, 2) := by decide +kernel
theorem dX10_insert_14 : decode cX10_insert 14 = .ok (.aload_n 0, 1) := by decide +kernel
theorem dX10_insert_15 : decode cX10_insert 15 = .ok (.iload_n 1, 1) := by decide +kernel
theorem dX10_insert_16 : decode cX10_insert 16 = .ok (.aload_n 0, 1) := by decide +kernel
theorem dX10_insert_17 : decode cX10_insert 17 = .ok (.getfield 7, 3) := by decide +kernel
theorem dX10_insert_20 : decode cX10_insert 20 = .ok (.iload_n 2, 1) := by decide +kernel
theorem dX10_insert_21 : decode cX10_insert 21 = .ok (.iaload, 1) := by decide +kernel
theorem dX10_insert_22 : decode cX10_insert 22 = .ok (.iload 5, 2) := by decide +kernel
theorem dX10_insert_24 : decode cX10_insert 24 = .ok (.iload_n 3, 1) := by decide +kernel
theorem dX10_insert_25 : decode cX10_insert 25 = .ok (.invokevirtual 52, 3) := by decide +kernel
theorem dX10_insert_28 : decode cX10_insert 28 = .ok (.ifCond .ne 62, 3) := by decide +kernel
theorem dX10_insert_31 : decode cX10_insert 31 = .ok (.iload_n 1, 1) := by decide +kernel
theorem dX10_insert_32 : decode cX10_insert 32 = .ok (.iconst 2, 1) := by decide +kernel
theorem dX10_insert_33 : decode cX10_insert 33 = .ok (.aload_n 0, 1) := by decide +kernel
theorem dX10_insert_34 : decode cX10_insert 34 = .ok (.getfield 7, 3) := by decide +kernel
theorem dX10_insert_37 : decode cX10_insert 37 = .ok (.iload_n 2, 1) := by decide +kernel
theorem dX10_insert_38 : decode cX10_insert 38 = .ok (.iaload, 1) := by decide +kernel
theorem dX10_insert_39 : decode cX10_insert 39 = .ok (.imul, 1) := by decide +kernel
theorem dX10_insert_40 : decode cX10_insert 40 = .ok (.iadd, 1) := by decide +kernel
theorem dX10_insert_41 : decode cX10_insert 41 = .ok (.iconst 1, 1) := by decide +kernel
theorem dX10_insert_42 : decode cX10_insert 42 = .ok (.iadd, 1) := by decide +kernel
theorem dX10_insert_43 : decode cX10_insert 43 = .ok (.istore 6, 2) := by decide +kernel
theorem dX10_insert_45 : decode cX10_insert 45 = .ok (.iload 6, 2) := by decide +kernel
theorem dX10_insert_47 : decode cX10_insert 47 = .ok (.iload_n 1, 1) := by decide +kernel
theorem dX10_insert_48 : decode cX10_insert 48 = .ok (.iconst 2, 1) := by decide +kernel
theorem dX10_insert_49 : decode cX10_insert 49 = .ok (.iload 5, 2) := by decide +kernel
theorem dX10_insert_51 : decode cX10_insert 51 = .ok (.imul, 1) := by decide +kernel
theorem dX10_insert_52 : decode cX10_insert 52 = .ok (.iadd, 1) := by decide +kernel
theorem dX10_insert_53 : decode cX10_insert 53 = .ok (.iconst 1, 1) := by decide +kernel
theorem dX10_insert_54 : decode cX10_insert 54 = .ok (.iadd, 1) := by decide +kernel
theorem dX10_insert_55 : decode cX10_insert 55 = .ok (.if_icmp .le 25, 3) := by decide +kernel
theorem dX10_insert_58 : decode cX10_insert 58 = .ok (.aload_n 0, 1) := by decide +kernel
theorem dX10_insert_59 : decode cX10_insert 59 = .ok (.getfield 7, 3) := by decide +kernel
theorem dX10_insert_62 : decode cX10_insert 62 = .ok (.iload 6, 2) := by decide +kernel
theorem dX10_insert_64 : decode cX10_insert 64 = .ok (.aload_n 0, 1) := by decide +kernel
theorem dX10_insert_65 : decode cX10_insert 65 = .ok (.getfield 7, 3) := by decide +kernel
theorem dX10_insert_68 : decode cX10_insert 68 = .ok (.iload 6, 2) := by decide +kernel
theorem dX10_insert_70 : decode cX10_insert 70 = .ok (.iconst 2, 1) := by decide +kernel
theorem dX10_insert_71 : decode cX10_insert 71 = .ok (.isub, 1) := by decide +kernel
theorem dX10_insert_72 : decode cX10_insert 72 = .ok (.iaload, 1) := by decide +kernel
theorem dX10_insert_73 : decode cX10_insert 73 = .ok (.iastore, 1) := by decide +kernel
theorem dX10_insert_74 : decode cX10_insert 74 = .ok (.iinc 6 (-1), 3) := by decide +kernel
theorem dX10_insert_77 : decode cX10_insert 77 = .ok (.goto (-32), 3) := by decide +kernel
theorem dX10_insert_80 : decode cX10_insert 80 = .ok (.aload_n 0, 1) := by decide +kernel
theorem dX10_insert_81 : decode cX10_insert 81 = .ok (.getfield 7, 3) := by decide +kernel
theorem dX10_insert_84 : decode cX10_insert 84 = .ok (.iload_n 2, 1) := by decide +kernel
theorem dX10_insert_85 : decode cX10_insert 85 = .ok (.dup2, 1) := by decide +kernel
theorem dX10_insert_86 : decode cX10_insert 86 = .ok (.iaload, 1) := by decide +kernel
theorem dX10_insert_87 : decode cX10_insert 87 = .ok (.iconst 1, 1) := by decide +kernel
theorem dX10_insert_88 : decode cX10_insert 88 = .ok (.iadd, 1) := by decide +kernel
theorem dX10_insert_89 : decode cX10_insert 89 = .ok (.iastore, 1) := by decide +kernel
theorem dX10_insert_90 : decode cX10_insert 90 = .ok (.aload_n 0, 1) := by decide +kernel
theorem dX10_insert_91 : decode cX10_insert 91 = .ok (.getfield 7, 3) := by decide +kernel
theorem dX10_insert_94 : decode cX10_insert 94 = .ok (.iload_n 1, 1) := by decide +kernel
theorem dX10_insert_95 : decode cX10_insert 95 = .ok (.iconst 2, 1) := by decide +kernel
theorem dX10_insert_96 : decode cX10_insert 96 = .ok (.iload 5, 2) := by decide +kernel
theorem dX10_insert_98 : decode cX10_insert 98 = .ok (.imul, 1) := by decide +kernel
theorem dX10_insert_99 : decode cX10_insert 99 = .ok (.iadd, 1) := by decide +kernel
theorem dX10_insert_100 : decode cX10_insert 100 = .ok (.iload_n 3, 1) := by decide +kernel
theorem dX10_insert_101 : decode cX10_insert 101 = .ok (.iastore, 1) := by decide +kernel
theorem dX10_insert_102 : decode cX10_insert 102 = .ok (.aload_n 0, 1) := by decide +kernel
theorem dX10_insert_103 : decode cX10_insert 103 = .ok (.getfield 7, 3) := by decide +kernel
theorem dX10_insert_106 : decode cX10_insert 106 = .ok (.iload_n 1, 1) := by decide +kernel
theorem dX10_insert_107 : decode cX10_insert 107 = .ok (.iconst 2, 1) := by decide +kernel
theorem dX10_insert_108 : decode cX10_insert 108 = .ok (.iload 5, 2) := by decide +kernel
theorem dX10_insert_110 : decode cX10_insert 110 = .ok (.imul, 1) := by decide +kernel
theorem dX10_insert_111 : decode cX10_insert 111 = .ok (.iadd, 1) := by decide +kernel
theorem dX10_insert_112 : decode cX10_insert 112 = .ok (.iconst 1, 1) := by decide +kernel
theorem dX10_insert_113 : decode cX10_insert 113 = .ok (.iadd, 1) := by decide +kernel
theorem dX10_insert_114 : decode cX10_insert 114 = .ok (.iload 4, 2) := by decide +kernel
theorem dX10_insert_116 : decode cX10_insert 116 = .ok (.iastore, 1) := by decide +kernel
theorem dX10_insert_117 : decode cX10_insert 117 = .ok (.return_, 1) := by decide +kernel
theorem dX10_takeOut_0 : decode cX10_takeOut 0 = .ok (.aload_n 0, 1) := by decide +kernel
theorem dX10_takeOut_1 : decode cX10_takeOut 1 = .ok (.getfield 7, 3) := by decide +kernel
theorem dX10_takeOut_4 : decode cX10_takeOut 4 = .ok (.iload_n 2, 1) := by decide +kernel
theorem dX10_takeOut_5 : decode cX10_takeOut 5 = .ok (.dup2, 1) := by decide +kernel
theorem dX10_takeOut_6 : decode cX10_takeOut 6 = .ok (.iaload, 1) := by decide +kernel
theorem dX10_takeOut_7 : decode cX10_takeOut 7 = .ok (.iconst 1, 1) := by decide +kernel
theorem dX10_takeOut_8 : decode cX10_takeOut 8 = .ok (.isub, 1) := by decide +kernel
theorem dX10_takeOut_9 : decode cX10_takeOut 9 = .ok (.iastore, 1) := by decide +kernel
theorem dX10_takeOut_10 : decode cX10_takeOut 10 = .ok (.iload_n 1, 1) := by decide +kernel
theorem dX10_takeOut_11 : decode cX10_takeOut 11 = .ok (.iconst 2, 1) := by decide +kernel
theorem dX10_takeOut_12 : decode cX10_takeOut 12 = .ok (.iload_n 3, 1) := by decide +kernel
theorem dX10_takeOut_13 : decode cX10_takeOut 13 = .ok (.imul, 1) := by decide +kernel
theorem dX10_takeOut_14 : decode cX10_takeOut 14 = .ok (.iadd, 1) := by decide +kernel
theorem dX10_takeOut_15 : decode cX10_takeOut 15 = .ok (.istore 4, 2) := by decide +kernel
theorem dX10_takeOut_17 : decode cX10_takeOut 17 = .ok (.iload 4, 2) := by decide +kernel
theorem dX10_takeOut_19 : decode cX10_takeOut 19 = .ok (.iload_n 1, 1) := by decide +kernel
theorem dX10_takeOut_20 : decode cX10_takeOut 20 = .ok (.iconst 2, 1) := by decide +kernel
theorem dX10_takeOut_21 : decode cX10_takeOut 21 = .ok (.aload_n 0, 1) := by decide +kernel
theorem dX10_takeOut_22 : decode cX10_takeOut 22 = .ok (.getfield 7, 3) := by decide +kernel
theorem dX10_takeOut_25 : decode cX10_takeOut 25 = .ok (.iload_n 2, 1) := by decide +kernel
theorem dX10_takeOut_26 : decode cX10_takeOut 26 = .ok (.iaload, 1) := by decide +kernel
theorem dX10_takeOut_27 : decode cX10_takeOut 27 = .ok (.imul, 1) := by decide +kernel
theorem dX10_takeOut_28 : decode cX10_takeOut 28 = .ok (.iadd, 1) := by decide +kernel
theorem dX10_takeOut_29 : decode cX10_takeOut 29 = .ok (.if_icmp .ge 25, 3) := by decide +kernel
theorem dX10_takeOut_32 : decode cX10_takeOut 32 = .ok (.aload_n 0, 1) := by decide +kernel
theorem dX10_takeOut_33 : decode cX10_takeOut 33 = .ok (.getfield 7, 3) := by decide +kernel
theorem dX10_takeOut_36 : decode cX10_takeOut 36 = .ok (.iload 4, 2) := by decide +kernel
theorem dX10_takeOut_38 : decode cX10_takeOut 38 = .ok (.aload_n 0, 1) := by decide +kernel
theorem dX10_takeOut_39 : decode cX10_takeOut 39 = .ok (.getfield 7, 3) := by decide +kernel
theorem dX10_takeOut_42 : decode cX10_takeOut 42 = .ok (.iload 4, 2) := by decide +kernel
theorem dX10_takeOut_44 : decode cX10_takeOut 44 = .ok (.iconst 2, 1) := by decide +kernel
theorem dX10_takeOut_45 : decode cX10_takeOut 45 = .ok (.iadd, 1) := by decide +kernel
theorem dX10_takeOut_46 : decode cX10_takeOut 46 = .ok (.iaload, 1) := by decide +kernel
theorem dX10_takeOut_47 : decode cX10_takeOut 47 = .ok (.iastore, 1) := by decide +kernel
theorem dX10_takeOut_48 : decode cX10_takeOut 48 = .ok (.iinc 4 1, 3) := by decide +kernel
theorem dX10_takeOut_51 : decode cX10_takeOut 51 = .ok (.goto (-34), 3) := by decide +kernel
theorem dX10_takeOut_54 : decode cX10_takeOut 54 = .ok (.return_, 1) := by decide +kernel
theorem dX10_setPoint_0 : decode cX10_setPoint 0 = .ok (.aload_n 0, 1) := by decide +kernel
theorem dX10_setPoint_1 : decode cX10_setPoint 1 = .ok (.iconst 0, 1) := by decide +kernel
theorem dX10_setPoint_2 : decode cX10_setPoint 2 = .ok (.putfield 25, 3) := by decide +kernel
theorem dX10_setPoint_5 : decode cX10_setPoint 5 = .ok (.iload_n 1, 1) := by decide +kernel
theorem dX10_setPoint_6 : decode cX10_setPoint 6 = .ok (.iconst 0, 1) := by decide +kernel
theorem dX10_setPoint_7 : decode cX10_setPoint 7 = .ok (.sipush 400, 3) := by decide +kernel
theorem dX10_setPoint_10 : decode cX10_setPoint 10 = .ok (.invokestatic 39, 3) := by decide +kernel
theorem dX10_setPoint_13 : decode cX10_setPoint 13 = .ok (.ifCond .eq 14, 3) := by decide +kernel
theorem dX10_setPoint_16 : decode cX10_setPoint 16 = .ok (.iload_n 2, 1) := by decide +kernel
theorem dX10_setPoint_17 : decode cX10_setPoint 17 = .ok (.iconst 0, 1) := by decide +kernel
theorem dX10_setPoint_18 : decode cX10_setPoint 18 = .ok (.sipush 3000, 3) := by decide +kernel
theorem dX10_setPoint_21 : decode cX10_setPoint 21 = .ok (.invokestatic 39, 3) := by decide +kernel
theorem dX10_setPoint_24 : decode cX10_setPoint 24 = .ok (.ifCond .ne 6, 3) := by decide +kernel
theorem dX10_setPoint_27 : decode cX10_setPoint 27 = .ok (.ldc 47, 2) := by decide +kernel
theorem dX10_setPoint_29 : decode cX10_setPoint 29 = .ok (.ireturn, 1) := by decide +kernel
theorem dX10_setPoint_30 : decode cX10_setPoint 30 = .ok (.aload_n 0, 1) := by decide +kernel
theorem dX10_setPoint_31 : decode cX10_setPoint 31 = .ok (.bipush 33, 2) := by decide +kernel
theorem dX10_setPoint_33 : decode cX10_setPoint 33 = .ok (.aload_n 0, 1) := by decide +kernel
theorem dX10_setPoint_34 : decode cX10_setPoint 34 = .ok (.getfield 7, 3) := by decide +kernel
theorem dX10_setPoint_37 : decode cX10_setPoint 37 = .ok (.bipush 32, 2) := by decide +kernel
theorem dX10_setPoint_39 : decode cX10_setPoint 39 = .ok (.iaload, 1) := by decide +kernel
theorem dX10_setPoint_40 : decode cX10_setPoint 40 = .ok (.aload_n 0, 1) := by decide +kernel
theorem dX10_setPoint_41 : decode cX10_setPoint 41 = .ok (.bipush 33, 2) := by decide +kernel
theorem dX10_setPoint_43 : decode cX10_setPoint 43 = .ok (.aload_n 0, 1) := by decide +kernel
theorem dX10_setPoint_44 : decode cX10_setPoint 44 = .ok (.getfield 7, 3) := by decide +kernel
theorem dX10_setPoint_47 : decode cX10_setPoint 47 = .ok (.bipush 32, 2) := by decide +kernel
theorem dX10_setPoint_49 : decode cX10_setPoint 49 = .ok (.iaload, 1) := by decide +kernel
theorem dX10_setPoint_50 : decode cX10_setPoint 50 = .ok (.iload_n 1, 1) := by decide +kernel
theorem dX10_setPoint_51 : decode cX10_setPoint 51 = .ok (.invokevirtual 48, 3) := by decide +kernel
theorem dX10_setPoint_54 : decode cX10_setPoint 54 = .ok (.iload_n 1, 1) := by decide +kernel
theorem dX10_setPoint_55 : decode cX10_setPoint 55 = .ok (.invokevirtual 52, 3) := by decide +kernel
theorem dX10_setPoint_58 : decode cX10_setPoint 58 = .ok (.istore_n 3, 1) := by decide +kernel
theorem dX10_setPoint_59 : decode cX10_setPoint 59 = .ok (.iload_n 3, 1) := by decide +kernel
theorem dX10_setPoint_60 : decode cX10_setPoint 60 = .ok (.ifCond .ne 18, 3) := by decide +kernel
theorem dX10_setPoint_63 : decode cX10_setPoint 63 = .ok (.aload_n 0, 1) := by decide +kernel
theorem dX10_setPoint_64 : decode cX10_setPoint 64 = .ok (.getfield 7, 3) := by decide +kernel
theorem dX10_setPoint_67 : decode cX10_setPoint 67 = .ok (.bipush 32, 2) := by decide +kernel
theorem dX10_setPoint_69 : decode cX10_setPoint 69 = .ok (.iaload, 1) := by decide +kernel
theorem dX10_setPoint_70 : decode cX10_setPoint 70 = .ok (.bipush 8, 2) := by decide +kernel
theorem dX10_setPoint_72 : decode cX10_setPoint 72 = .ok (.if_icmp .ne 6, 3) := by decide +kernel
theorem dX10_setPoint_75 : decode cX10_setPoint 75 = .ok (.ldc 56, 2) := by decide +kernel
theorem dX10_setPoint_77 : decode cX10_setPoint 77 = .ok (.ireturn, 1) := by decide +kernel
theorem dX10_setPoint_78 : decode cX10_setPoint 78 = .ok (.aload_n 0, 1) := by decide +kernel
theorem dX10_setPoint_79 : decode cX10_setPoint 79 = .ok (.invokevirtual 36, 3) := by decide +kernel
theorem dX10_setPoint_82 : decode cX10_setPoint 82 = .ok (.aload_n 0, 1) := by decide +kernel
theorem dX10_setPoint_83 : decode cX10_setPoint 83 = .ok (.bipush 33, 2) := by decide +kernel
theorem dX10_setPoint_85 : decode cX10_setPoint 85 = .ok (.bipush 32, 2) := by decide +kernel
theorem dX10_setPoint_87 : decode cX10_setPoint 87 = .ok (.iload_n 1, 1) := by decide +kernel
theorem dX10_setPoint_88 : decode cX10_setPoint 88 = .ok (.iload_n 2, 1) := by decide +kernel
theorem dX10_setPoint_89 : decode cX10_setPoint 89 = .ok (.invokevirtual 57, 3) := by decide +kernel
theorem dX10_setPoint_92 : decode cX10_setPoint 92 = .ok (.aload_n 0, 1) := by decide +kernel
theorem dX10_setPoint_93 : decode cX10_setPoint 93 = .ok (.getfield 7, 3) := by decide +kernel
theorem dX10_setPoint_96 : decode cX10_setPoint 96 = .ok (.bipush 32, 2) := by decide +kernel
theorem dX10_setPoint_98 : decode cX10_setPoint 98 = .ok (.iaload, 1) := by decide +kernel
theorem dX10_setPoint_99 : decode cX10_setPoint 99 = .ok (.ireturn, 1) := by decide +kernel
theorem dX10_removePoint_0 : decode cX10_removePoint 0 = .ok (.aload_n 0, 1) := by decide +kernel
theorem dX10_removePoint_1 : decode cX10_removePoint 1 = .ok (.iconst 0, 1) := by decide +kernel
theorem dX10_removePoint_2 : decode cX10_removePoint 2 = .ok (.putfield 25, 3) := by decide +kernel
theorem dX10_removePoint_5 : decode cX10_removePoint 5 = .ok (.iload_n 1, 1) := by decide +kernel
theorem dX10_removePoint_6 : decode cX10_removePoint 6 = .ok (.iconst 0, 1) := by decide +kernel
theorem dX10_removePoint_7 : decode cX10_removePoint 7 = .ok (.sipush 400, 3) := by decide +kernel
theorem dX10_removePoint_10 : decode cX10_removePoint 10 = .ok (.invokestatic 39, 3) := by decide +kernel
theorem dX10_removePoint_13 : decode cX10_removePoint 13 = .ok (.ifCond .ne 6, 3) := by decide +kernel
theorem dX10_removePoint_16 : decode cX10_removePoint 16 = .ok (.ldc 47, 2) := by decide +kernel
theorem dX10_removePoint_18 : decode cX10_removePoint 18 = .ok (.ireturn, 1) := by decide +kernel
theorem dX10_removePoint_19 : decode cX10_removePoint 19 = .ok (.aload_n 0, 1) := by decide +kernel
theorem dX10_removePoint_20 : decode cX10_removePoint 20 = .ok (.bipush 33, 2) := by decide +kernel
theorem dX10_removePoint_22 : decode cX10_removePoint 22 = .ok (.aload_n 0, 1) := by decide +kernel
theorem dX10_removePoint_23 : decode cX10_removePoint 23 = .ok (.getfield 7, 3) := by decide +kernel
theorem dX10_removePoint_26 : decode cX10_removePoint 26 = .ok (.bipush 32, 2) := by decide +kernel
theorem dX10_removePoint_28 : decode cX10_removePoint 28 = .ok (.iaload, 1) := by decide +kernel
theorem dX10_removePoint_29 : decode cX10_removePoint 29 = .ok (.iload_n 1, 1) := by decide +kernel
theorem dX10_removePoint_30 : decode cX10_removePoint 30 = .ok (.invokevirtual 48, 3) := by decide +kernel
theorem dX10_removePoint_33 : decode cX10_removePoint 33 = .ok (.istore_n 2, 1) := by decide +kernel
theorem dX10_removePoint_34 : decode cX10_removePoint 34 = .ok (.aload_n 0, 1) := by decide +kernel
theorem dX10_removePoint_35 : decode cX10_removePoint 35 = .ok (.bipush 33, 2) := by decide +kernel
theorem dX10_removePoint_37 : decode cX10_removePoint 37 = .ok (.aload_n 0, 1) := by decide +kernel
theorem dX10_removePoint_38 : decode cX10_removePoint 38 = .ok (.getfield 7, 3) := by decide +kernel
theorem dX10_removePoint_41 : decode cX10_removePoint 41 = .ok (.bipush 32, 2) := by decide +kernel
theorem dX10_removePoint_43 : decode cX10_removePoint 43 = .ok (.iaload, 1) := by decide +kernel
theorem dX10_removePoint_44 : decode cX10_removePoint 44 = .ok (.iload_n 2, 1) := by decide +kernel
theorem dX10_removePoint_45 : decode cX10_removePoint 45 = .ok (.iload_n 1, 1) := by decide +kernel
theorem dX10_removePoint_46 : decode cX10_removePoint 46 = .ok (.invokevirtual 52, 3) := by decide +kernel
theorem dX10_removePoint_49 : decode cX10_removePoint 49 = .ok (.ifCond .ne 6, 3) := by decide +kernel
theorem dX10_removePoint_52 : decode cX10_removePoint 52 = .ok (.ldc 61, 2) := by decide +kernel
theorem dX10_removePoint_54 : decode cX10_removePoint 54 = .ok (.ireturn, 1) := by decide +kernel
theorem dX10_removePoint_55 : decode cX10_removePoint 55 = .ok (.aload_n 0, 1) := by decide +kernel
theorem dX10_removePoint_56 : decode cX10_removePoint 56 = .ok (.invokevirtual 36, 3) := by decide +kernel
theorem dX10_removePoint_59 : decode cX10_removePoint 59 = .ok (.aload_n 0, 1) := by decide +kernel
theorem dX10_removePoint_60 : decode cX10_removePoint 60 = .ok (.getfield 7, 3) := by decide +kernel
theorem dX10_removePoint_63 : decode cX10_removePoint 63 = .ok (.bipush 33, 2) := by decide +kernel
theorem dX10_removePoint_65 : decode cX10_removePoint 65 = .ok (.iconst 2, 1) := by decide +kernel
theorem dX10_removePoint_66 : decode cX10_removePoint 66 = .ok (.iload_n 2, 1) := by decide +kernel
theorem dX10_removePoint_67 : decode cX10_removePoint 67 = .ok (.imul, 1) := by decide +kernel
theorem dX10_removePoint_68 : decode cX10_removePoint 68 = .ok (.iadd, 1) := by decide +kernel
theorem dX10_removePoint_69 : decode cX10_removePoint 69 = .ok (.iconst 1, 1) := by decide +kernel
theorem dX10_removePoint_70 : decode cX10_removePoint 70 = .ok (.iadd, 1) := by decide +kernel
theorem dX10_removePoint_71 : decode cX10_removePoint 71 = .ok (.iaload, 1) := by decide +kernel
theorem dX10_removePoint_72 : decode cX10_removePoint 72 = .ok (.istore_n 3, 1) := by decide +kernel
theorem dX10_removePoint_73 : decode cX10_removePoint 73 = .ok (.aload_n 0, 1) := by decide +kernel
theorem dX10_removePoint_74 : decode cX10_removePoint 74 = .ok (.bipush 33, 2) := by decide +kernel
theorem dX10_removePoint_76 : decode cX10_removePoint 76 = .ok (.bipush 32, 2) := by decide +kernel
theorem dX10_removePoint_78 : decode cX10_removePoint 78 = .ok (.iload_n 2, 1) := by decide +kernel
theorem dX10_removePoint_79 : decode cX10_removePoint 79 = .ok (.invokevirtual 62, 3) := by decide +kernel
theorem dX10_removePoint_82 : decode cX10_removePoint 82 = .ok (.iload_n 3, 1) := by decide +kernel
theorem dX10_removePoint_83 : decode cX10_removePoint 83 = .ok (.ireturn, 1) := by decide +kernel
theorem dX10_setRow_0 : decode cX10_setRow 0 = .ok (.aload_n 0, 1) := by decide +kernel
theorem dX10_setRow_1 : decode cX10_setRow 1 = .ok (.iconst 0, 1) := by decide +kernel
theorem dX10_setRow_2 : decode cX10_setRow 2 = .ok (.putfield 25, 3) := by decide +kernel
theorem dX10_setRow_5 : decode cX10_setRow 5 = .ok (.iload_n 1, 1) := by decide +kernel
theorem dX10_setRow_6 : decode cX10_setRow 6 = .ok (.iconst 0, 1) := by decide +kernel
theorem dX10_setRow_7 : decode cX10_setRow 7 = .ok (.sipush 3000, 3) := by decide +kernel
theorem dX10_setRow_10 : decode cX10_setRow 10 = .ok (.invokestatic 39, 3) := by decide +kernel
theorem dX10_setRow_13 : decode cX10_setRow 13 = .ok (.ifCond .eq 14, 3) := by decide +kernel
theorem dX10_setRow_16 : decode cX10_setRow 16 = .ok (.iload_n 2, 1) := by decide +kernel
theorem dX10_setRow_17 : decode cX10_setRow 17 = .ok (.iconst (-1), 1) := by decide +kernel
theorem dX10_setRow_18 : decode cX10_setRow 18 = .ok (.sipush 999, 3) := by decide +kernel
theorem dX10_setRow_21 : decode cX10_setRow 21 = .ok (.invokestatic 39, 3) := by decide +kernel
theorem dX10_setRow_24 : decode cX10_setRow 24 = .ok (.ifCond .ne 6, 3) := by decide +kernel
theorem dX10_setRow_27 : decode cX10_setRow 27 = .ok (.ldc 47, 2) := by decide +kernel
theorem dX10_setRow_29 : decode cX10_setRow 29 = .ok (.ireturn, 1) := by decide +kernel
theorem dX10_setRow_30 : decode cX10_setRow 30 = .ok (.aload_n 0, 1) := by decide +kernel
theorem dX10_setRow_31 : decode cX10_setRow 31 = .ok (.bipush 50, 2) := by decide +kernel
theorem dX10_setRow_33 : decode cX10_setRow 33 = .ok (.aload_n 0, 1) := by decide +kernel
theorem dX10_setRow_34 : decode cX10_setRow 34 = .ok (.getfield 7, 3) := by decide +kernel
theorem dX10_setRow_37 : decode cX10_setRow 37 = .ok (.bipush 49, 2) := by decide +kernel
theorem dX10_setRow_39 : decode cX10_setRow 39 = .ok (.iaload, 1) := by decide +kernel
theorem dX10_setRow_40 : decode cX10_setRow 40 = .ok (.iload_n 1, 1) := by decide +kernel
theorem dX10_setRow_41 : decode cX10_setRow 41 = .ok (.invokevirtual 48, 3) := by decide +kernel
theorem dX10_setRow_44 : decode cX10_setRow 44 = .ok (.istore_n 3, 1) := by decide +kernel
theorem dX10_setRow_45 : decode cX10_setRow 45 = .ok (.aload_n 0, 1) := by decide +kernel
theorem dX10_setRow_46 : decode cX10_setRow 46 = .ok (.bipush 50, 2) := by decide +kernel
theorem dX10_setRow_48 : decode cX10_setRow 48 = .ok (.aload_n 0, 1) := by decide +kernel
theorem dX10_setRow_49 : decode cX10_setRow 49 = .ok (.getfield 7, 3) := by decide +kernel
theorem dX10_setRow_52 : decode cX10_setRow 52 = .ok (.bipush 49, 2) := by decide +kernel
theorem dX10_setRow_54 : decode cX10_setRow 54 = .ok (.iaload, 1) := by decide +kernel
theorem dX10_setRow_55 : decode cX10_setRow 55 = .ok (.iload_n 3, 1) := by decide +kernel
theorem dX10_setRow_56 : decode cX10_setRow 56 = .ok (.iload_n 1, 1) := by decide +kernel
theorem dX10_setRow_57 : decode cX10_setRow 57 = .ok (.invokevirtual 52, 3) := by decide +kernel
theorem dX10_setRow_60 : decode cX10_setRow 60 = .ok (.istore 4, 2) := by decide +kernel
theorem dX10_setRow_62 : decode cX10_setRow 62 = .ok (.iload_n 2, 1) := by decide +kernel
theorem dX10_setRow_63 : decode cX10_setRow 63 = .ok (.ifCond .ge 11, 3) := by decide +kernel
theorem dX10_setRow_66 : decode cX10_setRow 66 = .ok (.iload 4, 2) := by decide +kernel
theorem dX10_setRow_68 : decode cX10_setRow 68 = .ok (.ifCond .ne 6, 3) := by decide +kernel
theorem dX10_setRow_71 : decode cX10_setRow 71 = .ok (.ldc 61, 2) := by decide +kernel
theorem dX10_setRow_73 : decode cX10_setRow 73 = .ok (.ireturn, 1) := by decide +kernel
theorem dX10_setRow_74 : decode cX10_setRow 74 = .ok (.iload 4, 2) := by decide +kernel
theorem dX10_setRow_76 : decode cX10_setRow 76 = .ok (.ifCond .ne 18, 3) := by decide +kernel
theorem dX10_setRow_79 : decode cX10_setRow 79 = .ok (.aload_n 0, 1) := by decide +kernel
theorem dX10_setRow_80 : decode cX10_setRow 80 = .ok (.getfield 7, 3) := by decide +kernel
theorem dX10_setRow_83 : decode cX10_setRow 83 = .ok (.bipush 49, 2) := by decide +kernel
theorem dX10_setRow_85 : decode cX10_setRow 85 = .ok (.iaload, 1) := by decide +kernel
theorem dX10_setRow_86 : decode cX10_setRow 86 = .ok (.bipush 6, 2) := by decide +kernel
theorem dX10_setRow_88 : decode cX10_setRow 88 = .ok (.if_icmp .ne 6, 3) := by decide +kernel
theorem dX10_setRow_91 : decode cX10_setRow 91 = .ok (.ldc 56, 2) := by decide +kernel
theorem dX10_setRow_93 : decode cX10_setRow 93 = .ok (.ireturn, 1) := by decide +kernel
theorem dX10_setRow_94 : decode cX10_setRow 94 = .ok (.aload_n 0, 1) := by decide +kernel
theorem dX10_setRow_95 : decode cX10_setRow 95 = .ok (.invokevirtual 36, 3) := by decide +kernel
theorem dX10_setRow_98 : decode cX10_setRow 98 = .ok (.iload_n 2, 1) := by decide +kernel
theorem dX10_setRow_99 : decode cX10_setRow 99 = .ok (.ifCond .ge 15, 3) := by decide +kernel
theorem dX10_setRow_102 : decode cX10_setRow 102 = .ok (.aload_n 0, 1) := by decide +kernel
theorem dX10_setRow_103 : decode cX10_setRow 103 = .ok (.bipush 50, 2) := by decide +kernel
theorem dX10_setRow_105 : decode cX10_setRow 105 = .ok (.bipush 49, 2) := by decide +kernel
theorem dX10_setRow_107 : decode cX10_setRow 107 = .ok (.iload_n 3, 1) := by decide +kernel
theorem dX10_setRow_108 : decode cX10_setRow 108 = .ok (.invokevirtual 62, 3) := by decide +kernel
theorem dX10_setRow_111 : decode cX10_setRow 111 = .ok (.goto 13, 3) := by decide +kernel
theorem dX10_setRow_114 : decode cX10_setRow 114 = .ok (.aload_n 0, 1) := by decide +kernel
theorem dX10_setRow_115 : decode cX10_setRow 115 = .ok (.bipush 50, 2) := by decide +kernel
theorem dX10_setRow_117 : decode cX10_setRow 117 = .ok (.bipush 49, 2) := by decide +kernel
theorem dX10_setRow_119 : decode cX10_setRow 119 = .ok (.iload_n 1, 1) := by decide +kernel
theorem dX10_setRow_120 : decode cX10_setRow 120 = .ok (.iload_n 2, 1) := by decide +kernel
theorem dX10_setRow_121 : decode cX10_setRow 121 = .ok (.invokevirtual 57, 3) := by decide +kernel
theorem dX10_setRow_124 : decode cX10_setRow 124 = .ok (.aload_n 0, 1) := by decide +kernel
theorem dX10_setRow_125 : decode cX10_setRow 125 = .ok (.getfield 7, 3) := by decide +kernel
theorem dX10_setRow_128 : decode cX10_setRow 128 = .ok (.bipush 49, 2) := by decide +kernel
theorem dX10_setRow_130 : decode cX10_setRow 130 = .ok (.iaload, 1) := by decide +kernel
theorem dX10_setRow_131 : decode cX10_setRow 131 = .ok (.ireturn, 1) := by decide +kernel
theorem dX10_append_0 : decode cX10_append 0 = .ok (.aload_n 0, 1) := by decide +kernel
theorem dX10_append_1 : decode cX10_append 1 = .ok (.iconst 0, 1) := by decide +kernel
theorem dX10_append_2 : decode cX10_append 2 = .ok (.putfield 25, 3) := by decide +kernel
theorem dX10_append_5 : decode cX10_append 5 = .ok (.iload_n 1, 1) := by decide +kernel
theorem dX10_append_6 : decode cX10_append 6 = .ok (.iconst 1, 1) := by decide +kernel
theorem dX10_append_7 : decode cX10_append 7 = .ok (.sipush 255, 3) := by decide +kernel
theorem dX10_append_10 : decode cX10_append 10 = .ok (.invokestatic 39, 3) := by decide +kernel
theorem dX10_append_13 : decode cX10_append 13 = .ok (.ifCond .ne 6, 3) := by decide +kernel
theorem dX10_append_16 : decode cX10_append 16 = .ok (.ldc 47, 2) := by decide +kernel
theorem dX10_append_18 : decode cX10_append 18 = .ok (.ireturn, 1) := by decide +kernel
theorem dX10_append_19 : decode cX10_append 19 = .ok (.aload_n 0, 1) := by decide +kernel
theorem dX10_append_20 : decode cX10_append 20 = .ok (.getfield 65, 3) := by decide +kernel
theorem dX10_append_23 : decode cX10_append 23 = .ok (.bipush 100, 2) := by decide +kernel
theorem dX10_append_25 : decode cX10_append 25 = .ok (.if_icmp .ne 6, 3) := by decide +kernel
theorem dX10_append_28 : decode cX10_append 28 = .ok (.ldc 56, 2) := by decide +kernel
theorem dX10_append_30 : decode cX10_append 30 = .ok (.ireturn, 1) := by decide +kernel
theorem dX10_append_31 : decode cX10_append 31 = .ok (.aload_n 0, 1) := by decide +kernel
theorem dX10_append_32 : decode cX10_append 32 = .ok (.getfield 19, 3) := by decide +kernel
theorem dX10_append_35 : decode cX10_append 35 = .ok (.aload_n 0, 1) := by decide +kernel
theorem dX10_append_36 : decode cX10_append 36 = .ok (.getfield 65, 3) := by decide +kernel
theorem dX10_append_39 : decode cX10_append 39 = .ok (.iload_n 1, 1) := by decide +kernel
theorem dX10_append_40 : decode cX10_append 40 = .ok (.iastore, 1) := by decide +kernel
theorem dX10_append_41 : decode cX10_append 41 = .ok (.aload_n 0, 1) := by decide +kernel
theorem dX10_append_42 : decode cX10_append 42 = .ok (.dup, 1) := by decide +kernel
theorem dX10_append_43 : decode cX10_append 43 = .ok (.getfield 65, 3) := by decide +kernel
theorem dX10_append_46 : decode cX10_append 46 = .ok (.iconst 1, 1) := by decide +kernel
theorem dX10_append_47 : decode cX10_append 47 = .ok (.iadd, 1) := by decide +kernel
theorem dX10_append_48 : decode cX10_append 48 = .ok (.putfield 65, 3) := by decide +kernel
theorem dX10_append_51 : decode cX10_append 51 = .ok (.aload_n 0, 1) := by decide +kernel
theorem dX10_append_52 : decode cX10_append 52 = .ok (.getfield 65, 3) := by decide +kernel
theorem dX10_append_55 : decode cX10_append 55 = .ok (.ireturn, 1) := by decide +kernel
theorem dX10_clearText_0 : decode cX10_clearText 0 = .ok (.aload_n 0, 1) := by decide +kernel
theorem dX10_clearText_1 : decode cX10_clearText 1 = .ok (.iconst 0, 1) := by decide +kernel
theorem dX10_clearText_2 : decode cX10_clearText 2 = .ok (.putfield 25, 3) := by decide +kernel
theorem dX10_clearText_5 : decode cX10_clearText 5 = .ok (.aload_n 0, 1) := by decide +kernel
theorem dX10_clearText_6 : decode cX10_clearText 6 = .ok (.getfield 65, 3) := by decide +kernel
theorem dX10_clearText_9 : decode cX10_clearText 9 = .ok (.istore_n 1, 1) := by decide +kernel
theorem dX10_clearText_10 : decode cX10_clearText 10 = .ok (.aload_n 0, 1) := by decide +kernel
theorem dX10_clearText_11 : decode cX10_clearText 11 = .ok (.iconst 0, 1) := by decide +kernel
theorem dX10_clearText_12 : decode cX10_clearText 12 = .ok (.putfield 65, 3) := by decide +kernel
theorem dX10_clearText_15 : decode cX10_clearText 15 = .ok (.iload_n 1, 1) := by decide +kernel
theorem dX10_clearText_16 : decode cX10_clearText 16 = .ok (.ireturn, 1) := by decide +kernel
theorem dX10_here_0 : decode cX10_here 0 = .ok (.aload_n 0, 1) := by decide +kernel
theorem dX10_here_1 : decode cX10_here 1 = .ok (.getfield 68, 3) := by decide +kernel
theorem dX10_here_4 : decode cX10_here 4 = .ok (.aload_n 0, 1) := by decide +kernel
theorem dX10_here_5 : decode cX10_here 5 = .ok (.getfield 65, 3) := by decide +kernel
theorem dX10_here_8 : decode cX10_here 8 = .ok (.if_icmp .ge 15, 3) := by decide +kernel
theorem dX10_here_11 : decode cX10_here 11 = .ok (.aload_n 0, 1) := by decide +kernel
theorem dX10_here_12 : decode cX10_here 12 = .ok (.getfield 19, 3) := by decide +kernel
theorem dX10_here_15 : decode cX10_here 15 = .ok (.aload_n 0, 1) := by decide +kernel
theorem dX10_here_16 : decode cX10_here 16 = .ok (.getfield 68, 3) := by decide +kernel
theorem dX10_here_19 : decode cX10_here 19 = .ok (.iaload, 1) := by decide +kernel
theorem dX10_here_20 : decode cX10_here 20 = .ok (.goto 4, 3) := by decide +kernel
theorem dX10_here_23 : decode cX10_here 23 = .ok (.iconst (-1), 1) := by decide +kernel
theorem dX10_here_24 : decode cX10_here 24 = .ok (.ireturn, 1) := by decide +kernel
theorem dX10_skip_0 : decode cX10_skip 0 = .ok (.aload_n 0, 1) := by decide +kernel
theorem dX10_skip_1 : decode cX10_skip 1 = .ok (.invokevirtual 71, 3) := by decide +kernel
theorem dX10_skip_4 : decode cX10_skip 4 = .ok (.bipush 32, 2) := by decide +kernel
theorem dX10_skip_6 : decode cX10_skip 6 = .ok (.if_icmp .ne 16, 3) := by decide +kernel
theorem dX10_skip_9 : decode cX10_skip 9 = .ok (.aload_n 0, 1) := by decide +kernel
theorem dX10_skip_10 : decode cX10_skip 10 = .ok (.dup, 1) := by decide +kernel
theorem dX10_skip_11 : decode cX10_skip 11 = .ok (.getfield 68, 3) := by decide +kernel
theorem dX10_skip_14 : decode cX10_skip 14 = .ok (.iconst 1, 1) := by decide +kernel
theorem dX10_skip_15 : decode cX10_skip 15 = .ok (.iadd, 1) := by decide +kernel
theorem dX10_skip_16 : decode cX10_skip 16 = .ok (.putfield 68, 3) := by decide +kernel
theorem dX10_skip_19 : decode cX10_skip 19 = .ok (.goto (-19), 3) := by decide +kernel
theorem dX10_skip_22 : decode cX10_skip 22 = .ok (.return_, 1) := by decide +kernel
theorem dX10_takeNumber_0 : decode cX10_takeNumber 0 = .ok (.aload_n 0, 1) := by decide +kernel
theorem dX10_takeNumber_1 : decode cX10_takeNumber 1 = .ok (.invokevirtual 75, 3) := by decide +kernel
theorem dX10_takeNumber_4 : decode cX10_takeNumber 4 = .ok (.aload_n 0, 1) := by decide +kernel
theorem dX10_takeNumber_5 : decode cX10_takeNumber 5 = .ok (.getfield 68, 3) := by decide +kernel
theorem dX10_takeNumber_8 : decode cX10_takeNumber 8 = .ok (.istore_n 3, 1) := by decide +kernel
theorem dX10_takeNumber_9 : decode cX10_takeNumber 9 = .ok (.iconst 0, 1) := by decide +kernel
theorem dX10_takeNumber_10 : decode cX10_takeNumber 10 = .ok (.istore 4, 2) := by decide +kernel
theorem dX10_takeNumber_12 : decode cX10_takeNumber 12 = .ok (.aload_n 0, 1) := by decide +kernel
theorem dX10_takeNumber_13 : decode cX10_takeNumber 13 = .ok (.invokevirtual 71, 3) := by decide +kernel
theorem dX10_takeNumber_16 : decode cX10_takeNumber 16 = .ok (.bipush 48, 2) := by decide +kernel
theorem dX10_takeNumber_18 : decode cX10_takeNumber 18 = .ok (.bipush 57, 2) := by decide +kernel
theorem dX10_takeNumber_20 : decode cX10_takeNumber 20 = .ok (.invokestatic 39, 3) := by decide +kernel
theorem dX10_takeNumber_23 : decode cX10_takeNumber 23 = .ok (.ifCond .eq 44, 3) := by decide +kernel
theorem dX10_takeNumber_26 : decode cX10_takeNumber 26 = .ok (.iload 4, 2) := by decide +kernel
theorem dX10_takeNumber_28 : decode cX10_takeNumber 28 = .ok (.sipush 10000, 3) := by decide +kernel
theorem dX10_takeNumber_31 : decode cX10_takeNumber 31 = .ok (.if_icmp .ge 19, 3) := by decide +kernel
theorem dX10_takeNumber_34 : decode cX10_takeNumber 34 = .ok (.bipush 10, 2) := by decide +kernel
theorem dX10_takeNumber_36 : decode cX10_takeNumber 36 = .ok (.iload 4, 2) := by decide +kernel
theorem dX10_takeNumber_38 : decode cX10_takeNumber 38 = .ok (.imul, 1) := by decide +kernel
theorem dX10_takeNumber_39 : decode cX10_takeNumber 39 = .ok (.aload_n 0, 1) := by decide +kernel
theorem dX10_takeNumber_40 : decode cX10_takeNumber 40 = .ok (.invokevirtual 71, 3) := by decide +kernel
theorem dX10_takeNumber_43 : decode cX10_takeNumber 43 = .ok (.iadd, 1) := by decide +kernel
theorem dX10_takeNumber_44 : decode cX10_takeNumber 44 = .ok (.bipush 48, 2) := by decide +kernel
theorem dX10_takeNumber_46 : decode cX10_takeNumber 46 = .ok (.isub, 1) := by decide +kernel
theorem dX10_takeNumber_47 : decode cX10_takeNumber 47 = .ok (.goto 5, 3) := by decide +kernel
theorem dX10_takeNumber_50 : decode cX10_takeNumber 50 = .ok (.iload 4, 2) := by decide +kernel
theorem dX10_takeNumber_52 : decode cX10_takeNumber 52 = .ok (.istore 4, 2) := by decide +kernel
theorem dX10_takeNumber_54 : decode cX10_takeNumber 54 = .ok (.aload_n 0, 1) := by decide +kernel
theorem dX10_takeNumber_55 : decode cX10_takeNumber 55 = .ok (.dup, 1) := by decide +kernel
theorem dX10_takeNumber_56 : decode cX10_takeNumber 56 = .ok (.getfield 68, 3) := by decide +kernel
theorem dX10_takeNumber_59 : decode cX10_takeNumber 59 = .ok (.iconst 1, 1) := by decide +kernel
theorem dX10_takeNumber_60 : decode cX10_takeNumber 60 = .ok (.iadd, 1) := by decide +kernel
theorem dX10_takeNumber_61 : decode cX10_takeNumber 61 = .ok (.putfield 68, 3) := by decide +kernel
theorem dX10_takeNumber_64 : decode cX10_takeNumber 64 = .ok (.goto (-52), 3) := by decide +kernel
theorem dX10_takeNumber_67 : decode cX10_takeNumber 67 = .ok (.aload_n 0, 1) := by decide +kernel
theorem dX10_takeNumber_68 : decode cX10_takeNumber 68 = .ok (.getfield 68, 3) := by decide +kernel
theorem dX10_takeNumber_71 : decode cX10_takeNumber 71 = .ok (.iload_n 3, 1) := by decide +kernel
theorem dX10_takeNumber_72 : decode cX10_takeNumber 72 = .ok (.if_icmp .le 38, 3) := by decide +kernel
theorem dX10_takeNumber_75 : decode cX10_takeNumber 75 = .ok (.aload_n 0, 1) := by decide +kernel
theorem dX10_takeNumber_76 : decode cX10_takeNumber 76 = .ok (.getfield 19, 3) := by decide +kernel
theorem dX10_takeNumber_79 : decode cX10_takeNumber 79 = .ok (.iload_n 3, 1) := by decide +kernel
theorem dX10_takeNumber_80 : decode cX10_takeNumber 80 = .ok (.iaload, 1) := by decide +kernel
theorem dX10_takeNumber_81 : decode cX10_takeNumber 81 = .ok (.bipush 48, 2) := by decide +kernel
theorem dX10_takeNumber_83 : decode cX10_takeNumber 83 = .ok (.if_icmp .ne 13, 3) := by decide +kernel
theorem dX10_takeNumber_86 : decode cX10_takeNumber 86 = .ok (.aload_n 0, 1) := by decide +kernel
theorem dX10_takeNumber_87 : decode cX10_takeNumber 87 = .ok (.getfield 68, 3) := by decide +kernel
theorem dX10_takeNumber_90 : decode cX10_takeNumber 90 = .ok (.iload_n 3, 1) := by decide +kernel
theorem dX10_takeNumber_91 : decode cX10_takeNumber 91 = .ok (.iconst 1, 1) := by decide +kernel
theorem dX10_takeNumber_92 : decode cX10_takeNumber 92 = .ok (.iadd, 1) := by decide +kernel
theorem dX10_takeNumber_93 : decode cX10_takeNumber 93 = .ok (.if_icmp .ne 17, 3) := by decide +kernel
theorem dX10_takeNumber_96 : decode cX10_takeNumber 96 = .ok (.iload 4, 2) := by decide +kernel
theorem dX10_takeNumber_98 : decode cX10_takeNumber 98 = .ok (.iload_n 1, 1) := by decide +kernel
theorem dX10_takeNumber_99 : decode cX10_takeNumber 99 = .ok (.iload_n 2, 1) := by decide +kernel
theorem dX10_takeNumber_100 : decode cX10_takeNumber 100 = .ok (.invokestatic 39, 3) := by decide +kernel
theorem dX10_takeNumber_103 : decode cX10_takeNumber 103 = .ok (.ifCond .eq 7, 3) := by decide +kernel
theorem dX10_takeNumber_106 : decode cX10_takeNumber 106 = .ok (.iconst 1, 1) := by decide +kernel
theorem dX10_takeNumber_107 : decode cX10_takeNumber 107 = .ok (.goto 4, 3) := by decide +kernel
theorem dX10_takeNumber_110 : decode cX10_takeNumber 110 = .ok (.iconst 0, 1) := by decide +kernel
theorem dX10_takeNumber_111 : decode cX10_takeNumber 111 = .ok (.istore 5, 2) := by decide +kernel
theorem dX10_takeNumber_113 : decode cX10_takeNumber 113 = .ok (.aload_n 0, 1) := by decide +kernel
theorem dX10_takeNumber_114 : decode cX10_takeNumber 114 = .ok (.iload 5, 2) := by decide +kernel
theorem dX10_takeNumber_116 : decode cX10_takeNumber 116 = .ok (.ifCond .ne 12, 3) := by decide +kernel
theorem dX10_takeNumber_119 : decode cX10_takeNumber 119 = .ok (.aload_n 0, 1) := by decide +kernel
theorem dX10_takeNumber_120 : decode cX10_takeNumber 120 = .ok (.getfield 78, 3) := by decide +kernel
theorem dX10_takeNumber_123 : decode cX10_takeNumber 123 = .ok (.ldc 81, 2) := by decide +kernel
theorem dX10_takeNumber_125 : decode cX10_takeNumber 125 = .ok (.if_icmp .eq 10, 3) := by decide +kernel
theorem dX10_takeNumber_128 : decode cX10_takeNumber 128 = .ok (.aload_n 0, 1) := by decide +kernel
theorem dX10_takeNumber_129 : decode cX10_takeNumber 129 = .ok (.getfield 78, 3) := by decide +kernel
theorem dX10_takeNumber_132 : decode cX10_takeNumber 132 = .ok (.goto 4, 3) := by decide +kernel
theorem dX10_takeNumber_135 : decode cX10_takeNumber 135 = .ok (.iload_n 3, 1) := by decide +kernel
theorem dX10_takeNumber_136 : decode cX10_takeNumber 136 = .ok (.putfield 78, 3) := by decide +kernel
theorem dX10_takeNumber_139 : decode cX10_takeNumber 139 = .ok (.iload 4, 2) := by decide +kernel
theorem dX10_takeNumber_141 : decode cX10_takeNumber 141 = .ok (.ireturn, 1) := by decide +kernel
theorem dX10_readPoint_0 : decode cX10_readPoint 0 = .ok (.aload_n 0, 1) := by decide +kernel
theorem dX10_readPoint_1 : decode cX10_readPoint 1 = .ok (.aload_n 0, 1) := by decide +kernel
theorem dX10_readPoint_2 : decode cX10_readPoint 2 = .ok (.getfield 7, 3) := by decide +kernel
theorem dX10_readPoint_5 : decode cX10_readPoint 5 = .ok (.bipush 32, 2) := by decide +kernel
theorem dX10_readPoint_7 : decode cX10_readPoint 7 = .ok (.iaload, 1) := by decide +kernel
theorem dX10_readPoint_8 : decode cX10_readPoint 8 = .ok (.bipush 8, 2) := by decide +kernel
theorem dX10_readPoint_10 : decode cX10_readPoint 10 = .ok (.if_icmp .ne 10, 3) := by decide +kernel
theorem dX10_readPoint_13 : decode cX10_readPoint 13 = .ok (.aload_n 0, 1) := by decide +kernel
theorem dX10_readPoint_14 : decode cX10_readPoint 14 = .ok (.getfield 68, 3) := by decide +kernel
theorem dX10_readPoint_17 : decode cX10_readPoint 17 = .ok (.goto 7, 3) := by decide +kernel
theorem dX10_readPoint_20 : decode cX10_readPoint 20 = .ok (.aload_n 0, 1) := by decide +kernel
theorem dX10_readPoint_21 : decode cX10_readPoint 21 = .ok (.getfield 78, 3) := by decide +kernel
theorem dX10_readPoint_24 : decode cX10_readPoint 24 = .ok (.putfield 78, 3) := by decide +kernel
theorem dX10_readPoint_27 : decode cX10_readPoint 27 = .ok (.aload_n 0, 1) := by decide +kernel
theorem dX10_readPoint_28 : decode cX10_readPoint 28 = .ok (.iload_n 1, 1) := by decide +kernel
theorem dX10_readPoint_29 : decode cX10_readPoint 29 = .ok (.iconst 1, 1) := by decide +kernel
theorem dX10_readPoint_30 : decode cX10_readPoint 30 = .ok (.iadd, 1) := by decide +kernel
theorem dX10_readPoint_31 : decode cX10_readPoint 31 = .ok (.sipush 400, 3) := by decide +kernel
theorem dX10_readPoint_34 : decode cX10_readPoint 34 = .ok (.invokevirtual 82, 3) := by decide +kernel
theorem dX10_readPoint_37 : decode cX10_readPoint 37 = .ok (.istore_n 2, 1) := by decide +kernel
theorem dX10_readPoint_38 : decode cX10_readPoint 38 = .ok (.aload_n 0, 1) := by decide +kernel
theorem dX10_readPoint_39 : decode cX10_readPoint 39 = .ok (.iconst 0, 1) := by decide +kernel
theorem dX10_readPoint_40 : decode cX10_readPoint 40 = .ok (.sipush 3000, 3) := by decide +kernel
theorem dX10_readPoint_43 : decode cX10_readPoint 43 = .ok (.invokevirtual 82, 3) := by decide +kernel
theorem dX10_readPoint_46 : decode cX10_readPoint 46 = .ok (.istore_n 3, 1) := by decide +kernel
theorem dX10_readPoint_47 : decode cX10_readPoint 47 = .ok (.aload_n 0, 1) := by decide +kernel
theorem dX10_readPoint_48 : decode cX10_readPoint 48 = .ok (.invokevirtual 75, 3) := by decide +kernel
theorem dX10_readPoint_51 : decode cX10_readPoint 51 = .ok (.aload_n 0, 1) := by decide +kernel
theorem dX10_readPoint_52 : decode cX10_readPoint 52 = .ok (.aload_n 0, 1) := by decide +kernel
theorem dX10_readPoint_53 : decode cX10_readPoint 53 = .ok (.getfield 78, 3) := by decide +kernel
theorem dX10_readPoint_56 : decode cX10_readPoint 56 = .ok (.ldc 81, 2) := by decide +kernel
theorem dX10_readPoint_58 : decode cX10_readPoint 58 = .ok (.if_icmp .ne 19, 3) := by decide +kernel
theorem dX10_readPoint_61 : decode cX10_readPoint 61 = .ok (.aload_n 0, 1) := by decide +kernel
theorem dX10_readPoint_62 : decode cX10_readPoint 62 = .ok (.invokevirtual 71, 3) := by decide +kernel
theorem dX10_readPoint_65 : decode cX10_readPoint 65 = .ok (.bipush 59, 2) := by decide +kernel
theorem dX10_readPoint_67 : decode cX10_readPoint 67 = .ok (.if_icmp .eq 10, 3) := by decide +kernel
theorem dX10_readPoint_70 : decode cX10_readPoint 70 = .ok (.aload_n 0, 1) := by decide +kernel
theorem dX10_readPoint_71 : decode cX10_readPoint 71 = .ok (.getfield 68, 3) := by decide +kernel
theorem dX10_readPoint_74 : decode cX10_readPoint 74 = .ok (.goto 7, 3) := by decide +kernel
theorem dX10_readPoint_77 : decode cX10_readPoint 77 = .ok (.aload_n 0, 1) := by decide +kernel
theorem dX10_readPoint_78 : decode cX10_readPoint 78 = .ok (.getfield 78, 3) := by decide +kernel
theorem dX10_readPoint_81 : decode cX10_readPoint 81 = .ok (.putfield 78, 3) := by decide +kernel
theorem dX10_readPoint_84 : decode cX10_readPoint 84 = .ok (.aload_n 0, 1) := by decide +kernel
theorem dX10_readPoint_85 : decode cX10_readPoint 85 = .ok (.dup, 1) := by decide +kernel
theorem dX10_readPoint_86 : decode cX10_readPoint 86 = .ok (.getfield 68, 3) := by decide +kernel
theorem dX10_readPoint_89 : decode cX10_readPoint 89 = .ok (.iconst 1, 1) := by decide +kernel
theorem dX10_readPoint_90 : decode cX10_readPoint 90 = .ok (.iadd, 1) := by decide +kernel
theorem dX10_readPoint_91 : decode cX10_readPoint 91 = .ok (.putfield 68, 3) := by decide +kernel
theorem dX10_readPoint_94 : decode cX10_readPoint 94 = .ok (.aload_n 0, 1) := by decide +kernel
theorem dX10_readPoint_95 : decode cX10_readPoint 95 = .ok (.getfield 78, 3) := by decide +kernel
theorem dX10_readPoint_98 : decode cX10_readPoint 98 = .ok (.ldc 81, 2) := by decide +kernel
theorem dX10_readPoint_100 : decode cX10_readPoint 100 = .ok (.if_icmp .ne 13, 3) := by decide +kernel
theorem dX10_readPoint_103 : decode cX10_readPoint 103 = .ok (.aload_n 0, 1) := by decide +kernel
theorem dX10_readPoint_104 : decode cX10_readPoint 104 = .ok (.bipush 33, 2) := by decide +kernel
theorem dX10_readPoint_106 : decode cX10_readPoint 106 = .ok (.bipush 32, 2) := by decide +kernel
theorem dX10_readPoint_108 : decode cX10_readPoint 108 = .ok (.iload_n 2, 1) := by decide +kernel
theorem dX10_readPoint_109 : decode cX10_readPoint 109 = .ok (.iload_n 3, 1) := by decide +kernel
theorem dX10_readPoint_110 : decode cX10_readPoint 110 = .ok (.invokevirtual 57, 3) := by decide +kernel
theorem dX10_readPoint_113 : decode cX10_readPoint 113 = .ok (.return_, 1) := by decide +kernel
theorem dX10_load_0 : decode cX10_load 0 = .ok (.aload_n 0, 1) := by decide +kernel
theorem dX10_load_1 : decode cX10_load 1 = .ok (.iconst 0, 1) := by decide +kernel
theorem dX10_load_2 : decode cX10_load 2 = .ok (.putfield 25, 3) := by decide +kernel
theorem dX10_load_5 : decode cX10_load 5 = .ok (.aload_n 0, 1) := by decide +kernel
theorem dX10_load_6 : decode cX10_load 6 = .ok (.invokevirtual 85, 3) := by decide +kernel
theorem dX10_load_9 : decode cX10_load 9 = .ok (.aload_n 0, 1) := by decide +kernel
theorem dX10_load_10 : decode cX10_load 10 = .ok (.getfield 7, 3) := by decide +kernel
theorem dX10_load_13 : decode cX10_load 13 = .ok (.bipush 32, 2) := by decide +kernel
theorem dX10_load_15 : decode cX10_load 15 = .ok (.iconst 0, 1) := by decide +kernel
theorem dX10_load_16 : decode cX10_load 16 = .ok (.iastore, 1) := by decide +kernel
theorem dX10_load_17 : decode cX10_load 17 = .ok (.aload_n 0, 1) := by decide +kernel
theorem dX10_load_18 : decode cX10_load 18 = .ok (.iconst 0, 1) := by decide +kernel
theorem dX10_load_19 : decode cX10_load 19 = .ok (.putfield 68, 3) := by decide +kernel
theorem dX10_load_22 : decode cX10_load 22 = .ok (.aload_n 0, 1) := by decide +kernel
theorem dX10_load_23 : decode cX10_load 23 = .ok (.ldc 81, 2) := by decide +kernel
theorem dX10_load_25 : decode cX10_load 25 = .ok (.putfield 78, 3) := by decide +kernel
theorem dX10_load_28 : decode cX10_load 28 = .ok (.aload_n 0, 1) := by decide +kernel
theorem dX10_load_29 : decode cX10_load 29 = .ok (.invokevirtual 75, 3) := by decide +kernel
theorem dX10_load_32 : decode cX10_load 32 = .ok (.aload_n 0, 1) := by decide +kernel
theorem dX10_load_33 : decode cX10_load 33 = .ok (.getfield 78, 3) := by decide +kernel
theorem dX10_load_36 : decode cX10_load 36 = .ok (.ldc 81, 2) := by decide +kernel
theorem dX10_load_38 : decode cX10_load 38 = .ok (.if_icmp .ne 58, 3) := by decide +kernel
theorem dX10_load_41 : decode cX10_load 41 = .ok (.aload_n 0, 1) := by decide +kernel
theorem dX10_load_42 : decode cX10_load 42 = .ok (.getfield 68, 3) := by decide +kernel
theorem dX10_load_45 : decode cX10_load 45 = .ok (.aload_n 0, 1) := by decide +kernel
theorem dX10_load_46 : decode cX10_load 46 = .ok (.getfield 65, 3) := by decide +kernel
theorem dX10_load_49 : decode cX10_load 49 = .ok (.if_icmp .ge 47, 3) := by decide +kernel
theorem dX10_load_52 : decode cX10_load 52 = .ok (.aload_n 0, 1) := by decide +kernel
theorem dX10_load_53 : decode cX10_load 53 = .ok (.aload_n 0, 1) := by decide +kernel
theorem dX10_load_54 : decode cX10_load 54 = .ok (.getfield 7, 3) := by decide +kernel
theorem dX10_load_57 : decode cX10_load 57 = .ok (.bipush 32, 2) := by decide +kernel
theorem dX10_load_59 : decode cX10_load 59 = .ok (.iaload, 1) := by decide +kernel
theorem dX10_load_60 : decode cX10_load 60 = .ok (.ifCond .ne 7, 3) := by decide +kernel
theorem dX10_load_63 : decode cX10_load 63 = .ok (.iconst (-1), 1) := by decide +kernel
theorem dX10_load_64 : decode cX10_load 64 = .ok (.goto 22, 3) := by decide +kernel
theorem dX10_load_67 : decode cX10_load 67 = .ok (.aload_n 0, 1) := by decide +kernel
theorem dX10_load_68 : decode cX10_load 68 = .ok (.getfield 7, 3) := by decide +kernel
theorem dX10_load_71 : decode cX10_load 71 = .ok (.bipush 33, 2) := by decide +kernel
theorem dX10_load_73 : decode cX10_load 73 = .ok (.iconst 2, 1) := by decide +kernel
theorem dX10_load_74 : decode cX10_load 74 = .ok (.aload_n 0, 1) := by decide +kernel
theorem dX10_load_75 : decode cX10_load 75 = .ok (.getfield 7, 3) := by decide +kernel
theorem dX10_load_78 : decode cX10_load 78 = .ok (.bipush 32, 2) := by decide +kernel
theorem dX10_load_80 : decode cX10_load 80 = .ok (.iaload, 1) := by decide +kernel
theorem dX10_load_81 : decode cX10_load 81 = .ok (.imul, 1) := by decide +kernel
theorem dX10_load_82 : decode cX10_load 82 = .ok (.iadd, 1) := by decide +kernel
theorem dX10_load_83 : decode cX10_load 83 = .ok (.iconst 2, 1) := by decide +kernel
theorem dX10_load_84 : decode cX10_load 84 = .ok (.isub, 1) := by decide +kernel
theorem dX10_load_85 : decode cX10_load 85 = .ok (.iaload, 1) := by decide +kernel
theorem dX10_load_86 : decode cX10_load 86 = .ok (.invokevirtual 88, 3) := by decide +kernel
theorem dX10_load_89 : decode cX10_load 89 = .ok (.aload_n 0, 1) := by decide +kernel
theorem dX10_load_90 : decode cX10_load 90 = .ok (.invokevirtual 75, 3) := by decide +kernel
theorem dX10_load_93 : decode cX10_load 93 = .ok (.goto (-61), 3) := by decide +kernel
theorem dX10_load_96 : decode cX10_load 96 = .ok (.aload_n 0, 1) := by decide +kernel
theorem dX10_load_97 : decode cX10_load 97 = .ok (.getfield 7, 3) := by decide +kernel
theorem dX10_load_100 : decode cX10_load 100 = .ok (.bipush 32, 2) := by decide +kernel
theorem dX10_load_102 : decode cX10_load 102 = .ok (.iaload, 1) := by decide +kernel
theorem dX10_load_103 : decode cX10_load 103 = .ok (.istore_n 1, 1) := by decide +kernel
theorem dX10_load_104 : decode cX10_load 104 = .ok (.aload_n 0, 1) := by decide +kernel
theorem dX10_load_105 : decode cX10_load 105 = .ok (.getfield 78, 3) := by decide +kernel
theorem dX10_load_108 : decode cX10_load 108 = .ok (.ldc 81, 2) := by decide +kernel
theorem dX10_load_110 : decode cX10_load 110 = .ok (.if_icmp .eq 15, 3) := by decide +kernel
theorem dX10_load_113 : decode cX10_load 113 = .ok (.aload_n 0, 1) := by decide +kernel
theorem dX10_load_114 : decode cX10_load 114 = .ok (.invokevirtual 92, 3) := by decide +kernel
theorem dX10_load_117 : decode cX10_load 117 = .ok (.ldc 95, 2) := by decide +kernel
theorem dX10_load_119 : decode cX10_load 119 = .ok (.aload_n 0, 1) := by decide +kernel
theorem dX10_load_120 : decode cX10_load 120 = .ok (.getfield 78, 3) := by decide +kernel
theorem dX10_load_123 : decode cX10_load 123 = .ok (.isub, 1) := by decide +kernel
theorem dX10_load_124 : decode cX10_load 124 = .ok (.ireturn, 1) := by decide +kernel
theorem dX10_load_125 : decode cX10_load 125 = .ok (.iconst 0, 1) := by decide +kernel
theorem dX10_load_126 : decode cX10_load 126 = .ok (.istore_n 2, 1) := by decide +kernel
theorem dX10_load_127 : decode cX10_load 127 = .ok (.iload_n 2, 1) := by decide +kernel
theorem dX10_load_128 : decode cX10_load 128 = .ok (.bipush 16, 2) := by decide +kernel
theorem dX10_load_130 : decode cX10_load 130 = .ok (.if_icmp .ge 24, 3) := by decide +kernel
theorem dX10_load_133 : decode cX10_load 133 = .ok (.aload_n 0, 1) := by decide +kernel
theorem dX10_load_134 : decode cX10_load 134 = .ok (.getfield 22, 3) := by decide +kernel
theorem dX10_load_137 : decode cX10_load 137 = .ok (.iload_n 2, 1) := by decide +kernel
theorem dX10_load_138 : decode cX10_load 138 = .ok (.aload_n 0, 1) := by decide +kernel
theorem dX10_load_139 : decode cX10_load 139 = .ok (.getfield 7, 3) := by decide +kernel
theorem dX10_load_142 : decode cX10_load 142 = .ok (.bipush 33, 2) := by decide +kernel
theorem dX10_load_144 : decode cX10_load 144 = .ok (.iload_n 2, 1) := by decide +kernel
theorem dX10_load_145 : decode cX10_load 145 = .ok (.iadd, 1) := by decide +kernel
theorem dX10_load_146 : decode cX10_load 146 = .ok (.iaload, 1) := by decide +kernel
theorem dX10_load_147 : decode cX10_load 147 = .ok (.iastore, 1) := by decide +kernel
theorem dX10_load_148 : decode cX10_load 148 = .ok (.iinc 2 1, 3) := by decide +kernel
theorem dX10_load_151 : decode cX10_load 151 = .ok (.goto (-24), 3) := by decide +kernel
theorem dX10_load_154 : decode cX10_load 154 = .ok (.aload_n 0, 1) := by decide +kernel
theorem dX10_load_155 : decode cX10_load 155 = .ok (.invokevirtual 92, 3) := by decide +kernel
theorem dX10_load_158 : decode cX10_load 158 = .ok (.aload_n 0, 1) := by decide +kernel
theorem dX10_load_159 : decode cX10_load 159 = .ok (.invokevirtual 36, 3) := by decide +kernel
theorem dX10_load_162 : decode cX10_load 162 = .ok (.aload_n 0, 1) := by decide +kernel
theorem dX10_load_163 : decode cX10_load 163 = .ok (.getfield 7, 3) := by decide +kernel
theorem dX10_load_166 : decode cX10_load 166 = .ok (.bipush 32, 2) := by decide +kernel
theorem dX10_load_168 : decode cX10_load 168 = .ok (.iload_n 1, 1) := by decide +kernel
theorem dX10_load_169 : decode cX10_load 169 = .ok (.iastore, 1) := by decide +kernel
theorem dX10_load_170 : decode cX10_load 170 = .ok (.iconst 0, 1) := by decide +kernel
theorem dX10_load_171 : decode cX10_load 171 = .ok (.istore_n 2, 1) := by decide +kernel
theorem dX10_load_172 : decode cX10_load 172 = .ok (.iload_n 2, 1) := by decide +kernel
theorem dX10_load_173 : decode cX10_load 173 = .ok (.bipush 16, 2) := by decide +kernel
theorem dX10_load_175 : decode cX10_load 175 = .ok (.if_icmp .ge 24, 3) := by decide +kernel
theorem dX10_load_178 : decode cX10_load 178 = .ok (.aload_n 0, 1) := by decide +kernel
theorem dX10_load_179 : decode cX10_load 179 = .ok (.getfield 7, 3) := by decide +kernel
theorem dX10_load_182 : decode cX10_load 182 = .ok (.bipush 33, 2) := by decide +kernel
theorem dX10_load_184 : decode cX10_load 184 = .ok (.iload_n 2, 1) := by decide +kernel
theorem dX10_load_185 : decode cX10_load 185 = .ok (.iadd, 1) := by decide +kernel
theorem dX10_load_186 : decode cX10_load 186 = .ok (.aload_n 0, 1) := by decide +kernel
theorem dX10_load_187 : decode cX10_load 187 = .ok (.getfield 22, 3) := by decide +kernel
theorem dX10_load_190 : decode cX10_load 190 = .ok (.iload_n 2, 1) := by decide +kernel
theorem dX10_load_191 : decode cX10_load 191 = .ok (.iaload, 1) := by decide +kernel
theorem dX10_load_192 : decode cX10_load 192 = .ok (.iastore, 1) := by decide +kernel
theorem dX10_load_193 : decode cX10_load 193 = .ok (.iinc 2 1, 3) := by decide +kernel
theorem dX10_load_196 : decode cX10_load 196 = .ok (.goto (-24), 3) := by decide +kernel
theorem dX10_load_199 : decode cX10_load 199 = .ok (.aload_n 0, 1) := by decide +kernel
theorem dX10_load_200 : decode cX10_load 200 = .ok (.iconst 0, 1) := by decide +kernel
theorem dX10_load_201 : decode cX10_load 201 = .ok (.putfield 65, 3) := by decide +kernel
theorem dX10_load_204 : decode cX10_load 204 = .ok (.iload_n 1, 1) := by decide +kernel
theorem dX10_load_205 : decode cX10_load 205 = .ok (.ireturn, 1) := by decide +kernel
theorem dX10_charge_0 : decode cX10_charge 0 = .ok (.aload_n 0, 1) := by decide +kernel
theorem dX10_charge_1 : decode cX10_charge 1 = .ok (.iconst 0, 1) := by decide +kernel
theorem dX10_charge_2 : decode cX10_charge 2 = .ok (.putfield 25, 3) := by decide +kernel
theorem dX10_charge_5 : decode cX10_charge 5 = .ok (.iload_n 1, 1) := by decide +kernel
theorem dX10_charge_6 : decode cX10_charge 6 = .ok (.bipush 100, 2) := by decide +kernel
theorem dX10_charge_8 : decode cX10_charge 8 = .ok (.sipush 1000, 3) := by decide +kernel
theorem dX10_charge_11 : decode cX10_charge 11 = .ok (.invokestatic 39, 3) := by decide +kernel
theorem dX10_charge_14 : decode cX10_charge 14 = .ok (.ifCond .ne 6, 3) := by decide +kernel
theorem dX10_charge_17 : decode cX10_charge 17 = .ok (.ldc 47, 2) := by decide +kernel
theorem dX10_charge_19 : decode cX10_charge 19 = .ok (.ireturn, 1) := by decide +kernel
theorem dX10_charge_20 : decode cX10_charge 20 = .ok (.aload_n 0, 1) := by decide +kernel
theorem dX10_charge_21 : decode cX10_charge 21 = .ok (.getfield 7, 3) := by decide +kernel
theorem dX10_charge_24 : decode cX10_charge 24 = .ok (.iconst 1, 1) := by decide +kernel
theorem dX10_charge_25 : decode cX10_charge 25 = .ok (.iaload, 1) := by decide +kernel
theorem dX10_charge_26 : decode cX10_charge 26 = .ok (.ifCond .eq 6, 3) := by decide +kernel
theorem dX10_charge_29 : decode cX10_charge 29 = .ok (.ldc 61, 2) := by decide +kernel
theorem dX10_charge_31 : decode cX10_charge 31 = .ok (.ireturn, 1) := by decide +kernel
theorem dX10_charge_32 : decode cX10_charge 32 = .ok (.aload_n 0, 1) := by decide +kernel
theorem dX10_charge_33 : decode cX10_charge 33 = .ok (.invokevirtual 36, 3) := by decide +kernel
theorem dX10_charge_36 : decode cX10_charge 36 = .ok (.bipush 16, 2) := by decide +kernel
theorem dX10_charge_38 : decode cX10_charge 38 = .ok (.istore_n 2, 1) := by decide +kernel
theorem dX10_charge_39 : decode cX10_charge 39 = .ok (.iload_n 2, 1) := by decide +kernel
theorem dX10_charge_40 : decode cX10_charge 40 = .ok (.bipush 32, 2) := by decide +kernel
theorem dX10_charge_42 : decode cX10_charge 42 = .ok (.if_icmp .ge 16, 3) := by decide +kernel
theorem dX10_charge_45 : decode cX10_charge 45 = .ok (.aload_n 0, 1) := by decide +kernel
theorem dX10_charge_46 : decode cX10_charge 46 = .ok (.getfield 7, 3) := by decide +kernel
theorem dX10_charge_49 : decode cX10_charge 49 = .ok (.iload_n 2, 1) := by decide +kernel
theorem dX10_charge_50 : decode cX10_charge 50 = .ok (.iconst 0, 1) := by decide +kernel
theorem dX10_charge_51 : decode cX10_charge 51 = .ok (.iastore, 1) := by decide +kernel
theorem dX10_charge_52 : decode cX10_charge 52 = .ok (.iinc 2 1, 3) := by decide +kernel
theorem dX10_charge_55 : decode cX10_charge 55 = .ok (.goto (-16), 3) := by decide +kernel
theorem dX10_charge_58 : decode cX10_charge 58 = .ok (.aload_n 0, 1) := by decide +kernel
theorem dX10_charge_59 : decode cX10_charge 59 = .ok (.getfield 7, 3) := by decide +kernel
theorem dX10_charge_62 : decode cX10_charge 62 = .ok (.iconst 1, 1) := by decide +kernel
theorem dX10_charge_63 : decode cX10_charge 63 = .ok (.iconst 1, 1) := by decide +kernel
theorem dX10_charge_64 : decode cX10_charge 64 = .ok (.iastore, 1) := by decide +kernel
theorem dX10_charge_65 : decode cX10_charge 65 = .ok (.aload_n 0, 1) := by decide +kernel
theorem dX10_charge_66 : decode cX10_charge 66 = .ok (.getfield 7, 3) := by decide +kernel
theorem dX10_charge_69 : decode cX10_charge 69 = .ok (.bipush 16, 2) := by decide +kernel
theorem dX10_charge_71 : decode cX10_charge 71 = .ok (.aload_n 0, 1) := by decide +kernel
theorem dX10_charge_72 : decode cX10_charge 72 = .ok (.getfield 7, 3) := by decide +kernel
theorem dX10_charge_75 : decode cX10_charge 75 = .ok (.iconst 3, 1) := by decide +kernel
theorem dX10_charge_76 : decode cX10_charge 76 = .ok (.iaload, 1) := by decide +kernel
theorem dX10_charge_77 : decode cX10_charge 77 = .ok (.iastore, 1) := by decide +kernel
theorem dX10_charge_78 : decode cX10_charge 78 = .ok (.aload_n 0, 1) := by decide +kernel
theorem dX10_charge_79 : decode cX10_charge 79 = .ok (.getfield 7, 3) := by decide +kernel
theorem dX10_charge_82 : decode cX10_charge 82 = .ok (.bipush 25, 2) := by decide +kernel
theorem dX10_charge_84 : decode cX10_charge 84 = .ok (.aload_n 0, 1) := by decide +kernel
theorem dX10_charge_85 : decode cX10_charge 85 = .ok (.getfield 7, 3) := by decide +kernel
theorem dX10_charge_88 : decode cX10_charge 88 = .ok (.iconst 3, 1) := by decide +kernel
theorem dX10_charge_89 : decode cX10_charge 89 = .ok (.iaload, 1) := by decide +kernel
theorem dX10_charge_90 : decode cX10_charge 90 = .ok (.iastore, 1) := by decide +kernel
theorem dX10_charge_91 : decode cX10_charge 91 = .ok (.aload_n 0, 1) := by decide +kernel
theorem dX10_charge_92 : decode cX10_charge 92 = .ok (.getfield 7, 3) := by decide +kernel
theorem dX10_charge_95 : decode cX10_charge 95 = .ok (.bipush 17, 2) := by decide +kernel
theorem dX10_charge_97 : decode cX10_charge 97 = .ok (.iload_n 1, 1) := by decide +kernel
theorem dX10_charge_98 : decode cX10_charge 98 = .ok (.iastore, 1) := by decide +kernel
theorem dX10_charge_99 : decode cX10_charge 99 = .ok (.aload_n 0, 1) := by decide +kernel
theorem dX10_charge_100 : decode cX10_charge 100 = .ok (.getfield 7, 3) := by decide +kernel
theorem dX10_charge_103 : decode cX10_charge 103 = .ok (.bipush 23, 2) := by decide +kernel
theorem dX10_charge_105 : decode cX10_charge 105 = .ok (.ldc 81, 2) := by decide +kernel
theorem dX10_charge_107 : decode cX10_charge 107 = .ok (.iastore, 1) := by decide +kernel
theorem dX10_charge_108 : decode cX10_charge 108 = .ok (.aload_n 0, 1) := by decide +kernel
theorem dX10_charge_109 : decode cX10_charge 109 = .ok (.getfield 7, 3) := by decide +kernel
theorem dX10_charge_112 : decode cX10_charge 112 = .ok (.bipush 24, 2) := by decide +kernel
theorem dX10_charge_114 : decode cX10_charge 114 = .ok (.ldc 81, 2) := by decide +kernel
theorem dX10_charge_116 : decode cX10_charge 116 = .ok (.iastore, 1) := by decide +kernel
theorem dX10_charge_117 : decode cX10_charge 117 = .ok (.aload_n 0, 1) := by decide +kernel
theorem dX10_charge_118 : decode cX10_charge 118 = .ok (.getfield 7, 3) := by decide +kernel
theorem dX10_charge_121 : decode cX10_charge 121 = .ok (.bipush 13, 2) := by decide +kernel
theorem dX10_charge_123 : decode cX10_charge 123 = .ok (.iconst 0, 1) := by decide +kernel
theorem dX10_charge_124 : decode cX10_charge 124 = .ok (.iastore, 1) := by decide +kernel
theorem dX10_charge_125 : decode cX10_charge 125 = .ok (.aload_n 0, 1) := by decide +kernel
theorem dX10_charge_126 : decode cX10_charge 126 = .ok (.getfield 7, 3) := by decide +kernel
theorem dX10_charge_129 : decode cX10_charge 129 = .ok (.iconst 2, 1) := by decide +kernel
theorem dX10_charge_130 : decode cX10_charge 130 = .ok (.iaload, 1) := by decide +kernel
theorem dX10_charge_131 : decode cX10_charge 131 = .ok (.ireturn, 1) := by decide +kernel
theorem dX10_drop_0 : decode cX10_drop 0 = .ok (.aload_n 0, 1) := by decide +kernel
theorem dX10_drop_1 : decode cX10_drop 1 = .ok (.iconst 0, 1) := by decide +kernel
theorem dX10_drop_2 : decode cX10_drop 2 = .ok (.putfield 25, 3) := by decide +kernel
theorem dX10_drop_5 : decode cX10_drop 5 = .ok (.aload_n 0, 1) := by decide +kernel
theorem dX10_drop_6 : decode cX10_drop 6 = .ok (.invokevirtual 96, 3) := by decide +kernel
theorem dX10_drop_9 : decode cX10_drop 9 = .ok (.ifCond .ne 6, 3) := by decide +kernel
theorem dX10_drop_12 : decode cX10_drop 12 = .ok (.ldc 61, 2) := by decide +kernel
theorem dX10_drop_14 : decode cX10_drop 14 = .ok (.ireturn, 1) := by decide +kernel
theorem dX10_drop_15 : decode cX10_drop 15 = .ok (.aload_n 0, 1) := by decide +kernel
theorem dX10_drop_16 : decode cX10_drop 16 = .ok (.invokevirtual 36, 3) := by decide +kernel
theorem dX10_drop_19 : decode cX10_drop 19 = .ok (.aload_n 0, 1) := by decide +kernel
theorem dX10_drop_20 : decode cX10_drop 20 = .ok (.getfield 7, 3) := by decide +kernel
theorem dX10_drop_23 : decode cX10_drop 23 = .ok (.iconst 1, 1) := by decide +kernel
theorem dX10_drop_24 : decode cX10_drop 24 = .ok (.iconst 2, 1) := by decide +kernel
theorem dX10_drop_25 : decode cX10_drop 25 = .ok (.iastore, 1) := by decide +kernel
theorem dX10_drop_26 : decode cX10_drop 26 = .ok (.aload_n 0, 1) := by decide +kernel
theorem dX10_drop_27 : decode cX10_drop 27 = .ok (.getfield 7, 3) := by decide +kernel
theorem dX10_drop_30 : decode cX10_drop 30 = .ok (.bipush 62, 2) := by decide +kernel
theorem dX10_drop_32 : decode cX10_drop 32 = .ok (.dup2, 1) := by decide +kernel
theorem dX10_drop_33 : decode cX10_drop 33 = .ok (.iaload, 1) := by decide +kernel
theorem dX10_drop_34 : decode cX10_drop 34 = .ok (.iconst 1, 1) := by decide +kernel
theorem dX10_drop_35 : decode cX10_drop 35 = .ok (.iadd, 1) := by decide +kernel
theorem dX10_drop_36 : decode cX10_drop 36 = .ok (.iastore, 1) := by decide +kernel
theorem dX10_drop_37 : decode cX10_drop 37 = .ok (.bipush 111, 2) := by decide +kernel
theorem dX10_drop_39 : decode cX10_drop 39 = .ok (.istore_n 1, 1) := by decide +kernel
theorem dX10_drop_40 : decode cX10_drop 40 = .ok (.iload_n 1, 1) := by decide +kernel
theorem dX10_drop_41 : decode cX10_drop 41 = .ok (.bipush 70, 2) := by decide +kernel
theorem dX10_drop_43 : decode cX10_drop 43 = .ok (.if_icmp .lt 24, 3) := by decide +kernel
theorem dX10_drop_46 : decode cX10_drop 46 = .ok (.aload_n 0, 1) := by decide +kernel
theorem dX10_drop_47 : decode cX10_drop 47 = .ok (.getfield 7, 3) := by decide +kernel
theorem dX10_drop_50 : decode cX10_drop 50 = .ok (.iload_n 1, 1) := by decide +kernel
theorem dX10_drop_51 : decode cX10_drop 51 = .ok (.aload_n 0, 1) := by decide +kernel
theorem dX10_drop_52 : decode cX10_drop 52 = .ok (.getfield 7, 3) := by decide +kernel
theorem dX10_drop_55 : decode cX10_drop 55 = .ok (.iload_n 1, 1) := by decide +kernel
theorem dX10_drop_56 : decode cX10_drop 56 = .ok (.bipush 6, 2) := by decide +kernel
theorem dX10_drop_58 : decode cX10_drop 58 = .ok (.isub, 1) := by decide +kernel
theorem dX10_drop_59 : decode cX10_drop 59 = .ok (.iaload, 1) := by decide +kernel
theorem dX10_drop_60 : decode cX10_drop 60 = .ok (.iastore, 1) := by decide +kernel
theorem dX10_drop_61 : decode cX10_drop 61 = .ok (.iinc 1 (-1), 3) := by decide +kernel
theorem dX10_drop_64 : decode cX10_drop 64 = .ok (.goto (-24), 3) := by decide +kernel
theorem dX10_drop_67 : decode cX10_drop 67 = .ok (.aload_n 0, 1) := by decide +kernel
theorem dX10_drop_68 : decode cX10_drop 68 = .ok (.getfield 7, 3) := by decide +kernel
theorem dX10_drop_71 : decode cX10_drop 71 = .ok (.bipush 64, 2) := by decide +kernel
theorem dX10_drop_73 : decode cX10_drop 73 = .ok (.aload_n 0, 1) := by decide +kernel
theorem dX10_drop_74 : decode cX10_drop 74 = .ok (.getfield 7, 3) := by decide +kernel
theorem dX10_drop_77 : decode cX10_drop 77 = .ok (.bipush 62, 2) := by decide +kernel
theorem dX10_drop_79 : decode cX10_drop 79 = .ok (.iaload, 1) := by decide +kernel
theorem dX10_drop_80 : decode cX10_drop 80 = .ok (.iastore, 1) := by decide +kernel
theorem dX10_drop_81 : decode cX10_drop 81 = .ok (.aload_n 0, 1) := by decide +kernel
theorem dX10_drop_82 : decode cX10_drop 82 = .ok (.getfield 7, 3) := by decide +kernel
theorem dX10_drop_85 : decode cX10_drop 85 = .ok (.bipush 65, 2) := by decide +kernel
theorem dX10_drop_87 : decode cX10_drop 87 = .ok (.aload_n 0, 1) := by decide +kernel
theorem dX10_drop_88 : decode cX10_drop 88 = .ok (.getfield 7, 3) := by decide +kernel
theorem dX10_drop_91 : decode cX10_drop 91 = .ok (.bipush 18, 2) := by decide +kernel
theorem dX10_drop_93 : decode cX10_drop 93 = .ok (.iaload, 1) := by decide +kernel
theorem dX10_drop_94 : decode cX10_drop 94 = .ok (.iastore, 1) := by decide +kernel
theorem dX10_drop_95 : decode cX10_drop 95 = .ok (.aload_n 0, 1) := by decide +kernel
theorem dX10_drop_96 : decode cX10_drop 96 = .ok (.getfield 7, 3) := by decide +kernel
theorem dX10_drop_99 : decode cX10_drop 99 = .ok (.bipush 66, 2) := by decide +kernel
theorem dX10_drop_101 : decode cX10_drop 101 = .ok (.aload_n 0, 1) := by decide +kernel
theorem dX10_drop_102 : decode cX10_drop 102 = .ok (.getfield 7, 3) := by decide +kernel
theorem dX10_drop_105 : decode cX10_drop 105 = .ok (.bipush 23, 2) := by decide +kernel
theorem dX10_drop_107 : decode cX10_drop 107 = .ok (.iaload, 1) := by decide +kernel
theorem dX10_drop_108 : decode cX10_drop 108 = .ok (.iastore, 1) := by decide +kernel
theorem dX10_drop_109 : decode cX10_drop 109 = .ok (.aload_n 0, 1) := by decide +kernel
theorem dX10_drop_110 : decode cX10_drop 110 = .ok (.getfield 7, 3) := by decide +kernel
theorem dX10_drop_113 : decode cX10_drop 113 = .ok (.bipush 67, 2) := by decide +kernel
theorem dX10_drop_115 : decode cX10_drop 115 = .ok (.aload_n 0, 1) := by decide +kernel
theorem dX10_drop_116 : decode cX10_drop 116 = .ok (.getfield 7, 3) := by decide +kernel
theorem dX10_drop_119 : decode cX10_drop 119 = .ok (.bipush 24, 2) := by decide +kernel
theorem dX10_drop_121 : decode cX10_drop 121 = .ok (.iaload, 1) := by decide +kernel
theorem dX10_drop_122 : decode cX10_drop 122 = .ok (.iastore, 1) := by decide +kernel
theorem dX10_drop_123 : decode cX10_drop 123 = .ok (.aload_n 0, 1) := by decide +kernel
theorem dX10_drop_124 : decode cX10_drop 124 = .ok (.getfield 7, 3) := by decide +kernel
theorem dX10_drop_127 : decode cX10_drop 127 = .ok (.bipush 68, 2) := by decide +kernel
theorem dX10_drop_129 : decode cX10_drop 129 = .ok (.aload_n 0, 1) := by decide +kernel
theorem dX10_drop_130 : decode cX10_drop 130 = .ok (.getfield 7, 3) := by decide +kernel
theorem dX10_drop_133 : decode cX10_drop 133 = .ok (.bipush 19, 2) := by decide +kernel
theorem dX10_drop_135 : decode cX10_drop 135 = .ok (.iaload, 1) := by decide +kernel
theorem dX10_drop_136 : decode cX10_drop 136 = .ok (.iastore, 1) := by decide +kernel
theorem dX10_drop_137 : decode cX10_drop 137 = .ok (.aload_n 0, 1) := by decide +kernel
theorem dX10_drop_138 : decode cX10_drop 138 = .ok (.getfield 7, 3) := by decide +kernel
theorem dX10_drop_141 : decode cX10_drop 141 = .ok (.bipush 69, 2) := by decide +kernel
theorem dX10_drop_143 : decode cX10_drop 143 = .ok (.aload_n 0, 1) := by decide +kernel
theorem dX10_drop_144 : decode cX10_drop 144 = .ok (.getfield 7, 3) := by decide +kernel
theorem dX10_drop_147 : decode cX10_drop 147 = .ok (.bipush 25, 2) := by decide +kernel
theorem dX10_drop_149 : decode cX10_drop 149 = .ok (.iaload, 1) := by decide +kernel
theorem dX10_drop_150 : decode cX10_drop 150 = .ok (.iastore, 1) := by decide +kernel
theorem dX10_drop_151 : decode cX10_drop 151 = .ok (.aload_n 0, 1) := by decide +kernel
theorem dX10_drop_152 : decode cX10_drop 152 = .ok (.getfield 7, 3) := by decide +kernel
theorem dX10_drop_155 : decode cX10_drop 155 = .ok (.bipush 63, 2) := by decide +kernel
theorem dX10_drop_157 : decode cX10_drop 157 = .ok (.aload_n 0, 1) := by decide +kernel
theorem dX10_drop_158 : decode cX10_drop 158 = .ok (.getfield 7, 3) := by decide +kernel
theorem dX10_drop_161 : decode cX10_drop 161 = .ok (.bipush 63, 2) := by decide +kernel
theorem dX10_drop_163 : decode cX10_drop 163 = .ok (.iaload, 1) := by decide +kernel
theorem dX10_drop_164 : decode cX10_drop 164 = .ok (.iconst 1, 1) := by decide +kernel
theorem dX10_drop_165 : decode cX10_drop 165 = .ok (.iadd, 1) := by decide +kernel
theorem dX10_drop_166 : decode cX10_drop 166 = .ok (.iconst 0, 1) := by decide +kernel
theorem dX10_drop_167 : decode cX10_drop 167 = .ok (.bipush 8, 2) := by decide +kernel
theorem dX10_drop_169 : decode cX10_drop 169 = .ok (.invokestatic 100, 3) := by decide +kernel
theorem dX10_drop_172 : decode cX10_drop 172 = .ok (.iastore, 1) := by decide +kernel
theorem dX10_drop_173 : decode cX10_drop 173 = .ok (.aload_n 0, 1) := by decide +kernel
theorem dX10_drop_174 : decode cX10_drop 174 = .ok (.getfield 7, 3) := by decide +kernel
theorem dX10_drop_177 : decode cX10_drop 177 = .ok (.iconst 5, 1) := by decide +kernel
theorem dX10_drop_178 : decode cX10_drop 178 = .ok (.aload_n 0, 1) := by decide +kernel
theorem dX10_drop_179 : decode cX10_drop 179 = .ok (.getfield 7, 3) := by decide +kernel
