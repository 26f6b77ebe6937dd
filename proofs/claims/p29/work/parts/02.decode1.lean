theorem dX0_init_0 : decode cX0_init 0 = .ok (.aload_n 0, 1) := by decide +kernel
theorem dX0_init_1 : decode cX0_init 1 = .ok (.invokespecial 3, 3) := by decide +kernel
theorem dX0_init_4 : decode cX0_init 4 = .ok (.aload_n 0, 1) := by decide +kernel
theorem dX0_init_5 : decode cX0_init 5 = .ok (.iconst 0, 1) := by decide +kernel
theorem dX0_init_6 : decode cX0_init 6 = .ok (.putfield 9, 3) := by decide +kernel
theorem dX0_init_9 : decode cX0_init 9 = .ok (.aload_n 0, 1) := by decide +kernel
theorem dX0_init_10 : decode cX0_init 10 = .ok (.iconst 0, 1) := by decide +kernel
theorem dX0_init_11 : decode cX0_init 11 = .ok (.putfield 15, 3) := by decide +kernel
theorem dX0_init_14 : decode cX0_init 14 = .ok (.aload_n 0, 1) := by decide +kernel
theorem dX0_init_15 : decode cX0_init 15 = .ok (.iconst 0, 1) := by decide +kernel
theorem dX0_init_16 : decode cX0_init 16 = .ok (.putfield 18, 3) := by decide +kernel
theorem dX0_init_19 : decode cX0_init 19 = .ok (.aload_n 0, 1) := by decide +kernel
theorem dX0_init_20 : decode cX0_init 20 = .ok (.iconst 0, 1) := by decide +kernel
theorem dX0_init_21 : decode cX0_init 21 = .ok (.putfield 21, 3) := by decide +kernel
theorem dX0_init_24 : decode cX0_init 24 = .ok (.aload_n 0, 1) := by decide +kernel
theorem dX0_init_25 : decode cX0_init 25 = .ok (.iconst 0, 1) := by decide +kernel
theorem dX0_init_26 : decode cX0_init 26 = .ok (.putfield 24, 3) := by decide +kernel
theorem dX0_init_29 : decode cX0_init 29 = .ok (.aload_n 0, 1) := by decide +kernel
theorem dX0_init_30 : decode cX0_init 30 = .ok (.bipush 6, 2) := by decide +kernel
theorem dX0_init_32 : decode cX0_init 32 = .ok (.newarray .int, 2) := by decide +kernel
theorem dX0_init_34 : decode cX0_init 34 = .ok (.putfield 27, 3) := by decide +kernel
theorem dX0_init_37 : decode cX0_init 37 = .ok (.aload_n 0, 1) := by decide +kernel
theorem dX0_init_38 : decode cX0_init 38 = .ok (.ldc 31, 2) := by decide +kernel
theorem dX0_init_40 : decode cX0_init 40 = .ok (.putfield 32, 3) := by decide +kernel
theorem dX0_init_43 : decode cX0_init 43 = .ok (.aload_n 0, 1) := by decide +kernel
theorem dX0_init_44 : decode cX0_init 44 = .ok (.ldc 31, 2) := by decide +kernel
theorem dX0_init_46 : decode cX0_init 46 = .ok (.putfield 35, 3) := by decide +kernel
theorem dX0_init_49 : decode cX0_init 49 = .ok (.aload_n 0, 1) := by decide +kernel
theorem dX0_init_50 : decode cX0_init 50 = .ok (.iconst 0, 1) := by decide +kernel
theorem dX0_init_51 : decode cX0_init 51 = .ok (.putfield 38, 3) := by decide +kernel
theorem dX0_init_54 : decode cX0_init 54 = .ok (.return_, 1) := by decide +kernel
theorem dX0_copyFrom_0 : decode cX0_copyFrom 0 = .ok (.aload_n 0, 1) := by decide +kernel
theorem dX0_copyFrom_1 : decode cX0_copyFrom 1 = .ok (.aload_n 1, 1) := by decide +kernel
theorem dX0_copyFrom_2 : decode cX0_copyFrom 2 = .ok (.getfield 9, 3) := by decide +kernel
theorem dX0_copyFrom_5 : decode cX0_copyFrom 5 = .ok (.putfield 9, 3) := by decide +kernel
theorem dX0_copyFrom_8 : decode cX0_copyFrom 8 = .ok (.aload_n 0, 1) := by decide +kernel
theorem dX0_copyFrom_9 : decode cX0_copyFrom 9 = .ok (.aload_n 1, 1) := by decide +kernel
theorem dX0_copyFrom_10 : decode cX0_copyFrom 10 = .ok (.getfield 15, 3) := by decide +kernel
theorem dX0_copyFrom_13 : decode cX0_copyFrom 13 = .ok (.putfield 15, 3) := by decide +kernel
theorem dX0_copyFrom_16 : decode cX0_copyFrom 16 = .ok (.aload_n 0, 1) := by decide +kernel
theorem dX0_copyFrom_17 : decode cX0_copyFrom 17 = .ok (.aload_n 1, 1) := by decide +kernel
theorem dX0_copyFrom_18 : decode cX0_copyFrom 18 = .ok (.getfield 18, 3) := by decide +kernel
theorem dX0_copyFrom_21 : decode cX0_copyFrom 21 = .ok (.putfield 18, 3) := by decide +kernel
theorem dX0_copyFrom_24 : decode cX0_copyFrom 24 = .ok (.aload_n 0, 1) := by decide +kernel
theorem dX0_copyFrom_25 : decode cX0_copyFrom 25 = .ok (.aload_n 1, 1) := by decide +kernel
theorem dX0_copyFrom_26 : decode cX0_copyFrom 26 = .ok (.getfield 21, 3) := by decide +kernel
theorem dX0_copyFrom_29 : decode cX0_copyFrom 29 = .ok (.putfield 21, 3) := by decide +kernel
theorem dX0_copyFrom_32 : decode cX0_copyFrom 32 = .ok (.aload_n 0, 1) := by decide +kernel
theorem dX0_copyFrom_33 : decode cX0_copyFrom 33 = .ok (.aload_n 1, 1) := by decide +kernel
theorem dX0_copyFrom_34 : decode cX0_copyFrom 34 = .ok (.getfield 24, 3) := by decide +kernel
theorem dX0_copyFrom_37 : decode cX0_copyFrom 37 = .ok (.putfield 24, 3) := by decide +kernel
theorem dX0_copyFrom_40 : decode cX0_copyFrom 40 = .ok (.aload_n 1, 1) := by decide +kernel
theorem dX0_copyFrom_41 : decode cX0_copyFrom 41 = .ok (.getfield 27, 3) := by decide +kernel
theorem dX0_copyFrom_44 : decode cX0_copyFrom 44 = .ok (.aload_n 0, 1) := by decide +kernel
theorem dX0_copyFrom_45 : decode cX0_copyFrom 45 = .ok (.getfield 27, 3) := by decide +kernel
theorem dX0_copyFrom_48 : decode cX0_copyFrom 48 = .ok (.invokestatic 41, 3) := by decide +kernel
theorem dX0_copyFrom_51 : decode cX0_copyFrom 51 = .ok (.aload_n 0, 1) := by decide +kernel
theorem dX0_copyFrom_52 : decode cX0_copyFrom 52 = .ok (.aload_n 1, 1) := by decide +kernel
theorem dX0_copyFrom_53 : decode cX0_copyFrom 53 = .ok (.getfield 32, 3) := by decide +kernel
theorem dX0_copyFrom_56 : decode cX0_copyFrom 56 = .ok (.putfield 32, 3) := by decide +kernel
theorem dX0_copyFrom_59 : decode cX0_copyFrom 59 = .ok (.aload_n 0, 1) := by decide +kernel
theorem dX0_copyFrom_60 : decode cX0_copyFrom 60 = .ok (.aload_n 1, 1) := by decide +kernel
theorem dX0_copyFrom_61 : decode cX0_copyFrom 61 = .ok (.getfield 35, 3) := by decide +kernel
theorem dX0_copyFrom_64 : decode cX0_copyFrom 64 = .ok (.putfield 35, 3) := by decide +kernel
theorem dX0_copyFrom_67 : decode cX0_copyFrom 67 = .ok (.aload_n 0, 1) := by decide +kernel
theorem dX0_copyFrom_68 : decode cX0_copyFrom 68 = .ok (.aload_n 1, 1) := by decide +kernel
theorem dX0_copyFrom_69 : decode cX0_copyFrom 69 = .ok (.getfield 38, 3) := by decide +kernel
theorem dX0_copyFrom_72 : decode cX0_copyFrom 72 = .ok (.putfield 38, 3) := by decide +kernel
theorem dX0_copyFrom_75 : decode cX0_copyFrom 75 = .ok (.return_, 1) := by decide +kernel
theorem dX0_start_0 : decode cX0_start 0 = .ok (.aload_n 0, 1) := by decide +kernel
theorem dX0_start_1 : decode cX0_start 1 = .ok (.iload_n 2, 1) := by decide +kernel
theorem dX0_start_2 : decode cX0_start 2 = .ok (.putfield 9, 3) := by decide +kernel
theorem dX0_start_5 : decode cX0_start 5 = .ok (.aload_n 0, 1) := by decide +kernel
theorem dX0_start_6 : decode cX0_start 6 = .ok (.iload_n 1, 1) := by decide +kernel
theorem dX0_start_7 : decode cX0_start 7 = .ok (.putfield 15, 3) := by decide +kernel
theorem dX0_start_10 : decode cX0_start 10 = .ok (.aload_n 0, 1) := by decide +kernel
theorem dX0_start_11 : decode cX0_start 11 = .ok (.iconst 0, 1) := by decide +kernel
theorem dX0_start_12 : decode cX0_start 12 = .ok (.putfield 18, 3) := by decide +kernel
theorem dX0_start_15 : decode cX0_start 15 = .ok (.aload_n 0, 1) := by decide +kernel
theorem dX0_start_16 : decode cX0_start 16 = .ok (.iconst 0, 1) := by decide +kernel
theorem dX0_start_17 : decode cX0_start 17 = .ok (.putfield 21, 3) := by decide +kernel
theorem dX0_start_20 : decode cX0_start 20 = .ok (.aload_n 0, 1) := by decide +kernel
theorem dX0_start_21 : decode cX0_start 21 = .ok (.iconst 0, 1) := by decide +kernel
theorem dX0_start_22 : decode cX0_start 22 = .ok (.putfield 24, 3) := by decide +kernel
theorem dX0_start_25 : decode cX0_start 25 = .ok (.iconst 0, 1) := by decide +kernel
theorem dX0_start_26 : decode cX0_start 26 = .ok (.istore_n 3, 1) := by decide +kernel
theorem dX0_start_27 : decode cX0_start 27 = .ok (.iload_n 3, 1) := by decide +kernel
theorem dX0_start_28 : decode cX0_start 28 = .ok (.bipush 6, 2) := by decide +kernel
theorem dX0_start_30 : decode cX0_start 30 = .ok (.if_icmp .ge 18, 3) := by decide +kernel
theorem dX0_start_33 : decode cX0_start 33 = .ok (.aload_n 0, 1) := by decide +kernel
theorem dX0_start_34 : decode cX0_start 34 = .ok (.getfield 27, 3) := by decide +kernel
theorem dX0_start_37 : decode cX0_start 37 = .ok (.iload_n 3, 1) := by decide +kernel
theorem dX0_start_38 : decode cX0_start 38 = .ok (.iconst 0, 1) := by decide +kernel
theorem dX0_start_39 : decode cX0_start 39 = .ok (.invokestatic 45, 3) := by decide +kernel
theorem dX0_start_42 : decode cX0_start 42 = .ok (.iinc 3 1, 3) := by decide +kernel
theorem dX0_start_45 : decode cX0_start 45 = .ok (.goto (-18), 3) := by decide +kernel
theorem dX0_start_48 : decode cX0_start 48 = .ok (.aload_n 0, 1) := by decide +kernel
theorem dX0_start_49 : decode cX0_start 49 = .ok (.ldc 31, 2) := by decide +kernel
theorem dX0_start_51 : decode cX0_start 51 = .ok (.putfield 32, 3) := by decide +kernel
theorem dX0_start_54 : decode cX0_start 54 = .ok (.aload_n 0, 1) := by decide +kernel
theorem dX0_start_55 : decode cX0_start 55 = .ok (.ldc 31, 2) := by decide +kernel
theorem dX0_start_57 : decode cX0_start 57 = .ok (.putfield 35, 3) := by decide +kernel
theorem dX0_start_60 : decode cX0_start 60 = .ok (.aload_n 0, 1) := by decide +kernel
theorem dX0_start_61 : decode cX0_start 61 = .ok (.iload_n 2, 1) := by decide +kernel
theorem dX0_start_62 : decode cX0_start 62 = .ok (.putfield 38, 3) := by decide +kernel
theorem dX0_start_65 : decode cX0_start 65 = .ok (.return_, 1) := by decide +kernel
theorem dX0_roast_0 : decode cX0_roast 0 = .ok (.aload_n 0, 1) := by decide +kernel
theorem dX0_roast_1 : decode cX0_roast 1 = .ok (.dup, 1) := by decide +kernel
theorem dX0_roast_2 : decode cX0_roast 2 = .ok (.getfield 9, 3) := by decide +kernel
theorem dX0_roast_5 : decode cX0_roast 5 = .ok (.iload_n 1, 1) := by decide +kernel
theorem dX0_roast_6 : decode cX0_roast 6 = .ok (.aload_n 0, 1) := by decide +kernel
theorem dX0_roast_7 : decode cX0_roast 7 = .ok (.getfield 9, 3) := by decide +kernel
theorem dX0_roast_10 : decode cX0_roast 10 = .ok (.isub, 1) := by decide +kernel
theorem dX0_roast_11 : decode cX0_roast 11 = .ok (.bipush 20, 2) := by decide +kernel
theorem dX0_roast_13 : decode cX0_roast 13 = .ok (.invokestatic 49, 3) := by decide +kernel
theorem dX0_roast_16 : decode cX0_roast 16 = .ok (.iadd, 1) := by decide +kernel
theorem dX0_roast_17 : decode cX0_roast 17 = .ok (.putfield 9, 3) := by decide +kernel
theorem dX0_roast_20 : decode cX0_roast 20 = .ok (.aload_n 0, 1) := by decide +kernel
theorem dX0_roast_21 : decode cX0_roast 21 = .ok (.aload_n 0, 1) := by decide +kernel
theorem dX0_roast_22 : decode cX0_roast 22 = .ok (.getfield 38, 3) := by decide +kernel
theorem dX0_roast_25 : decode cX0_roast 25 = .ok (.aload_n 0, 1) := by decide +kernel
theorem dX0_roast_26 : decode cX0_roast 26 = .ok (.getfield 9, 3) := by decide +kernel
theorem dX0_roast_29 : decode cX0_roast 29 = .ok (.invokestatic 55, 3) := by decide +kernel
theorem dX0_roast_32 : decode cX0_roast 32 = .ok (.putfield 38, 3) := by decide +kernel
theorem dX0_roast_35 : decode cX0_roast 35 = .ok (.return_, 1) := by decide +kernel
theorem dX0_cool_0 : decode cX0_cool 0 = .ok (.aload_n 0, 1) := by decide +kernel
theorem dX0_cool_1 : decode cX0_cool 1 = .ok (.dup, 1) := by decide +kernel
theorem dX0_cool_2 : decode cX0_cool 2 = .ok (.getfield 9, 3) := by decide +kernel
theorem dX0_cool_5 : decode cX0_cool 5 = .ok (.aload_n 0, 1) := by decide +kernel
theorem dX0_cool_6 : decode cX0_cool 6 = .ok (.getfield 9, 3) := by decide +kernel
theorem dX0_cool_9 : decode cX0_cool 9 = .ok (.iload_n 1, 1) := by decide +kernel
theorem dX0_cool_10 : decode cX0_cool 10 = .ok (.isub, 1) := by decide +kernel
theorem dX0_cool_11 : decode cX0_cool 11 = .ok (.iload_n 2, 1) := by decide +kernel
theorem dX0_cool_12 : decode cX0_cool 12 = .ok (.imul, 1) := by decide +kernel
theorem dX0_cool_13 : decode cX0_cool 13 = .ok (.bipush 100, 2) := by decide +kernel
theorem dX0_cool_15 : decode cX0_cool 15 = .ok (.invokestatic 49, 3) := by decide +kernel
theorem dX0_cool_18 : decode cX0_cool 18 = .ok (.isub, 1) := by decide +kernel
theorem dX0_cool_19 : decode cX0_cool 19 = .ok (.putfield 9, 3) := by decide +kernel
theorem dX0_cool_22 : decode cX0_cool 22 = .ok (.return_, 1) := by decide +kernel
theorem dX0_pop_0 : decode cX0_pop 0 = .ok (.iconst 0, 1) := by decide +kernel
theorem dX0_pop_1 : decode cX0_pop 1 = .ok (.istore_n 2, 1) := by decide +kernel
theorem dX0_pop_2 : decode cX0_pop 2 = .ok (.aload_n 0, 1) := by decide +kernel
theorem dX0_pop_3 : decode cX0_pop 3 = .ok (.getfield 9, 3) := by decide +kernel
theorem dX0_pop_6 : decode cX0_pop 6 = .ok (.iload_n 1, 1) := by decide +kernel
theorem dX0_pop_7 : decode cX0_pop 7 = .ok (.if_icmp .lt 29, 3) := by decide +kernel
theorem dX0_pop_10 : decode cX0_pop 10 = .ok (.aload_n 0, 1) := by decide +kernel
theorem dX0_pop_11 : decode cX0_pop 11 = .ok (.getfield 9, 3) := by decide +kernel
theorem dX0_pop_14 : decode cX0_pop 14 = .ok (.iload_n 1, 1) := by decide +kernel
theorem dX0_pop_15 : decode cX0_pop 15 = .ok (.isub, 1) := by decide +kernel
theorem dX0_pop_16 : decode cX0_pop 16 = .ok (.iconst 2, 1) := by decide +kernel
theorem dX0_pop_17 : decode cX0_pop 17 = .ok (.invokestatic 49, 3) := by decide +kernel
theorem dX0_pop_20 : decode cX0_pop 20 = .ok (.iconst 1, 1) := by decide +kernel
theorem dX0_pop_21 : decode cX0_pop 21 = .ok (.iadd, 1) := by decide +kernel
theorem dX0_pop_22 : decode cX0_pop 22 = .ok (.istore_n 3, 1) := by decide +kernel
theorem dX0_pop_23 : decode cX0_pop 23 = .ok (.iload_n 3, 1) := by decide +kernel
theorem dX0_pop_24 : decode cX0_pop 24 = .ok (.sipush 1000, 3) := by decide +kernel
theorem dX0_pop_27 : decode cX0_pop 27 = .ok (.aload_n 0, 1) := by decide +kernel
theorem dX0_pop_28 : decode cX0_pop 28 = .ok (.getfield 24, 3) := by decide +kernel
theorem dX0_pop_31 : decode cX0_pop 31 = .ok (.isub, 1) := by decide +kernel
theorem dX0_pop_32 : decode cX0_pop 32 = .ok (.invokestatic 58, 3) := by decide +kernel
theorem dX0_pop_35 : decode cX0_pop 35 = .ok (.istore_n 2, 1) := by decide +kernel
theorem dX0_pop_36 : decode cX0_pop 36 = .ok (.aload_n 0, 1) := by decide +kernel
theorem dX0_pop_37 : decode cX0_pop 37 = .ok (.getfield 27, 3) := by decide +kernel
theorem dX0_pop_40 : decode cX0_pop 40 = .ok (.aload_n 0, 1) := by decide +kernel
theorem dX0_pop_41 : decode cX0_pop 41 = .ok (.getfield 18, 3) := by decide +kernel
theorem dX0_pop_44 : decode cX0_pop 44 = .ok (.bipush 6, 2) := by decide +kernel
theorem dX0_pop_46 : decode cX0_pop 46 = .ok (.invokestatic 61, 3) := by decide +kernel
theorem dX0_pop_49 : decode cX0_pop 49 = .ok (.iload_n 2, 1) := by decide +kernel
theorem dX0_pop_50 : decode cX0_pop 50 = .ok (.invokestatic 45, 3) := by decide +kernel
theorem dX0_pop_53 : decode cX0_pop 53 = .ok (.aload_n 0, 1) := by decide +kernel
theorem dX0_pop_54 : decode cX0_pop 54 = .ok (.dup, 1) := by decide +kernel
theorem dX0_pop_55 : decode cX0_pop 55 = .ok (.getfield 24, 3) := by decide +kernel
theorem dX0_pop_58 : decode cX0_pop 58 = .ok (.iload_n 2, 1) := by decide +kernel
theorem dX0_pop_59 : decode cX0_pop 59 = .ok (.iadd, 1) := by decide +kernel
theorem dX0_pop_60 : decode cX0_pop 60 = .ok (.putfield 24, 3) := by decide +kernel
theorem dX0_pop_63 : decode cX0_pop 63 = .ok (.return_, 1) := by decide +kernel
theorem dX0_lookForCrack_0 : decode cX0_lookForCrack 0 = .ok (.aload_n 0, 1) := by decide +kernel
theorem dX0_lookForCrack_1 : decode cX0_lookForCrack 1 = .ok (.invokevirtual 64, 3) := by decide +kernel
theorem dX0_lookForCrack_4 : decode cX0_lookForCrack 4 = .ok (.iload_n 1, 1) := by decide +kernel
theorem dX0_lookForCrack_5 : decode cX0_lookForCrack 5 = .ok (.if_icmp .lt 7, 3) := by decide +kernel
theorem dX0_lookForCrack_8 : decode cX0_lookForCrack 8 = .ok (.iconst 1, 1) := by decide +kernel
theorem dX0_lookForCrack_9 : decode cX0_lookForCrack 9 = .ok (.goto 4, 3) := by decide +kernel
theorem dX0_lookForCrack_12 : decode cX0_lookForCrack 12 = .ok (.iconst 0, 1) := by decide +kernel
theorem dX0_lookForCrack_13 : decode cX0_lookForCrack 13 = .ok (.istore_n 2, 1) := by decide +kernel
theorem dX0_lookForCrack_14 : decode cX0_lookForCrack 14 = .ok (.aload_n 0, 1) := by decide +kernel
theorem dX0_lookForCrack_15 : decode cX0_lookForCrack 15 = .ok (.getfield 32, 3) := by decide +kernel
theorem dX0_lookForCrack_18 : decode cX0_lookForCrack 18 = .ok (.ldc 31, 2) := by decide +kernel
theorem dX0_lookForCrack_20 : decode cX0_lookForCrack 20 = .ok (.if_icmp .ne 18, 3) := by decide +kernel
theorem dX0_lookForCrack_23 : decode cX0_lookForCrack 23 = .ok (.iload_n 2, 1) := by decide +kernel
theorem dX0_lookForCrack_24 : decode cX0_lookForCrack 24 = .ok (.ifCond .eq 14, 3) := by decide +kernel
theorem dX0_lookForCrack_27 : decode cX0_lookForCrack 27 = .ok (.aload_n 0, 1) := by decide +kernel
theorem dX0_lookForCrack_28 : decode cX0_lookForCrack 28 = .ok (.aload_n 0, 1) := by decide +kernel
theorem dX0_lookForCrack_29 : decode cX0_lookForCrack 29 = .ok (.getfield 18, 3) := by decide +kernel
theorem dX0_lookForCrack_32 : decode cX0_lookForCrack 32 = .ok (.putfield 32, 3) := by decide +kernel
theorem dX0_lookForCrack_35 : decode cX0_lookForCrack 35 = .ok (.goto 33, 3) := by decide +kernel
theorem dX0_lookForCrack_38 : decode cX0_lookForCrack 38 = .ok (.aload_n 0, 1) := by decide +kernel
theorem dX0_lookForCrack_39 : decode cX0_lookForCrack 39 = .ok (.getfield 32, 3) := by decide +kernel
theorem dX0_lookForCrack_42 : decode cX0_lookForCrack 42 = .ok (.ldc 31, 2) := by decide +kernel
theorem dX0_lookForCrack_44 : decode cX0_lookForCrack 44 = .ok (.if_icmp .eq 24, 3) := by decide +kernel
theorem dX0_lookForCrack_47 : decode cX0_lookForCrack 47 = .ok (.aload_n 0, 1) := by decide +kernel
theorem dX0_lookForCrack_48 : decode cX0_lookForCrack 48 = .ok (.getfield 35, 3) := by decide +kernel
theorem dX0_lookForCrack_51 : decode cX0_lookForCrack 51 = .ok (.ldc 31, 2) := by decide +kernel
theorem dX0_lookForCrack_53 : decode cX0_lookForCrack 53 = .ok (.if_icmp .ne 15, 3) := by decide +kernel
theorem dX0_lookForCrack_56 : decode cX0_lookForCrack 56 = .ok (.iload_n 2, 1) := by decide +kernel
theorem dX0_lookForCrack_57 : decode cX0_lookForCrack 57 = .ok (.ifCond .ne 11, 3) := by decide +kernel
theorem dX0_lookForCrack_60 : decode cX0_lookForCrack 60 = .ok (.aload_n 0, 1) := by decide +kernel
theorem dX0_lookForCrack_61 : decode cX0_lookForCrack 61 = .ok (.aload_n 0, 1) := by decide +kernel
theorem dX0_lookForCrack_62 : decode cX0_lookForCrack 62 = .ok (.getfield 18, 3) := by decide +kernel
theorem dX0_lookForCrack_65 : decode cX0_lookForCrack 65 = .ok (.putfield 35, 3) := by decide +kernel
theorem dX0_lookForCrack_68 : decode cX0_lookForCrack 68 = .ok (.return_, 1) := by decide +kernel
theorem dX0_window_0 : decode cX0_window 0 = .ok (.iconst 0, 1) := by decide +kernel
theorem dX0_window_1 : decode cX0_window 1 = .ok (.istore_n 1, 1) := by decide +kernel
theorem dX0_window_2 : decode cX0_window 2 = .ok (.iconst 0, 1) := by decide +kernel
theorem dX0_window_3 : decode cX0_window 3 = .ok (.istore_n 2, 1) := by decide +kernel
theorem dX0_window_4 : decode cX0_window 4 = .ok (.iload_n 2, 1) := by decide +kernel
theorem dX0_window_5 : decode cX0_window 5 = .ok (.bipush 6, 2) := by decide +kernel
theorem dX0_window_7 : decode cX0_window 7 = .ok (.if_icmp .ge 20, 3) := by decide +kernel
theorem dX0_window_10 : decode cX0_window 10 = .ok (.iload_n 1, 1) := by decide +kernel
theorem dX0_window_11 : decode cX0_window 11 = .ok (.aload_n 0, 1) := by decide +kernel
theorem dX0_window_12 : decode cX0_window 12 = .ok (.getfield 27, 3) := by decide +kernel
theorem dX0_window_15 : decode cX0_window 15 = .ok (.iload_n 2, 1) := by decide +kernel
theorem dX0_window_16 : decode cX0_window 16 = .ok (.invokestatic 68, 3) := by decide +kernel
theorem dX0_window_19 : decode cX0_window 19 = .ok (.iadd, 1) := by decide +kernel
theorem dX0_window_20 : decode cX0_window 20 = .ok (.istore_n 1, 1) := by decide +kernel
theorem dX0_window_21 : decode cX0_window 21 = .ok (.iinc 2 1, 3) := by decide +kernel
theorem dX0_window_24 : decode cX0_window 24 = .ok (.goto (-20), 3) := by decide +kernel
theorem dX0_window_27 : decode cX0_window 27 = .ok (.iload_n 1, 1) := by decide +kernel
theorem dX0_window_28 : decode cX0_window 28 = .ok (.ireturn, 1) := by decide +kernel
theorem dX0_number_0 : decode cX0_number 0 = .ok (.iload_n 1, 1) := by decide +kernel
theorem dX0_number_1 : decode cX0_number 1 = .ok (.tableswitch 117 0 9 #[55, 60, 65, 70, 75, 80, 97, 102, 107, 112], 55) := by decide +kernel
theorem dX0_number_56 : decode cX0_number 56 = .ok (.aload_n 0, 1) := by decide +kernel
theorem dX0_number_57 : decode cX0_number 57 = .ok (.getfield 9, 3) := by decide +kernel
theorem dX0_number_60 : decode cX0_number 60 = .ok (.ireturn, 1) := by decide +kernel
theorem dX0_number_61 : decode cX0_number 61 = .ok (.aload_n 0, 1) := by decide +kernel
theorem dX0_number_62 : decode cX0_number 62 = .ok (.getfield 15, 3) := by decide +kernel
theorem dX0_number_65 : decode cX0_number 65 = .ok (.ireturn, 1) := by decide +kernel
theorem dX0_number_66 : decode cX0_number 66 = .ok (.aload_n 0, 1) := by decide +kernel
theorem dX0_number_67 : decode cX0_number 67 = .ok (.getfield 18, 3) := by decide +kernel
theorem dX0_number_70 : decode cX0_number 70 = .ok (.ireturn, 1) := by decide +kernel
theorem dX0_number_71 : decode cX0_number 71 = .ok (.aload_n 0, 1) := by decide +kernel
theorem dX0_number_72 : decode cX0_number 72 = .ok (.getfield 21, 3) := by decide +kernel
theorem dX0_number_75 : decode cX0_number 75 = .ok (.ireturn, 1) := by decide +kernel
theorem dX0_number_76 : decode cX0_number 76 = .ok (.aload_n 0, 1) := by decide +kernel
theorem dX0_number_77 : decode cX0_number 77 = .ok (.getfield 24, 3) := by decide +kernel
theorem dX0_number_80 : decode cX0_number 80 = .ok (.ireturn, 1) := by decide +kernel
theorem dX0_number_81 : decode cX0_number 81 = .ok (.aload_n 0, 1) := by decide +kernel
theorem dX0_number_82 : decode cX0_number 82 = .ok (.getfield 27, 3) := by decide +kernel
theorem dX0_number_85 : decode cX0_number 85 = .ok (.aload_n 0, 1) := by decide +kernel
theorem dX0_number_86 : decode cX0_number 86 = .ok (.getfield 18, 3) := by decide +kernel
theorem dX0_number_89 : decode cX0_number 89 = .ok (.bipush 6, 2) := by decide +kernel
theorem dX0_number_91 : decode cX0_number 91 = .ok (.invokestatic 61, 3) := by decide +kernel
theorem dX0_number_94 : decode cX0_number 94 = .ok (.invokestatic 68, 3) := by decide +kernel
theorem dX0_number_97 : decode cX0_number 97 = .ok (.ireturn, 1) := by decide +kernel
theorem dX0_number_98 : decode cX0_number 98 = .ok (.aload_n 0, 1) := by decide +kernel
theorem dX0_number_99 : decode cX0_number 99 = .ok (.invokevirtual 64, 3) := by decide +kernel
theorem dX0_number_102 : decode cX0_number 102 = .ok (.ireturn, 1) := by decide +kernel
theorem dX0_number_103 : decode cX0_number 103 = .ok (.aload_n 0, 1) := by decide +kernel
theorem dX0_number_104 : decode cX0_number 104 = .ok (.getfield 32, 3) := by decide +kernel
theorem dX0_number_107 : decode cX0_number 107 = .ok (.ireturn, 1) := by decide +kernel
theorem dX0_number_108 : decode cX0_number 108 = .ok (.aload_n 0, 1) := by decide +kernel
theorem dX0_number_109 : decode cX0_number 109 = .ok (.getfield 35, 3) := by decide +kernel
theorem dX0_number_112 : decode cX0_number 112 = .ok (.ireturn, 1) := by decide +kernel
theorem dX0_number_113 : decode cX0_number 113 = .ok (.aload_n 0, 1) := by decide +kernel
theorem dX0_number_114 : decode cX0_number 114 = .ok (.getfield 38, 3) := by decide +kernel
theorem dX0_number_117 : decode cX0_number 117 = .ok (.ireturn, 1) := by decide +kernel
theorem dX0_number_118 : decode cX0_number 118 = .ok (.ldc 72, 2) := by decide +kernel
theorem dX0_number_120 : decode cX0_number 120 = .ok (.ireturn, 1) := by decide +kernel
theorem dX1_init_0 : decode cX1_init 0 = .ok (.aload_n 0, 1) := by decide +kernel
theorem dX1_init_1 : decode cX1_init 1 = .ok (.invokespecial 3, 3) := by decide +kernel
theorem dX1_init_4 : decode cX1_init 4 = .ok (.aload_n 0, 1) := by decide +kernel
theorem dX1_init_5 : decode cX1_init 5 = .ok (.iconst 5, 1) := by decide +kernel
theorem dX1_init_6 : decode cX1_init 6 = .ok (.anewarray 9, 3) := by decide +kernel
theorem dX1_init_9 : decode cX1_init 9 = .ok (.putfield 11, 3) := by decide +kernel
theorem dX1_init_12 : decode cX1_init 12 = .ok (.aload_n 0, 1) := by decide +kernel
theorem dX1_init_13 : decode cX1_init 13 = .ok (.iconst 0, 1) := by decide +kernel
theorem dX1_init_14 : decode cX1_init 14 = .ok (.putfield 17, 3) := by decide +kernel
theorem dX1_init_17 : decode cX1_init 17 = .ok (.aload_n 0, 1) := by decide +kernel
theorem dX1_init_18 : decode cX1_init 18 = .ok (.iconst 0, 1) := by decide +kernel
theorem dX1_init_19 : decode cX1_init 19 = .ok (.putfield 21, 3) := by decide +kernel
theorem dX1_init_22 : decode cX1_init 22 = .ok (.iconst 0, 1) := by decide +kernel
theorem dX1_init_23 : decode cX1_init 23 = .ok (.istore_n 1, 1) := by decide +kernel
theorem dX1_init_24 : decode cX1_init 24 = .ok (.iload_n 1, 1) := by decide +kernel
theorem dX1_init_25 : decode cX1_init 25 = .ok (.aload_n 0, 1) := by decide +kernel
theorem dX1_init_26 : decode cX1_init 26 = .ok (.getfield 11, 3) := by decide +kernel
theorem dX1_init_29 : decode cX1_init 29 = .ok (.arraylength, 1) := by decide +kernel
theorem dX1_init_30 : decode cX1_init 30 = .ok (.if_icmp .ge 22, 3) := by decide +kernel
theorem dX1_init_33 : decode cX1_init 33 = .ok (.aload_n 0, 1) := by decide +kernel
theorem dX1_init_34 : decode cX1_init 34 = .ok (.getfield 11, 3) := by decide +kernel
theorem dX1_init_37 : decode cX1_init 37 = .ok (.iload_n 1, 1) := by decide +kernel
theorem dX1_init_38 : decode cX1_init 38 = .ok (.new 9, 3) := by decide +kernel
theorem dX1_init_41 : decode cX1_init 41 = .ok (.dup, 1) := by decide +kernel
theorem dX1_init_42 : decode cX1_init 42 = .ok (.invokespecial 24, 3) := by decide +kernel
theorem dX1_init_45 : decode cX1_init 45 = .ok (.aastore, 1) := by decide +kernel
theorem dX1_init_46 : decode cX1_init 46 = .ok (.iinc 1 1, 3) := by decide +kernel
theorem dX1_init_49 : decode cX1_init 49 = .ok (.goto (-25), 3) := by decide +kernel
theorem dX1_init_52 : decode cX1_init 52 = .ok (.return_, 1) := by decide +kernel
theorem dX1_remember_0 : decode cX1_remember 0 = .ok (.aload_n 0, 1) := by decide +kernel
theorem dX1_remember_1 : decode cX1_remember 1 = .ok (.getfield 21, 3) := by decide +kernel
theorem dX1_remember_4 : decode cX1_remember 4 = .ok (.iconst 5, 1) := by decide +kernel
theorem dX1_remember_5 : decode cX1_remember 5 = .ok (.if_icmp .ne 23, 3) := by decide +kernel
theorem dX1_remember_8 : decode cX1_remember 8 = .ok (.aload_n 0, 1) := by decide +kernel
theorem dX1_remember_9 : decode cX1_remember 9 = .ok (.dup, 1) := by decide +kernel
theorem dX1_remember_10 : decode cX1_remember 10 = .ok (.getfield 17, 3) := by decide +kernel
theorem dX1_remember_13 : decode cX1_remember 13 = .ok (.iconst 1, 1) := by decide +kernel
theorem dX1_remember_14 : decode cX1_remember 14 = .ok (.iadd, 1) := by decide +kernel
theorem dX1_remember_15 : decode cX1_remember 15 = .ok (.putfield 17, 3) := by decide +kernel
theorem dX1_remember_18 : decode cX1_remember 18 = .ok (.aload_n 0, 1) := by decide +kernel
theorem dX1_remember_19 : decode cX1_remember 19 = .ok (.dup, 1) := by decide +kernel
theorem dX1_remember_20 : decode cX1_remember 20 = .ok (.getfield 21, 3) := by decide +kernel
theorem dX1_remember_23 : decode cX1_remember 23 = .ok (.iconst 1, 1) := by decide +kernel
theorem dX1_remember_24 : decode cX1_remember 24 = .ok (.isub, 1) := by decide +kernel
theorem dX1_remember_25 : decode cX1_remember 25 = .ok (.putfield 21, 3) := by decide +kernel
theorem dX1_remember_28 : decode cX1_remember 28 = .ok (.aload_n 0, 1) := by decide +kernel
theorem dX1_remember_29 : decode cX1_remember 29 = .ok (.aload_n 0, 1) := by decide +kernel
theorem dX1_remember_30 : decode cX1_remember 30 = .ok (.getfield 21, 3) := by decide +kernel
theorem dX1_remember_33 : decode cX1_remember 33 = .ok (.invokevirtual 25, 3) := by decide +kernel
theorem dX1_remember_36 : decode cX1_remember 36 = .ok (.astore_n 2, 1) := by decide +kernel
theorem dX1_remember_37 : decode cX1_remember 37 = .ok (.aload_n 2, 1) := by decide +kernel
theorem dX1_remember_38 : decode cX1_remember 38 = .ok (.ifnull 18, 3) := by decide +kernel
theorem dX1_remember_41 : decode cX1_remember 41 = .ok (.aload_n 2, 1) := by decide +kernel
theorem dX1_remember_42 : decode cX1_remember 42 = .ok (.aload_n 1, 1) := by decide +kernel
theorem dX1_remember_43 : decode cX1_remember 43 = .ok (.invokevirtual 29, 3) := by decide +kernel
theorem dX1_remember_46 : decode cX1_remember 46 = .ok (.aload_n 0, 1) := by decide +kernel
theorem dX1_remember_47 : decode cX1_remember 47 = .ok (.dup, 1) := by decide +kernel
theorem dX1_remember_48 : decode cX1_remember 48 = .ok (.getfield 21, 3) := by decide +kernel
theorem dX1_remember_51 : decode cX1_remember 51 = .ok (.iconst 1, 1) := by decide +kernel
theorem dX1_remember_52 : decode cX1_remember 52 = .ok (.iadd, 1) := by decide +kernel
theorem dX1_remember_53 : decode cX1_remember 53 = .ok (.putfield 21, 3) := by decide +kernel
theorem dX1_remember_56 : decode cX1_remember 56 = .ok (.return_, 1) := by decide +kernel
theorem dX1_restore_0 : decode cX1_restore 0 = .ok (.aload_n 0, 1) := by decide +kernel
theorem dX1_restore_1 : decode cX1_restore 1 = .ok (.aload_n 0, 1) := by decide +kernel
theorem dX1_restore_2 : decode cX1_restore 2 = .ok (.getfield 21, 3) := by decide +kernel
theorem dX1_restore_5 : decode cX1_restore 5 = .ok (.iconst 1, 1) := by decide +kernel
theorem dX1_restore_6 : decode cX1_restore 6 = .ok (.isub, 1) := by decide +kernel
theorem dX1_restore_7 : decode cX1_restore 7 = .ok (.invokevirtual 25, 3) := by decide +kernel
theorem dX1_restore_10 : decode cX1_restore 10 = .ok (.astore_n 2, 1) := by decide +kernel
theorem dX1_restore_11 : decode cX1_restore 11 = .ok (.aload_n 2, 1) := by decide +kernel
theorem dX1_restore_12 : decode cX1_restore 12 = .ok (.ifnull 18, 3) := by decide +kernel
theorem dX1_restore_15 : decode cX1_restore 15 = .ok (.aload_n 1, 1) := by decide +kernel
theorem dX1_restore_16 : decode cX1_restore 16 = .ok (.aload_n 2, 1) := by decide +kernel
theorem dX1_restore_17 : decode cX1_restore 17 = .ok (.invokevirtual 29, 3) := by decide +kernel
theorem dX1_restore_20 : decode cX1_restore 20 = .ok (.aload_n 0, 1) := by decide +kernel
theorem dX1_restore_21 : decode cX1_restore 21 = .ok (.dup, 1) := by decide +kernel
theorem dX1_restore_22 : decode cX1_restore 22 = .ok (.getfield 21, 3) := by decide +kernel
theorem dX1_restore_25 : decode cX1_restore 25 = .ok (.iconst 1, 1) := by decide +kernel
theorem dX1_restore_26 : decode cX1_restore 26 = .ok (.isub, 1) := by decide +kernel
theorem dX1_restore_27 : decode cX1_restore 27 = .ok (.putfield 21, 3) := by decide +kernel
theorem dX1_restore_30 : decode cX1_restore 30 = .ok (.return_, 1) := by decide +kernel
theorem dX1_slot_0 : decode cX1_slot 0 = .ok (.aload_n 0, 1) := by decide +kernel
theorem dX1_slot_1 : decode cX1_slot 1 = .ok (.getfield 17, 3) := by decide +kernel
theorem dX1_slot_4 : decode cX1_slot 4 = .ok (.iload_n 1, 1) := by decide +kernel
theorem dX1_slot_5 : decode cX1_slot 5 = .ok (.iadd, 1) := by decide +kernel
theorem dX1_slot_6 : decode cX1_slot 6 = .ok (.iconst 5, 1) := by decide +kernel
theorem dX1_slot_7 : decode cX1_slot 7 = .ok (.invokestatic 33, 3) := by decide +kernel
theorem dX1_slot_10 : decode cX1_slot 10 = .ok (.istore_n 2, 1) := by decide +kernel
theorem dX1_slot_11 : decode cX1_slot 11 = .ok (.iload_n 2, 1) := by decide +kernel
theorem dX1_slot_12 : decode cX1_slot 12 = .ok (.ifCond .lt 21, 3) := by decide +kernel
theorem dX1_slot_15 : decode cX1_slot 15 = .ok (.iload_n 2, 1) := by decide +kernel
theorem dX1_slot_16 : decode cX1_slot 16 = .ok (.aload_n 0, 1) := by decide +kernel
theorem dX1_slot_17 : decode cX1_slot 17 = .ok (.getfield 11, 3) := by decide +kernel
theorem dX1_slot_20 : decode cX1_slot 20 = .ok (.arraylength, 1) := by decide +kernel
theorem dX1_slot_21 : decode cX1_slot 21 = .ok (.if_icmp .ge 12, 3) := by decide +kernel
theorem dX1_slot_24 : decode cX1_slot 24 = .ok (.aload_n 0, 1) := by decide +kernel
theorem dX1_slot_25 : decode cX1_slot 25 = .ok (.getfield 11, 3) := by decide +kernel
theorem dX1_slot_28 : decode cX1_slot 28 = .ok (.iload_n 2, 1) := by decide +kernel
theorem dX1_slot_29 : decode cX1_slot 29 = .ok (.aaload, 1) := by decide +kernel
theorem dX1_slot_30 : decode cX1_slot 30 = .ok (.goto 4, 3) := by decide +kernel
theorem dX1_slot_33 : decode cX1_slot 33 = .ok (.aconst_null, 1) := by decide +kernel
theorem dX1_slot_34 : decode cX1_slot 34 = .ok (.areturn, 1) := by decide +kernel
theorem dX2_init_0 : decode cX2_init 0 = .ok (.aload_n 0, 1) := by decide +kernel
theorem dX2_init_1 : decode cX2_init 1 = .ok (.invokespecial 3, 3) := by decide +kernel
theorem dX2_init_4 : decode cX2_init 4 = .ok (.aload_n 0, 1) := by decide +kernel
theorem dX2_init_5 : decode cX2_init 5 = .ok (.bipush 48, 2) := by decide +kernel
theorem dX2_init_7 : decode cX2_init 7 = .ok (.newarray .int, 2) := by decide +kernel
theorem dX2_init_9 : decode cX2_init 9 = .ok (.putfield 9, 3) := by decide +kernel
theorem dX2_init_12 : decode cX2_init 12 = .ok (.aload_n 0, 1) := by decide +kernel
theorem dX2_init_13 : decode cX2_init 13 = .ok (.iconst 0, 1) := by decide +kernel
theorem dX2_init_14 : decode cX2_init 14 = .ok (.putfield 15, 3) := by decide +kernel
theorem dX2_init_17 : decode cX2_init 17 = .ok (.aload_n 0, 1) := by decide +kernel
theorem dX2_init_18 : decode cX2_init 18 = .ok (.iconst 0, 1) := by decide +kernel
theorem dX2_init_19 : decode cX2_init 19 = .ok (.putfield 19, 3) := by decide +kernel
theorem dX2_init_22 : decode cX2_init 22 = .ok (.return_, 1) := by decide +kernel
theorem dX2_copyFrom_0 : decode cX2_copyFrom 0 = .ok (.aload_n 1, 1) := by decide +kernel
theorem dX2_copyFrom_1 : decode cX2_copyFrom 1 = .ok (.getfield 9, 3) := by decide +kernel
theorem dX2_copyFrom_4 : decode cX2_copyFrom 4 = .ok (.aload_n 0, 1) := by decide +kernel
theorem dX2_copyFrom_5 : decode cX2_copyFrom 5 = .ok (.getfield 9, 3) := by decide +kernel
theorem dX2_copyFrom_8 : decode cX2_copyFrom 8 = .ok (.invokestatic 22, 3) := by decide +kernel
theorem dX2_copyFrom_11 : decode cX2_copyFrom 11 = .ok (.aload_n 0, 1) := by decide +kernel
theorem dX2_copyFrom_12 : decode cX2_copyFrom 12 = .ok (.aload_n 1, 1) := by decide +kernel
theorem dX2_copyFrom_13 : decode cX2_copyFrom 13 = .ok (.getfield 15, 3) := by decide +kernel
theorem dX2_copyFrom_16 : decode cX2_copyFrom 16 = .ok (.putfield 15, 3) := by decide +kernel
theorem dX2_copyFrom_19 : decode cX2_copyFrom 19 = .ok (.aload_n 0, 1) := by decide +kernel
theorem dX2_copyFrom_20 : decode cX2_copyFrom 20 = .ok (.aload_n 1, 1) := by decide +kernel
theorem dX2_copyFrom_21 : decode cX2_copyFrom 21 = .ok (.getfield 19, 3) := by decide +kernel
theorem dX2_copyFrom_24 : decode cX2_copyFrom 24 = .ok (.putfield 19, 3) := by decide +kernel
theorem dX2_copyFrom_27 : decode cX2_copyFrom 27 = .ok (.return_, 1) := by decide +kernel
theorem dX2_enter_0 : decode cX2_enter 0 = .ok (.aload_n 0, 1) := by decide +kernel
theorem dX2_enter_1 : decode cX2_enter 1 = .ok (.getfield 9, 3) := by decide +kernel
theorem dX2_enter_4 : decode cX2_enter 4 = .ok (.arraylength, 1) := by decide +kernel
theorem dX2_enter_5 : decode cX2_enter 5 = .ok (.iconst 1, 1) := by decide +kernel
theorem dX2_enter_6 : decode cX2_enter 6 = .ok (.isub, 1) := by decide +kernel
theorem dX2_enter_7 : decode cX2_enter 7 = .ok (.istore_n 2, 1) := by decide +kernel
theorem dX2_enter_8 : decode cX2_enter 8 = .ok (.iload_n 2, 1) := by decide +kernel
theorem dX2_enter_9 : decode cX2_enter 9 = .ok (.bipush 6, 2) := by decide +kernel
theorem dX2_enter_11 : decode cX2_enter 11 = .ok (.if_icmp .lt 28, 3) := by decide +kernel
theorem dX2_enter_14 : decode cX2_enter 14 = .ok (.aload_n 0, 1) := by decide +kernel
theorem dX2_enter_15 : decode cX2_enter 15 = .ok (.getfield 9, 3) := by decide +kernel
theorem dX2_enter_18 : decode cX2_enter 18 = .ok (.iload_n 2, 1) := by decide +kernel
theorem dX2_enter_19 : decode cX2_enter 19 = .ok (.aload_n 0, 1) := by decide +kernel
theorem dX2_enter_20 : decode cX2_enter 20 = .ok (.getfield 9, 3) := by decide +kernel
theorem dX2_enter_23 : decode cX2_enter 23 = .ok (.iload_n 2, 1) := by decide +kernel
theorem dX2_enter_24 : decode cX2_enter 24 = .ok (.bipush 6, 2) := by decide +kernel
theorem dX2_enter_26 : decode cX2_enter 26 = .ok (.isub, 1) := by decide +kernel
theorem dX2_enter_27 : decode cX2_enter 27 = .ok (.invokestatic 26, 3) := by decide +kernel
theorem dX2_enter_30 : decode cX2_enter 30 = .ok (.invokestatic 30, 3) := by decide +kernel
theorem dX2_enter_33 : decode cX2_enter 33 = .ok (.iinc 2 (-1), 3) := by decide +kernel
theorem dX2_enter_36 : decode cX2_enter 36 = .ok (.goto (-28), 3) := by decide +kernel
theorem dX2_enter_39 : decode cX2_enter 39 = .ok (.aload_n 0, 1) := by decide +kernel
theorem dX2_enter_40 : decode cX2_enter 40 = .ok (.dup, 1) := by decide +kernel
theorem dX2_enter_41 : decode cX2_enter 41 = .ok (.getfield 19, 3) := by decide +kernel
theorem dX2_enter_44 : decode cX2_enter 44 = .ok (.iconst 1, 1) := by decide +kernel
theorem dX2_enter_45 : decode cX2_enter 45 = .ok (.iadd, 1) := by decide +kernel
theorem dX2_enter_46 : decode cX2_enter 46 = .ok (.putfield 19, 3) := by decide +kernel
theorem dX2_enter_49 : decode cX2_enter 49 = .ok (.aload_n 0, 1) := by decide +kernel
theorem dX2_enter_50 : decode cX2_enter 50 = .ok (.aload_n 0, 1) := by decide +kernel
theorem dX2_enter_51 : decode cX2_enter 51 = .ok (.getfield 15, 3) := by decide +kernel
theorem dX2_enter_54 : decode cX2_enter 54 = .ok (.iconst 1, 1) := by decide +kernel
theorem dX2_enter_55 : decode cX2_enter 55 = .ok (.iadd, 1) := by decide +kernel
theorem dX2_enter_56 : decode cX2_enter 56 = .ok (.bipush 8, 2) := by decide +kernel
theorem dX2_enter_58 : decode cX2_enter 58 = .ok (.invokestatic 34, 3) := by decide +kernel
theorem dX2_enter_61 : decode cX2_enter 61 = .ok (.putfield 15, 3) := by decide +kernel
theorem dX2_enter_64 : decode cX2_enter 64 = .ok (.aload_n 0, 1) := by decide +kernel
theorem dX2_enter_65 : decode cX2_enter 65 = .ok (.getfield 9, 3) := by decide +kernel
theorem dX2_enter_68 : decode cX2_enter 68 = .ok (.iconst 0, 1) := by decide +kernel
theorem dX2_enter_69 : decode cX2_enter 69 = .ok (.aload_n 0, 1) := by decide +kernel
theorem dX2_enter_70 : decode cX2_enter 70 = .ok (.getfield 19, 3) := by decide +kernel
theorem dX2_enter_73 : decode cX2_enter 73 = .ok (.invokestatic 30, 3) := by decide +kernel
theorem dX2_enter_76 : decode cX2_enter 76 = .ok (.aload_n 0, 1) := by decide +kernel
theorem dX2_enter_77 : decode cX2_enter 77 = .ok (.getfield 9, 3) := by decide +kernel
theorem dX2_enter_80 : decode cX2_enter 80 = .ok (.iconst 1, 1) := by decide +kernel
theorem dX2_enter_81 : decode cX2_enter 81 = .ok (.aload_n 1, 1) := by decide +kernel
theorem dX2_enter_82 : decode cX2_enter 82 = .ok (.getfield 40, 3) := by decide +kernel
theorem dX2_enter_85 : decode cX2_enter 85 = .ok (.invokestatic 30, 3) := by decide +kernel
theorem dX2_enter_88 : decode cX2_enter 88 = .ok (.aload_n 0, 1) := by decide +kernel
theorem dX2_enter_89 : decode cX2_enter 89 = .ok (.getfield 9, 3) := by decide +kernel
theorem dX2_enter_92 : decode cX2_enter 92 = .ok (.iconst 2, 1) := by decide +kernel
theorem dX2_enter_93 : decode cX2_enter 93 = .ok (.aload_n 1, 1) := by decide +kernel
theorem dX2_enter_94 : decode cX2_enter 94 = .ok (.getfield 45, 3) := by decide +kernel
theorem dX2_enter_97 : decode cX2_enter 97 = .ok (.invokestatic 30, 3) := by decide +kernel
theorem dX2_enter_100 : decode cX2_enter 100 = .ok (.aload_n 0, 1) := by decide +kernel
theorem dX2_enter_101 : decode cX2_enter 101 = .ok (.getfield 9, 3) := by decide +kernel
theorem dX2_enter_104 : decode cX2_enter 104 = .ok (.iconst 3, 1) := by decide +kernel
theorem dX2_enter_105 : decode cX2_enter 105 = .ok (.aload_n 1, 1) := by decide +kernel
theorem dX2_enter_106 : decode cX2_enter 106 = .ok (.getfield 48, 3) := by decide +kernel
theorem dX2_enter_109 : decode cX2_enter 109 = .ok (.invokestatic 30, 3) := by decide +kernel
theorem dX2_enter_112 : decode cX2_enter 112 = .ok (.aload_n 0, 1) := by decide +kernel
theorem dX2_enter_113 : decode cX2_enter 113 = .ok (.getfield 9, 3) := by decide +kernel
theorem dX2_enter_116 : decode cX2_enter 116 = .ok (.iconst 4, 1) := by decide +kernel
theorem dX2_enter_117 : decode cX2_enter 117 = .ok (.aload_n 1, 1) := by decide +kernel
theorem dX2_enter_118 : decode cX2_enter 118 = .ok (.getfield 51, 3) := by decide +kernel
theorem dX2_enter_121 : decode cX2_enter 121 = .ok (.invokestatic 30, 3) := by decide +kernel
theorem dX2_enter_124 : decode cX2_enter 124 = .ok (.aload_n 0, 1) := by decide +kernel
theorem dX2_enter_125 : decode cX2_enter 125 = .ok (.getfield 9, 3) := by decide +kernel
theorem dX2_enter_128 : decode cX2_enter 128 = .ok (.iconst 5, 1) := by decide +kernel
theorem dX2_enter_129 : decode cX2_enter 129 = .ok (.aload_n 1, 1) := by decide +kernel
theorem dX2_enter_130 : decode cX2_enter 130 = .ok (.getfield 54, 3) := by decide +kernel
theorem dX2_enter_133 : decode cX2_enter 133 = .ok (.invokestatic 30, 3) := by decide +kernel
theorem dX2_enter_136 : decode cX2_enter 136 = .ok (.return_, 1) := by decide +kernel
theorem dX2_property_0 : decode cX2_property 0 = .ok (.aload_n 0, 1) := by decide +kernel
theorem dX2_property_1 : decode cX2_property 1 = .ok (.getfield 9, 3) := by decide +kernel
theorem dX2_property_4 : decode cX2_property 4 = .ok (.iload_n 1, 1) := by decide +kernel
theorem dX2_property_5 : decode cX2_property 5 = .ok (.bipush 6, 2) := by decide +kernel
theorem dX2_property_7 : decode cX2_property 7 = .ok (.imul, 1) := by decide +kernel
theorem dX2_property_8 : decode cX2_property 8 = .ok (.iload_n 2, 1) := by decide +kernel
theorem dX2_property_9 : decode cX2_property 9 = .ok (.iadd, 1) := by decide +kernel
theorem dX2_property_10 : decode cX2_property 10 = .ok (.invokestatic 26, 3) := by decide +kernel
theorem dX2_property_13 : decode cX2_property 13 = .ok (.ireturn, 1) := by decide +kernel
theorem dX3_init_0 : decode cX3_init 0 = .ok (.aload_n 0, 1) := by decide +kernel
theorem dX3_init_1 : decode cX3_init 1 = .ok (.invokespecial 3, 3) := by decide +kernel
theorem dX3_init_4 : decode cX3_init 4 = .ok (.aload_n 0, 1) := by decide +kernel
theorem dX3_init_5 : decode cX3_init 5 = .ok (.new 9, 3) := by decide +kernel
theorem dX3_init_8 : decode cX3_init 8 = .ok (.dup, 1) := by decide +kernel
theorem dX3_init_9 : decode cX3_init 9 = .ok (.bipush 8, 2) := by decide +kernel
theorem dX3_init_11 : decode cX3_init 11 = .ok (.invokespecial 11, 3) := by decide +kernel
theorem dX3_init_14 : decode cX3_init 14 = .ok (.putfield 14, 3) := by decide +kernel
theorem dX3_init_17 : decode cX3_init 17 = .ok (.aload_n 0, 1) := by decide +kernel
theorem dX3_init_18 : decode cX3_init 18 = .ok (.iconst (-1), 1) := by decide +kernel
theorem dX3_init_19 : decode cX3_init 19 = .ok (.putfield 20, 3) := by decide +kernel
theorem dX3_init_22 : decode cX3_init 22 = .ok (.return_, 1) := by decide +kernel
theorem dX3_errorPosition_0 : decode cX3_errorPosition 0 = .ok (.aload_n 0, 1) := by decide +kernel
theorem dX3_errorPosition_1 : decode cX3_errorPosition 1 = .ok (.getfield 14, 3) := by decide +kernel
theorem dX3_errorPosition_4 : decode cX3_errorPosition 4 = .ok (.iconst 0, 1) := by decide +kernel
theorem dX3_errorPosition_5 : decode cX3_errorPosition 5 = .ok (.putfield 24, 3) := by decide +kernel
theorem dX3_errorPosition_8 : decode cX3_errorPosition 8 = .ok (.aload_n 0, 1) := by decide +kernel
theorem dX3_errorPosition_9 : decode cX3_errorPosition 9 = .ok (.iconst (-1), 1) := by decide +kernel
theorem dX3_errorPosition_10 : decode cX3_errorPosition 10 = .ok (.putfield 20, 3) := by decide +kernel
theorem dX3_errorPosition_13 : decode cX3_errorPosition 13 = .ok (.iconst 0, 1) := by decide +kernel
theorem dX3_errorPosition_14 : decode cX3_errorPosition 14 = .ok (.istore_n 2, 1) := by decide +kernel
theorem dX3_errorPosition_15 : decode cX3_errorPosition 15 = .ok (.aload_n 1, 1) := by decide +kernel
theorem dX3_errorPosition_16 : decode cX3_errorPosition 16 = .ok (.iconst 0, 1) := by decide +kernel
theorem dX3_errorPosition_17 : decode cX3_errorPosition 17 = .ok (.invokevirtual 27, 3) := by decide +kernel
theorem dX3_errorPosition_20 : decode cX3_errorPosition 20 = .ok (.istore_n 3, 1) := by decide +kernel
theorem dX3_errorPosition_21 : decode cX3_errorPosition 21 = .ok (.iconst 0, 1) := by decide +kernel
theorem dX3_errorPosition_22 : decode cX3_errorPosition 22 = .ok (.istore 4, 2) := by decide +kernel
theorem dX3_errorPosition_24 : decode cX3_errorPosition 24 = .ok (.iload 4, 2) := by decide +kernel
theorem dX3_errorPosition_26 : decode cX3_errorPosition 26 = .ok (.bipush 100, 2) := by decide +kernel
theorem dX3_errorPosition_28 : decode cX3_errorPosition 28 = .ok (.if_icmp .ge 58, 3) := by decide +kernel
theorem dX3_errorPosition_31 : decode cX3_errorPosition 31 = .ok (.iload_n 3, 1) := by decide +kernel
theorem dX3_errorPosition_32 : decode cX3_errorPosition 32 = .ok (.aload_n 1, 1) := by decide +kernel
theorem dX3_errorPosition_33 : decode cX3_errorPosition 33 = .ok (.getfield 33, 3) := by decide +kernel
theorem dX3_errorPosition_36 : decode cX3_errorPosition 36 = .ok (.if_icmp .ge 50, 3) := by decide +kernel
theorem dX3_errorPosition_39 : decode cX3_errorPosition 39 = .ok (.aload_n 1, 1) := by decide +kernel
theorem dX3_errorPosition_40 : decode cX3_errorPosition 40 = .ok (.iload_n 3, 1) := by decide +kernel
theorem dX3_errorPosition_41 : decode cX3_errorPosition 41 = .ok (.invokevirtual 36, 3) := by decide +kernel
theorem dX3_errorPosition_44 : decode cX3_errorPosition 44 = .ok (.istore 5, 2) := by decide +kernel
theorem dX3_errorPosition_46 : decode cX3_errorPosition 46 = .ok (.aload_n 0, 1) := by decide +kernel
theorem dX3_errorPosition_47 : decode cX3_errorPosition 47 = .ok (.iload_n 2, 1) := by decide +kernel
theorem dX3_errorPosition_48 : decode cX3_errorPosition 48 = .ok (.aload_n 1, 1) := by decide +kernel
theorem dX3_errorPosition_49 : decode cX3_errorPosition 49 = .ok (.iload_n 3, 1) := by decide +kernel
theorem dX3_errorPosition_50 : decode cX3_errorPosition 50 = .ok (.iload 5, 2) := by decide +kernel
theorem dX3_errorPosition_52 : decode cX3_errorPosition 52 = .ok (.invokevirtual 39, 3) := by decide +kernel
theorem dX3_errorPosition_55 : decode cX3_errorPosition 55 = .ok (.ifCond .ne 5, 3) := by decide +kernel
theorem dX3_errorPosition_58 : decode cX3_errorPosition 58 = .ok (.iload_n 3, 1) := by decide +kernel
theorem dX3_errorPosition_59 : decode cX3_errorPosition 59 = .ok (.ireturn, 1) := by decide +kernel
theorem dX3_errorPosition_60 : decode cX3_errorPosition 60 = .ok (.iload_n 2, 1) := by decide +kernel
theorem dX3_errorPosition_61 : decode cX3_errorPosition 61 = .ok (.iconst 2, 1) := by decide +kernel
theorem dX3_errorPosition_62 : decode cX3_errorPosition 62 = .ok (.if_icmp .ne 7, 3) := by decide +kernel
theorem dX3_errorPosition_65 : decode cX3_errorPosition 65 = .ok (.iconst 0, 1) := by decide +kernel
theorem dX3_errorPosition_66 : decode cX3_errorPosition 66 = .ok (.goto 6, 3) := by decide +kernel
theorem dX3_errorPosition_69 : decode cX3_errorPosition 69 = .ok (.iload_n 2, 1) := by decide +kernel
theorem dX3_errorPosition_70 : decode cX3_errorPosition 70 = .ok (.iconst 1, 1) := by decide +kernel
theorem dX3_errorPosition_71 : decode cX3_errorPosition 71 = .ok (.iadd, 1) := by decide +kernel
theorem dX3_errorPosition_72 : decode cX3_errorPosition 72 = .ok (.istore_n 2, 1) := by decide +kernel
theorem dX3_errorPosition_73 : decode cX3_errorPosition 73 = .ok (.aload_n 1, 1) := by decide +kernel
theorem dX3_errorPosition_74 : decode cX3_errorPosition 74 = .ok (.iload 5, 2) := by decide +kernel
theorem dX3_errorPosition_76 : decode cX3_errorPosition 76 = .ok (.invokevirtual 27, 3) := by decide +kernel
theorem dX3_errorPosition_79 : decode cX3_errorPosition 79 = .ok (.istore_n 3, 1) := by decide +kernel
theorem dX3_errorPosition_80 : decode cX3_errorPosition 80 = .ok (.iinc 4 1, 3) := by decide +kernel
theorem dX3_errorPosition_83 : decode cX3_errorPosition 83 = .ok (.goto (-59), 3) := by decide +kernel
theorem dX3_errorPosition_86 : decode cX3_errorPosition 86 = .ok (.iload_n 2, 1) := by decide +kernel
theorem dX3_errorPosition_87 : decode cX3_errorPosition 87 = .ok (.ifCond .ne 7, 3) := by decide +kernel
theorem dX3_errorPosition_90 : decode cX3_errorPosition 90 = .ok (.iconst (-1), 1) := by decide +kernel
theorem dX3_errorPosition_91 : decode cX3_errorPosition 91 = .ok (.goto 7, 3) := by decide +kernel
theorem dX3_errorPosition_94 : decode cX3_errorPosition 94 = .ok (.aload_n 1, 1) := by decide +kernel
theorem dX3_errorPosition_95 : decode cX3_errorPosition 95 = .ok (.getfield 33, 3) := by decide +kernel
theorem dX3_errorPosition_98 : decode cX3_errorPosition 98 = .ok (.ireturn, 1) := by decide +kernel
theorem dX3_takes_0 : decode cX3_takes 0 = .ok (.iload_n 1, 1) := by decide +kernel
theorem dX3_takes_1 : decode cX3_takes 1 = .ok (.lookupswitch 51 #[(0, 27), (1, 39)], 27) := by decide +kernel
theorem dX3_takes_28 : decode cX3_takes 28 = .ok (.aload_n 0, 1) := by decide +kernel
theorem dX3_takes_29 : decode cX3_takes 29 = .ok (.aload_n 2, 1) := by decide +kernel
theorem dX3_takes_30 : decode cX3_takes 30 = .ok (.iload_n 3, 1) := by decide +kernel
theorem dX3_takes_31 : decode cX3_takes 31 = .ok (.iload 4, 2) := by decide +kernel
theorem dX3_takes_33 : decode cX3_takes 33 = .ok (.invokevirtual 43, 3) := by decide +kernel
theorem dX3_takes_36 : decode cX3_takes 36 = .ok (.invokevirtual 47, 3) := by decide +kernel
theorem dX3_takes_39 : decode cX3_takes 39 = .ok (.ireturn, 1) := by decide +kernel
theorem dX3_takes_40 : decode cX3_takes 40 = .ok (.aload_n 0, 1) := by decide +kernel
theorem dX3_takes_41 : decode cX3_takes 41 = .ok (.aload_n 2, 1) := by decide +kernel
theorem dX3_takes_42 : decode cX3_takes 42 = .ok (.iload_n 3, 1) := by decide +kernel
theorem dX3_takes_43 : decode cX3_takes 43 = .ok (.iload 4, 2) := by decide +kernel
theorem dX3_takes_45 : decode cX3_takes 45 = .ok (.invokevirtual 43, 3) := by decide +kernel
theorem dX3_takes_48 : decode cX3_takes 48 = .ok (.invokevirtual 51, 3) := by decide +kernel
theorem dX3_takes_51 : decode cX3_takes 51 = .ok (.ireturn, 1) := by decide +kernel
theorem dX3_takes_52 : decode cX3_takes 52 = .ok (.aload_n 2, 1) := by decide +kernel
theorem dX3_takes_53 : decode cX3_takes 53 = .ok (.iload_n 3, 1) := by decide +kernel
theorem dX3_takes_54 : decode cX3_takes 54 = .ok (.invokevirtual 54, 3) := by decide +kernel
theorem dX3_takes_57 : decode cX3_takes 57 = .ok (.bipush 59, 2) := by decide +kernel
theorem dX3_takes_59 : decode cX3_takes 59 = .ok (.if_icmp .ne 7, 3) := by decide +kernel
theorem dX3_takes_62 : decode cX3_takes 62 = .ok (.iconst 1, 1) := by decide +kernel
theorem dX3_takes_63 : decode cX3_takes 63 = .ok (.goto 4, 3) := by decide +kernel
theorem dX3_takes_66 : decode cX3_takes 66 = .ok (.iconst 0, 1) := by decide +kernel
theorem dX3_takes_67 : decode cX3_takes 67 = .ok (.ireturn, 1) := by decide +kernel
theorem dX3_takesTick_0 : decode cX3_takesTick 0 = .ok (.aload_n 0, 1) := by decide +kernel
theorem dX3_takesTick_1 : decode cX3_takesTick 1 = .ok (.getfield 14, 3) := by decide +kernel
theorem dX3_takesTick_4 : decode cX3_takesTick 4 = .ok (.getfield 24, 3) := by decide +kernel
theorem dX3_takesTick_7 : decode cX3_takesTick 7 = .ok (.bipush 8, 2) := by decide +kernel
theorem dX3_takesTick_9 : decode cX3_takesTick 9 = .ok (.if_icmp .ge 22, 3) := by decide +kernel
theorem dX3_takesTick_12 : decode cX3_takesTick 12 = .ok (.iload_n 1, 1) := by decide +kernel
theorem dX3_takesTick_13 : decode cX3_takesTick 13 = .ok (.aload_n 0, 1) := by decide +kernel
theorem dX3_takesTick_14 : decode cX3_takesTick 14 = .ok (.getfield 20, 3) := by decide +kernel
theorem dX3_takesTick_17 : decode cX3_takesTick 17 = .ok (.if_icmp .le 14, 3) := by decide +kernel
theorem dX3_takesTick_20 : decode cX3_takesTick 20 = .ok (.iload_n 1, 1) := by decide +kernel
theorem dX3_takesTick_21 : decode cX3_takesTick 21 = .ok (.iconst 0, 1) := by decide +kernel
theorem dX3_takesTick_22 : decode cX3_takesTick 22 = .ok (.sipush 400, 3) := by decide +kernel
theorem dX3_takesTick_25 : decode cX3_takesTick 25 = .ok (.invokestatic 57, 3) := by decide +kernel
theorem dX3_takesTick_28 : decode cX3_takesTick 28 = .ok (.ifCond .ne 5, 3) := by decide +kernel
theorem dX3_takesTick_31 : decode cX3_takesTick 31 = .ok (.iconst 0, 1) := by decide +kernel
theorem dX3_takesTick_32 : decode cX3_takesTick 32 = .ok (.ireturn, 1) := by decide +kernel
theorem dX3_takesTick_33 : decode cX3_takesTick 33 = .ok (.aload_n 0, 1) := by decide +kernel
theorem dX3_takesTick_34 : decode cX3_takesTick 34 = .ok (.iload_n 1, 1) := by decide +kernel
theorem dX3_takesTick_35 : decode cX3_takesTick 35 = .ok (.putfield 20, 3) := by decide +kernel
theorem dX3_takesTick_38 : decode cX3_takesTick 38 = .ok (.iconst 1, 1) := by decide +kernel
theorem dX3_takesTick_39 : decode cX3_takesTick 39 = .ok (.ireturn, 1) := by decide +kernel
theorem dX3_takesTemperature_0 : decode cX3_takesTemperature 0 = .ok (.iload_n 1, 1) := by decide +kernel
theorem dX3_takesTemperature_1 : decode cX3_takesTemperature 1 = .ok (.iconst 0, 1) := by decide +kernel
theorem dX3_takesTemperature_2 : decode cX3_takesTemperature 2 = .ok (.sipush 3000, 3) := by decide +kernel
theorem dX3_takesTemperature_5 : decode cX3_takesTemperature 5 = .ok (.invokestatic 57, 3) := by decide +kernel
theorem dX3_takesTemperature_8 : decode cX3_takesTemperature 8 = .ok (.ifCond .ne 5, 3) := by decide +kernel
theorem dX3_takesTemperature_11 : decode cX3_takesTemperature 11 = .ok (.iconst 0, 1) := by decide +kernel
theorem dX3_takesTemperature_12 : decode cX3_takesTemperature 12 = .ok (.ireturn, 1) := by decide +kernel
theorem dX3_takesTemperature_13 : decode cX3_takesTemperature 13 = .ok (.aload_n 0, 1) := by decide +kernel
theorem dX3_takesTemperature_14 : decode cX3_takesTemperature 14 = .ok (.getfield 14, 3) := by decide +kernel
theorem dX3_takesTemperature_17 : decode cX3_takesTemperature 17 = .ok (.aload_n 0, 1) := by decide +kernel
theorem dX3_takesTemperature_18 : decode cX3_takesTemperature 18 = .ok (.getfield 20, 3) := by decide +kernel
theorem dX3_takesTemperature_21 : decode cX3_takesTemperature 21 = .ok (.iload_n 1, 1) := by decide +kernel
theorem dX3_takesTemperature_22 : decode cX3_takesTemperature 22 = .ok (.invokevirtual 61, 3) := by decide +kernel
theorem dX3_takesTemperature_25 : decode cX3_takesTemperature 25 = .ok (.iconst 1, 1) := by decide +kernel
theorem dX3_takesTemperature_26 : decode cX3_takesTemperature 26 = .ok (.ireturn, 1) := by decide +kernel
theorem dX4_init_0 : decode cX4_init 0 = .ok (.aload_n 0, 1) := by decide +kernel
theorem dX4_init_1 : decode cX4_init 1 = .ok (.invokespecial 3, 3) := by decide +kernel
theorem dX4_init_4 : decode cX4_init 4 = .ok (.aload_n 0, 1) := by decide +kernel
theorem dX4_init_5 : decode cX4_init 5 = .ok (.new 9, 3) := by decide +kernel
theorem dX4_init_8 : decode cX4_init 8 = .ok (.dup, 1) := by decide +kernel
theorem dX4_init_9 : decode cX4_init 9 = .ok (.invokespecial 11, 3) := by decide +kernel
theorem dX4_init_12 : decode cX4_init 12 = .ok (.putfield 12, 3) := by decide +kernel
theorem dX4_init_15 : decode cX4_init 15 = .ok (.aload_n 0, 1) := by decide +kernel
theorem dX4_init_16 : decode cX4_init 16 = .ok (.new 18, 3) := by decide +kernel
theorem dX4_init_19 : decode cX4_init 19 = .ok (.dup, 1) := by decide +kernel
theorem dX4_init_20 : decode cX4_init 20 = .ok (.invokespecial 20, 3) := by decide +kernel
theorem dX4_init_23 : decode cX4_init 23 = .ok (.putfield 21, 3) := by decide +kernel
theorem dX4_init_26 : decode cX4_init 26 = .ok (.aload_n 0, 1) := by decide +kernel
theorem dX4_init_27 : decode cX4_init 27 = .ok (.iconst 0, 1) := by decide +kernel
theorem dX4_init_28 : decode cX4_init 28 = .ok (.putfield 25, 3) := by decide +kernel
theorem dX4_init_31 : decode cX4_init 31 = .ok (.aload_n 0, 1) := by decide +kernel
theorem dX4_init_32 : decode cX4_init 32 = .ok (.iconst 0, 1) := by decide +kernel
theorem dX4_init_33 : decode cX4_init 33 = .ok (.putfield 29, 3) := by decide +kernel
theorem dX4_init_36 : decode cX4_init 36 = .ok (.aload_n 0, 1) := by decide +kernel
theorem dX4_init_37 : decode cX4_init 37 = .ok (.sipush 250, 3) := by decide +kernel
theorem dX4_init_40 : decode cX4_init 40 = .ok (.putfield 32, 3) := by decide +kernel
theorem dX4_init_43 : decode cX4_init 43 = .ok (.aload_n 0, 1) := by decide +kernel
theorem dX4_init_44 : decode cX4_init 44 = .ok (.sipush 250, 3) := by decide +kernel
theorem dX4_init_47 : decode cX4_init 47 = .ok (.putfield 35, 3) := by decide +kernel
theorem dX4_init_50 : decode cX4_init 50 = .ok (.aload_n 0, 1) := by decide +kernel
theorem dX4_init_51 : decode cX4_init 51 = .ok (.iconst 0, 1) := by decide +kernel
theorem dX4_init_52 : decode cX4_init 52 = .ok (.putfield 38, 3) := by decide +kernel
theorem dX4_init_55 : decode cX4_init 55 = .ok (.aload_n 0, 1) := by decide +kernel
theorem dX4_init_56 : decode cX4_init 56 = .ok (.iconst 0, 1) := by decide +kernel
theorem dX4_init_57 : decode cX4_init 57 = .ok (.putfield 41, 3) := by decide +kernel
theorem dX4_init_60 : decode cX4_init 60 = .ok (.return_, 1) := by decide +kernel
theorem dX4_copyFrom_0 : decode cX4_copyFrom 0 = .ok (.aload_n 0, 1) := by decide +kernel
theorem dX4_copyFrom_1 : decode cX4_copyFrom 1 = .ok (.getfield 12, 3) := by decide +kernel
theorem dX4_copyFrom_4 : decode cX4_copyFrom 4 = .ok (.aload_n 1, 1) := by decide +kernel
theorem dX4_copyFrom_5 : decode cX4_copyFrom 5 = .ok (.getfield 12, 3) := by decide +kernel
theorem dX4_copyFrom_8 : decode cX4_copyFrom 8 = .ok (.invokevirtual 44, 3) := by decide +kernel
theorem dX4_copyFrom_11 : decode cX4_copyFrom 11 = .ok (.aload_n 0, 1) := by decide +kernel
theorem dX4_copyFrom_12 : decode cX4_copyFrom 12 = .ok (.getfield 21, 3) := by decide +kernel
theorem dX4_copyFrom_15 : decode cX4_copyFrom 15 = .ok (.aload_n 1, 1) := by decide +kernel
theorem dX4_copyFrom_16 : decode cX4_copyFrom 16 = .ok (.getfield 21, 3) := by decide +kernel
theorem dX4_copyFrom_19 : decode cX4_copyFrom 19 = .ok (.invokevirtual 48, 3) := by decide +kernel
theorem dX4_copyFrom_22 : decode cX4_copyFrom 22 = .ok (.aload_n 0, 1) := by decide +kernel
theorem dX4_copyFrom_23 : decode cX4_copyFrom 23 = .ok (.aload_n 1, 1) := by decide +kernel
theorem dX4_copyFrom_24 : decode cX4_copyFrom 24 = .ok (.getfield 25, 3) := by decide +kernel
theorem dX4_copyFrom_27 : decode cX4_copyFrom 27 = .ok (.putfield 25, 3) := by decide +kernel
theorem dX4_copyFrom_30 : decode cX4_copyFrom 30 = .ok (.aload_n 0, 1) := by decide +kernel
theorem dX4_copyFrom_31 : decode cX4_copyFrom 31 = .ok (.aload_n 1, 1) := by decide +kernel
theorem dX4_copyFrom_32 : decode cX4_copyFrom 32 = .ok (.getfield 29, 3) := by decide +kernel
theorem dX4_copyFrom_35 : decode cX4_copyFrom 35 = .ok (.putfield 29, 3) := by decide +kernel
theorem dX4_copyFrom_38 : decode cX4_copyFrom 38 = .ok (.aload_n 0, 1) := by decide +kernel
theorem dX4_copyFrom_39 : decode cX4_copyFrom 39 = .ok (.aload_n 1, 1) := by decide +kernel
theorem dX4_copyFrom_40 : decode cX4_copyFrom 40 = .ok (.getfield 32, 3) := by decide +kernel
theorem dX4_copyFrom_43 : decode cX4_copyFrom 43 = .ok (.putfield 32, 3) := by decide +kernel
theorem dX4_copyFrom_46 : decode cX4_copyFrom 46 = .ok (.aload_n 0, 1) := by decide +kernel
theorem dX4_copyFrom_47 : decode cX4_copyFrom 47 = .ok (.aload_n 1, 1) := by decide +kernel
theorem dX4_copyFrom_48 : decode cX4_copyFrom 48 = .ok (.getfield 35, 3) := by decide +kernel
theorem dX4_copyFrom_51 : decode cX4_copyFrom 51 = .ok (.putfield 35, 3) := by decide +kernel
theorem dX4_copyFrom_54 : decode cX4_copyFrom 54 = .ok (.aload_n 0, 1) := by decide +kernel
theorem dX4_copyFrom_55 : decode cX4_copyFrom 55 = .ok (.aload_n 1, 1) := by decide +kernel
theorem dX4_copyFrom_56 : decode cX4_copyFrom 56 = .ok (.getfield 38, 3) := by decide +kernel
theorem dX4_copyFrom_59 : decode cX4_copyFrom 59 = .ok (.putfield 38, 3) := by decide +kernel
theorem dX4_copyFrom_62 : decode cX4_copyFrom 62 = .ok (.aload_n 0, 1) := by decide +kernel
theorem dX4_copyFrom_63 : decode cX4_copyFrom 63 = .ok (.aload_n 1, 1) := by decide +kernel
theorem dX4_copyFrom_64 : decode cX4_copyFrom 64 = .ok (.getfield 41, 3) := by decide +kernel
theorem dX4_copyFrom_67 : decode cX4_copyFrom 67 = .ok (.putfield 41, 3) := by decide +kernel
theorem dX4_copyFrom_70 : decode cX4_copyFrom 70 = .ok (.return_, 1) := by decide +kernel
theorem dX4_startBatch_0 : decode cX4_startBatch 0 = .ok (.aload_n 0, 1) := by decide +kernel
theorem dX4_startBatch_1 : decode cX4_startBatch 1 = .ok (.getfield 21, 3) := by decide +kernel
theorem dX4_startBatch_4 : decode cX4_startBatch 4 = .ok (.iload_n 1, 1) := by decide +kernel
theorem dX4_startBatch_5 : decode cX4_startBatch 5 = .ok (.aload_n 0, 1) := by decide +kernel
theorem dX4_startBatch_6 : decode cX4_startBatch 6 = .ok (.getfield 12, 3) := by decide +kernel
theorem dX4_startBatch_9 : decode cX4_startBatch 9 = .ok (.getfield 51, 3) := by decide +kernel
theorem dX4_startBatch_12 : decode cX4_startBatch 12 = .ok (.invokevirtual 54, 3) := by decide +kernel
theorem dX4_startBatch_15 : decode cX4_startBatch 15 = .ok (.aload_n 0, 1) := by decide +kernel
theorem dX4_startBatch_16 : decode cX4_startBatch 16 = .ok (.iconst 1, 1) := by decide +kernel
theorem dX4_startBatch_17 : decode cX4_startBatch 17 = .ok (.putfield 29, 3) := by decide +kernel
theorem dX4_startBatch_20 : decode cX4_startBatch 20 = .ok (.aload_n 0, 1) := by decide +kernel
theorem dX4_startBatch_21 : decode cX4_startBatch 21 = .ok (.iconst 0, 1) := by decide +kernel
theorem dX4_startBatch_22 : decode cX4_startBatch 22 = .ok (.putfield 41, 3) := by decide +kernel
theorem dX4_startBatch_25 : decode cX4_startBatch 25 = .ok (.return_, 1) := by decide +kernel
theorem dX4_tick_0 : decode cX4_tick 0 = .ok (.aload_n 0, 1) := by decide +kernel
theorem dX4_tick_1 : decode cX4_tick 1 = .ok (.dup, 1) := by decide +kernel
theorem dX4_tick_2 : decode cX4_tick 2 = .ok (.getfield 25, 3) := by decide +kernel
theorem dX4_tick_5 : decode cX4_tick 5 = .ok (.iconst 1, 1) := by decide +kernel
theorem dX4_tick_6 : decode cX4_tick 6 = .ok (.iadd, 1) := by decide +kernel
theorem dX4_tick_7 : decode cX4_tick 7 = .ok (.putfield 25, 3) := by decide +kernel
theorem dX4_tick_10 : decode cX4_tick 10 = .ok (.aload_n 0, 1) := by decide +kernel
theorem dX4_tick_11 : decode cX4_tick 11 = .ok (.getfield 29, 3) := by decide +kernel
theorem dX4_tick_14 : decode cX4_tick 14 = .ok (.iconst 1, 1) := by decide +kernel
theorem dX4_tick_15 : decode cX4_tick 15 = .ok (.if_icmp .ne 21, 3) := by decide +kernel
theorem dX4_tick_18 : decode cX4_tick 18 = .ok (.aload_n 0, 1) := by decide +kernel
theorem dX4_tick_19 : decode cX4_tick 19 = .ok (.getfield 21, 3) := by decide +kernel
theorem dX4_tick_22 : decode cX4_tick 22 = .ok (.dup, 1) := by decide +kernel
theorem dX4_tick_23 : decode cX4_tick 23 = .ok (.getfield 58, 3) := by decide +kernel
theorem dX4_tick_26 : decode cX4_tick 26 = .ok (.iconst 1, 1) := by decide +kernel
theorem dX4_tick_27 : decode cX4_tick 27 = .ok (.iadd, 1) := by decide +kernel
theorem dX4_tick_28 : decode cX4_tick 28 = .ok (.putfield 58, 3) := by decide +kernel
theorem dX4_tick_31 : decode cX4_tick 31 = .ok (.aload_n 0, 1) := by decide +kernel
theorem dX4_tick_32 : decode cX4_tick 32 = .ok (.aload_n 1, 1) := by decide +kernel
theorem dX4_tick_33 : decode cX4_tick 33 = .ok (.invokevirtual 61, 3) := by decide +kernel
theorem dX4_tick_36 : decode cX4_tick 36 = .ok (.aload_n 0, 1) := by decide +kernel
theorem dX4_tick_37 : decode cX4_tick 37 = .ok (.invokevirtual 65, 3) := by decide +kernel
theorem dX4_tick_40 : decode cX4_tick 40 = .ok (.aload_n 0, 1) := by decide +kernel
theorem dX4_tick_41 : decode cX4_tick 41 = .ok (.getfield 29, 3) := by decide +kernel
theorem dX4_tick_44 : decode cX4_tick 44 = .ok (.iconst 1, 1) := by decide +kernel
theorem dX4_tick_45 : decode cX4_tick 45 = .ok (.if_icmp .ne 54, 3) := by decide +kernel
theorem dX4_tick_48 : decode cX4_tick 48 = .ok (.aload_n 0, 1) := by decide +kernel
theorem dX4_tick_49 : decode cX4_tick 49 = .ok (.getfield 21, 3) := by decide +kernel
theorem dX4_tick_52 : decode cX4_tick 52 = .ok (.aload_n 0, 1) := by decide +kernel
theorem dX4_tick_53 : decode cX4_tick 53 = .ok (.getfield 32, 3) := by decide +kernel
theorem dX4_tick_56 : decode cX4_tick 56 = .ok (.invokevirtual 68, 3) := by decide +kernel
theorem dX4_tick_59 : decode cX4_tick 59 = .ok (.aload_n 0, 1) := by decide +kernel
theorem dX4_tick_60 : decode cX4_tick 60 = .ok (.getfield 21, 3) := by decide +kernel
theorem dX4_tick_63 : decode cX4_tick 63 = .ok (.aload_n 0, 1) := by decide +kernel
theorem dX4_tick_64 : decode cX4_tick 64 = .ok (.getfield 12, 3) := by decide +kernel
theorem dX4_tick_67 : decode cX4_tick 67 = .ok (.getfield 72, 3) := by decide +kernel
theorem dX4_tick_70 : decode cX4_tick 70 = .ok (.invokevirtual 75, 3) := by decide +kernel
theorem dX4_tick_73 : decode cX4_tick 73 = .ok (.aload_n 0, 1) := by decide +kernel
theorem dX4_tick_74 : decode cX4_tick 74 = .ok (.getfield 21, 3) := by decide +kernel
theorem dX4_tick_77 : decode cX4_tick 77 = .ok (.dup, 1) := by decide +kernel
theorem dX4_tick_78 : decode cX4_tick 78 = .ok (.getfield 78, 3) := by decide +kernel
theorem dX4_tick_81 : decode cX4_tick 81 = .ok (.aload_n 2, 1) := by decide +kernel
theorem dX4_tick_82 : decode cX4_tick 82 = .ok (.aload_n 0, 1) := by decide +kernel
theorem dX4_tick_83 : decode cX4_tick 83 = .ok (.getfield 21, 3) := by decide +kernel
theorem dX4_tick_86 : decode cX4_tick 86 = .ok (.getfield 81, 3) := by decide +kernel
theorem dX4_tick_89 : decode cX4_tick 89 = .ok (.invokevirtual 84, 3) := by decide +kernel
theorem dX4_tick_92 : decode cX4_tick 92 = .ok (.iadd, 1) := by decide +kernel
theorem dX4_tick_93 : decode cX4_tick 93 = .ok (.putfield 78, 3) := by decide +kernel
theorem dX4_tick_96 : decode cX4_tick 96 = .ok (.goto 32, 3) := by decide +kernel
theorem dX4_tick_99 : decode cX4_tick 99 = .ok (.aload_n 0, 1) := by decide +kernel
theorem dX4_tick_100 : decode cX4_tick 100 = .ok (.getfield 29, 3) := by decide +kernel
theorem dX4_tick_103 : decode cX4_tick 103 = .ok (.iconst 2, 1) := by decide +kernel
theorem dX4_tick_104 : decode cX4_tick 104 = .ok (.if_icmp .ne 24, 3) := by decide +kernel
theorem dX4_tick_107 : decode cX4_tick 107 = .ok (.aload_n 0, 1) := by decide +kernel
theorem dX4_tick_108 : decode cX4_tick 108 = .ok (.getfield 21, 3) := by decide +kernel
theorem dX4_tick_111 : decode cX4_tick 111 = .ok (.aload_n 0, 1) := by decide +kernel
theorem dX4_tick_112 : decode cX4_tick 112 = .ok (.getfield 12, 3) := by decide +kernel
theorem dX4_tick_115 : decode cX4_tick 115 = .ok (.getfield 51, 3) := by decide +kernel
theorem dX4_tick_118 : decode cX4_tick 118 = .ok (.aload_n 0, 1) := by decide +kernel
theorem dX4_tick_119 : decode cX4_tick 119 = .ok (.getfield 12, 3) := by decide +kernel
theorem dX4_tick_122 : decode cX4_tick 122 = .ok (.getfield 90, 3) := by decide +kernel
theorem dX4_tick_125 : decode cX4_tick 125 = .ok (.invokevirtual 93, 3) := by decide +kernel
theorem dX4_tick_128 : decode cX4_tick 128 = .ok (.aload_n 0, 1) := by decide +kernel
theorem dX4_tick_129 : decode cX4_tick 129 = .ok (.invokevirtual 96, 3) := by decide +kernel
theorem dX4_tick_132 : decode cX4_tick 132 = .ok (.aload_n 0, 1) := by decide +kernel
theorem dX4_tick_133 : decode cX4_tick 133 = .ok (.getfield 29, 3) := by decide +kernel
theorem dX4_tick_136 : decode cX4_tick 136 = .ok (.iconst 1, 1) := by decide +kernel
theorem dX4_tick_137 : decode cX4_tick 137 = .ok (.if_icmp .ne 17, 3) := by decide +kernel
theorem dX4_tick_140 : decode cX4_tick 140 = .ok (.aload_n 0, 1) := by decide +kernel
theorem dX4_tick_141 : decode cX4_tick 141 = .ok (.getfield 21, 3) := by decide +kernel
theorem dX4_tick_144 : decode cX4_tick 144 = .ok (.aload_n 0, 1) := by decide +kernel
theorem dX4_tick_145 : decode cX4_tick 145 = .ok (.getfield 12, 3) := by decide +kernel
theorem dX4_tick_148 : decode cX4_tick 148 = .ok (.getfield 99, 3) := by decide +kernel
theorem dX4_tick_151 : decode cX4_tick 151 = .ok (.invokevirtual 102, 3) := by decide +kernel
theorem dX4_tick_154 : decode cX4_tick 154 = .ok (.return_, 1) := by decide +kernel
theorem dX4_steer_0 : decode cX4_steer 0 = .ok (.aload_n 0, 1) := by decide +kernel
theorem dX4_steer_1 : decode cX4_steer 1 = .ok (.getfield 12, 3) := by decide +kernel
theorem dX4_steer_4 : decode cX4_steer 4 = .ok (.getfield 105, 3) := by decide +kernel
theorem dX4_steer_7 : decode cX4_steer 7 = .ok (.iconst 1, 1) := by decide +kernel
theorem dX4_steer_8 : decode cX4_steer 8 = .ok (.if_icmp .ne 10, 3) := by decide +kernel
theorem dX4_steer_11 : decode cX4_steer 11 = .ok (.aload_n 1, 1) := by decide +kernel
theorem dX4_steer_12 : decode cX4_steer 12 = .ok (.getfield 108, 3) := by decide +kernel
theorem dX4_steer_15 : decode cX4_steer 15 = .ok (.ifCond .ne 4, 3) := by decide +kernel
theorem dX4_steer_18 : decode cX4_steer 18 = .ok (.return_, 1) := by decide +kernel
theorem dX4_steer_19 : decode cX4_steer 19 = .ok (.aload_n 1, 1) := by decide +kernel
theorem dX4_steer_20 : decode cX4_steer 20 = .ok (.aload_n 0, 1) := by decide +kernel
theorem dX4_steer_21 : decode cX4_steer 21 = .ok (.getfield 21, 3) := by decide +kernel
theorem dX4_steer_24 : decode cX4_steer 24 = .ok (.getfield 58, 3) := by decide +kernel
theorem dX4_steer_27 : decode cX4_steer 27 = .ok (.invokevirtual 111, 3) := by decide +kernel
theorem dX4_steer_30 : decode cX4_steer 30 = .ok (.aload_n 0, 1) := by decide +kernel
theorem dX4_steer_31 : decode cX4_steer 31 = .ok (.getfield 35, 3) := by decide +kernel
theorem dX4_steer_34 : decode cX4_steer 34 = .ok (.isub, 1) := by decide +kernel
theorem dX4_steer_35 : decode cX4_steer 35 = .ok (.istore_n 2, 1) := by decide +kernel
theorem dX4_steer_36 : decode cX4_steer 36 = .ok (.aload_n 0, 1) := by decide +kernel
theorem dX4_steer_37 : decode cX4_steer 37 = .ok (.aload_n 0, 1) := by decide +kernel
theorem dX4_steer_38 : decode cX4_steer 38 = .ok (.getfield 41, 3) := by decide +kernel
theorem dX4_steer_41 : decode cX4_steer 41 = .ok (.iload_n 2, 1) := by decide +kernel
theorem dX4_steer_42 : decode cX4_steer 42 = .ok (.iadd, 1) := by decide +kernel
theorem dX4_steer_43 : decode cX4_steer 43 = .ok (.sipush (-20000), 3) := by decide +kernel
theorem dX4_steer_46 : decode cX4_steer 46 = .ok (.sipush 20000, 3) := by decide +kernel
theorem dX4_steer_49 : decode cX4_steer 49 = .ok (.invokestatic 114, 3) := by decide +kernel
theorem dX4_steer_52 : decode cX4_steer 52 = .ok (.putfield 41, 3) := by decide +kernel
theorem dX4_steer_55 : decode cX4_steer 55 = .ok (.aload_n 0, 1) := by decide +kernel
theorem dX4_steer_56 : decode cX4_steer 56 = .ok (.getfield 12, 3) := by decide +kernel
theorem dX4_steer_59 : decode cX4_steer 59 = .ok (.getfield 118, 3) := by decide +kernel
theorem dX4_steer_62 : decode cX4_steer 62 = .ok (.aload_n 0, 1) := by decide +kernel
theorem dX4_steer_63 : decode cX4_steer 63 = .ok (.getfield 12, 3) := by decide +kernel
theorem dX4_steer_66 : decode cX4_steer 66 = .ok (.getfield 121, 3) := by decide +kernel
theorem dX4_steer_69 : decode cX4_steer 69 = .ok (.iload_n 2, 1) := by decide +kernel
theorem dX4_steer_70 : decode cX4_steer 70 = .ok (.imul, 1) := by decide +kernel
theorem dX4_steer_71 : decode cX4_steer 71 = .ok (.bipush 100, 2) := by decide +kernel
theorem dX4_steer_73 : decode cX4_steer 73 = .ok (.invokestatic 124, 3) := by decide +kernel
theorem dX4_steer_76 : decode cX4_steer 76 = .ok (.iadd, 1) := by decide +kernel
theorem dX4_steer_77 : decode cX4_steer 77 = .ok (.aload_n 0, 1) := by decide +kernel
theorem dX4_steer_78 : decode cX4_steer 78 = .ok (.getfield 12, 3) := by decide +kernel
theorem dX4_steer_81 : decode cX4_steer 81 = .ok (.getfield 130, 3) := by decide +kernel
theorem dX4_steer_84 : decode cX4_steer 84 = .ok (.aload_n 0, 1) := by decide +kernel
theorem dX4_steer_85 : decode cX4_steer 85 = .ok (.getfield 41, 3) := by decide +kernel
theorem dX4_steer_88 : decode cX4_steer 88 = .ok (.imul, 1) := by decide +kernel
theorem dX4_steer_89 : decode cX4_steer 89 = .ok (.sipush 1000, 3) := by decide +kernel
theorem dX4_steer_92 : decode cX4_steer 92 = .ok (.invokestatic 124, 3) := by decide +kernel
theorem dX4_steer_95 : decode cX4_steer 95 = .ok (.iadd, 1) := by decide +kernel
theorem dX4_steer_96 : decode cX4_steer 96 = .ok (.istore_n 3, 1) := by decide +kernel
theorem dX4_steer_97 : decode cX4_steer 97 = .ok (.aload_n 0, 1) := by decide +kernel
theorem dX4_steer_98 : decode cX4_steer 98 = .ok (.iload_n 3, 1) := by decide +kernel
theorem dX4_steer_99 : decode cX4_steer 99 = .ok (.iconst 0, 1) := by decide +kernel
theorem dX4_steer_100 : decode cX4_steer 100 = .ok (.bipush 100, 2) := by decide +kernel
theorem dX4_steer_102 : decode cX4_steer 102 = .ok (.invokestatic 114, 3) := by decide +kernel
theorem dX4_steer_105 : decode cX4_steer 105 = .ok (.putfield 38, 3) := by decide +kernel
theorem dX4_steer_108 : decode cX4_steer 108 = .ok (.return_, 1) := by decide +kernel
theorem dX4_moveDrum_0 : decode cX4_moveDrum 0 = .ok (.aload_n 0, 1) := by decide +kernel
theorem dX4_moveDrum_1 : decode cX4_moveDrum 1 = .ok (.getfield 32, 3) := by decide +kernel
theorem dX4_moveDrum_4 : decode cX4_moveDrum 4 = .ok (.istore_n 1, 1) := by decide +kernel
theorem dX4_moveDrum_5 : decode cX4_moveDrum 5 = .ok (.iload_n 1, 1) := by decide +kernel
theorem dX4_moveDrum_6 : decode cX4_moveDrum 6 = .ok (.aload_n 0, 1) := by decide +kernel
theorem dX4_moveDrum_7 : decode cX4_moveDrum 7 = .ok (.getfield 12, 3) := by decide +kernel
theorem dX4_moveDrum_10 : decode cX4_moveDrum 10 = .ok (.getfield 51, 3) := by decide +kernel
theorem dX4_moveDrum_13 : decode cX4_moveDrum 13 = .ok (.isub, 1) := by decide +kernel
theorem dX4_moveDrum_14 : decode cX4_moveDrum 14 = .ok (.iconst 5, 1) := by decide +kernel
theorem dX4_moveDrum_15 : decode cX4_moveDrum 15 = .ok (.invokestatic 124, 3) := by decide +kernel
theorem dX4_moveDrum_18 : decode cX4_moveDrum 18 = .ok (.istore_n 2, 1) := by decide +kernel
theorem dX4_moveDrum_19 : decode cX4_moveDrum 19 = .ok (.aload_n 0, 1) := by decide +kernel
theorem dX4_moveDrum_20 : decode cX4_moveDrum 20 = .ok (.iload_n 1, 1) := by decide +kernel
theorem dX4_moveDrum_21 : decode cX4_moveDrum 21 = .ok (.bipush 8, 2) := by decide +kernel
theorem dX4_moveDrum_23 : decode cX4_moveDrum 23 = .ok (.aload_n 0, 1) := by decide +kernel
theorem dX4_moveDrum_24 : decode cX4_moveDrum 24 = .ok (.getfield 38, 3) := by decide +kernel
theorem dX4_moveDrum_27 : decode cX4_moveDrum 27 = .ok (.imul, 1) := by decide +kernel
theorem dX4_moveDrum_28 : decode cX4_moveDrum 28 = .ok (.iload_n 2, 1) := by decide +kernel
theorem dX4_moveDrum_29 : decode cX4_moveDrum 29 = .ok (.isub, 1) := by decide +kernel
theorem dX4_moveDrum_30 : decode cX4_moveDrum 30 = .ok (.bipush 10, 2) := by decide +kernel
theorem dX4_moveDrum_32 : decode cX4_moveDrum 32 = .ok (.invokestatic 124, 3) := by decide +kernel
theorem dX4_moveDrum_35 : decode cX4_moveDrum 35 = .ok (.iadd, 1) := by decide +kernel
theorem dX4_moveDrum_36 : decode cX4_moveDrum 36 = .ok (.putfield 32, 3) := by decide +kernel
theorem dX4_moveDrum_39 : decode cX4_moveDrum 39 = .ok (.aload_n 0, 1) := by decide +kernel
theorem dX4_moveDrum_40 : decode cX4_moveDrum 40 = .ok (.getfield 29, 3) := by decide +kernel
theorem dX4_moveDrum_43 : decode cX4_moveDrum 43 = .ok (.iconst 1, 1) := by decide +kernel
theorem dX4_moveDrum_44 : decode cX4_moveDrum 44 = .ok (.if_icmp .ne 35, 3) := by decide +kernel
theorem dX4_moveDrum_47 : decode cX4_moveDrum 47 = .ok (.aload_n 0, 1) := by decide +kernel
theorem dX4_moveDrum_48 : decode cX4_moveDrum 48 = .ok (.dup, 1) := by decide +kernel
theorem dX4_moveDrum_49 : decode cX4_moveDrum 49 = .ok (.getfield 32, 3) := by decide +kernel
theorem dX4_moveDrum_52 : decode cX4_moveDrum 52 = .ok (.iload_n 1, 1) := by decide +kernel
theorem dX4_moveDrum_53 : decode cX4_moveDrum 53 = .ok (.aload_n 0, 1) := by decide +kernel
theorem dX4_moveDrum_54 : decode cX4_moveDrum 54 = .ok (.getfield 21, 3) := by decide +kernel
theorem dX4_moveDrum_57 : decode cX4_moveDrum 57 = .ok (.getfield 81, 3) := by decide +kernel
theorem dX4_moveDrum_60 : decode cX4_moveDrum 60 = .ok (.isub, 1) := by decide +kernel
theorem dX4_moveDrum_61 : decode cX4_moveDrum 61 = .ok (.aload_n 0, 1) := by decide +kernel
theorem dX4_moveDrum_62 : decode cX4_moveDrum 62 = .ok (.getfield 21, 3) := by decide +kernel
theorem dX4_moveDrum_65 : decode cX4_moveDrum 65 = .ok (.getfield 133, 3) := by decide +kernel
theorem dX4_moveDrum_68 : decode cX4_moveDrum 68 = .ok (.imul, 1) := by decide +kernel
theorem dX4_moveDrum_69 : decode cX4_moveDrum 69 = .ok (.sipush 20000, 3) := by decide +kernel
theorem dX4_moveDrum_72 : decode cX4_moveDrum 72 = .ok (.invokestatic 124, 3) := by decide +kernel
theorem dX4_moveDrum_75 : decode cX4_moveDrum 75 = .ok (.isub, 1) := by decide +kernel
theorem dX4_moveDrum_76 : decode cX4_moveDrum 76 = .ok (.putfield 32, 3) := by decide +kernel
theorem dX4_moveDrum_79 : decode cX4_moveDrum 79 = .ok (.return_, 1) := by decide +kernel
theorem dX4_moveProbe_0 : decode cX4_moveProbe 0 = .ok (.aload_n 0, 1) := by decide +kernel
theorem dX4_moveProbe_1 : decode cX4_moveProbe 1 = .ok (.getfield 29, 3) := by decide +kernel
theorem dX4_moveProbe_4 : decode cX4_moveProbe 4 = .ok (.iconst 1, 1) := by decide +kernel
theorem dX4_moveProbe_5 : decode cX4_moveProbe 5 = .ok (.if_icmp .ne 13, 3) := by decide +kernel
theorem dX4_moveProbe_8 : decode cX4_moveProbe 8 = .ok (.aload_n 0, 1) := by decide +kernel
theorem dX4_moveProbe_9 : decode cX4_moveProbe 9 = .ok (.getfield 21, 3) := by decide +kernel
theorem dX4_moveProbe_12 : decode cX4_moveProbe 12 = .ok (.getfield 81, 3) := by decide +kernel
theorem dX4_moveProbe_15 : decode cX4_moveProbe 15 = .ok (.goto 7, 3) := by decide +kernel
theorem dX4_moveProbe_18 : decode cX4_moveProbe 18 = .ok (.aload_n 0, 1) := by decide +kernel
theorem dX4_moveProbe_19 : decode cX4_moveProbe 19 = .ok (.getfield 32, 3) := by decide +kernel
theorem dX4_moveProbe_22 : decode cX4_moveProbe 22 = .ok (.istore_n 1, 1) := by decide +kernel
theorem dX4_moveProbe_23 : decode cX4_moveProbe 23 = .ok (.aload_n 0, 1) := by decide +kernel
theorem dX4_moveProbe_24 : decode cX4_moveProbe 24 = .ok (.dup, 1) := by decide +kernel
theorem dX4_moveProbe_25 : decode cX4_moveProbe 25 = .ok (.getfield 35, 3) := by decide +kernel
theorem dX4_moveProbe_28 : decode cX4_moveProbe 28 = .ok (.iload_n 1, 1) := by decide +kernel
theorem dX4_moveProbe_29 : decode cX4_moveProbe 29 = .ok (.aload_n 0, 1) := by decide +kernel
theorem dX4_moveProbe_30 : decode cX4_moveProbe 30 = .ok (.getfield 35, 3) := by decide +kernel
theorem dX4_moveProbe_33 : decode cX4_moveProbe 33 = .ok (.isub, 1) := by decide +kernel
theorem dX4_moveProbe_34 : decode cX4_moveProbe 34 = .ok (.i2l, 1) := by decide +kernel
theorem dX4_moveProbe_35 : decode cX4_moveProbe 35 = .ok (.aload_n 0, 1) := by decide +kernel
theorem dX4_moveProbe_36 : decode cX4_moveProbe 36 = .ok (.getfield 12, 3) := by decide +kernel
theorem dX4_moveProbe_39 : decode cX4_moveProbe 39 = .ok (.getfield 136, 3) := by decide +kernel
theorem dX4_moveProbe_42 : decode cX4_moveProbe 42 = .ok (.i2l, 1) := by decide +kernel
theorem dX4_moveProbe_43 : decode cX4_moveProbe 43 = .ok (.invokestatic 139, 3) := by decide +kernel
theorem dX4_moveProbe_46 : decode cX4_moveProbe 46 = .ok (.l2i, 1) := by decide +kernel
theorem dX4_moveProbe_47 : decode cX4_moveProbe 47 = .ok (.iadd, 1) := by decide +kernel
theorem dX4_moveProbe_48 : decode cX4_moveProbe 48 = .ok (.putfield 35, 3) := by decide +kernel
theorem dX4_moveProbe_51 : decode cX4_moveProbe 51 = .ok (.return_, 1) := by decide +kernel
theorem dX5_init_0 : decode cX5_init 0 = .ok (.aload_n 0, 1) := by decide +kernel
theorem dX5_init_1 : decode cX5_init 1 = .ok (.invokespecial 1, 3) := by decide +kernel
theorem dX5_init_4 : decode cX5_init 4 = .ok (.aload_n 0, 1) := by decide +kernel
theorem dX5_init_5 : decode cX5_init 5 = .ok (.sipush 250, 3) := by decide +kernel
theorem dX5_init_8 : decode cX5_init 8 = .ok (.putfield 7, 3) := by decide +kernel
theorem dX5_init_11 : decode cX5_init 11 = .ok (.aload_n 0, 1) := by decide +kernel
theorem dX5_init_12 : decode cX5_init 12 = .ok (.iconst 0, 1) := by decide +kernel
theorem dX5_init_13 : decode cX5_init 13 = .ok (.putfield 13, 3) := by decide +kernel
theorem dX5_init_16 : decode cX5_init 16 = .ok (.aload_n 0, 1) := by decide +kernel
theorem dX5_init_17 : decode cX5_init 17 = .ok (.bipush 50, 2) := by decide +kernel
theorem dX5_init_19 : decode cX5_init 19 = .ok (.putfield 16, 3) := by decide +kernel
theorem dX5_init_22 : decode cX5_init 22 = .ok (.aload_n 0, 1) := by decide +kernel
theorem dX5_init_23 : decode cX5_init 23 = .ok (.iconst 5, 1) := by decide +kernel
theorem dX5_init_24 : decode cX5_init 24 = .ok (.putfield 19, 3) := by decide +kernel
theorem dX5_init_27 : decode cX5_init 27 = .ok (.aload_n 0, 1) := by decide +kernel
theorem dX5_init_28 : decode cX5_init 28 = .ok (.bipush 50, 2) := by decide +kernel
theorem dX5_init_30 : decode cX5_init 30 = .ok (.putfield 22, 3) := by decide +kernel
theorem dX5_init_33 : decode cX5_init 33 = .ok (.aload_n 0, 1) := by decide +kernel
theorem dX5_init_34 : decode cX5_init 34 = .ok (.iconst 4, 1) := by decide +kernel
theorem dX5_init_35 : decode cX5_init 35 = .ok (.putfield 25, 3) := by decide +kernel
theorem dX5_init_38 : decode cX5_init 38 = .ok (.aload_n 0, 1) := by decide +kernel
theorem dX5_init_39 : decode cX5_init 39 = .ok (.iconst 0, 1) := by decide +kernel
theorem dX5_init_40 : decode cX5_init 40 = .ok (.putfield 28, 3) := by decide +kernel
theorem dX5_init_43 : decode cX5_init 43 = .ok (.aload_n 0, 1) := by decide +kernel
theorem dX5_init_44 : decode cX5_init 44 = .ok (.sipush 1960, 3) := by decide +kernel
theorem dX5_init_47 : decode cX5_init 47 = .ok (.putfield 31, 3) := by decide +kernel
theorem dX5_init_50 : decode cX5_init 50 = .ok (.aload_n 0, 1) := by decide +kernel
theorem dX5_init_51 : decode cX5_init 51 = .ok (.bipush 30, 2) := by decide +kernel
theorem dX5_init_53 : decode cX5_init 53 = .ok (.putfield 34, 3) := by decide +kernel
theorem dX5_init_56 : decode cX5_init 56 = .ok (.aload_n 0, 1) := by decide +kernel
theorem dX5_init_57 : decode cX5_init 57 = .ok (.bipush 10, 2) := by decide +kernel
theorem dX5_init_59 : decode cX5_init 59 = .ok (.putfield 37, 3) := by decide +kernel
theorem dX5_init_62 : decode cX5_init 62 = .ok (.return_, 1) := by decide +kernel
theorem dX5_copyFrom_0 : decode cX5_copyFrom 0 = .ok (.aload_n 0, 1) := by decide +kernel
theorem dX5_copyFrom_1 : decode cX5_copyFrom 1 = .ok (.aload_n 1, 1) := by decide +kernel
theorem dX5_copyFrom_2 : decode cX5_copyFrom 2 = .ok (.getfield 7, 3) := by decide +kernel
theorem dX5_copyFrom_5 : decode cX5_copyFrom 5 = .ok (.putfield 7, 3) := by decide +kernel
theorem dX5_copyFrom_8 : decode cX5_copyFrom 8 = .ok (.aload_n 0, 1) := by decide +kernel
theorem dX5_copyFrom_9 : decode cX5_copyFrom 9 = .ok (.aload_n 1, 1) := by decide +kernel
theorem dX5_copyFrom_10 : decode cX5_copyFrom 10 = .ok (.getfield 13, 3) := by decide +kernel
theorem dX5_copyFrom_13 : decode cX5_copyFrom 13 = .ok (.putfield 13, 3) := by decide +kernel
theorem dX5_copyFrom_16 : decode cX5_copyFrom 16 = .ok (.aload_n 0, 1) := by decide +kernel
theorem dX5_copyFrom_17 : decode cX5_copyFrom 17 = .ok (.aload_n 1, 1) := by decide +kernel
theorem dX5_copyFrom_18 : decode cX5_copyFrom 18 = .ok (.getfield 16, 3) := by decide +kernel
theorem dX5_copyFrom_21 : decode cX5_copyFrom 21 = .ok (.putfield 16, 3) := by decide +kernel
theorem dX5_copyFrom_24 : decode cX5_copyFrom 24 = .ok (.aload_n 0, 1) := by decide +kernel
theorem dX5_copyFrom_25 : decode cX5_copyFrom 25 = .ok (.aload_n 1, 1) := by decide +kernel
theorem dX5_copyFrom_26 : decode cX5_copyFrom 26 = .ok (.getfield 19, 3) := by decide +kernel
theorem dX5_copyFrom_29 : decode cX5_copyFrom 29 = .ok (.putfield 19, 3) := by decide +kernel
theorem dX5_copyFrom_32 : decode cX5_copyFrom 32 = .ok (.aload_n 0, 1) := by decide +kernel
theorem dX5_copyFrom_33 : decode cX5_copyFrom 33 = .ok (.aload_n 1, 1) := by decide +kernel
theorem dX5_copyFrom_34 : decode cX5_copyFrom 34 = .ok (.getfield 22, 3) := by decide +kernel
theorem dX5_copyFrom_37 : decode cX5_copyFrom 37 = .ok (.putfield 22, 3) := by decide +kernel
theorem dX5_copyFrom_40 : decode cX5_copyFrom 40 = .ok (.aload_n 0, 1) := by decide +kernel
theorem dX5_copyFrom_41 : decode cX5_copyFrom 41 = .ok (.aload_n 1, 1) := by decide +kernel
theorem dX5_copyFrom_42 : decode cX5_copyFrom 42 = .ok (.getfield 25, 3) := by decide +kernel
theorem dX5_copyFrom_45 : decode cX5_copyFrom 45 = .ok (.putfield 25, 3) := by decide +kernel
theorem dX5_copyFrom_48 : decode cX5_copyFrom 48 = .ok (.aload_n 0, 1) := by decide +kernel
theorem dX5_copyFrom_49 : decode cX5_copyFrom 49 = .ok (.aload_n 1, 1) := by decide +kernel
theorem dX5_copyFrom_50 : decode cX5_copyFrom 50 = .ok (.getfield 28, 3) := by decide +kernel
theorem dX5_copyFrom_53 : decode cX5_copyFrom 53 = .ok (.putfield 28, 3) := by decide +kernel
theorem dX5_copyFrom_56 : decode cX5_copyFrom 56 = .ok (.aload_n 0, 1) := by decide +kernel
theorem dX5_copyFrom_57 : decode cX5_copyFrom 57 = .ok (.aload_n 1, 1) := by decide +kernel
theorem dX5_copyFrom_58 : decode cX5_copyFrom 58 = .ok (.getfield 31, 3) := by decide +kernel
theorem dX5_copyFrom_61 : decode cX5_copyFrom 61 = .ok (.putfield 31, 3) := by decide +kernel
theorem dX5_copyFrom_64 : decode cX5_copyFrom 64 = .ok (.aload_n 0, 1) := by decide +kernel
theorem dX5_copyFrom_65 : decode cX5_copyFrom 65 = .ok (.aload_n 1, 1) := by decide +kernel
theorem dX5_copyFrom_66 : decode cX5_copyFrom 66 = .ok (.getfield 34, 3) := by decide +kernel
theorem dX5_copyFrom_69 : decode cX5_copyFrom 69 = .ok (.putfield 34, 3) := by decide +kernel
theorem dX5_copyFrom_72 : decode cX5_copyFrom 72 = .ok (.aload_n 0, 1) := by decide +kernel
theorem dX5_copyFrom_73 : decode cX5_copyFrom 73 = .ok (.aload_n 1, 1) := by decide +kernel
theorem dX5_copyFrom_74 : decode cX5_copyFrom 74 = .ok (.getfield 37, 3) := by decide +kernel
theorem dX5_copyFrom_77 : decode cX5_copyFrom 77 = .ok (.putfield 37, 3) := by decide +kernel
theorem dX5_copyFrom_80 : decode cX5_copyFrom 80 = .ok (.return_, 1) := by decide +kernel
theorem dX6_init_0 : decode cX6_init 0 = .ok (.aload_n 0, 1) := by decide +kernel
theorem dX6_init_1 : decode cX6_init 1 = .ok (.invokespecial 1, 3) := by decide +kernel
theorem dX6_init_4 : decode cX6_init 4 = .ok (.aload_n 0, 1) := by decide +kernel
theorem dX6_init_5 : decode cX6_init 5 = .ok (.iconst 0, 1) := by decide +kernel
theorem dX6_init_6 : decode cX6_init 6 = .ok (.putfield 7, 3) := by decide +kernel
theorem dX6_init_9 : decode cX6_init 9 = .ok (.aload_n 0, 1) := by decide +kernel
theorem dX6_init_10 : decode cX6_init 10 = .ok (.iload_n 1, 1) := by decide +kernel
theorem dX6_init_11 : decode cX6_init 11 = .ok (.iconst 0, 1) := by decide +kernel
theorem dX6_init_12 : decode cX6_init 12 = .ok (.invokestatic 13, 3) := by decide +kernel
theorem dX6_init_15 : decode cX6_init 15 = .ok (.newarray .int, 2) := by decide +kernel
theorem dX6_init_17 : decode cX6_init 17 = .ok (.putfield 19, 3) := by decide +kernel
theorem dX6_init_20 : decode cX6_init 20 = .ok (.aload_n 0, 1) := by decide +kernel
theorem dX6_init_21 : decode cX6_init 21 = .ok (.iload_n 1, 1) := by decide +kernel
theorem dX6_init_22 : decode cX6_init 22 = .ok (.iconst 0, 1) := by decide +kernel
theorem dX6_init_23 : decode cX6_init 23 = .ok (.invokestatic 13, 3) := by decide +kernel
theorem dX6_init_26 : decode cX6_init 26 = .ok (.newarray .int, 2) := by decide +kernel
theorem dX6_init_28 : decode cX6_init 28 = .ok (.putfield 23, 3) := by decide +kernel
theorem dX6_init_31 : decode cX6_init 31 = .ok (.return_, 1) := by decide +kernel
theorem dX6_copyFrom_0 : decode cX6_copyFrom 0 = .ok (.aload_n 1, 1) := by decide +kernel
theorem dX6_copyFrom_1 : decode cX6_copyFrom 1 = .ok (.getfield 19, 3) := by decide +kernel
theorem dX6_copyFrom_4 : decode cX6_copyFrom 4 = .ok (.aload_n 0, 1) := by decide +kernel
theorem dX6_copyFrom_5 : decode cX6_copyFrom 5 = .ok (.getfield 19, 3) := by decide +kernel
theorem dX6_copyFrom_8 : decode cX6_copyFrom 8 = .ok (.invokestatic 26, 3) := by decide +kernel
theorem dX6_copyFrom_11 : decode cX6_copyFrom 11 = .ok (.aload_n 1, 1) := by decide +kernel
theorem dX6_copyFrom_12 : decode cX6_copyFrom 12 = .ok (.getfield 23, 3) := by decide +kernel
theorem dX6_copyFrom_15 : decode cX6_copyFrom 15 = .ok (.aload_n 0, 1) := by decide +kernel
theorem dX6_copyFrom_16 : decode cX6_copyFrom 16 = .ok (.getfield 23, 3) := by decide +kernel
theorem dX6_copyFrom_19 : decode cX6_copyFrom 19 = .ok (.invokestatic 26, 3) := by decide +kernel
theorem dX6_copyFrom_22 : decode cX6_copyFrom 22 = .ok (.aload_n 0, 1) := by decide +kernel
theorem dX6_copyFrom_23 : decode cX6_copyFrom 23 = .ok (.aload_n 1, 1) := by decide +kernel
theorem dX6_copyFrom_24 : decode cX6_copyFrom 24 = .ok (.getfield 7, 3) := by decide +kernel
theorem dX6_copyFrom_27 : decode cX6_copyFrom 27 = .ok (.aload_n 0, 1) := by decide +kernel
theorem dX6_copyFrom_28 : decode cX6_copyFrom 28 = .ok (.getfield 19, 3) := by decide +kernel
theorem dX6_copyFrom_31 : decode cX6_copyFrom 31 = .ok (.arraylength, 1) := by decide +kernel
theorem dX6_copyFrom_32 : decode cX6_copyFrom 32 = .ok (.invokestatic 32, 3) := by decide +kernel
theorem dX6_copyFrom_35 : decode cX6_copyFrom 35 = .ok (.putfield 7, 3) := by decide +kernel
theorem dX6_copyFrom_38 : decode cX6_copyFrom 38 = .ok (.return_, 1) := by decide +kernel
theorem dX6_indexBelow_0 : decode cX6_indexBelow 0 = .ok (.iconst (-1), 1) := by decide +kernel
theorem dX6_indexBelow_1 : decode cX6_indexBelow 1 = .ok (.istore_n 2, 1) := by decide +kernel
theorem dX6_indexBelow_2 : decode cX6_indexBelow 2 = .ok (.iconst 0, 1) := by decide +kernel
theorem dX6_indexBelow_3 : decode cX6_indexBelow 3 = .ok (.istore_n 3, 1) := by decide +kernel
theorem dX6_indexBelow_4 : decode cX6_indexBelow 4 = .ok (.iload_n 3, 1) := by decide +kernel
theorem dX6_indexBelow_5 : decode cX6_indexBelow 5 = .ok (.aload_n 0, 1) := by decide +kernel
theorem dX6_indexBelow_6 : decode cX6_indexBelow 6 = .ok (.getfield 7, 3) := by decide +kernel
theorem dX6_indexBelow_9 : decode cX6_indexBelow 9 = .ok (.if_icmp .ge 23, 3) := by decide +kernel
theorem dX6_indexBelow_12 : decode cX6_indexBelow 12 = .ok (.aload_n 0, 1) := by decide +kernel
theorem dX6_indexBelow_13 : decode cX6_indexBelow 13 = .ok (.getfield 19, 3) := by decide +kernel
theorem dX6_indexBelow_16 : decode cX6_indexBelow 16 = .ok (.iload_n 3, 1) := by decide +kernel
theorem dX6_indexBelow_17 : decode cX6_indexBelow 17 = .ok (.invokestatic 35, 3) := by decide +kernel
theorem dX6_indexBelow_20 : decode cX6_indexBelow 20 = .ok (.iload_n 1, 1) := by decide +kernel
theorem dX6_indexBelow_21 : decode cX6_indexBelow 21 = .ok (.if_icmp .gt 11, 3) := by decide +kernel
theorem dX6_indexBelow_24 : decode cX6_indexBelow 24 = .ok (.iload_n 3, 1) := by decide +kernel
theorem dX6_indexBelow_25 : decode cX6_indexBelow 25 = .ok (.istore_n 2, 1) := by decide +kernel
theorem dX6_indexBelow_26 : decode cX6_indexBelow 26 = .ok (.iinc 3 1, 3) := by decide +kernel
theorem dX6_indexBelow_29 : decode cX6_indexBelow 29 = .ok (.goto (-25), 3) := by decide +kernel
theorem dX6_indexBelow_32 : decode cX6_indexBelow 32 = .ok (.iload_n 2, 1) := by decide +kernel
theorem dX6_indexBelow_33 : decode cX6_indexBelow 33 = .ok (.ireturn, 1) := by decide +kernel
theorem dX6_has_0 : decode cX6_has 0 = .ok (.aload_n 0, 1) := by decide +kernel
theorem dX6_has_1 : decode cX6_has 1 = .ok (.iload_n 1, 1) := by decide +kernel
theorem dX6_has_2 : decode cX6_has 2 = .ok (.invokevirtual 39, 3) := by decide +kernel
theorem dX6_has_5 : decode cX6_has 5 = .ok (.istore_n 2, 1) := by decide +kernel
theorem dX6_has_6 : decode cX6_has 6 = .ok (.iload_n 2, 1) := by decide +kernel
theorem dX6_has_7 : decode cX6_has 7 = .ok (.ifCond .lt 19, 3) := by decide +kernel
theorem dX6_has_10 : decode cX6_has 10 = .ok (.aload_n 0, 1) := by decide +kernel
theorem dX6_has_11 : decode cX6_has 11 = .ok (.getfield 19, 3) := by decide +kernel
theorem dX6_has_14 : decode cX6_has 14 = .ok (.iload_n 2, 1) := by decide +kernel
theorem dX6_has_15 : decode cX6_has 15 = .ok (.invokestatic 35, 3) := by decide +kernel
theorem dX6_has_18 : decode cX6_has 18 = .ok (.iload_n 1, 1) := by decide +kernel
theorem dX6_has_19 : decode cX6_has 19 = .ok (.if_icmp .ne 7, 3) := by decide +kernel
theorem dX6_has_22 : decode cX6_has 22 = .ok (.iconst 1, 1) := by decide +kernel
theorem dX6_has_23 : decode cX6_has 23 = .ok (.goto 4, 3) := by decide +kernel
theorem dX6_has_26 : decode cX6_has 26 = .ok (.iconst 0, 1) := by decide +kernel
theorem dX6_has_27 : decode cX6_has 27 = .ok (.ireturn, 1) := by decide +kernel
theorem dX6_hasRoomFor_0 : decode cX6_hasRoomFor 0 = .ok (.aload_n 0, 1) := by decide +kernel
theorem dX6_hasRoomFor_1 : decode cX6_hasRoomFor 1 = .ok (.getfield 7, 3) := by decide +kernel
theorem dX6_hasRoomFor_4 : decode cX6_hasRoomFor 4 = .ok (.aload_n 0, 1) := by decide +kernel
theorem dX6_hasRoomFor_5 : decode cX6_hasRoomFor 5 = .ok (.getfield 19, 3) := by decide +kernel
theorem dX6_hasRoomFor_8 : decode cX6_hasRoomFor 8 = .ok (.arraylength, 1) := by decide +kernel
theorem dX6_hasRoomFor_9 : decode cX6_hasRoomFor 9 = .ok (.if_icmp .lt 11, 3) := by decide +kernel
theorem dX6_hasRoomFor_12 : decode cX6_hasRoomFor 12 = .ok (.aload_n 0, 1) := by decide +kernel
theorem dX6_hasRoomFor_13 : decode cX6_hasRoomFor 13 = .ok (.iload_n 1, 1) := by decide +kernel
theorem dX6_hasRoomFor_14 : decode cX6_hasRoomFor 14 = .ok (.invokevirtual 43, 3) := by decide +kernel
theorem dX6_hasRoomFor_17 : decode cX6_hasRoomFor 17 = .ok (.ifCond .eq 7, 3) := by decide +kernel
theorem dX6_hasRoomFor_20 : decode cX6_hasRoomFor 20 = .ok (.iconst 1, 1) := by decide +kernel
theorem dX6_hasRoomFor_21 : decode cX6_hasRoomFor 21 = .ok (.goto 4, 3) := by decide +kernel
theorem dX6_hasRoomFor_24 : decode cX6_hasRoomFor 24 = .ok (.iconst 0, 1) := by decide +kernel
theorem dX6_hasRoomFor_25 : decode cX6_hasRoomFor 25 = .ok (.ireturn, 1) := by decide +kernel
theorem dX6_set_0 : decode cX6_set 0 = .ok (.aload_n 0, 1) := by decide +kernel
theorem dX6_set_1 : decode cX6_set 1 = .ok (.iload_n 1, 1) := by decide +kernel
theorem dX6_set_2 : decode cX6_set 2 = .ok (.invokevirtual 39, 3) := by decide +kernel
theorem dX6_set_5 : decode cX6_set 5 = .ok (.istore_n 3, 1) := by decide +kernel
theorem dX6_set_6 : decode cX6_set 6 = .ok (.iload_n 3, 1) := by decide +kernel
theorem dX6_set_7 : decode cX6_set 7 = .ok (.ifCond .lt 27, 3) := by decide +kernel
theorem dX6_set_10 : decode cX6_set 10 = .ok (.aload_n 0, 1) := by decide +kernel
theorem dX6_set_11 : decode cX6_set 11 = .ok (.getfield 19, 3) := by decide +kernel
theorem dX6_set_14 : decode cX6_set 14 = .ok (.iload_n 3, 1) := by decide +kernel
theorem dX6_set_15 : decode cX6_set 15 = .ok (.invokestatic 35, 3) := by decide +kernel
theorem dX6_set_18 : decode cX6_set 18 = .ok (.iload_n 1, 1) := by decide +kernel
theorem dX6_set_19 : decode cX6_set 19 = .ok (.if_icmp .ne 15, 3) := by decide +kernel
theorem dX6_set_22 : decode cX6_set 22 = .ok (.aload_n 0, 1) := by decide +kernel
theorem dX6_set_23 : decode cX6_set 23 = .ok (.getfield 23, 3) := by decide +kernel
theorem dX6_set_26 : decode cX6_set 26 = .ok (.iload_n 3, 1) := by decide +kernel
theorem dX6_set_27 : decode cX6_set 27 = .ok (.iload_n 2, 1) := by decide +kernel
theorem dX6_set_28 : decode cX6_set 28 = .ok (.invokestatic 47, 3) := by decide +kernel
theorem dX6_set_31 : decode cX6_set 31 = .ok (.goto 24, 3) := by decide +kernel
theorem dX6_set_34 : decode cX6_set 34 = .ok (.aload_n 0, 1) := by decide +kernel
theorem dX6_set_35 : decode cX6_set 35 = .ok (.getfield 7, 3) := by decide +kernel
theorem dX6_set_38 : decode cX6_set 38 = .ok (.aload_n 0, 1) := by decide +kernel
theorem dX6_set_39 : decode cX6_set 39 = .ok (.getfield 19, 3) := by decide +kernel
theorem dX6_set_42 : decode cX6_set 42 = .ok (.arraylength, 1) := by decide +kernel
theorem dX6_set_43 : decode cX6_set 43 = .ok (.if_icmp .ge 12, 3) := by decide +kernel
theorem dX6_set_46 : decode cX6_set 46 = .ok (.aload_n 0, 1) := by decide +kernel
theorem dX6_set_47 : decode cX6_set 47 = .ok (.iload_n 3, 1) := by decide +kernel
theorem dX6_set_48 : decode cX6_set 48 = .ok (.iconst 1, 1) := by decide +kernel
theorem dX6_set_49 : decode cX6_set 49 = .ok (.iadd, 1) := by decide +kernel
theorem dX6_set_50 : decode cX6_set 50 = .ok (.iload_n 1, 1) := by decide +kernel
theorem dX6_set_51 : decode cX6_set 51 = .ok (.iload_n 2, 1) := by decide +kernel
theorem dX6_set_52 : decode cX6_set 52 = .ok (.invokevirtual 51, 3) := by decide +kernel
theorem dX6_set_55 : decode cX6_set 55 = .ok (.return_, 1) := by decide +kernel
theorem dX6_insert_0 : decode cX6_insert 0 = .ok (.aload_n 0, 1) := by decide +kernel
theorem dX6_insert_1 : decode cX6_insert 1 = .ok (.getfield 7, 3) := by decide +kernel
theorem dX6_insert_4 : decode cX6_insert 4 = .ok (.istore 4, 2) := by decide +kernel
theorem dX6_insert_6 : decode cX6_insert 6 = .ok (.iload 4, 2) := by decide +kernel
theorem dX6_insert_8 : decode cX6_insert 8 = .ok (.iload_n 1, 1) := by decide +kernel
theorem dX6_insert_9 : decode cX6_insert 9 = .ok (.if_icmp .le 49, 3) := by decide +kernel
theorem dX6_insert_12 : decode cX6_insert 12 = .ok (.aload_n 0, 1) := by decide +kernel
theorem dX6_insert_13 : decode cX6_insert 13 = .ok (.getfield 19, 3) := by decide +kernel
theorem dX6_insert_16 : decode cX6_insert 16 = .ok (.iload 4, 2) := by decide +kernel
theorem dX6_insert_18 : decode cX6_insert 18 = .ok (.aload_n 0, 1) := by decide +kernel
theorem dX6_insert_19 : decode cX6_insert 19 = .ok (.getfield 19, 3) := by decide +kernel
theorem dX6_insert_22 : decode cX6_insert 22 = .ok (.iload 4, 2) := by decide +kernel
theorem dX6_insert_24 : decode cX6_insert 24 = .ok (.iconst 1, 1) := by decide +kernel
theorem dX6_insert_25 : decode cX6_insert 25 = .ok (.isub, 1) := by decide +kernel
theorem dX6_insert_26 : decode cX6_insert 26 = .ok (.invokestatic 35, 3) := by decide +kernel
theorem dX6_insert_29 : decode cX6_insert 29 = .ok (.invokestatic 47, 3) := by decide +kernel
theorem dX6_insert_32 : decode cX6_insert 32 = .ok (.aload_n 0, 1) := by decide +kernel
theorem dX6_insert_33 : decode cX6_insert 33 = .ok (.getfield 23, 3) := by decide +kernel
theorem dX6_insert_36 : decode cX6_insert 36 = .ok (.iload 4, 2) := by decide +kernel
theorem dX6_insert_38 : decode cX6_insert 38 = .ok (.aload_n 0, 1) := by decide +kernel
theorem dX6_insert_39 : decode cX6_insert 39 = .ok (.getfield 23, 3) := by decide +kernel
theorem dX6_insert_42 : decode cX6_insert 42 = .ok (.iload 4, 2) := by decide +kernel
theorem dX6_insert_44 : decode cX6_insert 44 = .ok (.iconst 1, 1) := by decide +kernel
theorem dX6_insert_45 : decode cX6_insert 45 = .ok (.isub, 1) := by decide +kernel
theorem dX6_insert_46 : decode cX6_insert 46 = .ok (.invokestatic 35, 3) := by decide +kernel
theorem dX6_insert_49 : decode cX6_insert 49 = .ok (.invokestatic 47, 3) := by decide +kernel
theorem dX6_insert_52 : decode cX6_insert 52 = .ok (.iinc 4 (-1), 3) := by decide +kernel
theorem dX6_insert_55 : decode cX6_insert 55 = .ok (.goto (-49), 3) := by decide +kernel
theorem dX6_insert_58 : decode cX6_insert 58 = .ok (.aload_n 0, 1) := by decide +kernel
theorem dX6_insert_59 : decode cX6_insert 59 = .ok (.getfield 19, 3) := by decide +kernel
theorem dX6_insert_62 : decode cX6_insert 62 = .ok (.iload_n 1, 1) := by decide +kernel
theorem dX6_insert_63 : decode cX6_insert 63 = .ok (.iload_n 2, 1) := by decide +kernel
theorem dX6_insert_64 : decode cX6_insert 64 = .ok (.invokestatic 47, 3) := by decide +kernel
theorem dX6_insert_67 : decode cX6_insert 67 = .ok (.aload_n 0, 1) := by decide +kernel
theorem dX6_insert_68 : decode cX6_insert 68 = .ok (.getfield 23, 3) := by decide +kernel
theorem dX6_insert_71 : decode cX6_insert 71 = .ok (.iload_n 1, 1) := by decide +kernel
theorem dX6_insert_72 : decode cX6_insert 72 = .ok (.iload_n 3, 1) := by decide +kernel
theorem dX6_insert_73 : decode cX6_insert 73 = .ok (.invokestatic 47, 3) := by decide +kernel
theorem dX6_insert_76 : decode cX6_insert 76 = .ok (.aload_n 0, 1) := by decide +kernel
theorem dX6_insert_77 : decode cX6_insert 77 = .ok (.dup, 1) := by decide +kernel
theorem dX6_insert_78 : decode cX6_insert 78 = .ok (.getfield 7, 3) := by decide +kernel
theorem dX6_insert_81 : decode cX6_insert 81 = .ok (.iconst 1, 1) := by decide +kernel
theorem dX6_insert_82 : decode cX6_insert 82 = .ok (.iadd, 1) := by decide +kernel
theorem dX6_insert_83 : decode cX6_insert 83 = .ok (.putfield 7, 3) := by decide +kernel
theorem dX6_insert_86 : decode cX6_insert 86 = .ok (.return_, 1) := by decide +kernel
theorem dX6_remove_0 : decode cX6_remove 0 = .ok (.aload_n 0, 1) := by decide +kernel
theorem dX6_remove_1 : decode cX6_remove 1 = .ok (.iload_n 1, 1) := by decide +kernel
theorem dX6_remove_2 : decode cX6_remove 2 = .ok (.invokevirtual 43, 3) := by decide +kernel
theorem dX6_remove_5 : decode cX6_remove 5 = .ok (.ifCond .ne 4, 3) := by decide +kernel
theorem dX6_remove_8 : decode cX6_remove 8 = .ok (.return_, 1) := by decide +kernel
theorem dX6_remove_9 : decode cX6_remove 9 = .ok (.aload_n 0, 1) := by decide +kernel
theorem dX6_remove_10 : decode cX6_remove 10 = .ok (.iload_n 1, 1) := by decide +kernel
theorem dX6_remove_11 : decode cX6_remove 11 = .ok (.invokevirtual 39, 3) := by decide +kernel
theorem dX6_remove_14 : decode cX6_remove 14 = .ok (.istore_n 2, 1) := by decide +kernel
theorem dX6_remove_15 : decode cX6_remove 15 = .ok (.iload_n 2, 1) := by decide +kernel
theorem dX6_remove_16 : decode cX6_remove 16 = .ok (.aload_n 0, 1) := by decide +kernel
theorem dX6_remove_17 : decode cX6_remove 17 = .ok (.getfield 7, 3) := by decide +kernel
theorem dX6_remove_20 : decode cX6_remove 20 = .ok (.iconst 1, 1) := by decide +kernel
theorem dX6_remove_21 : decode cX6_remove 21 = .ok (.isub, 1) := by decide +kernel
theorem dX6_remove_22 : decode cX6_remove 22 = .ok (.if_icmp .ge 45, 3) := by decide +kernel
theorem dX6_remove_25 : decode cX6_remove 25 = .ok (.aload_n 0, 1) := by decide +kernel
theorem dX6_remove_26 : decode cX6_remove 26 = .ok (.getfield 19, 3) := by decide +kernel
theorem dX6_remove_29 : decode cX6_remove 29 = .ok (.iload_n 2, 1) := by decide +kernel
theorem dX6_remove_30 : decode cX6_remove 30 = .ok (.aload_n 0, 1) := by decide +kernel
theorem dX6_remove_31 : decode cX6_remove 31 = .ok (.getfield 19, 3) := by decide +kernel
theorem dX6_remove_34 : decode cX6_remove 34 = .ok (.iload_n 2, 1) := by decide +kernel
theorem dX6_remove_35 : decode cX6_remove 35 = .ok (.iconst 1, 1) := by decide +kernel
theorem dX6_remove_36 : decode cX6_remove 36 = .ok (.iadd, 1) := by decide +kernel
theorem dX6_remove_37 : decode cX6_remove 37 = .ok (.invokestatic 35, 3) := by decide +kernel
theorem dX6_remove_40 : decode cX6_remove 40 = .ok (.invokestatic 47, 3) := by decide +kernel
theorem dX6_remove_43 : decode cX6_remove 43 = .ok (.aload_n 0, 1) := by decide +kernel
theorem dX6_remove_44 : decode cX6_remove 44 = .ok (.getfield 23, 3) := by decide +kernel
theorem dX6_remove_47 : decode cX6_remove 47 = .ok (.iload_n 2, 1) := by decide +kernel
theorem dX6_remove_48 : decode cX6_remove 48 = .ok (.aload_n 0, 1) := by decide +kernel
theorem dX6_remove_49 : decode cX6_remove 49 = .ok (.getfield 23, 3) := by decide +kernel
theorem dX6_remove_52 : decode cX6_remove 52 = .ok (.iload_n 2, 1) := by decide +kernel
theorem dX6_remove_53 : decode cX6_remove 53 = .ok (.iconst 1, 1) := by decide +kernel
theorem dX6_remove_54 : decode cX6_remove 54 = .ok (.iadd, 1) := by decide +kernel
theorem dX6_remove_55 : decode cX6_remove 55 = .ok (.invokestatic 35, 3) := by decide +kernel
theorem dX6_remove_58 : decode cX6_remove 58 = .ok (.invokestatic 47, 3) := by decide +kernel
theorem dX6_remove_61 : decode cX6_remove 61 = .ok (.iinc 2 1, 3) := by decide +kernel
theorem dX6_remove_64 : decode cX6_remove 64 = .ok (.goto (-49), 3) := by decide +kernel
theorem dX6_remove_67 : decode cX6_remove 67 = .ok (.aload_n 0, 1) := by decide +kernel
theorem dX6_remove_68 : decode cX6_remove 68 = .ok (.dup, 1) := by decide +kernel
theorem dX6_remove_69 : decode cX6_remove 69 = .ok (.getfield 7, 3) := by decide +kernel
theorem dX6_remove_72 : decode cX6_remove 72 = .ok (.iconst 1, 1) := by decide +kernel
theorem dX6_remove_73 : decode cX6_remove 73 = .ok (.isub, 1) := by decide +kernel
theorem dX6_remove_74 : decode cX6_remove 74 = .ok (.putfield 7, 3) := by decide +kernel
theorem dX6_remove_77 : decode cX6_remove 77 = .ok (.return_, 1) := by decide +kernel
theorem dX6_valueBelow_0 : decode cX6_valueBelow 0 = .ok (.aload_n 0, 1) := by decide +kernel
theorem dX6_valueBelow_1 : decode cX6_valueBelow 1 = .ok (.iload_n 1, 1) := by decide +kernel
theorem dX6_valueBelow_2 : decode cX6_valueBelow 2 = .ok (.invokevirtual 39, 3) := by decide +kernel
theorem dX6_valueBelow_5 : decode cX6_valueBelow 5 = .ok (.istore_n 2, 1) := by decide +kernel
theorem dX6_valueBelow_6 : decode cX6_valueBelow 6 = .ok (.iload_n 2, 1) := by decide +kernel
theorem dX6_valueBelow_7 : decode cX6_valueBelow 7 = .ok (.ifCond .ge 7, 3) := by decide +kernel
theorem dX6_valueBelow_10 : decode cX6_valueBelow 10 = .ok (.iconst 0, 1) := by decide +kernel
theorem dX6_valueBelow_11 : decode cX6_valueBelow 11 = .ok (.goto 11, 3) := by decide +kernel
theorem dX6_valueBelow_14 : decode cX6_valueBelow 14 = .ok (.aload_n 0, 1) := by decide +kernel
theorem dX6_valueBelow_15 : decode cX6_valueBelow 15 = .ok (.getfield 23, 3) := by decide +kernel
theorem dX6_valueBelow_18 : decode cX6_valueBelow 18 = .ok (.iload_n 2, 1) := by decide +kernel
theorem dX6_valueBelow_19 : decode cX6_valueBelow 19 = .ok (.invokestatic 35, 3) := by decide +kernel
theorem dX6_valueBelow_22 : decode cX6_valueBelow 22 = .ok (.ireturn, 1) := by decide +kernel
theorem dX6_valueOnLine_0 : decode cX6_valueOnLine 0 = .ok (.aload_n 0, 1) := by decide +kernel
theorem dX6_valueOnLine_1 : decode cX6_valueOnLine 1 = .ok (.iload_n 1, 1) := by decide +kernel
theorem dX6_valueOnLine_2 : decode cX6_valueOnLine 2 = .ok (.invokevirtual 39, 3) := by decide +kernel
theorem dX6_valueOnLine_5 : decode cX6_valueOnLine 5 = .ok (.istore_n 2, 1) := by decide +kernel
theorem dX6_valueOnLine_6 : decode cX6_valueOnLine 6 = .ok (.iload_n 2, 1) := by decide +kernel
theorem dX6_valueOnLine_7 : decode cX6_valueOnLine 7 = .ok (.ifCond .ge 12, 3) := by decide +kernel
theorem dX6_valueOnLine_10 : decode cX6_valueOnLine 10 = .ok (.aload_n 0, 1) := by decide +kernel
theorem dX6_valueOnLine_11 : decode cX6_valueOnLine 11 = .ok (.getfield 23, 3) := by decide +kernel
theorem dX6_valueOnLine_14 : decode cX6_valueOnLine 14 = .ok (.iconst 0, 1) := by decide +kernel
theorem dX6_valueOnLine_15 : decode cX6_valueOnLine 15 = .ok (.invokestatic 35, 3) := by decide +kernel
theorem dX6_valueOnLine_18 : decode cX6_valueOnLine 18 = .ok (.ireturn, 1) := by decide +kernel
theorem dX6_valueOnLine_19 : decode cX6_valueOnLine 19 = .ok (.aload_n 0, 1) := by decide +kernel
theorem dX6_valueOnLine_20 : decode cX6_valueOnLine 20 = .ok (.getfield 23, 3) := by decide +kernel
theorem dX6_valueOnLine_23 : decode cX6_valueOnLine 23 = .ok (.iload_n 2, 1) := by decide +kernel
theorem dX6_valueOnLine_24 : decode cX6_valueOnLine 24 = .ok (.invokestatic 35, 3) := by decide +kernel
theorem dX6_valueOnLine_27 : decode cX6_valueOnLine 27 = .ok (.istore_n 3, 1) := by decide +kernel
theorem dX6_valueOnLine_28 : decode cX6_valueOnLine 28 = .ok (.iload_n 2, 1) := by decide +kernel
theorem dX6_valueOnLine_29 : decode cX6_valueOnLine 29 = .ok (.aload_n 0, 1) := by decide +kernel
theorem dX6_valueOnLine_30 : decode cX6_valueOnLine 30 = .ok (.getfield 7, 3) := by decide +kernel
theorem dX6_valueOnLine_33 : decode cX6_valueOnLine 33 = .ok (.iconst 1, 1) := by decide +kernel
theorem dX6_valueOnLine_34 : decode cX6_valueOnLine 34 = .ok (.isub, 1) := by decide +kernel
theorem dX6_valueOnLine_35 : decode cX6_valueOnLine 35 = .ok (.if_icmp .lt 5, 3) := by decide +kernel
theorem dX6_valueOnLine_38 : decode cX6_valueOnLine 38 = .ok (.iload_n 3, 1) := by decide +kernel
theorem dX6_valueOnLine_39 : decode cX6_valueOnLine 39 = .ok (.ireturn, 1) := by decide +kernel
theorem dX6_valueOnLine_40 : decode cX6_valueOnLine 40 = .ok (.aload_n 0, 1) := by decide +kernel
theorem dX6_valueOnLine_41 : decode cX6_valueOnLine 41 = .ok (.getfield 23, 3) := by decide +kernel
theorem dX6_valueOnLine_44 : decode cX6_valueOnLine 44 = .ok (.iload_n 2, 1) := by decide +kernel
theorem dX6_valueOnLine_45 : decode cX6_valueOnLine 45 = .ok (.iconst 1, 1) := by decide +kernel
theorem dX6_valueOnLine_46 : decode cX6_valueOnLine 46 = .ok (.iadd, 1) := by decide +kernel
theorem dX6_valueOnLine_47 : decode cX6_valueOnLine 47 = .ok (.invokestatic 35, 3) := by decide +kernel
theorem dX6_valueOnLine_50 : decode cX6_valueOnLine 50 = .ok (.iload_n 3, 1) := by decide +kernel
theorem dX6_valueOnLine_51 : decode cX6_valueOnLine 51 = .ok (.isub, 1) := by decide +kernel
theorem dX6_valueOnLine_52 : decode cX6_valueOnLine 52 = .ok (.istore 4, 2) := by decide +kernel
theorem dX6_valueOnLine_54 : decode cX6_valueOnLine 54 = .ok (.aload_n 0, 1) := by decide +kernel
theorem dX6_valueOnLine_55 : decode cX6_valueOnLine 55 = .ok (.getfield 19, 3) := by decide +kernel
theorem dX6_valueOnLine_58 : decode cX6_valueOnLine 58 = .ok (.iload_n 2, 1) := by decide +kernel
theorem dX6_valueOnLine_59 : decode cX6_valueOnLine 59 = .ok (.iconst 1, 1) := by decide +kernel
theorem dX6_valueOnLine_60 : decode cX6_valueOnLine 60 = .ok (.iadd, 1) := by decide +kernel
theorem dX6_valueOnLine_61 : decode cX6_valueOnLine 61 = .ok (.invokestatic 35, 3) := by decide +kernel
theorem dX6_valueOnLine_64 : decode cX6_valueOnLine 64 = .ok (.aload_n 0, 1) := by decide +kernel
theorem dX6_valueOnLine_65 : decode cX6_valueOnLine 65 = .ok (.getfield 19, 3) := by decide +kernel
theorem dX6_valueOnLine_68 : decode cX6_valueOnLine 68 = .ok (.iload_n 2, 1) := by decide +kernel
theorem dX6_valueOnLine_69 : decode cX6_valueOnLine 69 = .ok (.invokestatic 35, 3) := by decide +kernel
theorem dX6_valueOnLine_72 : decode cX6_valueOnLine 72 = .ok (.isub, 1) := by decide +kernel
theorem dX6_valueOnLine_73 : decode cX6_valueOnLine 73 = .ok (.istore 5, 2) := by decide +kernel
theorem dX6_valueOnLine_75 : decode cX6_valueOnLine 75 = .ok (.iload_n 3, 1) := by decide +kernel
theorem dX6_valueOnLine_76 : decode cX6_valueOnLine 76 = .ok (.iload 4, 2) := by decide +kernel
theorem dX6_valueOnLine_78 : decode cX6_valueOnLine 78 = .ok (.iload_n 1, 1) := by decide +kernel
theorem dX6_valueOnLine_79 : decode cX6_valueOnLine 79 = .ok (.aload_n 0, 1) := by decide +kernel
theorem dX6_valueOnLine_80 : decode cX6_valueOnLine 80 = .ok (.getfield 19, 3) := by decide +kernel
theorem dX6_valueOnLine_83 : decode cX6_valueOnLine 83 = .ok (.iload_n 2, 1) := by decide +kernel
theorem dX6_valueOnLine_84 : decode cX6_valueOnLine 84 = .ok (.invokestatic 35, 3) := by decide +kernel
theorem dX6_valueOnLine_87 : decode cX6_valueOnLine 87 = .ok (.isub, 1) := by decide +kernel
theorem dX6_valueOnLine_88 : decode cX6_valueOnLine 88 = .ok (.imul, 1) := by decide +kernel
theorem dX6_valueOnLine_89 : decode cX6_valueOnLine 89 = .ok (.i2l, 1) := by decide +kernel
theorem dX6_valueOnLine_90 : decode cX6_valueOnLine 90 = .ok (.iload 5, 2) := by decide +kernel
theorem dX6_valueOnLine_92 : decode cX6_valueOnLine 92 = .ok (.i2l, 1) := by decide +kernel
theorem dX6_valueOnLine_93 : decode cX6_valueOnLine 93 = .ok (.invokestatic 55, 3) := by decide +kernel
theorem dX6_valueOnLine_96 : decode cX6_valueOnLine 96 = .ok (.l2i, 1) := by decide +kernel
theorem dX6_valueOnLine_97 : decode cX6_valueOnLine 97 = .ok (.iadd, 1) := by decide +kernel
theorem dX6_valueOnLine_98 : decode cX6_valueOnLine 98 = .ok (.ireturn, 1) := by decide +kernel
theorem dX7_init_0 : decode cX7_init 0 = .ok (.aload_n 0, 1) := by decide +kernel
theorem dX7_init_1 : decode cX7_init 1 = .ok (.invokespecial 3, 3) := by decide +kernel
theorem dX7_init_4 : decode cX7_init 4 = .ok (.aload_n 0, 1) := by decide +kernel
theorem dX7_init_5 : decode cX7_init 5 = .ok (.new 9, 3) := by decide +kernel
theorem dX7_init_8 : decode cX7_init 8 = .ok (.dup, 1) := by decide +kernel
theorem dX7_init_9 : decode cX7_init 9 = .ok (.invokespecial 11, 3) := by decide +kernel
theorem dX7_init_12 : decode cX7_init 12 = .ok (.putfield 12, 3) := by decide +kernel
theorem dX7_init_15 : decode cX7_init 15 = .ok (.aload_n 0, 1) := by decide +kernel
theorem dX7_init_16 : decode cX7_init 16 = .ok (.new 18, 3) := by decide +kernel
theorem dX7_init_19 : decode cX7_init 19 = .ok (.dup, 1) := by decide +kernel
theorem dX7_init_20 : decode cX7_init 20 = .ok (.bipush 8, 2) := by decide +kernel
theorem dX7_init_22 : decode cX7_init 22 = .ok (.invokespecial 20, 3) := by decide +kernel
theorem dX7_init_25 : decode cX7_init 25 = .ok (.putfield 23, 3) := by decide +kernel
theorem dX7_init_28 : decode cX7_init 28 = .ok (.aload_n 0, 1) := by decide +kernel
theorem dX7_init_29 : decode cX7_init 29 = .ok (.new 18, 3) := by decide +kernel
theorem dX7_init_32 : decode cX7_init 32 = .ok (.dup, 1) := by decide +kernel
theorem dX7_init_33 : decode cX7_init 33 = .ok (.bipush 6, 2) := by decide +kernel
theorem dX7_init_35 : decode cX7_init 35 = .ok (.invokespecial 20, 3) := by decide +kernel
theorem dX7_init_38 : decode cX7_init 38 = .ok (.putfield 27, 3) := by decide +kernel
theorem dX7_init_41 : decode cX7_init 41 = .ok (.aload_n 0, 1) := by decide +kernel
theorem dX7_init_42 : decode cX7_init 42 = .ok (.new 30, 3) := by decide +kernel
theorem dX7_init_45 : decode cX7_init 45 = .ok (.dup, 1) := by decide +kernel
theorem dX7_init_46 : decode cX7_init 46 = .ok (.invokespecial 32, 3) := by decide +kernel
theorem dX7_init_49 : decode cX7_init 49 = .ok (.putfield 33, 3) := by decide +kernel
theorem dX7_init_52 : decode cX7_init 52 = .ok (.return_, 1) := by decide +kernel
theorem dX7_copyFrom_0 : decode cX7_copyFrom 0 = .ok (.aload_n 0, 1) := by decide +kernel
theorem dX7_copyFrom_1 : decode cX7_copyFrom 1 = .ok (.getfield 12, 3) := by decide +kernel
theorem dX7_copyFrom_4 : decode cX7_copyFrom 4 = .ok (.aload_n 1, 1) := by decide +kernel
theorem dX7_copyFrom_5 : decode cX7_copyFrom 5 = .ok (.getfield 12, 3) := by decide +kernel
theorem dX7_copyFrom_8 : decode cX7_copyFrom 8 = .ok (.invokevirtual 37, 3) := by decide +kernel
theorem dX7_copyFrom_11 : decode cX7_copyFrom 11 = .ok (.aload_n 0, 1) := by decide +kernel
theorem dX7_copyFrom_12 : decode cX7_copyFrom 12 = .ok (.getfield 23, 3) := by decide +kernel
theorem dX7_copyFrom_15 : decode cX7_copyFrom 15 = .ok (.aload_n 1, 1) := by decide +kernel
theorem dX7_copyFrom_16 : decode cX7_copyFrom 16 = .ok (.getfield 23, 3) := by decide +kernel
theorem dX7_copyFrom_19 : decode cX7_copyFrom 19 = .ok (.invokevirtual 41, 3) := by decide +kernel
theorem dX7_copyFrom_22 : decode cX7_copyFrom 22 = .ok (.aload_n 0, 1) := by decide +kernel
theorem dX7_copyFrom_23 : decode cX7_copyFrom 23 = .ok (.getfield 27, 3) := by decide +kernel
theorem dX7_copyFrom_26 : decode cX7_copyFrom 26 = .ok (.aload_n 1, 1) := by decide +kernel
theorem dX7_copyFrom_27 : decode cX7_copyFrom 27 = .ok (.getfield 27, 3) := by decide +kernel
theorem dX7_copyFrom_30 : decode cX7_copyFrom 30 = .ok (.invokevirtual 41, 3) := by decide +kernel
theorem dX7_copyFrom_33 : decode cX7_copyFrom 33 = .ok (.aload_n 0, 1) := by decide +kernel
theorem dX7_copyFrom_34 : decode cX7_copyFrom 34 = .ok (.getfield 33, 3) := by decide +kernel
theorem dX7_copyFrom_37 : decode cX7_copyFrom 37 = .ok (.aload_n 1, 1) := by decide +kernel
theorem dX7_copyFrom_38 : decode cX7_copyFrom 38 = .ok (.getfield 33, 3) := by decide +kernel
theorem dX7_copyFrom_41 : decode cX7_copyFrom 41 = .ok (.invokevirtual 44, 3) := by decide +kernel
theorem dX7_copyFrom_44 : decode cX7_copyFrom 44 = .ok (.return_, 1) := by decide +kernel
theorem dX8_init_0 : decode cX8_init 0 = .ok (.aload_n 0, 1) := by decide +kernel
theorem dX8_init_1 : decode cX8_init 1 = .ok (.invokespecial 3, 3) := by decide +kernel
theorem dX8_init_4 : decode cX8_init 4 = .ok (.aload_n 0, 1) := by decide +kernel
theorem dX8_init_5 : decode cX8_init 5 = .ok (.bipush 100, 2) := by decide +kernel
theorem dX8_init_7 : decode cX8_init 7 = .ok (.newarray .int, 2) := by decide +kernel
theorem dX8_init_9 : decode cX8_init 9 = .ok (.putfield 9, 3) := by decide +kernel
theorem dX8_init_12 : decode cX8_init 12 = .ok (.aload_n 0, 1) := by decide +kernel
theorem dX8_init_13 : decode cX8_init 13 = .ok (.iconst 0, 1) := by decide +kernel
theorem dX8_init_14 : decode cX8_init 14 = .ok (.putfield 15, 3) := by decide +kernel
theorem dX8_init_17 : decode cX8_init 17 = .ok (.return_, 1) := by decide +kernel
theorem dX8_add_0 : decode cX8_add 0 = .ok (.aload_n 0, 1) := by decide +kernel
theorem dX8_add_1 : decode cX8_add 1 = .ok (.getfield 15, 3) := by decide +kernel
theorem dX8_add_4 : decode cX8_add 4 = .ok (.bipush 100, 2) := by decide +kernel
theorem dX8_add_6 : decode cX8_add 6 = .ok (.if_icmp .ge 25, 3) := by decide +kernel
theorem dX8_add_9 : decode cX8_add 9 = .ok (.aload_n 0, 1) := by decide +kernel
theorem dX8_add_10 : decode cX8_add 10 = .ok (.getfield 9, 3) := by decide +kernel
theorem dX8_add_13 : decode cX8_add 13 = .ok (.aload_n 0, 1) := by decide +kernel
theorem dX8_add_14 : decode cX8_add 14 = .ok (.getfield 15, 3) := by decide +kernel
theorem dX8_add_17 : decode cX8_add 17 = .ok (.iload_n 1, 1) := by decide +kernel
theorem dX8_add_18 : decode cX8_add 18 = .ok (.invokestatic 19, 3) := by decide +kernel
theorem dX8_add_21 : decode cX8_add 21 = .ok (.aload_n 0, 1) := by decide +kernel
theorem dX8_add_22 : decode cX8_add 22 = .ok (.dup, 1) := by decide +kernel
theorem dX8_add_23 : decode cX8_add 23 = .ok (.getfield 15, 3) := by decide +kernel
theorem dX8_add_26 : decode cX8_add 26 = .ok (.iconst 1, 1) := by decide +kernel
theorem dX8_add_27 : decode cX8_add 27 = .ok (.iadd, 1) := by decide +kernel
theorem dX8_add_28 : decode cX8_add 28 = .ok (.putfield 15, 3) := by decide +kernel
theorem dX8_add_31 : decode cX8_add 31 = .ok (.return_, 1) := by decide +kernel
theorem dX8_character_0 : decode cX8_character 0 = .ok (.iload_n 1, 1) := by decide +kernel
theorem dX8_character_1 : decode cX8_character 1 = .ok (.aload_n 0, 1) := by decide +kernel
theorem dX8_character_2 : decode cX8_character 2 = .ok (.getfield 15, 3) := by decide +kernel
theorem dX8_character_5 : decode cX8_character 5 = .ok (.if_icmp .ge 14, 3) := by decide +kernel
theorem dX8_character_8 : decode cX8_character 8 = .ok (.aload_n 0, 1) := by decide +kernel
theorem dX8_character_9 : decode cX8_character 9 = .ok (.getfield 9, 3) := by decide +kernel
theorem dX8_character_12 : decode cX8_character 12 = .ok (.iload_n 1, 1) := by decide +kernel
theorem dX8_character_13 : decode cX8_character 13 = .ok (.invokestatic 23, 3) := by decide +kernel
theorem dX8_character_16 : decode cX8_character 16 = .ok (.goto 4, 3) := by decide +kernel
theorem dX8_character_19 : decode cX8_character 19 = .ok (.iconst 0, 1) := by decide +kernel
theorem dX8_character_20 : decode cX8_character 20 = .ok (.ireturn, 1) := by decide +kernel
theorem dX8_isDigit_0 : decode cX8_isDigit 0 = .ok (.aload_n 0, 1) := by decide +kernel
theorem dX8_isDigit_1 : decode cX8_isDigit 1 = .ok (.iload_n 1, 1) := by decide +kernel
theorem dX8_isDigit_2 : decode cX8_isDigit 2 = .ok (.invokevirtual 27, 3) := by decide +kernel
theorem dX8_isDigit_5 : decode cX8_isDigit 5 = .ok (.bipush 48, 2) := by decide +kernel
theorem dX8_isDigit_7 : decode cX8_isDigit 7 = .ok (.bipush 57, 2) := by decide +kernel
theorem dX8_isDigit_9 : decode cX8_isDigit 9 = .ok (.invokestatic 31, 3) := by decide +kernel
theorem dX8_isDigit_12 : decode cX8_isDigit 12 = .ok (.ireturn, 1) := by decide +kernel
theorem dX8_afterSpaces_0 : decode cX8_afterSpaces 0 = .ok (.iload_n 1, 1) := by decide +kernel
theorem dX8_afterSpaces_1 : decode cX8_afterSpaces 1 = .ok (.istore_n 2, 1) := by decide +kernel
theorem dX8_afterSpaces_2 : decode cX8_afterSpaces 2 = .ok (.iconst 0, 1) := by decide +kernel
theorem dX8_afterSpaces_3 : decode cX8_afterSpaces 3 = .ok (.istore_n 3, 1) := by decide +kernel
theorem dX8_afterSpaces_4 : decode cX8_afterSpaces 4 = .ok (.iload_n 3, 1) := by decide +kernel
theorem dX8_afterSpaces_5 : decode cX8_afterSpaces 5 = .ok (.bipush 100, 2) := by decide +kernel
theorem dX8_afterSpaces_7 : decode cX8_afterSpaces 7 = .ok (.if_icmp .ge 22, 3) := by decide +kernel
theorem dX8_afterSpaces_10 : decode cX8_afterSpaces 10 = .ok (.aload_n 0, 1) := by decide +kernel
theorem dX8_afterSpaces_11 : decode cX8_afterSpaces 11 = .ok (.iload_n 2, 1) := by decide +kernel
theorem dX8_afterSpaces_12 : decode cX8_afterSpaces 12 = .ok (.invokevirtual 27, 3) := by decide +kernel
theorem dX8_afterSpaces_15 : decode cX8_afterSpaces 15 = .ok (.bipush 32, 2) := by decide +kernel
theorem dX8_afterSpaces_17 : decode cX8_afterSpaces 17 = .ok (.if_icmp .ne 12, 3) := by decide +kernel
theorem dX8_afterSpaces_20 : decode cX8_afterSpaces 20 = .ok (.iinc 2 1, 3) := by decide +kernel
theorem dX8_afterSpaces_23 : decode cX8_afterSpaces 23 = .ok (.iinc 3 1, 3) := by decide +kernel
theorem dX8_afterSpaces_26 : decode cX8_afterSpaces 26 = .ok (.goto (-22), 3) := by decide +kernel
theorem dX8_afterSpaces_29 : decode cX8_afterSpaces 29 = .ok (.iload_n 2, 1) := by decide +kernel
theorem dX8_afterSpaces_30 : decode cX8_afterSpaces 30 = .ok (.ireturn, 1) := by decide +kernel
theorem dX8_afterToken_0 : decode cX8_afterToken 0 = .ok (.iload_n 1, 1) := by decide +kernel
theorem dX8_afterToken_1 : decode cX8_afterToken 1 = .ok (.iconst 1, 1) := by decide +kernel
theorem dX8_afterToken_2 : decode cX8_afterToken 2 = .ok (.iadd, 1) := by decide +kernel
theorem dX8_afterToken_3 : decode cX8_afterToken 3 = .ok (.istore_n 2, 1) := by decide +kernel
theorem dX8_afterToken_4 : decode cX8_afterToken 4 = .ok (.iconst 0, 1) := by decide +kernel
theorem dX8_afterToken_5 : decode cX8_afterToken 5 = .ok (.istore_n 3, 1) := by decide +kernel
theorem dX8_afterToken_6 : decode cX8_afterToken 6 = .ok (.iload_n 3, 1) := by decide +kernel
theorem dX8_afterToken_7 : decode cX8_afterToken 7 = .ok (.bipush 100, 2) := by decide +kernel
theorem dX8_afterToken_9 : decode cX8_afterToken 9 = .ok (.if_icmp .ge 28, 3) := by decide +kernel
theorem dX8_afterToken_12 : decode cX8_afterToken 12 = .ok (.aload_n 0, 1) := by decide +kernel
theorem dX8_afterToken_13 : decode cX8_afterToken 13 = .ok (.iload_n 1, 1) := by decide +kernel
theorem dX8_afterToken_14 : decode cX8_afterToken 14 = .ok (.invokevirtual 35, 3) := by decide +kernel
theorem dX8_afterToken_17 : decode cX8_afterToken 17 = .ok (.ifCond .eq 20, 3) := by decide +kernel
theorem dX8_afterToken_20 : decode cX8_afterToken 20 = .ok (.aload_n 0, 1) := by decide +kernel
theorem dX8_afterToken_21 : decode cX8_afterToken 21 = .ok (.iload_n 2, 1) := by decide +kernel
theorem dX8_afterToken_22 : decode cX8_afterToken 22 = .ok (.invokevirtual 35, 3) := by decide +kernel
theorem dX8_afterToken_25 : decode cX8_afterToken 25 = .ok (.ifCond .eq 12, 3) := by decide +kernel
theorem dX8_afterToken_28 : decode cX8_afterToken 28 = .ok (.iinc 2 1, 3) := by decide +kernel
theorem dX8_afterToken_31 : decode cX8_afterToken 31 = .ok (.iinc 3 1, 3) := by decide +kernel
theorem dX8_afterToken_34 : decode cX8_afterToken 34 = .ok (.goto (-28), 3) := by decide +kernel
theorem dX8_afterToken_37 : decode cX8_afterToken 37 = .ok (.iload_n 2, 1) := by decide +kernel
theorem dX8_afterToken_38 : decode cX8_afterToken 38 = .ok (.ireturn, 1) := by decide +kernel
theorem dX8_numberIn_0 : decode cX8_numberIn 0 = .ok (.aload_n 0, 1) := by decide +kernel
theorem dX8_numberIn_1 : decode cX8_numberIn 1 = .ok (.iload_n 1, 1) := by decide +kernel
theorem dX8_numberIn_2 : decode cX8_numberIn 2 = .ok (.invokevirtual 35, 3) := by decide +kernel
theorem dX8_numberIn_5 : decode cX8_numberIn 5 = .ok (.ifCond .eq 20, 3) := by decide +kernel
theorem dX8_numberIn_8 : decode cX8_numberIn 8 = .ok (.aload_n 0, 1) := by decide +kernel
theorem dX8_numberIn_9 : decode cX8_numberIn 9 = .ok (.iload_n 1, 1) := by decide +kernel
theorem dX8_numberIn_10 : decode cX8_numberIn 10 = .ok (.invokevirtual 27, 3) := by decide +kernel
theorem dX8_numberIn_13 : decode cX8_numberIn 13 = .ok (.bipush 48, 2) := by decide +kernel
theorem dX8_numberIn_15 : decode cX8_numberIn 15 = .ok (.if_icmp .ne 12, 3) := by decide +kernel
theorem dX8_numberIn_18 : decode cX8_numberIn 18 = .ok (.iload_n 2, 1) := by decide +kernel
theorem dX8_numberIn_19 : decode cX8_numberIn 19 = .ok (.iload_n 1, 1) := by decide +kernel
theorem dX8_numberIn_20 : decode cX8_numberIn 20 = .ok (.iconst 1, 1) := by decide +kernel
theorem dX8_numberIn_21 : decode cX8_numberIn 21 = .ok (.iadd, 1) := by decide +kernel
theorem dX8_numberIn_22 : decode cX8_numberIn 22 = .ok (.if_icmp .le 5, 3) := by decide +kernel
theorem dX8_numberIn_25 : decode cX8_numberIn 25 = .ok (.iconst (-1), 1) := by decide +kernel
theorem dX8_numberIn_26 : decode cX8_numberIn 26 = .ok (.ireturn, 1) := by decide +kernel
theorem dX8_numberIn_27 : decode cX8_numberIn 27 = .ok (.iconst 0, 1) := by decide +kernel
theorem dX8_numberIn_28 : decode cX8_numberIn 28 = .ok (.istore_n 3, 1) := by decide +kernel
theorem dX8_numberIn_29 : decode cX8_numberIn 29 = .ok (.iload_n 1, 1) := by decide +kernel
theorem dX8_numberIn_30 : decode cX8_numberIn 30 = .ok (.istore 4, 2) := by decide +kernel
theorem dX8_numberIn_32 : decode cX8_numberIn 32 = .ok (.iload 4, 2) := by decide +kernel
theorem dX8_numberIn_34 : decode cX8_numberIn 34 = .ok (.iload_n 2, 1) := by decide +kernel
theorem dX8_numberIn_35 : decode cX8_numberIn 35 = .ok (.if_icmp .ge 29, 3) := by decide +kernel
theorem dX8_numberIn_38 : decode cX8_numberIn 38 = .ok (.iload_n 3, 1) := by decide +kernel
theorem dX8_numberIn_39 : decode cX8_numberIn 39 = .ok (.bipush 10, 2) := by decide +kernel
theorem dX8_numberIn_41 : decode cX8_numberIn 41 = .ok (.imul, 1) := by decide +kernel
theorem dX8_numberIn_42 : decode cX8_numberIn 42 = .ok (.aload_n 0, 1) := by decide +kernel
theorem dX8_numberIn_43 : decode cX8_numberIn 43 = .ok (.iload 4, 2) := by decide +kernel
theorem dX8_numberIn_45 : decode cX8_numberIn 45 = .ok (.invokevirtual 27, 3) := by decide +kernel
theorem dX8_numberIn_48 : decode cX8_numberIn 48 = .ok (.iadd, 1) := by decide +kernel
theorem dX8_numberIn_49 : decode cX8_numberIn 49 = .ok (.bipush 48, 2) := by decide +kernel
theorem dX8_numberIn_51 : decode cX8_numberIn 51 = .ok (.isub, 1) := by decide +kernel
theorem dX8_numberIn_52 : decode cX8_numberIn 52 = .ok (.ldc 39, 2) := by decide +kernel
theorem dX8_numberIn_54 : decode cX8_numberIn 54 = .ok (.invokestatic 40, 3) := by decide +kernel
theorem dX8_numberIn_57 : decode cX8_numberIn 57 = .ok (.istore_n 3, 1) := by decide +kernel
theorem dX8_numberIn_58 : decode cX8_numberIn 58 = .ok (.iinc 4 1, 3) := by decide +kernel
theorem dX8_numberIn_61 : decode cX8_numberIn 61 = .ok (.goto (-29), 3) := by decide +kernel
theorem dX8_numberIn_64 : decode cX8_numberIn 64 = .ok (.iload_n 3, 1) := by decide +kernel
theorem dX8_numberIn_65 : decode cX8_numberIn 65 = .ok (.ireturn, 1) := by decide +kernel
theorem dX9_init_0 : decode cX9_init 0 = .ok (.aload_n 0, 1) := by decide +kernel
theorem dX9_init_1 : decode cX9_init 1 = .ok (.invokespecial 1, 3) := by decide +kernel
theorem dX9_init_4 : decode cX9_init 4 = .ok (.aload_n 0, 1) := by decide +kernel
theorem dX9_init_5 : decode cX9_init 5 = .ok (.new 7, 3) := by decide +kernel
theorem dX9_init_8 : decode cX9_init 8 = .ok (.dup, 1) := by decide +kernel
theorem dX9_init_9 : decode cX9_init 9 = .ok (.invokespecial 9, 3) := by decide +kernel
theorem dX9_init_12 : decode cX9_init 12 = .ok (.putfield 10, 3) := by decide +kernel
theorem dX9_init_15 : decode cX9_init 15 = .ok (.aload_n 0, 1) := by decide +kernel
theorem dX9_init_16 : decode cX9_init 16 = .ok (.aload_n 0, 1) := by decide +kernel
theorem dX9_init_17 : decode cX9_init 17 = .ok (.getfield 10, 3) := by decide +kernel
theorem dX9_init_20 : decode cX9_init 20 = .ok (.getfield 16, 3) := by decide +kernel
theorem dX9_init_23 : decode cX9_init 23 = .ok (.putfield 20, 3) := by decide +kernel
theorem dX9_init_26 : decode cX9_init 26 = .ok (.aload_n 0, 1) := by decide +kernel
theorem dX9_init_27 : decode cX9_init 27 = .ok (.aload_n 0, 1) := by decide +kernel
theorem dX9_init_28 : decode cX9_init 28 = .ok (.getfield 20, 3) := by decide +kernel
theorem dX9_init_31 : decode cX9_init 31 = .ok (.getfield 21, 3) := by decide +kernel
theorem dX9_init_34 : decode cX9_init 34 = .ok (.putfield 27, 3) := by decide +kernel
theorem dX9_init_37 : decode cX9_init 37 = .ok (.aload_n 0, 1) := by decide +kernel
theorem dX9_init_38 : decode cX9_init 38 = .ok (.aload_n 0, 1) := by decide +kernel
theorem dX9_init_39 : decode cX9_init 39 = .ok (.getfield 10, 3) := by decide +kernel
theorem dX9_init_42 : decode cX9_init 42 = .ok (.getfield 28, 3) := by decide +kernel
theorem dX9_init_45 : decode cX9_init 45 = .ok (.putfield 32, 3) := by decide +kernel
theorem dX9_init_48 : decode cX9_init 48 = .ok (.aload_n 0, 1) := by decide +kernel
theorem dX9_init_49 : decode cX9_init 49 = .ok (.aload_n 0, 1) := by decide +kernel
theorem dX9_init_50 : decode cX9_init 50 = .ok (.getfield 10, 3) := by decide +kernel
theorem dX9_init_53 : decode cX9_init 53 = .ok (.getfield 33, 3) := by decide +kernel
theorem dX9_init_56 : decode cX9_init 56 = .ok (.putfield 36, 3) := by decide +kernel
theorem dX9_init_59 : decode cX9_init 59 = .ok (.aload_n 0, 1) := by decide +kernel
theorem dX9_init_60 : decode cX9_init 60 = .ok (.aload_n 0, 1) := by decide +kernel
theorem dX9_init_61 : decode cX9_init 61 = .ok (.getfield 10, 3) := by decide +kernel
theorem dX9_init_64 : decode cX9_init 64 = .ok (.getfield 37, 3) := by decide +kernel
theorem dX9_init_67 : decode cX9_init 67 = .ok (.putfield 41, 3) := by decide +kernel
theorem dX9_init_70 : decode cX9_init 70 = .ok (.aload_n 0, 1) := by decide +kernel
theorem dX9_init_71 : decode cX9_init 71 = .ok (.new 42, 3) := by decide +kernel
theorem dX9_init_74 : decode cX9_init 74 = .ok (.dup, 1) := by decide +kernel
theorem dX9_init_75 : decode cX9_init 75 = .ok (.invokespecial 44, 3) := by decide +kernel
theorem dX9_init_78 : decode cX9_init 78 = .ok (.putfield 45, 3) := by decide +kernel
theorem dX9_init_81 : decode cX9_init 81 = .ok (.aload_n 0, 1) := by decide +kernel
theorem dX9_init_82 : decode cX9_init 82 = .ok (.new 49, 3) := by decide +kernel
theorem dX9_init_85 : decode cX9_init 85 = .ok (.dup, 1) := by decide +kernel
theorem dX9_init_86 : decode cX9_init 86 = .ok (.invokespecial 51, 3) := by decide +kernel
theorem dX9_init_89 : decode cX9_init 89 = .ok (.putfield 52, 3) := by decide +kernel
theorem dX9_init_92 : decode cX9_init 92 = .ok (.aload_n 0, 1) := by decide +kernel
theorem dX9_init_93 : decode cX9_init 93 = .ok (.new 56, 3) := by decide +kernel
theorem dX9_init_96 : decode cX9_init 96 = .ok (.dup, 1) := by decide +kernel
theorem dX9_init_97 : decode cX9_init 97 = .ok (.invokespecial 58, 3) := by decide +kernel
theorem dX9_init_100 : decode cX9_init 100 = .ok (.putfield 59, 3) := by decide +kernel
theorem dX9_init_103 : decode cX9_init 103 = .ok (.aload_n 0, 1) := by decide +kernel
theorem dX9_init_104 : decode cX9_init 104 = .ok (.new 22, 3) := by decide +kernel
theorem dX9_init_107 : decode cX9_init 107 = .ok (.dup, 1) := by decide +kernel
theorem dX9_init_108 : decode cX9_init 108 = .ok (.invokespecial 63, 3) := by decide +kernel
theorem dX9_init_111 : decode cX9_init 111 = .ok (.putfield 64, 3) := by decide +kernel
theorem dX9_init_114 : decode cX9_init 114 = .ok (.aload_n 0, 1) := by decide +kernel
theorem dX9_init_115 : decode cX9_init 115 = .ok (.getfield 36, 3) := by decide +kernel
theorem dX9_init_118 : decode cX9_init 118 = .ok (.sipush 1000, 3) := by decide +kernel
theorem dX9_init_121 : decode cX9_init 121 = .ok (.iconst 2, 1) := by decide +kernel
theorem dX9_init_122 : decode cX9_init 122 = .ok (.invokevirtual 67, 3) := by decide +kernel
theorem dX9_init_125 : decode cX9_init 125 = .ok (.aload_n 0, 1) := by decide +kernel
theorem dX9_init_126 : decode cX9_init 126 = .ok (.getfield 36, 3) := by decide +kernel
theorem dX9_init_129 : decode cX9_init 129 = .ok (.sipush 1500, 3) := by decide +kernel
theorem dX9_init_132 : decode cX9_init 132 = .ok (.bipush 6, 2) := by decide +kernel
theorem dX9_init_134 : decode cX9_init 134 = .ok (.invokevirtual 67, 3) := by decide +kernel
theorem dX9_init_137 : decode cX9_init 137 = .ok (.aload_n 0, 1) := by decide +kernel
theorem dX9_init_138 : decode cX9_init 138 = .ok (.getfield 36, 3) := by decide +kernel
theorem dX9_init_141 : decode cX9_init 141 = .ok (.sipush 1900, 3) := by decide +kernel
theorem dX9_init_144 : decode cX9_init 144 = .ok (.bipush 14, 2) := by decide +kernel
theorem dX9_init_146 : decode cX9_init 146 = .ok (.invokevirtual 67, 3) := by decide +kernel
theorem dX9_init_149 : decode cX9_init 149 = .ok (.aload_n 0, 1) := by decide +kernel
theorem dX9_init_150 : decode cX9_init 150 = .ok (.getfield 36, 3) := by decide +kernel
theorem dX9_init_153 : decode cX9_init 153 = .ok (.sipush 2100, 3) := by decide +kernel
theorem dX9_init_156 : decode cX9_init 156 = .ok (.bipush 25, 2) := by decide +kernel
theorem dX9_init_158 : decode cX9_init 158 = .ok (.invokevirtual 67, 3) := by decide +kernel
theorem dX9_init_161 : decode cX9_init 161 = .ok (.return_, 1) := by decide +kernel
theorem dX9_setAmbient_0 : decode cX9_setAmbient 0 = .ok (.iload_n 1, 1) := by decide +kernel
theorem dX9_setAmbient_1 : decode cX9_setAmbient 1 = .ok (.iconst 0, 1) := by decide +kernel
theorem dX9_setAmbient_2 : decode cX9_setAmbient 2 = .ok (.sipush 400, 3) := by decide +kernel
theorem dX9_setAmbient_5 : decode cX9_setAmbient 5 = .ok (.invokestatic 73, 3) := by decide +kernel
theorem dX9_setAmbient_8 : decode cX9_setAmbient 8 = .ok (.ifCond .ne 6, 3) := by decide +kernel
theorem dX9_setAmbient_11 : decode cX9_setAmbient 11 = .ok (.ldc 77, 2) := by decide +kernel
theorem dX9_setAmbient_13 : decode cX9_setAmbient 13 = .ok (.ireturn, 1) := by decide +kernel
theorem dX9_setAmbient_14 : decode cX9_setAmbient 14 = .ok (.aload_n 0, 1) := by decide +kernel
theorem dX9_setAmbient_15 : decode cX9_setAmbient 15 = .ok (.getfield 45, 3) := by decide +kernel
theorem dX9_setAmbient_18 : decode cX9_setAmbient 18 = .ok (.aload_n 0, 1) := by decide +kernel
theorem dX9_setAmbient_19 : decode cX9_setAmbient 19 = .ok (.getfield 10, 3) := by decide +kernel
theorem dX9_setAmbient_22 : decode cX9_setAmbient 22 = .ok (.invokevirtual 78, 3) := by decide +kernel
theorem dX9_setAmbient_25 : decode cX9_setAmbient 25 = .ok (.aload_n 0, 1) := by decide +kernel
theorem dX9_setAmbient_26 : decode cX9_setAmbient 26 = .ok (.getfield 27, 3) := by decide +kernel
theorem dX9_setAmbient_29 : decode cX9_setAmbient 29 = .ok (.getfield 82, 3) := by decide +kernel
theorem dX9_setAmbient_32 : decode cX9_setAmbient 32 = .ok (.istore_n 2, 1) := by decide +kernel
theorem dX9_setAmbient_33 : decode cX9_setAmbient 33 = .ok (.aload_n 0, 1) := by decide +kernel
theorem dX9_setAmbient_34 : decode cX9_setAmbient 34 = .ok (.getfield 27, 3) := by decide +kernel
theorem dX9_setAmbient_37 : decode cX9_setAmbient 37 = .ok (.iload_n 1, 1) := by decide +kernel
theorem dX9_setAmbient_38 : decode cX9_setAmbient 38 = .ok (.putfield 82, 3) := by decide +kernel
theorem dX9_setAmbient_41 : decode cX9_setAmbient 41 = .ok (.iload_n 2, 1) := by decide +kernel
theorem dX9_setAmbient_42 : decode cX9_setAmbient 42 = .ok (.ireturn, 1) := by decide +kernel
theorem dX9_setPower_0 : decode cX9_setPower 0 = .ok (.iload_n 1, 1) := by decide +kernel
theorem dX9_setPower_1 : decode cX9_setPower 1 = .ok (.iconst 0, 1) := by decide +kernel
theorem dX9_setPower_2 : decode cX9_setPower 2 = .ok (.bipush 100, 2) := by decide +kernel
theorem dX9_setPower_4 : decode cX9_setPower 4 = .ok (.invokestatic 73, 3) := by decide +kernel
theorem dX9_setPower_7 : decode cX9_setPower 7 = .ok (.ifCond .ne 6, 3) := by decide +kernel
theorem dX9_setPower_10 : decode cX9_setPower 10 = .ok (.ldc 77, 2) := by decide +kernel
theorem dX9_setPower_12 : decode cX9_setPower 12 = .ok (.ireturn, 1) := by decide +kernel
theorem dX9_setPower_13 : decode cX9_setPower 13 = .ok (.aload_n 0, 1) := by decide +kernel
theorem dX9_setPower_14 : decode cX9_setPower 14 = .ok (.getfield 45, 3) := by decide +kernel
theorem dX9_setPower_17 : decode cX9_setPower 17 = .ok (.aload_n 0, 1) := by decide +kernel
theorem dX9_setPower_18 : decode cX9_setPower 18 = .ok (.getfield 10, 3) := by decide +kernel
theorem dX9_setPower_21 : decode cX9_setPower 21 = .ok (.invokevirtual 78, 3) := by decide +kernel
theorem dX9_setPower_24 : decode cX9_setPower 24 = .ok (.aload_n 0, 1) := by decide +kernel
theorem dX9_setPower_25 : decode cX9_setPower 25 = .ok (.getfield 20, 3) := by decide +kernel
theorem dX9_setPower_28 : decode cX9_setPower 28 = .ok (.getfield 88, 3) := by decide +kernel
theorem dX9_setPower_31 : decode cX9_setPower 31 = .ok (.istore_n 2, 1) := by decide +kernel
theorem dX9_setPower_32 : decode cX9_setPower 32 = .ok (.aload_n 0, 1) := by decide +kernel
theorem dX9_setPower_33 : decode cX9_setPower 33 = .ok (.getfield 20, 3) := by decide +kernel
theorem dX9_setPower_36 : decode cX9_setPower 36 = .ok (.iload_n 1, 1) := by decide +kernel
theorem dX9_setPower_37 : decode cX9_setPower 37 = .ok (.putfield 88, 3) := by decide +kernel
theorem dX9_setPower_40 : decode cX9_setPower 40 = .ok (.iload_n 2, 1) := by decide +kernel
theorem dX9_setPower_41 : decode cX9_setPower 41 = .ok (.ireturn, 1) := by decide +kernel
theorem dX9_setController_0 : decode cX9_setController 0 = .ok (.iload_n 1, 1) := by decide +kernel
theorem dX9_setController_1 : decode cX9_setController 1 = .ok (.iconst 0, 1) := by decide +kernel
theorem dX9_setController_2 : decode cX9_setController 2 = .ok (.iconst 1, 1) := by decide +kernel
theorem dX9_setController_3 : decode cX9_setController 3 = .ok (.invokestatic 73, 3) := by decide +kernel
theorem dX9_setController_6 : decode cX9_setController 6 = .ok (.ifCond .eq 36, 3) := by decide +kernel
theorem dX9_setController_9 : decode cX9_setController 9 = .ok (.iload_n 2, 1) := by decide +kernel
theorem dX9_setController_10 : decode cX9_setController 10 = .ok (.iconst 0, 1) := by decide +kernel
theorem dX9_setController_11 : decode cX9_setController 11 = .ok (.sipush 200, 3) := by decide +kernel
theorem dX9_setController_14 : decode cX9_setController 14 = .ok (.invokestatic 73, 3) := by decide +kernel
theorem dX9_setController_17 : decode cX9_setController 17 = .ok (.ifCond .eq 25, 3) := by decide +kernel
theorem dX9_setController_20 : decode cX9_setController 20 = .ok (.iload_n 3, 1) := by decide +kernel
theorem dX9_setController_21 : decode cX9_setController 21 = .ok (.iconst 0, 1) := by decide +kernel
theorem dX9_setController_22 : decode cX9_setController 22 = .ok (.sipush 200, 3) := by decide +kernel
theorem dX9_setController_25 : decode cX9_setController 25 = .ok (.invokestatic 73, 3) := by decide +kernel
theorem dX9_setController_28 : decode cX9_setController 28 = .ok (.ifCond .eq 14, 3) := by decide +kernel
theorem dX9_setController_31 : decode cX9_setController 31 = .ok (.iload 4, 2) := by decide +kernel
theorem dX9_setController_33 : decode cX9_setController 33 = .ok (.iconst 0, 1) := by decide +kernel
theorem dX9_setController_34 : decode cX9_setController 34 = .ok (.bipush 100, 2) := by decide +kernel
theorem dX9_setController_36 : decode cX9_setController 36 = .ok (.invokestatic 73, 3) := by decide +kernel
theorem dX9_setController_39 : decode cX9_setController 39 = .ok (.ifCond .ne 6, 3) := by decide +kernel
theorem dX9_setController_42 : decode cX9_setController 42 = .ok (.ldc 77, 2) := by decide +kernel
theorem dX9_setController_44 : decode cX9_setController 44 = .ok (.ireturn, 1) := by decide +kernel
theorem dX9_setController_45 : decode cX9_setController 45 = .ok (.aload_n 0, 1) := by decide +kernel
theorem dX9_setController_46 : decode cX9_setController 46 = .ok (.getfield 45, 3) := by decide +kernel
theorem dX9_setController_49 : decode cX9_setController 49 = .ok (.aload_n 0, 1) := by decide +kernel
theorem dX9_setController_50 : decode cX9_setController 50 = .ok (.getfield 10, 3) := by decide +kernel
theorem dX9_setController_53 : decode cX9_setController 53 = .ok (.invokevirtual 78, 3) := by decide +kernel
theorem dX9_setController_56 : decode cX9_setController 56 = .ok (.aload_n 0, 1) := by decide +kernel
theorem dX9_setController_57 : decode cX9_setController 57 = .ok (.getfield 27, 3) := by decide +kernel
theorem dX9_setController_60 : decode cX9_setController 60 = .ok (.getfield 91, 3) := by decide +kernel
theorem dX9_setController_63 : decode cX9_setController 63 = .ok (.iload_n 1, 1) := by decide +kernel
theorem dX9_setController_64 : decode cX9_setController 64 = .ok (.if_icmp .ne 41, 3) := by decide +kernel
theorem dX9_setController_67 : decode cX9_setController 67 = .ok (.aload_n 0, 1) := by decide +kernel
theorem dX9_setController_68 : decode cX9_setController 68 = .ok (.getfield 27, 3) := by decide +kernel
theorem dX9_setController_71 : decode cX9_setController 71 = .ok (.getfield 94, 3) := by decide +kernel
theorem dX9_setController_74 : decode cX9_setController 74 = .ok (.iload_n 2, 1) := by decide +kernel
theorem dX9_setController_75 : decode cX9_setController 75 = .ok (.if_icmp .ne 30, 3) := by decide +kernel
theorem dX9_setController_78 : decode cX9_setController 78 = .ok (.aload_n 0, 1) := by decide +kernel
theorem dX9_setController_79 : decode cX9_setController 79 = .ok (.getfield 27, 3) := by decide +kernel
theorem dX9_setController_82 : decode cX9_setController 82 = .ok (.getfield 97, 3) := by decide +kernel
theorem dX9_setController_85 : decode cX9_setController 85 = .ok (.iload_n 3, 1) := by decide +kernel
theorem dX9_setController_86 : decode cX9_setController 86 = .ok (.if_icmp .ne 19, 3) := by decide +kernel
theorem dX9_setController_89 : decode cX9_setController 89 = .ok (.aload_n 0, 1) := by decide +kernel
theorem dX9_setController_90 : decode cX9_setController 90 = .ok (.getfield 27, 3) := by decide +kernel
theorem dX9_setController_93 : decode cX9_setController 93 = .ok (.getfield 100, 3) := by decide +kernel
theorem dX9_setController_96 : decode cX9_setController 96 = .ok (.iload 4, 2) := by decide +kernel
theorem dX9_setController_98 : decode cX9_setController 98 = .ok (.if_icmp .ne 7, 3) := by decide +kernel
theorem dX9_setController_101 : decode cX9_setController 101 = .ok (.iconst 1, 1) := by decide +kernel
theorem dX9_setController_102 : decode cX9_setController 102 = .ok (.goto 4, 3) := by decide +kernel
theorem dX9_setController_105 : decode cX9_setController 105 = .ok (.iconst 0, 1) := by decide +kernel
theorem dX9_setController_106 : decode cX9_setController 106 = .ok (.istore 5, 2) := by decide +kernel
theorem dX9_setController_108 : decode cX9_setController 108 = .ok (.aload_n 0, 1) := by decide +kernel
theorem dX9_setController_109 : decode cX9_setController 109 = .ok (.getfield 27, 3) := by decide +kernel
theorem dX9_setController_112 : decode cX9_setController 112 = .ok (.iload_n 1, 1) := by decide +kernel
theorem dX9_setController_113 : decode cX9_setController 113 = .ok (.putfield 91, 3) := by decide +kernel
theorem dX9_setController_116 : decode cX9_setController 116 = .ok (.aload_n 0, 1) := by decide +kernel
theorem dX9_setController_117 : decode cX9_setController 117 = .ok (.getfield 27, 3) := by decide +kernel
theorem dX9_setController_120 : decode cX9_setController 120 = .ok (.iload_n 2, 1) := by decide +kernel
theorem dX9_setController_121 : decode cX9_setController 121 = .ok (.putfield 94, 3) := by decide +kernel
theorem dX9_setController_124 : decode cX9_setController 124 = .ok (.aload_n 0, 1) := by decide +kernel
theorem dX9_setController_125 : decode cX9_setController 125 = .ok (.getfield 27, 3) := by decide +kernel
theorem dX9_setController_128 : decode cX9_setController 128 = .ok (.iload_n 3, 1) := by decide +kernel
theorem dX9_setController_129 : decode cX9_setController 129 = .ok (.putfield 97, 3) := by decide +kernel
theorem dX9_setController_132 : decode cX9_setController 132 = .ok (.aload_n 0, 1) := by decide +kernel
theorem dX9_setController_133 : decode cX9_setController 133 = .ok (.getfield 27, 3) := by decide +kernel
theorem dX9_setController_136 : decode cX9_setController 136 = .ok (.iload 4, 2) := by decide +kernel
theorem dX9_setController_138 : decode cX9_setController 138 = .ok (.putfield 100, 3) := by decide +kernel
theorem dX9_setController_141 : decode cX9_setController 141 = .ok (.iload 5, 2) := by decide +kernel
theorem dX9_setController_143 : decode cX9_setController 143 = .ok (.ifCond .eq 7, 3) := by decide +kernel
theorem dX9_setController_146 : decode cX9_setController 146 = .ok (.iconst 0, 1) := by decide +kernel
theorem dX9_setController_147 : decode cX9_setController 147 = .ok (.goto 4, 3) := by decide +kernel
theorem dX9_setController_150 : decode cX9_setController 150 = .ok (.iconst 1, 1) := by decide +kernel
theorem dX9_setController_151 : decode cX9_setController 151 = .ok (.ireturn, 1) := by decide +kernel
theorem dX9_setProbe_0 : decode cX9_setProbe 0 = .ok (.iload_n 1, 1) := by decide +kernel
theorem dX9_setProbe_1 : decode cX9_setProbe 1 = .ok (.iconst 1, 1) := by decide +kernel
theorem dX9_setProbe_2 : decode cX9_setProbe 2 = .ok (.bipush 60, 2) := by decide +kernel
theorem dX9_setProbe_4 : decode cX9_setProbe 4 = .ok (.invokestatic 73, 3) := by decide +kernel
theorem dX9_setProbe_7 : decode cX9_setProbe 7 = .ok (.ifCond .eq 12, 3) := by decide +kernel
theorem dX9_setProbe_10 : decode cX9_setProbe 10 = .ok (.iload_n 2, 1) := by decide +kernel
theorem dX9_setProbe_11 : decode cX9_setProbe 11 = .ok (.iconst 0, 1) := by decide +kernel
theorem dX9_setProbe_12 : decode cX9_setProbe 12 = .ok (.iconst 5, 1) := by decide +kernel
theorem dX9_setProbe_13 : decode cX9_setProbe 13 = .ok (.invokestatic 73, 3) := by decide +kernel
theorem dX9_setProbe_16 : decode cX9_setProbe 16 = .ok (.ifCond .ne 6, 3) := by decide +kernel
theorem dX9_setProbe_19 : decode cX9_setProbe 19 = .ok (.ldc 77, 2) := by decide +kernel
theorem dX9_setProbe_21 : decode cX9_setProbe 21 = .ok (.ireturn, 1) := by decide +kernel
theorem dX9_setProbe_22 : decode cX9_setProbe 22 = .ok (.aload_n 0, 1) := by decide +kernel
theorem dX9_setProbe_23 : decode cX9_setProbe 23 = .ok (.getfield 45, 3) := by decide +kernel
theorem dX9_setProbe_26 : decode cX9_setProbe 26 = .ok (.aload_n 0, 1) := by decide +kernel
theorem dX9_setProbe_27 : decode cX9_setProbe 27 = .ok (.getfield 10, 3) := by decide +kernel
theorem dX9_setProbe_30 : decode cX9_setProbe 30 = .ok (.invokevirtual 78, 3) := by decide +kernel
theorem dX9_setProbe_33 : decode cX9_setProbe 33 = .ok (.aload_n 0, 1) := by decide +kernel
theorem dX9_setProbe_34 : decode cX9_setProbe 34 = .ok (.getfield 27, 3) := by decide +kernel
theorem dX9_setProbe_37 : decode cX9_setProbe 37 = .ok (.getfield 103, 3) := by decide +kernel
theorem dX9_setProbe_40 : decode cX9_setProbe 40 = .ok (.istore_n 3, 1) := by decide +kernel
theorem dX9_setProbe_41 : decode cX9_setProbe 41 = .ok (.aload_n 0, 1) := by decide +kernel
theorem dX9_setProbe_42 : decode cX9_setProbe 42 = .ok (.getfield 27, 3) := by decide +kernel
theorem dX9_setProbe_45 : decode cX9_setProbe 45 = .ok (.iload_n 1, 1) := by decide +kernel
theorem dX9_setProbe_46 : decode cX9_setProbe 46 = .ok (.putfield 103, 3) := by decide +kernel
theorem dX9_setProbe_49 : decode cX9_setProbe 49 = .ok (.aload_n 0, 1) := by decide +kernel
theorem dX9_setProbe_50 : decode cX9_setProbe 50 = .ok (.getfield 27, 3) := by decide +kernel
theorem dX9_setProbe_53 : decode cX9_setProbe 53 = .ok (.iload_n 2, 1) := by decide +kernel
theorem dX9_setProbe_54 : decode cX9_setProbe 54 = .ok (.putfield 106, 3) := by decide +kernel
theorem dX9_setProbe_57 : decode cX9_setProbe 57 = .ok (.iload_n 3, 1) := by decide +kernel
theorem dX9_setProbe_58 : decode cX9_setProbe 58 = .ok (.ireturn, 1) := by decide +kernel
theorem dX9_setCrack_0 : decode cX9_setCrack 0 = .ok (.iload_n 1, 1) := by decide +kernel
theorem dX9_setCrack_1 : decode cX9_setCrack 1 = .ok (.sipush 1500, 3) := by decide +kernel
theorem dX9_setCrack_4 : decode cX9_setCrack 4 = .ok (.sipush 2300, 3) := by decide +kernel
theorem dX9_setCrack_7 : decode cX9_setCrack 7 = .ok (.invokestatic 73, 3) := by decide +kernel
theorem dX9_setCrack_10 : decode cX9_setCrack 10 = .ok (.ifCond .eq 14, 3) := by decide +kernel
theorem dX9_setCrack_13 : decode cX9_setCrack 13 = .ok (.iload_n 2, 1) := by decide +kernel
theorem dX9_setCrack_14 : decode cX9_setCrack 14 = .ok (.iconst 1, 1) := by decide +kernel
theorem dX9_setCrack_15 : decode cX9_setCrack 15 = .ok (.sipush 600, 3) := by decide +kernel
theorem dX9_setCrack_18 : decode cX9_setCrack 18 = .ok (.invokestatic 73, 3) := by decide +kernel
theorem dX9_setCrack_21 : decode cX9_setCrack 21 = .ok (.ifCond .ne 6, 3) := by decide +kernel
theorem dX9_setCrack_24 : decode cX9_setCrack 24 = .ok (.ldc 77, 2) := by decide +kernel
theorem dX9_setCrack_26 : decode cX9_setCrack 26 = .ok (.ireturn, 1) := by decide +kernel
theorem dX9_setCrack_27 : decode cX9_setCrack 27 = .ok (.aload_n 0, 1) := by decide +kernel
theorem dX9_setCrack_28 : decode cX9_setCrack 28 = .ok (.getfield 45, 3) := by decide +kernel
theorem dX9_setCrack_31 : decode cX9_setCrack 31 = .ok (.aload_n 0, 1) := by decide +kernel
theorem dX9_setCrack_32 : decode cX9_setCrack 32 = .ok (.getfield 10, 3) := by decide +kernel
theorem dX9_setCrack_35 : decode cX9_setCrack 35 = .ok (.invokevirtual 78, 3) := by decide +kernel
theorem dX9_setCrack_38 : decode cX9_setCrack 38 = .ok (.aload_n 0, 1) := by decide +kernel
theorem dX9_setCrack_39 : decode cX9_setCrack 39 = .ok (.getfield 27, 3) := by decide +kernel
theorem dX9_setCrack_42 : decode cX9_setCrack 42 = .ok (.getfield 109, 3) := by decide +kernel
theorem dX9_setCrack_45 : decode cX9_setCrack 45 = .ok (.iload_n 1, 1) := by decide +kernel
theorem dX9_setCrack_46 : decode cX9_setCrack 46 = .ok (.if_icmp .ne 18, 3) := by decide +kernel
theorem dX9_setCrack_49 : decode cX9_setCrack 49 = .ok (.aload_n 0, 1) := by decide +kernel
theorem dX9_setCrack_50 : decode cX9_setCrack 50 = .ok (.getfield 27, 3) := by decide +kernel
theorem dX9_setCrack_53 : decode cX9_setCrack 53 = .ok (.getfield 112, 3) := by decide +kernel
theorem dX9_setCrack_56 : decode cX9_setCrack 56 = .ok (.iload_n 2, 1) := by decide +kernel
theorem dX9_setCrack_57 : decode cX9_setCrack 57 = .ok (.if_icmp .ne 7, 3) := by decide +kernel
theorem dX9_setCrack_60 : decode cX9_setCrack 60 = .ok (.iconst 1, 1) := by decide +kernel
theorem dX9_setCrack_61 : decode cX9_setCrack 61 = .ok (.goto 4, 3) := by decide +kernel
theorem dX9_setCrack_64 : decode cX9_setCrack 64 = .ok (.iconst 0, 1) := by decide +kernel
theorem dX9_setCrack_65 : decode cX9_setCrack 65 = .ok (.istore_n 3, 1) := by decide +kernel
theorem dX9_setCrack_66 : decode cX9_setCrack 66 = .ok (.aload_n 0, 1) := by decide +kernel
theorem dX9_setCrack_67 : decode cX9_setCrack 67 = .ok (.getfield 27, 3) := by decide +kernel
theorem dX9_setCrack_70 : decode cX9_setCrack 70 = .ok (.iload_n 1, 1) := by decide +kernel
theorem dX9_setCrack_71 : decode cX9_setCrack 71 = .ok (.putfield 109, 3) := by decide +kernel
theorem dX9_setCrack_74 : decode cX9_setCrack 74 = .ok (.aload_n 0, 1) := by decide +kernel
theorem dX9_setCrack_75 : decode cX9_setCrack 75 = .ok (.getfield 27, 3) := by decide +kernel
theorem dX9_setCrack_78 : decode cX9_setCrack 78 = .ok (.iload_n 2, 1) := by decide +kernel
theorem dX9_setCrack_79 : decode cX9_setCrack 79 = .ok (.putfield 112, 3) := by decide +kernel
theorem dX9_setCrack_82 : decode cX9_setCrack 82 = .ok (.iload_n 3, 1) := by decide +kernel
theorem dX9_setCrack_83 : decode cX9_setCrack 83 = .ok (.ifCond .eq 7, 3) := by decide +kernel
theorem dX9_setCrack_86 : decode cX9_setCrack 86 = .ok (.iconst 0, 1) := by decide +kernel
theorem dX9_setCrack_87 : decode cX9_setCrack 87 = .ok (.goto 4, 3) := by decide +kernel
theorem dX9_setCrack_90 : decode cX9_setCrack 90 = .ok (.iconst 1, 1) := by decide +kernel
theorem dX9_setCrack_91 : decode cX9_setCrack 91 = .ok (.ireturn, 1) := by decide +kernel
theorem dX9_setFan_0 : decode cX9_setFan 0 = .ok (.iload_n 1, 1) := by decide +kernel
theorem dX9_setFan_1 : decode cX9_setFan 1 = .ok (.iconst 1, 1) := by decide +kernel
theorem dX9_setFan_2 : decode cX9_setFan 2 = .ok (.bipush 50, 2) := by decide +kernel
theorem dX9_setFan_4 : decode cX9_setFan 4 = .ok (.invokestatic 73, 3) := by decide +kernel
theorem dX9_setFan_7 : decode cX9_setFan 7 = .ok (.ifCond .ne 6, 3) := by decide +kernel
theorem dX9_setFan_10 : decode cX9_setFan 10 = .ok (.ldc 77, 2) := by decide +kernel
theorem dX9_setFan_12 : decode cX9_setFan 12 = .ok (.ireturn, 1) := by decide +kernel
theorem dX9_setFan_13 : decode cX9_setFan 13 = .ok (.aload_n 0, 1) := by decide +kernel
theorem dX9_setFan_14 : decode cX9_setFan 14 = .ok (.getfield 45, 3) := by decide +kernel
theorem dX9_setFan_17 : decode cX9_setFan 17 = .ok (.aload_n 0, 1) := by decide +kernel
theorem dX9_setFan_18 : decode cX9_setFan 18 = .ok (.getfield 10, 3) := by decide +kernel
theorem dX9_setFan_21 : decode cX9_setFan 21 = .ok (.invokevirtual 78, 3) := by decide +kernel
theorem dX9_setFan_24 : decode cX9_setFan 24 = .ok (.aload_n 0, 1) := by decide +kernel
theorem dX9_setFan_25 : decode cX9_setFan 25 = .ok (.getfield 27, 3) := by decide +kernel
theorem dX9_setFan_28 : decode cX9_setFan 28 = .ok (.getfield 115, 3) := by decide +kernel
theorem dX9_setFan_31 : decode cX9_setFan 31 = .ok (.istore_n 2, 1) := by decide +kernel
theorem dX9_setFan_32 : decode cX9_setFan 32 = .ok (.aload_n 0, 1) := by decide +kernel
theorem dX9_setFan_33 : decode cX9_setFan 33 = .ok (.getfield 27, 3) := by decide +kernel
theorem dX9_setFan_36 : decode cX9_setFan 36 = .ok (.iload_n 1, 1) := by decide +kernel
theorem dX9_setFan_37 : decode cX9_setFan 37 = .ok (.putfield 115, 3) := by decide +kernel
theorem dX9_setFan_40 : decode cX9_setFan 40 = .ok (.iload_n 2, 1) := by decide +kernel
theorem dX9_setFan_41 : decode cX9_setFan 41 = .ok (.ireturn, 1) := by decide +kernel
theorem dX9_setPoint_0 : decode cX9_setPoint 0 = .ok (.iload_n 1, 1) := by decide +kernel
theorem dX9_setPoint_1 : decode cX9_setPoint 1 = .ok (.iconst 0, 1) := by decide +kernel
theorem dX9_setPoint_2 : decode cX9_setPoint 2 = .ok (.sipush 400, 3) := by decide +kernel
theorem dX9_setPoint_5 : decode cX9_setPoint 5 = .ok (.invokestatic 73, 3) := by decide +kernel
theorem dX9_setPoint_8 : decode cX9_setPoint 8 = .ok (.ifCond .eq 14, 3) := by decide +kernel
theorem dX9_setPoint_11 : decode cX9_setPoint 11 = .ok (.iload_n 2, 1) := by decide +kernel
theorem dX9_setPoint_12 : decode cX9_setPoint 12 = .ok (.iconst 0, 1) := by decide +kernel
theorem dX9_setPoint_13 : decode cX9_setPoint 13 = .ok (.sipush 3000, 3) := by decide +kernel
theorem dX9_setPoint_16 : decode cX9_setPoint 16 = .ok (.invokestatic 73, 3) := by decide +kernel
theorem dX9_setPoint_19 : decode cX9_setPoint 19 = .ok (.ifCond .ne 6, 3) := by decide +kernel
theorem dX9_setPoint_22 : decode cX9_setPoint 22 = .ok (.ldc 77, 2) := by decide +kernel
theorem dX9_setPoint_24 : decode cX9_setPoint 24 = .ok (.ireturn, 1) := by decide +kernel
theorem dX9_setPoint_25 : decode cX9_setPoint 25 = .ok (.aload_n 0, 1) := by decide +kernel
theorem dX9_setPoint_26 : decode cX9_setPoint 26 = .ok (.getfield 32, 3) := by decide +kernel
theorem dX9_setPoint_29 : decode cX9_setPoint 29 = .ok (.iload_n 1, 1) := by decide +kernel
theorem dX9_setPoint_30 : decode cX9_setPoint 30 = .ok (.invokevirtual 118, 3) := by decide +kernel
theorem dX9_setPoint_33 : decode cX9_setPoint 33 = .ok (.ifCond .ne 6, 3) := by decide +kernel
theorem dX9_setPoint_36 : decode cX9_setPoint 36 = .ok (.ldc 122, 2) := by decide +kernel
theorem dX9_setPoint_38 : decode cX9_setPoint 38 = .ok (.ireturn, 1) := by decide +kernel
theorem dX9_setPoint_39 : decode cX9_setPoint 39 = .ok (.aload_n 0, 1) := by decide +kernel
theorem dX9_setPoint_40 : decode cX9_setPoint 40 = .ok (.getfield 45, 3) := by decide +kernel
theorem dX9_setPoint_43 : decode cX9_setPoint 43 = .ok (.aload_n 0, 1) := by decide +kernel
theorem dX9_setPoint_44 : decode cX9_setPoint 44 = .ok (.getfield 10, 3) := by decide +kernel
theorem dX9_setPoint_47 : decode cX9_setPoint 47 = .ok (.invokevirtual 78, 3) := by decide +kernel
theorem dX9_setPoint_50 : decode cX9_setPoint 50 = .ok (.aload_n 0, 1) := by decide +kernel
theorem dX9_setPoint_51 : decode cX9_setPoint 51 = .ok (.getfield 32, 3) := by decide +kernel
theorem dX9_setPoint_54 : decode cX9_setPoint 54 = .ok (.iload_n 1, 1) := by decide +kernel
theorem dX9_setPoint_55 : decode cX9_setPoint 55 = .ok (.iload_n 2, 1) := by decide +kernel
theorem dX9_setPoint_56 : decode cX9_setPoint 56 = .ok (.invokevirtual 67, 3) := by decide +kernel
theorem dX9_setPoint_59 : decode cX9_setPoint 59 = .ok (.aload_n 0, 1) := by decide +kernel
theorem dX9_setPoint_60 : decode cX9_setPoint 60 = .ok (.getfield 32, 3) := by decide +kernel
theorem dX9_setPoint_63 : decode cX9_setPoint 63 = .ok (.getfield 123, 3) := by decide +kernel
theorem dX9_setPoint_66 : decode cX9_setPoint 66 = .ok (.ireturn, 1) := by decide +kernel
theorem dX9_removePoint_0 : decode cX9_removePoint 0 = .ok (.iload_n 1, 1) := by decide +kernel
theorem dX9_removePoint_1 : decode cX9_removePoint 1 = .ok (.iconst 0, 1) := by decide +kernel
theorem dX9_removePoint_2 : decode cX9_removePoint 2 = .ok (.sipush 400, 3) := by decide +kernel
theorem dX9_removePoint_5 : decode cX9_removePoint 5 = .ok (.invokestatic 73, 3) := by decide +kernel
theorem dX9_removePoint_8 : decode cX9_removePoint 8 = .ok (.ifCond .ne 6, 3) := by decide +kernel
theorem dX9_removePoint_11 : decode cX9_removePoint 11 = .ok (.ldc 77, 2) := by decide +kernel
theorem dX9_removePoint_13 : decode cX9_removePoint 13 = .ok (.ireturn, 1) := by decide +kernel
theorem dX9_removePoint_14 : decode cX9_removePoint 14 = .ok (.aload_n 0, 1) := by decide +kernel
theorem dX9_removePoint_15 : decode cX9_removePoint 15 = .ok (.getfield 32, 3) := by decide +kernel
theorem dX9_removePoint_18 : decode cX9_removePoint 18 = .ok (.iload_n 1, 1) := by decide +kernel
theorem dX9_removePoint_19 : decode cX9_removePoint 19 = .ok (.invokevirtual 126, 3) := by decide +kernel
theorem dX9_removePoint_22 : decode cX9_removePoint 22 = .ok (.ifCond .ne 6, 3) := by decide +kernel
theorem dX9_removePoint_25 : decode cX9_removePoint 25 = .ok (.ldc 129, 2) := by decide +kernel
theorem dX9_removePoint_27 : decode cX9_removePoint 27 = .ok (.ireturn, 1) := by decide +kernel
theorem dX9_removePoint_28 : decode cX9_removePoint 28 = .ok (.aload_n 0, 1) := by decide +kernel
theorem dX9_removePoint_29 : decode cX9_removePoint 29 = .ok (.getfield 45, 3) := by decide +kernel
theorem dX9_removePoint_32 : decode cX9_removePoint 32 = .ok (.aload_n 0, 1) := by decide +kernel
theorem dX9_removePoint_33 : decode cX9_removePoint 33 = .ok (.getfield 10, 3) := by decide +kernel
theorem dX9_removePoint_36 : decode cX9_removePoint 36 = .ok (.invokevirtual 78, 3) := by decide +kernel
theorem dX9_removePoint_39 : decode cX9_removePoint 39 = .ok (.aload_n 0, 1) := by decide +kernel
theorem dX9_removePoint_40 : decode cX9_removePoint 40 = .ok (.getfield 32, 3) := by decide +kernel
theorem dX9_removePoint_43 : decode cX9_removePoint 43 = .ok (.iload_n 1, 1) := by decide +kernel
theorem dX9_removePoint_44 : decode cX9_removePoint 44 = .ok (.invokevirtual 130, 3) := by decide +kernel
theorem dX9_removePoint_47 : decode cX9_removePoint 47 = .ok (.istore_n 2, 1) := by decide +kernel
theorem dX9_removePoint_48 : decode cX9_removePoint 48 = .ok (.aload_n 0, 1) := by decide +kernel
theorem dX9_removePoint_49 : decode cX9_removePoint 49 = .ok (.getfield 32, 3) := by decide +kernel
theorem dX9_removePoint_52 : decode cX9_removePoint 52 = .ok (.iload_n 1, 1) := by decide +kernel
theorem dX9_removePoint_53 : decode cX9_removePoint 53 = .ok (.invokevirtual 134, 3) := by decide +kernel
theorem dX9_removePoint_56 : decode cX9_removePoint 56 = .ok (.iload_n 2, 1) := by decide +kernel
theorem dX9_removePoint_57 : decode cX9_removePoint 57 = .ok (.ireturn, 1) := by decide +kernel
theorem dX9_setRow_0 : decode cX9_setRow 0 = .ok (.iload_n 1, 1) := by decide +kernel
theorem dX9_setRow_1 : decode cX9_setRow 1 = .ok (.iconst 0, 1) := by decide +kernel
theorem dX9_setRow_2 : decode cX9_setRow 2 = .ok (.sipush 3000, 3) := by decide +kernel
theorem dX9_setRow_5 : decode cX9_setRow 5 = .ok (.invokestatic 73, 3) := by decide +kernel
theorem dX9_setRow_8 : decode cX9_setRow 8 = .ok (.ifCond .eq 14, 3) := by decide +kernel
theorem dX9_setRow_11 : decode cX9_setRow 11 = .ok (.iload_n 2, 1) := by decide +kernel
theorem dX9_setRow_12 : decode cX9_setRow 12 = .ok (.iconst (-1), 1) := by decide +kernel
theorem dX9_setRow_13 : decode cX9_setRow 13 = .ok (.sipush 999, 3) := by decide +kernel
theorem dX9_setRow_16 : decode cX9_setRow 16 = .ok (.invokestatic 73, 3) := by decide +kernel
theorem dX9_setRow_19 : decode cX9_setRow 19 = .ok (.ifCond .ne 6, 3) := by decide +kernel
theorem dX9_setRow_22 : decode cX9_setRow 22 = .ok (.ldc 77, 2) := by decide +kernel
theorem dX9_setRow_24 : decode cX9_setRow 24 = .ok (.ireturn, 1) := by decide +kernel
theorem dX9_setRow_25 : decode cX9_setRow 25 = .ok (.iload_n 2, 1) := by decide +kernel
theorem dX9_setRow_26 : decode cX9_setRow 26 = .ok (.iconst (-1), 1) := by decide +kernel
theorem dX9_setRow_27 : decode cX9_setRow 27 = .ok (.if_icmp .ne 7, 3) := by decide +kernel
theorem dX9_setRow_30 : decode cX9_setRow 30 = .ok (.iconst 1, 1) := by decide +kernel
theorem dX9_setRow_31 : decode cX9_setRow 31 = .ok (.goto 4, 3) := by decide +kernel
theorem dX9_setRow_34 : decode cX9_setRow 34 = .ok (.iconst 0, 1) := by decide +kernel
theorem dX9_setRow_35 : decode cX9_setRow 35 = .ok (.istore_n 3, 1) := by decide +kernel
theorem dX9_setRow_36 : decode cX9_setRow 36 = .ok (.iload_n 3, 1) := by decide +kernel
theorem dX9_setRow_37 : decode cX9_setRow 37 = .ok (.ifCond .eq 17, 3) := by decide +kernel
theorem dX9_setRow_40 : decode cX9_setRow 40 = .ok (.aload_n 0, 1) := by decide +kernel
theorem dX9_setRow_41 : decode cX9_setRow 41 = .ok (.getfield 36, 3) := by decide +kernel
theorem dX9_setRow_44 : decode cX9_setRow 44 = .ok (.iload_n 1, 1) := by decide +kernel
theorem dX9_setRow_45 : decode cX9_setRow 45 = .ok (.invokevirtual 126, 3) := by decide +kernel
theorem dX9_setRow_48 : decode cX9_setRow 48 = .ok (.ifCond .ne 6, 3) := by decide +kernel
theorem dX9_setRow_51 : decode cX9_setRow 51 = .ok (.ldc 129, 2) := by decide +kernel
theorem dX9_setRow_53 : decode cX9_setRow 53 = .ok (.ireturn, 1) := by decide +kernel
theorem dX9_setRow_54 : decode cX9_setRow 54 = .ok (.iload_n 3, 1) := by decide +kernel
theorem dX9_setRow_55 : decode cX9_setRow 55 = .ok (.ifCond .ne 17, 3) := by decide +kernel
theorem dX9_setRow_58 : decode cX9_setRow 58 = .ok (.aload_n 0, 1) := by decide +kernel
theorem dX9_setRow_59 : decode cX9_setRow 59 = .ok (.getfield 36, 3) := by decide +kernel
theorem dX9_setRow_62 : decode cX9_setRow 62 = .ok (.iload_n 1, 1) := by decide +kernel
theorem dX9_setRow_63 : decode cX9_setRow 63 = .ok (.invokevirtual 118, 3) := by decide +kernel
theorem dX9_setRow_66 : decode cX9_setRow 66 = .ok (.ifCond .ne 6, 3) := by decide +kernel
theorem dX9_setRow_69 : decode cX9_setRow 69 = .ok (.ldc 122, 2) := by decide +kernel
theorem dX9_setRow_71 : decode cX9_setRow 71 = .ok (.ireturn, 1) := by decide +kernel
theorem dX9_setRow_72 : decode cX9_setRow 72 = .ok (.aload_n 0, 1) := by decide +kernel
theorem dX9_setRow_73 : decode cX9_setRow 73 = .ok (.getfield 45, 3) := by decide +kernel
theorem dX9_setRow_76 : decode cX9_setRow 76 = .ok (.aload_n 0, 1) := by decide +kernel
theorem dX9_setRow_77 : decode cX9_setRow 77 = .ok (.getfield 10, 3) := by decide +kernel
theorem dX9_setRow_80 : decode cX9_setRow 80 = .ok (.invokevirtual 78, 3) := by decide +kernel
theorem dX9_setRow_83 : decode cX9_setRow 83 = .ok (.iload_n 3, 1) := by decide +kernel
theorem dX9_setRow_84 : decode cX9_setRow 84 = .ok (.ifCond .eq 14, 3) := by decide +kernel
theorem dX9_setRow_87 : decode cX9_setRow 87 = .ok (.aload_n 0, 1) := by decide +kernel
theorem dX9_setRow_88 : decode cX9_setRow 88 = .ok (.getfield 36, 3) := by decide +kernel
theorem dX9_setRow_91 : decode cX9_setRow 91 = .ok (.iload_n 1, 1) := by decide +kernel
theorem dX9_setRow_92 : decode cX9_setRow 92 = .ok (.invokevirtual 134, 3) := by decide +kernel
theorem dX9_setRow_95 : decode cX9_setRow 95 = .ok (.goto 12, 3) := by decide +kernel
theorem dX9_setRow_98 : decode cX9_setRow 98 = .ok (.aload_n 0, 1) := by decide +kernel
theorem dX9_setRow_99 : decode cX9_setRow 99 = .ok (.getfield 36, 3) := by decide +kernel
theorem dX9_setRow_102 : decode cX9_setRow 102 = .ok (.iload_n 1, 1) := by decide +kernel
theorem dX9_setRow_103 : decode cX9_setRow 103 = .ok (.iload_n 2, 1) := by decide +kernel
theorem dX9_setRow_104 : decode cX9_setRow 104 = .ok (.invokevirtual 67, 3) := by decide +kernel
theorem dX9_setRow_107 : decode cX9_setRow 107 = .ok (.aload_n 0, 1) := by decide +kernel
theorem dX9_setRow_108 : decode cX9_setRow 108 = .ok (.getfield 36, 3) := by decide +kernel
theorem dX9_setRow_111 : decode cX9_setRow 111 = .ok (.getfield 123, 3) := by decide +kernel
theorem dX9_setRow_114 : decode cX9_setRow 114 = .ok (.ireturn, 1) := by decide +kernel
theorem dX9_append_0 : decode cX9_append 0 = .ok (.iload_n 1, 1) := by decide +kernel
theorem dX9_append_1 : decode cX9_append 1 = .ok (.iconst 1, 1) := by decide +kernel
theorem dX9_append_2 : decode cX9_append 2 = .ok (.sipush 255, 3) := by decide +kernel
theorem dX9_append_5 : decode cX9_append 5 = .ok (.invokestatic 73, 3) := by decide +kernel
theorem dX9_append_8 : decode cX9_append 8 = .ok (.ifCond .ne 6, 3) := by decide +kernel
theorem dX9_append_11 : decode cX9_append 11 = .ok (.ldc 77, 2) := by decide +kernel
theorem dX9_append_13 : decode cX9_append 13 = .ok (.ireturn, 1) := by decide +kernel
theorem dX9_append_14 : decode cX9_append 14 = .ok (.aload_n 0, 1) := by decide +kernel
theorem dX9_append_15 : decode cX9_append 15 = .ok (.getfield 52, 3) := by decide +kernel
theorem dX9_append_18 : decode cX9_append 18 = .ok (.getfield 138, 3) := by decide +kernel
theorem dX9_append_21 : decode cX9_append 21 = .ok (.bipush 100, 2) := by decide +kernel
theorem dX9_append_23 : decode cX9_append 23 = .ok (.if_icmp .lt 6, 3) := by decide +kernel
theorem dX9_append_26 : decode cX9_append 26 = .ok (.ldc 122, 2) := by decide +kernel
theorem dX9_append_28 : decode cX9_append 28 = .ok (.ireturn, 1) := by decide +kernel
theorem dX9_append_29 : decode cX9_append 29 = .ok (.aload_n 0, 1) := by decide +kernel
theorem dX9_append_30 : decode cX9_append 30 = .ok (.getfield 52, 3) := by decide +kernel
theorem dX9_append_33 : decode cX9_append 33 = .ok (.iload_n 1, 1) := by decide +kernel
theorem dX9_append_34 : decode cX9_append 34 = .ok (.invokevirtual 141, 3) := by decide +kernel
theorem dX9_append_37 : decode cX9_append 37 = .ok (.aload_n 0, 1) := by decide +kernel
theorem dX9_append_38 : decode cX9_append 38 = .ok (.getfield 52, 3) := by decide +kernel
theorem dX9_append_41 : decode cX9_append 41 = .ok (.getfield 138, 3) := by decide +kernel
theorem dX9_append_44 : decode cX9_append 44 = .ok (.ireturn, 1) := by decide +kernel
theorem dX9_load_0 : decode cX9_load 0 = .ok (.aload_n 0, 1) := by decide +kernel
theorem dX9_load_1 : decode cX9_load 1 = .ok (.getfield 59, 3) := by decide +kernel
theorem dX9_load_4 : decode cX9_load 4 = .ok (.aload_n 0, 1) := by decide +kernel
theorem dX9_load_5 : decode cX9_load 5 = .ok (.getfield 52, 3) := by decide +kernel
theorem dX9_load_8 : decode cX9_load 8 = .ok (.invokevirtual 144, 3) := by decide +kernel
theorem dX9_load_11 : decode cX9_load 11 = .ok (.istore_n 1, 1) := by decide +kernel
theorem dX9_load_12 : decode cX9_load 12 = .ok (.iload_n 1, 1) := by decide +kernel
theorem dX9_load_13 : decode cX9_load 13 = .ok (.iconst (-1), 1) := by decide +kernel
theorem dX9_load_14 : decode cX9_load 14 = .ok (.if_icmp .eq 8, 3) := by decide +kernel
theorem dX9_load_17 : decode cX9_load 17 = .ok (.ldc 148, 2) := by decide +kernel
theorem dX9_load_19 : decode cX9_load 19 = .ok (.iload_n 1, 1) := by decide +kernel
theorem dX9_load_20 : decode cX9_load 20 = .ok (.isub, 1) := by decide +kernel
theorem dX9_load_21 : decode cX9_load 21 = .ok (.ireturn, 1) := by decide +kernel
theorem dX9_load_22 : decode cX9_load 22 = .ok (.aload_n 0, 1) := by decide +kernel
theorem dX9_load_23 : decode cX9_load 23 = .ok (.getfield 45, 3) := by decide +kernel
theorem dX9_load_26 : decode cX9_load 26 = .ok (.aload_n 0, 1) := by decide +kernel
theorem dX9_load_27 : decode cX9_load 27 = .ok (.getfield 10, 3) := by decide +kernel
theorem dX9_load_30 : decode cX9_load 30 = .ok (.invokevirtual 78, 3) := by decide +kernel
theorem dX9_load_33 : decode cX9_load 33 = .ok (.aload_n 0, 1) := by decide +kernel
theorem dX9_load_34 : decode cX9_load 34 = .ok (.getfield 32, 3) := by decide +kernel
theorem dX9_load_37 : decode cX9_load 37 = .ok (.aload_n 0, 1) := by decide +kernel
theorem dX9_load_38 : decode cX9_load 38 = .ok (.getfield 59, 3) := by decide +kernel
theorem dX9_load_41 : decode cX9_load 41 = .ok (.getfield 149, 3) := by decide +kernel
theorem dX9_load_44 : decode cX9_load 44 = .ok (.invokevirtual 152, 3) := by decide +kernel
theorem dX9_load_47 : decode cX9_load 47 = .ok (.aload_n 0, 1) := by decide +kernel
theorem dX9_load_48 : decode cX9_load 48 = .ok (.getfield 52, 3) := by decide +kernel
theorem dX9_load_51 : decode cX9_load 51 = .ok (.iconst 0, 1) := by decide +kernel
theorem dX9_load_52 : decode cX9_load 52 = .ok (.putfield 138, 3) := by decide +kernel
theorem dX9_load_55 : decode cX9_load 55 = .ok (.aload_n 0, 1) := by decide +kernel
theorem dX9_load_56 : decode cX9_load 56 = .ok (.getfield 32, 3) := by decide +kernel
theorem dX9_load_59 : decode cX9_load 59 = .ok (.getfield 123, 3) := by decide +kernel
theorem dX9_load_62 : decode cX9_load 62 = .ok (.ireturn, 1) := by decide +kernel
theorem dX9_charge_0 : decode cX9_charge 0 = .ok (.iload_n 1, 1) := by decide +kernel
theorem dX9_charge_1 : decode cX9_charge 1 = .ok (.bipush 100, 2) := by decide +kernel
theorem dX9_charge_3 : decode cX9_charge 3 = .ok (.sipush 1000, 3) := by decide +kernel
theorem dX9_charge_6 : decode cX9_charge 6 = .ok (.invokestatic 73, 3) := by decide +kernel
theorem dX9_charge_9 : decode cX9_charge 9 = .ok (.ifCond .ne 6, 3) := by decide +kernel
theorem dX9_charge_12 : decode cX9_charge 12 = .ok (.ldc 77, 2) := by decide +kernel
theorem dX9_charge_14 : decode cX9_charge 14 = .ok (.ireturn, 1) := by decide +kernel
theorem dX9_charge_15 : decode cX9_charge 15 = .ok (.aload_n 0, 1) := by decide +kernel
theorem dX9_charge_16 : decode cX9_charge 16 = .ok (.getfield 20, 3) := by decide +kernel
theorem dX9_charge_19 : decode cX9_charge 19 = .ok (.getfield 156, 3) := by decide +kernel
theorem dX9_charge_22 : decode cX9_charge 22 = .ok (.ifCond .eq 6, 3) := by decide +kernel
theorem dX9_charge_25 : decode cX9_charge 25 = .ok (.ldc 129, 2) := by decide +kernel
theorem dX9_charge_27 : decode cX9_charge 27 = .ok (.ireturn, 1) := by decide +kernel
theorem dX9_charge_28 : decode cX9_charge 28 = .ok (.aload_n 0, 1) := by decide +kernel
theorem dX9_charge_29 : decode cX9_charge 29 = .ok (.getfield 45, 3) := by decide +kernel
theorem dX9_charge_32 : decode cX9_charge 32 = .ok (.aload_n 0, 1) := by decide +kernel
theorem dX9_charge_33 : decode cX9_charge 33 = .ok (.getfield 10, 3) := by decide +kernel
theorem dX9_charge_36 : decode cX9_charge 36 = .ok (.invokevirtual 78, 3) := by decide +kernel
theorem dX9_charge_39 : decode cX9_charge 39 = .ok (.aload_n 0, 1) := by decide +kernel
theorem dX9_charge_40 : decode cX9_charge 40 = .ok (.getfield 20, 3) := by decide +kernel
theorem dX9_charge_43 : decode cX9_charge 43 = .ok (.iload_n 1, 1) := by decide +kernel
theorem dX9_charge_44 : decode cX9_charge 44 = .ok (.invokevirtual 159, 3) := by decide +kernel
theorem dX9_charge_47 : decode cX9_charge 47 = .ok (.aload_n 0, 1) := by decide +kernel
