theorem dX0_init_0 : decode cX0_init 0 = .ok (.aload_n 0, 1) := by decide +kernel
theorem dX0_init_1 : decode cX0_init 1 = .ok (.invokespecial 1, 3) := by decide +kernel
theorem dX0_init_4 : decode cX0_init 4 = .ok (.return_, 1) := by decide +kernel
theorem dX0_takeFrom_0 : decode cX0_takeFrom 0 = .ok (.aload_n 0, 1) := by decide +kernel
theorem dX0_takeFrom_1 : decode cX0_takeFrom 1 = .ok (.aload_n 1, 1) := by decide +kernel
theorem dX0_takeFrom_2 : decode cX0_takeFrom 2 = .ok (.getfield 7, 3) := by decide +kernel
theorem dX0_takeFrom_5 : decode cX0_takeFrom 5 = .ok (.putfield 7, 3) := by decide +kernel
theorem dX0_takeFrom_8 : decode cX0_takeFrom 8 = .ok (.aload_n 0, 1) := by decide +kernel
theorem dX0_takeFrom_9 : decode cX0_takeFrom 9 = .ok (.aload_n 1, 1) := by decide +kernel
theorem dX0_takeFrom_10 : decode cX0_takeFrom 10 = .ok (.getfield 13, 3) := by decide +kernel
theorem dX0_takeFrom_13 : decode cX0_takeFrom 13 = .ok (.putfield 13, 3) := by decide +kernel
theorem dX0_takeFrom_16 : decode cX0_takeFrom 16 = .ok (.aload_n 0, 1) := by decide +kernel
theorem dX0_takeFrom_17 : decode cX0_takeFrom 17 = .ok (.aload_n 1, 1) := by decide +kernel
theorem dX0_takeFrom_18 : decode cX0_takeFrom 18 = .ok (.getfield 16, 3) := by decide +kernel
theorem dX0_takeFrom_21 : decode cX0_takeFrom 21 = .ok (.putfield 16, 3) := by decide +kernel
theorem dX0_takeFrom_24 : decode cX0_takeFrom 24 = .ok (.aload_n 0, 1) := by decide +kernel
theorem dX0_takeFrom_25 : decode cX0_takeFrom 25 = .ok (.aload_n 1, 1) := by decide +kernel
theorem dX0_takeFrom_26 : decode cX0_takeFrom 26 = .ok (.getfield 19, 3) := by decide +kernel
theorem dX0_takeFrom_29 : decode cX0_takeFrom 29 = .ok (.putfield 19, 3) := by decide +kernel
theorem dX0_takeFrom_32 : decode cX0_takeFrom 32 = .ok (.return_, 1) := by decide +kernel
theorem dX1_init_0 : decode cX1_init 0 = .ok (.aload_n 0, 1) := by decide +kernel
theorem dX1_init_1 : decode cX1_init 1 = .ok (.invokespecial 3, 3) := by decide +kernel
theorem dX1_init_4 : decode cX1_init 4 = .ok (.aload_n 0, 1) := by decide +kernel
theorem dX1_init_5 : decode cX1_init 5 = .ok (.bipush 12, 2) := by decide +kernel
theorem dX1_init_7 : decode cX1_init 7 = .ok (.newarray .int, 2) := by decide +kernel
theorem dX1_init_9 : decode cX1_init 9 = .ok (.putfield 9, 3) := by decide +kernel
theorem dX1_init_12 : decode cX1_init 12 = .ok (.aload_n 0, 1) := by decide +kernel
theorem dX1_init_13 : decode cX1_init 13 = .ok (.iconst 4, 1) := by decide +kernel
theorem dX1_init_14 : decode cX1_init 14 = .ok (.newarray .int, 2) := by decide +kernel
theorem dX1_init_16 : decode cX1_init 16 = .ok (.putfield 15, 3) := by decide +kernel
theorem dX1_init_19 : decode cX1_init 19 = .ok (.return_, 1) := by decide +kernel
theorem dX1_find_0 : decode cX1_find 0 = .ok (.aload_n 0, 1) := by decide +kernel
theorem dX1_find_1 : decode cX1_find 1 = .ok (.aload_n 1, 1) := by decide +kernel
theorem dX1_find_2 : decode cX1_find 2 = .ok (.iload_n 3, 1) := by decide +kernel
theorem dX1_find_3 : decode cX1_find 3 = .ok (.invokevirtual 18, 3) := by decide +kernel
theorem dX1_find_6 : decode cX1_find 6 = .ok (.aload_n 0, 1) := by decide +kernel
theorem dX1_find_7 : decode cX1_find 7 = .ok (.getfield 9, 3) := by decide +kernel
theorem dX1_find_10 : decode cX1_find 10 = .ok (.iload_n 2, 1) := by decide +kernel
theorem dX1_find_11 : decode cX1_find 11 = .ok (.iaload, 1) := by decide +kernel
theorem dX1_find_12 : decode cX1_find 12 = .ok (.iconst 4, 1) := by decide +kernel
theorem dX1_find_13 : decode cX1_find 13 = .ok (.if_icmp .le 5, 3) := by decide +kernel
theorem dX1_find_16 : decode cX1_find 16 = .ok (.iconst 0, 1) := by decide +kernel
theorem dX1_find_17 : decode cX1_find 17 = .ok (.ireturn, 1) := by decide +kernel
theorem dX1_find_18 : decode cX1_find 18 = .ok (.aload_n 0, 1) := by decide +kernel
theorem dX1_find_19 : decode cX1_find 19 = .ok (.aload_n 0, 1) := by decide +kernel
theorem dX1_find_20 : decode cX1_find 20 = .ok (.getfield 9, 3) := by decide +kernel
theorem dX1_find_23 : decode cX1_find 23 = .ok (.iload_n 2, 1) := by decide +kernel
theorem dX1_find_24 : decode cX1_find 24 = .ok (.iaload, 1) := by decide +kernel
theorem dX1_find_25 : decode cX1_find 25 = .ok (.putfield 22, 3) := by decide +kernel
theorem dX1_find_28 : decode cX1_find 28 = .ok (.iload_n 2, 1) := by decide +kernel
theorem dX1_find_29 : decode cX1_find 29 = .ok (.istore 4, 2) := by decide +kernel
theorem dX1_find_31 : decode cX1_find 31 = .ok (.iconst 0, 1) := by decide +kernel
theorem dX1_find_32 : decode cX1_find 32 = .ok (.istore 5, 2) := by decide +kernel
theorem dX1_find_34 : decode cX1_find 34 = .ok (.iload 5, 2) := by decide +kernel
theorem dX1_find_36 : decode cX1_find 36 = .ok (.aload_n 0, 1) := by decide +kernel
theorem dX1_find_37 : decode cX1_find 37 = .ok (.getfield 22, 3) := by decide +kernel
theorem dX1_find_40 : decode cX1_find 40 = .ok (.if_icmp .ge 42, 3) := by decide +kernel
theorem dX1_find_43 : decode cX1_find 43 = .ok (.aload_n 0, 1) := by decide +kernel
theorem dX1_find_44 : decode cX1_find 44 = .ok (.getfield 15, 3) := by decide +kernel
theorem dX1_find_47 : decode cX1_find 47 = .ok (.iload 5, 2) := by decide +kernel
theorem dX1_find_49 : decode cX1_find 49 = .ok (.aload_n 0, 1) := by decide +kernel
theorem dX1_find_50 : decode cX1_find 50 = .ok (.aload_n 1, 1) := by decide +kernel
theorem dX1_find_51 : decode cX1_find 51 = .ok (.iload 4, 2) := by decide +kernel
theorem dX1_find_53 : decode cX1_find 53 = .ok (.invokevirtual 26, 3) := by decide +kernel
theorem dX1_find_56 : decode cX1_find 56 = .ok (.iastore, 1) := by decide +kernel
theorem dX1_find_57 : decode cX1_find 57 = .ok (.aload_n 1, 1) := by decide +kernel
theorem dX1_find_58 : decode cX1_find 58 = .ok (.getfield 30, 3) := by decide +kernel
theorem dX1_find_61 : decode cX1_find 61 = .ok (.aload_n 0, 1) := by decide +kernel
theorem dX1_find_62 : decode cX1_find 62 = .ok (.getfield 15, 3) := by decide +kernel
theorem dX1_find_65 : decode cX1_find 65 = .ok (.iload 5, 2) := by decide +kernel
theorem dX1_find_67 : decode cX1_find 67 = .ok (.iaload, 1) := by decide +kernel
theorem dX1_find_68 : decode cX1_find 68 = .ok (.aaload, 1) := by decide +kernel
theorem dX1_find_69 : decode cX1_find 69 = .ok (.iload 4, 2) := by decide +kernel
theorem dX1_find_71 : decode cX1_find 71 = .ok (.invokevirtual 36, 3) := by decide +kernel
theorem dX1_find_74 : decode cX1_find 74 = .ok (.istore 4, 2) := by decide +kernel
theorem dX1_find_76 : decode cX1_find 76 = .ok (.iinc 5 1, 3) := by decide +kernel
theorem dX1_find_79 : decode cX1_find 79 = .ok (.goto (-45), 3) := by decide +kernel
theorem dX1_find_82 : decode cX1_find 82 = .ok (.iconst 1, 1) := by decide +kernel
theorem dX1_find_83 : decode cX1_find 83 = .ok (.ireturn, 1) := by decide +kernel
theorem dX1_measure_0 : decode cX1_measure 0 = .ok (.iconst 0, 1) := by decide +kernel
theorem dX1_measure_1 : decode cX1_measure 1 = .ok (.istore_n 3, 1) := by decide +kernel
theorem dX1_measure_2 : decode cX1_measure 2 = .ok (.iload_n 3, 1) := by decide +kernel
theorem dX1_measure_3 : decode cX1_measure 3 = .ok (.bipush 12, 2) := by decide +kernel
theorem dX1_measure_5 : decode cX1_measure 5 = .ok (.if_icmp .ge 16, 3) := by decide +kernel
theorem dX1_measure_8 : decode cX1_measure 8 = .ok (.aload_n 0, 1) := by decide +kernel
theorem dX1_measure_9 : decode cX1_measure 9 = .ok (.getfield 9, 3) := by decide +kernel
theorem dX1_measure_12 : decode cX1_measure 12 = .ok (.iload_n 3, 1) := by decide +kernel
theorem dX1_measure_13 : decode cX1_measure 13 = .ok (.iconst 5, 1) := by decide +kernel
theorem dX1_measure_14 : decode cX1_measure 14 = .ok (.iastore, 1) := by decide +kernel
theorem dX1_measure_15 : decode cX1_measure 15 = .ok (.iinc 3 1, 3) := by decide +kernel
theorem dX1_measure_18 : decode cX1_measure 18 = .ok (.goto (-16), 3) := by decide +kernel
theorem dX1_measure_21 : decode cX1_measure 21 = .ok (.aload_n 0, 1) := by decide +kernel
theorem dX1_measure_22 : decode cX1_measure 22 = .ok (.getfield 9, 3) := by decide +kernel
theorem dX1_measure_25 : decode cX1_measure 25 = .ok (.iload_n 2, 1) := by decide +kernel
theorem dX1_measure_26 : decode cX1_measure 26 = .ok (.iconst 0, 1) := by decide +kernel
theorem dX1_measure_27 : decode cX1_measure 27 = .ok (.iastore, 1) := by decide +kernel
theorem dX1_measure_28 : decode cX1_measure 28 = .ok (.iconst 1, 1) := by decide +kernel
theorem dX1_measure_29 : decode cX1_measure 29 = .ok (.istore_n 3, 1) := by decide +kernel
theorem dX1_measure_30 : decode cX1_measure 30 = .ok (.iload_n 3, 1) := by decide +kernel
theorem dX1_measure_31 : decode cX1_measure 31 = .ok (.iconst 4, 1) := by decide +kernel
theorem dX1_measure_32 : decode cX1_measure 32 = .ok (.if_icmp .gt 74, 3) := by decide +kernel
theorem dX1_measure_35 : decode cX1_measure 35 = .ok (.iconst 0, 1) := by decide +kernel
theorem dX1_measure_36 : decode cX1_measure 36 = .ok (.istore 4, 2) := by decide +kernel
theorem dX1_measure_38 : decode cX1_measure 38 = .ok (.iload 4, 2) := by decide +kernel
theorem dX1_measure_40 : decode cX1_measure 40 = .ok (.aload_n 1, 1) := by decide +kernel
theorem dX1_measure_41 : decode cX1_measure 41 = .ok (.getfield 42, 3) := by decide +kernel
theorem dX1_measure_44 : decode cX1_measure 44 = .ok (.if_icmp .ge 56, 3) := by decide +kernel
theorem dX1_measure_47 : decode cX1_measure 47 = .ok (.aload_n 1, 1) := by decide +kernel
theorem dX1_measure_48 : decode cX1_measure 48 = .ok (.getfield 30, 3) := by decide +kernel
theorem dX1_measure_51 : decode cX1_measure 51 = .ok (.iload 4, 2) := by decide +kernel
theorem dX1_measure_53 : decode cX1_measure 53 = .ok (.aaload, 1) := by decide +kernel
theorem dX1_measure_54 : decode cX1_measure 54 = .ok (.astore 5, 2) := by decide +kernel
theorem dX1_measure_56 : decode cX1_measure 56 = .ok (.aload 5, 2) := by decide +kernel
theorem dX1_measure_58 : decode cX1_measure 58 = .ok (.getfield 45, 3) := by decide +kernel
theorem dX1_measure_61 : decode cX1_measure 61 = .ok (.ifCond .ne 33, 3) := by decide +kernel
theorem dX1_measure_64 : decode cX1_measure 64 = .ok (.aload_n 0, 1) := by decide +kernel
theorem dX1_measure_65 : decode cX1_measure 65 = .ok (.aload 5, 2) := by decide +kernel
theorem dX1_measure_67 : decode cX1_measure 67 = .ok (.getfield 49, 3) := by decide +kernel
theorem dX1_measure_70 : decode cX1_measure 70 = .ok (.aload 5, 2) := by decide +kernel
theorem dX1_measure_72 : decode cX1_measure 72 = .ok (.getfield 52, 3) := by decide +kernel
theorem dX1_measure_75 : decode cX1_measure 75 = .ok (.iload_n 3, 1) := by decide +kernel
theorem dX1_measure_76 : decode cX1_measure 76 = .ok (.invokevirtual 55, 3) := by decide +kernel
theorem dX1_measure_79 : decode cX1_measure 79 = .ok (.aload_n 0, 1) := by decide +kernel
theorem dX1_measure_80 : decode cX1_measure 80 = .ok (.aload 5, 2) := by decide +kernel
theorem dX1_measure_82 : decode cX1_measure 82 = .ok (.getfield 52, 3) := by decide +kernel
theorem dX1_measure_85 : decode cX1_measure 85 = .ok (.aload 5, 2) := by decide +kernel
theorem dX1_measure_87 : decode cX1_measure 87 = .ok (.getfield 49, 3) := by decide +kernel
theorem dX1_measure_90 : decode cX1_measure 90 = .ok (.iload_n 3, 1) := by decide +kernel
theorem dX1_measure_91 : decode cX1_measure 91 = .ok (.invokevirtual 55, 3) := by decide +kernel
theorem dX1_measure_94 : decode cX1_measure 94 = .ok (.iinc 4 1, 3) := by decide +kernel
theorem dX1_measure_97 : decode cX1_measure 97 = .ok (.goto (-59), 3) := by decide +kernel
theorem dX1_measure_100 : decode cX1_measure 100 = .ok (.iinc 3 1, 3) := by decide +kernel
theorem dX1_measure_103 : decode cX1_measure 103 = .ok (.goto (-73), 3) := by decide +kernel
theorem dX1_measure_106 : decode cX1_measure 106 = .ok (.return_, 1) := by decide +kernel
theorem dX1_reach_0 : decode cX1_reach 0 = .ok (.aload_n 0, 1) := by decide +kernel
theorem dX1_reach_1 : decode cX1_reach 1 = .ok (.getfield 9, 3) := by decide +kernel
theorem dX1_reach_4 : decode cX1_reach 4 = .ok (.iload_n 1, 1) := by decide +kernel
theorem dX1_reach_5 : decode cX1_reach 5 = .ok (.iaload, 1) := by decide +kernel
theorem dX1_reach_6 : decode cX1_reach 6 = .ok (.iload_n 3, 1) := by decide +kernel
theorem dX1_reach_7 : decode cX1_reach 7 = .ok (.iconst 1, 1) := by decide +kernel
theorem dX1_reach_8 : decode cX1_reach 8 = .ok (.isub, 1) := by decide +kernel
theorem dX1_reach_9 : decode cX1_reach 9 = .ok (.if_icmp .ne 20, 3) := by decide +kernel
theorem dX1_reach_12 : decode cX1_reach 12 = .ok (.aload_n 0, 1) := by decide +kernel
theorem dX1_reach_13 : decode cX1_reach 13 = .ok (.getfield 9, 3) := by decide +kernel
theorem dX1_reach_16 : decode cX1_reach 16 = .ok (.iload_n 2, 1) := by decide +kernel
theorem dX1_reach_17 : decode cX1_reach 17 = .ok (.iaload, 1) := by decide +kernel
theorem dX1_reach_18 : decode cX1_reach 18 = .ok (.iload_n 3, 1) := by decide +kernel
theorem dX1_reach_19 : decode cX1_reach 19 = .ok (.if_icmp .le 10, 3) := by decide +kernel
theorem dX1_reach_22 : decode cX1_reach 22 = .ok (.aload_n 0, 1) := by decide +kernel
theorem dX1_reach_23 : decode cX1_reach 23 = .ok (.getfield 9, 3) := by decide +kernel
theorem dX1_reach_26 : decode cX1_reach 26 = .ok (.iload_n 2, 1) := by decide +kernel
theorem dX1_reach_27 : decode cX1_reach 27 = .ok (.iload_n 3, 1) := by decide +kernel
theorem dX1_reach_28 : decode cX1_reach 28 = .ok (.iastore, 1) := by decide +kernel
theorem dX1_reach_29 : decode cX1_reach 29 = .ok (.return_, 1) := by decide +kernel
theorem dX1_firstNearer_0 : decode cX1_firstNearer 0 = .ok (.iconst 0, 1) := by decide +kernel
theorem dX1_firstNearer_1 : decode cX1_firstNearer 1 = .ok (.istore_n 3, 1) := by decide +kernel
theorem dX1_firstNearer_2 : decode cX1_firstNearer 2 = .ok (.iload_n 3, 1) := by decide +kernel
theorem dX1_firstNearer_3 : decode cX1_firstNearer 3 = .ok (.aload_n 1, 1) := by decide +kernel
theorem dX1_firstNearer_4 : decode cX1_firstNearer 4 = .ok (.getfield 42, 3) := by decide +kernel
theorem dX1_firstNearer_7 : decode cX1_firstNearer 7 = .ok (.if_icmp .ge 50, 3) := by decide +kernel
theorem dX1_firstNearer_10 : decode cX1_firstNearer 10 = .ok (.aload_n 1, 1) := by decide +kernel
theorem dX1_firstNearer_11 : decode cX1_firstNearer 11 = .ok (.getfield 30, 3) := by decide +kernel
theorem dX1_firstNearer_14 : decode cX1_firstNearer 14 = .ok (.iload_n 3, 1) := by decide +kernel
theorem dX1_firstNearer_15 : decode cX1_firstNearer 15 = .ok (.aaload, 1) := by decide +kernel
theorem dX1_firstNearer_16 : decode cX1_firstNearer 16 = .ok (.astore 4, 2) := by decide +kernel
theorem dX1_firstNearer_18 : decode cX1_firstNearer 18 = .ok (.aload 4, 2) := by decide +kernel
theorem dX1_firstNearer_20 : decode cX1_firstNearer 20 = .ok (.iload_n 2, 1) := by decide +kernel
theorem dX1_firstNearer_21 : decode cX1_firstNearer 21 = .ok (.invokevirtual 59, 3) := by decide +kernel
theorem dX1_firstNearer_24 : decode cX1_firstNearer 24 = .ok (.ifCond .eq 27, 3) := by decide +kernel
theorem dX1_firstNearer_27 : decode cX1_firstNearer 27 = .ok (.aload_n 0, 1) := by decide +kernel
theorem dX1_firstNearer_28 : decode cX1_firstNearer 28 = .ok (.getfield 9, 3) := by decide +kernel
theorem dX1_firstNearer_31 : decode cX1_firstNearer 31 = .ok (.aload 4, 2) := by decide +kernel
theorem dX1_firstNearer_33 : decode cX1_firstNearer 33 = .ok (.iload_n 2, 1) := by decide +kernel
theorem dX1_firstNearer_34 : decode cX1_firstNearer 34 = .ok (.invokevirtual 36, 3) := by decide +kernel
theorem dX1_firstNearer_37 : decode cX1_firstNearer 37 = .ok (.iaload, 1) := by decide +kernel
theorem dX1_firstNearer_38 : decode cX1_firstNearer 38 = .ok (.aload_n 0, 1) := by decide +kernel
theorem dX1_firstNearer_39 : decode cX1_firstNearer 39 = .ok (.getfield 9, 3) := by decide +kernel
theorem dX1_firstNearer_42 : decode cX1_firstNearer 42 = .ok (.iload_n 2, 1) := by decide +kernel
theorem dX1_firstNearer_43 : decode cX1_firstNearer 43 = .ok (.iaload, 1) := by decide +kernel
theorem dX1_firstNearer_44 : decode cX1_firstNearer 44 = .ok (.iconst 1, 1) := by decide +kernel
theorem dX1_firstNearer_45 : decode cX1_firstNearer 45 = .ok (.isub, 1) := by decide +kernel
theorem dX1_firstNearer_46 : decode cX1_firstNearer 46 = .ok (.if_icmp .ne 5, 3) := by decide +kernel
theorem dX1_firstNearer_49 : decode cX1_firstNearer 49 = .ok (.iload_n 3, 1) := by decide +kernel
theorem dX1_firstNearer_50 : decode cX1_firstNearer 50 = .ok (.ireturn, 1) := by decide +kernel
theorem dX1_firstNearer_51 : decode cX1_firstNearer 51 = .ok (.iinc 3 1, 3) := by decide +kernel
theorem dX1_firstNearer_54 : decode cX1_firstNearer 54 = .ok (.goto (-52), 3) := by decide +kernel
theorem dX1_firstNearer_57 : decode cX1_firstNearer 57 = .ok (.iconst 0, 1) := by decide +kernel
theorem dX1_firstNearer_58 : decode cX1_firstNearer 58 = .ok (.ireturn, 1) := by decide +kernel
theorem dX1_multiply_0 : decode cX1_multiply 0 = .ok (.aload_n 0, 1) := by decide +kernel
theorem dX1_multiply_1 : decode cX1_multiply 1 = .ok (.lconst 1, 1) := by decide +kernel
theorem dX1_multiply_2 : decode cX1_multiply 2 = .ok (.putfield 63, 3) := by decide +kernel
theorem dX1_multiply_5 : decode cX1_multiply 5 = .ok (.aload_n 0, 1) := by decide +kernel
theorem dX1_multiply_6 : decode cX1_multiply 6 = .ok (.lconst 1, 1) := by decide +kernel
theorem dX1_multiply_7 : decode cX1_multiply 7 = .ok (.putfield 67, 3) := by decide +kernel
theorem dX1_multiply_10 : decode cX1_multiply 10 = .ok (.iload_n 2, 1) := by decide +kernel
theorem dX1_multiply_11 : decode cX1_multiply 11 = .ok (.istore 4, 2) := by decide +kernel
theorem dX1_multiply_13 : decode cX1_multiply 13 = .ok (.iconst 0, 1) := by decide +kernel
theorem dX1_multiply_14 : decode cX1_multiply 14 = .ok (.istore 5, 2) := by decide +kernel
theorem dX1_multiply_16 : decode cX1_multiply 16 = .ok (.iload 5, 2) := by decide +kernel
theorem dX1_multiply_18 : decode cX1_multiply 18 = .ok (.aload_n 0, 1) := by decide +kernel
theorem dX1_multiply_19 : decode cX1_multiply 19 = .ok (.getfield 22, 3) := by decide +kernel
theorem dX1_multiply_22 : decode cX1_multiply 22 = .ok (.if_icmp .ge 169, 3) := by decide +kernel
theorem dX1_multiply_25 : decode cX1_multiply 25 = .ok (.aload_n 1, 1) := by decide +kernel
theorem dX1_multiply_26 : decode cX1_multiply 26 = .ok (.getfield 30, 3) := by decide +kernel
theorem dX1_multiply_29 : decode cX1_multiply 29 = .ok (.aload_n 0, 1) := by decide +kernel
theorem dX1_multiply_30 : decode cX1_multiply 30 = .ok (.getfield 15, 3) := by decide +kernel
theorem dX1_multiply_33 : decode cX1_multiply 33 = .ok (.iload 5, 2) := by decide +kernel
theorem dX1_multiply_35 : decode cX1_multiply 35 = .ok (.iaload, 1) := by decide +kernel
theorem dX1_multiply_36 : decode cX1_multiply 36 = .ok (.aaload, 1) := by decide +kernel
theorem dX1_multiply_37 : decode cX1_multiply 37 = .ok (.astore 6, 2) := by decide +kernel
theorem dX1_multiply_39 : decode cX1_multiply 39 = .ok (.aload 6, 2) := by decide +kernel
theorem dX1_multiply_41 : decode cX1_multiply 41 = .ok (.getfield 52, 3) := by decide +kernel
theorem dX1_multiply_44 : decode cX1_multiply 44 = .ok (.iload 4, 2) := by decide +kernel
theorem dX1_multiply_46 : decode cX1_multiply 46 = .ok (.if_icmp .ne 7, 3) := by decide +kernel
theorem dX1_multiply_49 : decode cX1_multiply 49 = .ok (.iconst 1, 1) := by decide +kernel
theorem dX1_multiply_50 : decode cX1_multiply 50 = .ok (.goto 4, 3) := by decide +kernel
theorem dX1_multiply_53 : decode cX1_multiply 53 = .ok (.iconst 0, 1) := by decide +kernel
theorem dX1_multiply_54 : decode cX1_multiply 54 = .ok (.istore 7, 2) := by decide +kernel
theorem dX1_multiply_56 : decode cX1_multiply 56 = .ok (.iload_n 3, 1) := by decide +kernel
theorem dX1_multiply_57 : decode cX1_multiply 57 = .ok (.ifCond .ne 7, 3) := by decide +kernel
theorem dX1_multiply_60 : decode cX1_multiply 60 = .ok (.iconst 0, 1) := by decide +kernel
theorem dX1_multiply_61 : decode cX1_multiply 61 = .ok (.goto 23, 3) := by decide +kernel
theorem dX1_multiply_64 : decode cX1_multiply 64 = .ok (.iload_n 3, 1) := by decide +kernel
theorem dX1_multiply_65 : decode cX1_multiply 65 = .ok (.iconst 1, 1) := by decide +kernel
theorem dX1_multiply_66 : decode cX1_multiply 66 = .ok (.if_icmp .ne 7, 3) := by decide +kernel
theorem dX1_multiply_69 : decode cX1_multiply 69 = .ok (.iconst 1, 1) := by decide +kernel
theorem dX1_multiply_70 : decode cX1_multiply 70 = .ok (.goto 4, 3) := by decide +kernel
theorem dX1_multiply_73 : decode cX1_multiply 73 = .ok (.iconst 0, 1) := by decide +kernel
theorem dX1_multiply_74 : decode cX1_multiply 74 = .ok (.iload 7, 2) := by decide +kernel
theorem dX1_multiply_76 : decode cX1_multiply 76 = .ok (.if_icmp .ne 7, 3) := by decide +kernel
theorem dX1_multiply_79 : decode cX1_multiply 79 = .ok (.iconst 1, 1) := by decide +kernel
theorem dX1_multiply_80 : decode cX1_multiply 80 = .ok (.goto 4, 3) := by decide +kernel
theorem dX1_multiply_83 : decode cX1_multiply 83 = .ok (.iconst (-1), 1) := by decide +kernel
theorem dX1_multiply_84 : decode cX1_multiply 84 = .ok (.istore 8, 2) := by decide +kernel
theorem dX1_multiply_86 : decode cX1_multiply 86 = .ok (.aload 6, 2) := by decide +kernel
theorem dX1_multiply_88 : decode cX1_multiply 88 = .ok (.getfield 70, 3) := by decide +kernel
theorem dX1_multiply_91 : decode cX1_multiply 91 = .ok (.iload 8, 2) := by decide +kernel
theorem dX1_multiply_93 : decode cX1_multiply 93 = .ok (.iadd, 1) := by decide +kernel
theorem dX1_multiply_94 : decode cX1_multiply 94 = .ok (.i2l, 1) := by decide +kernel
theorem dX1_multiply_95 : decode cX1_multiply 95 = .ok (.aload 6, 2) := by decide +kernel
theorem dX1_multiply_97 : decode cX1_multiply 97 = .ok (.getfield 70, 3) := by decide +kernel
theorem dX1_multiply_100 : decode cX1_multiply 100 = .ok (.iload 8, 2) := by decide +kernel
theorem dX1_multiply_102 : decode cX1_multiply 102 = .ok (.iadd, 1) := by decide +kernel
theorem dX1_multiply_103 : decode cX1_multiply 103 = .ok (.i2l, 1) := by decide +kernel
theorem dX1_multiply_104 : decode cX1_multiply 104 = .ok (.lmul, 1) := by decide +kernel
theorem dX1_multiply_105 : decode cX1_multiply 105 = .ok (.lstore 9, 2) := by decide +kernel
theorem dX1_multiply_107 : decode cX1_multiply 107 = .ok (.bipush 100, 2) := by decide +kernel
theorem dX1_multiply_109 : decode cX1_multiply 109 = .ok (.aload 6, 2) := by decide +kernel
theorem dX1_multiply_111 : decode cX1_multiply 111 = .ok (.getfield 70, 3) := by decide +kernel
theorem dX1_multiply_114 : decode cX1_multiply 114 = .ok (.isub, 1) := by decide +kernel
theorem dX1_multiply_115 : decode cX1_multiply 115 = .ok (.iload 8, 2) := by decide +kernel
theorem dX1_multiply_117 : decode cX1_multiply 117 = .ok (.isub, 1) := by decide +kernel
theorem dX1_multiply_118 : decode cX1_multiply 118 = .ok (.i2l, 1) := by decide +kernel
theorem dX1_multiply_119 : decode cX1_multiply 119 = .ok (.bipush 100, 2) := by decide +kernel
theorem dX1_multiply_121 : decode cX1_multiply 121 = .ok (.aload 6, 2) := by decide +kernel
theorem dX1_multiply_123 : decode cX1_multiply 123 = .ok (.getfield 70, 3) := by decide +kernel
theorem dX1_multiply_126 : decode cX1_multiply 126 = .ok (.isub, 1) := by decide +kernel
theorem dX1_multiply_127 : decode cX1_multiply 127 = .ok (.iload 8, 2) := by decide +kernel
theorem dX1_multiply_129 : decode cX1_multiply 129 = .ok (.isub, 1) := by decide +kernel
theorem dX1_multiply_130 : decode cX1_multiply 130 = .ok (.i2l, 1) := by decide +kernel
theorem dX1_multiply_131 : decode cX1_multiply 131 = .ok (.lmul, 1) := by decide +kernel
theorem dX1_multiply_132 : decode cX1_multiply 132 = .ok (.lstore 11, 2) := by decide +kernel
theorem dX1_multiply_134 : decode cX1_multiply 134 = .ok (.aload_n 0, 1) := by decide +kernel
theorem dX1_multiply_135 : decode cX1_multiply 135 = .ok (.dup, 1) := by decide +kernel
theorem dX1_multiply_136 : decode cX1_multiply 136 = .ok (.getfield 63, 3) := by decide +kernel
theorem dX1_multiply_139 : decode cX1_multiply 139 = .ok (.iload 7, 2) := by decide +kernel
theorem dX1_multiply_141 : decode cX1_multiply 141 = .ok (.ifCond .eq 8, 3) := by decide +kernel
theorem dX1_multiply_144 : decode cX1_multiply 144 = .ok (.lload 11, 2) := by decide +kernel
theorem dX1_multiply_146 : decode cX1_multiply 146 = .ok (.goto 5, 3) := by decide +kernel
theorem dX1_multiply_149 : decode cX1_multiply 149 = .ok (.lload 9, 2) := by decide +kernel
theorem dX1_multiply_151 : decode cX1_multiply 151 = .ok (.lmul, 1) := by decide +kernel
theorem dX1_multiply_152 : decode cX1_multiply 152 = .ok (.putfield 63, 3) := by decide +kernel
theorem dX1_multiply_155 : decode cX1_multiply 155 = .ok (.aload_n 0, 1) := by decide +kernel
theorem dX1_multiply_156 : decode cX1_multiply 156 = .ok (.dup, 1) := by decide +kernel
theorem dX1_multiply_157 : decode cX1_multiply 157 = .ok (.getfield 67, 3) := by decide +kernel
theorem dX1_multiply_160 : decode cX1_multiply 160 = .ok (.iload 7, 2) := by decide +kernel
theorem dX1_multiply_162 : decode cX1_multiply 162 = .ok (.ifCond .eq 8, 3) := by decide +kernel
theorem dX1_multiply_165 : decode cX1_multiply 165 = .ok (.lload 9, 2) := by decide +kernel
theorem dX1_multiply_167 : decode cX1_multiply 167 = .ok (.goto 5, 3) := by decide +kernel
theorem dX1_multiply_170 : decode cX1_multiply 170 = .ok (.lload 11, 2) := by decide +kernel
theorem dX1_multiply_172 : decode cX1_multiply 172 = .ok (.lmul, 1) := by decide +kernel
theorem dX1_multiply_173 : decode cX1_multiply 173 = .ok (.putfield 67, 3) := by decide +kernel
theorem dX1_multiply_176 : decode cX1_multiply 176 = .ok (.aload 6, 2) := by decide +kernel
theorem dX1_multiply_178 : decode cX1_multiply 178 = .ok (.iload 4, 2) := by decide +kernel
theorem dX1_multiply_180 : decode cX1_multiply 180 = .ok (.invokevirtual 36, 3) := by decide +kernel
theorem dX1_multiply_183 : decode cX1_multiply 183 = .ok (.istore 4, 2) := by decide +kernel
theorem dX1_multiply_185 : decode cX1_multiply 185 = .ok (.iinc 5 1, 3) := by decide +kernel
theorem dX1_multiply_188 : decode cX1_multiply 188 = .ok (.goto (-172), 3) := by decide +kernel
theorem dX1_multiply_191 : decode cX1_multiply 191 = .ok (.aload_n 0, 1) := by decide +kernel
theorem dX1_multiply_192 : decode cX1_multiply 192 = .ok (.getfield 63, 3) := by decide +kernel
theorem dX1_multiply_195 : decode cX1_multiply 195 = .ok (.aload_n 0, 1) := by decide +kernel
theorem dX1_multiply_196 : decode cX1_multiply 196 = .ok (.getfield 67, 3) := by decide +kernel
theorem dX1_multiply_199 : decode cX1_multiply 199 = .ok (.invokestatic 73, 3) := by decide +kernel
theorem dX1_multiply_202 : decode cX1_multiply 202 = .ok (.lstore 5, 2) := by decide +kernel
theorem dX1_multiply_204 : decode cX1_multiply 204 = .ok (.lload 5, 2) := by decide +kernel
theorem dX1_multiply_206 : decode cX1_multiply 206 = .ok (.lconst 0, 1) := by decide +kernel
theorem dX1_multiply_207 : decode cX1_multiply 207 = .ok (.lcmp, 1) := by decide +kernel
theorem dX1_multiply_208 : decode cX1_multiply 208 = .ok (.ifCond .le 25, 3) := by decide +kernel
theorem dX1_multiply_211 : decode cX1_multiply 211 = .ok (.aload_n 0, 1) := by decide +kernel
theorem dX1_multiply_212 : decode cX1_multiply 212 = .ok (.dup, 1) := by decide +kernel
theorem dX1_multiply_213 : decode cX1_multiply 213 = .ok (.getfield 63, 3) := by decide +kernel
theorem dX1_multiply_216 : decode cX1_multiply 216 = .ok (.lload 5, 2) := by decide +kernel
theorem dX1_multiply_218 : decode cX1_multiply 218 = .ok (.ldiv, 1) := by decide +kernel
theorem dX1_multiply_219 : decode cX1_multiply 219 = .ok (.putfield 63, 3) := by decide +kernel
theorem dX1_multiply_222 : decode cX1_multiply 222 = .ok (.aload_n 0, 1) := by decide +kernel
theorem dX1_multiply_223 : decode cX1_multiply 223 = .ok (.dup, 1) := by decide +kernel
theorem dX1_multiply_224 : decode cX1_multiply 224 = .ok (.getfield 67, 3) := by decide +kernel
theorem dX1_multiply_227 : decode cX1_multiply 227 = .ok (.lload 5, 2) := by decide +kernel
theorem dX1_multiply_229 : decode cX1_multiply 229 = .ok (.ldiv, 1) := by decide +kernel
theorem dX1_multiply_230 : decode cX1_multiply 230 = .ok (.putfield 67, 3) := by decide +kernel
theorem dX1_multiply_233 : decode cX1_multiply 233 = .ok (.return_, 1) := by decide +kernel
theorem dX1_greatestDivisor_0 : decode cX1_greatestDivisor 0 = .ok (.lload_n 0, 1) := by decide +kernel
theorem dX1_greatestDivisor_1 : decode cX1_greatestDivisor 1 = .ok (.lstore 4, 2) := by decide +kernel
theorem dX1_greatestDivisor_3 : decode cX1_greatestDivisor 3 = .ok (.lload_n 2, 1) := by decide +kernel
theorem dX1_greatestDivisor_4 : decode cX1_greatestDivisor 4 = .ok (.lstore 6, 2) := by decide +kernel
theorem dX1_greatestDivisor_6 : decode cX1_greatestDivisor 6 = .ok (.iconst 0, 1) := by decide +kernel
theorem dX1_greatestDivisor_7 : decode cX1_greatestDivisor 7 = .ok (.istore 8, 2) := by decide +kernel
theorem dX1_greatestDivisor_9 : decode cX1_greatestDivisor 9 = .ok (.iload 8, 2) := by decide +kernel
theorem dX1_greatestDivisor_11 : decode cX1_greatestDivisor 11 = .ok (.sipush 1000, 3) := by decide +kernel
theorem dX1_greatestDivisor_14 : decode cX1_greatestDivisor 14 = .ok (.if_icmp .ge 31, 3) := by decide +kernel
theorem dX1_greatestDivisor_17 : decode cX1_greatestDivisor 17 = .ok (.lload 6, 2) := by decide +kernel
theorem dX1_greatestDivisor_19 : decode cX1_greatestDivisor 19 = .ok (.lconst 0, 1) := by decide +kernel
theorem dX1_greatestDivisor_20 : decode cX1_greatestDivisor 20 = .ok (.lcmp, 1) := by decide +kernel
theorem dX1_greatestDivisor_21 : decode cX1_greatestDivisor 21 = .ok (.ifCond .eq 24, 3) := by decide +kernel
theorem dX1_greatestDivisor_24 : decode cX1_greatestDivisor 24 = .ok (.lload 4, 2) := by decide +kernel
theorem dX1_greatestDivisor_26 : decode cX1_greatestDivisor 26 = .ok (.lload 6, 2) := by decide +kernel
theorem dX1_greatestDivisor_28 : decode cX1_greatestDivisor 28 = .ok (.lrem, 1) := by decide +kernel
theorem dX1_greatestDivisor_29 : decode cX1_greatestDivisor 29 = .ok (.lstore 9, 2) := by decide +kernel
theorem dX1_greatestDivisor_31 : decode cX1_greatestDivisor 31 = .ok (.lload 6, 2) := by decide +kernel
theorem dX1_greatestDivisor_33 : decode cX1_greatestDivisor 33 = .ok (.lstore 4, 2) := by decide +kernel
theorem dX1_greatestDivisor_35 : decode cX1_greatestDivisor 35 = .ok (.lload 9, 2) := by decide +kernel
theorem dX1_greatestDivisor_37 : decode cX1_greatestDivisor 37 = .ok (.lstore 6, 2) := by decide +kernel
theorem dX1_greatestDivisor_39 : decode cX1_greatestDivisor 39 = .ok (.iinc 8 1, 3) := by decide +kernel
theorem dX1_greatestDivisor_42 : decode cX1_greatestDivisor 42 = .ok (.goto (-33), 3) := by decide +kernel
theorem dX1_greatestDivisor_45 : decode cX1_greatestDivisor 45 = .ok (.lload 4, 2) := by decide +kernel
theorem dX1_greatestDivisor_47 : decode cX1_greatestDivisor 47 = .ok (.lreturn, 1) := by decide +kernel
theorem dX2_init_0 : decode cX2_init 0 = .ok (.aload_n 0, 1) := by decide +kernel
theorem dX2_init_1 : decode cX2_init 1 = .ok (.invokespecial 1, 3) := by decide +kernel
theorem dX2_init_4 : decode cX2_init 4 = .ok (.aload_n 0, 1) := by decide +kernel
theorem dX2_init_5 : decode cX2_init 5 = .ok (.bipush 100, 2) := by decide +kernel
theorem dX2_init_7 : decode cX2_init 7 = .ok (.putfield 7, 3) := by decide +kernel
theorem dX2_init_10 : decode cX2_init 10 = .ok (.aload_n 0, 1) := by decide +kernel
theorem dX2_init_11 : decode cX2_init 11 = .ok (.bipush 100, 2) := by decide +kernel
theorem dX2_init_13 : decode cX2_init 13 = .ok (.putfield 13, 3) := by decide +kernel
theorem dX2_init_16 : decode cX2_init 16 = .ok (.return_, 1) := by decide +kernel
theorem dX2_weightOf_0 : decode cX2_weightOf 0 = .ok (.iload_n 1, 1) := by decide +kernel
theorem dX2_weightOf_1 : decode cX2_weightOf 1 = .ok (.ifCond .ne 10, 3) := by decide +kernel
theorem dX2_weightOf_4 : decode cX2_weightOf 4 = .ok (.aload_n 0, 1) := by decide +kernel
theorem dX2_weightOf_5 : decode cX2_weightOf 5 = .ok (.getfield 7, 3) := by decide +kernel
theorem dX2_weightOf_8 : decode cX2_weightOf 8 = .ok (.goto 19, 3) := by decide +kernel
theorem dX2_weightOf_11 : decode cX2_weightOf 11 = .ok (.iload_n 1, 1) := by decide +kernel
theorem dX2_weightOf_12 : decode cX2_weightOf 12 = .ok (.iconst 1, 1) := by decide +kernel
theorem dX2_weightOf_13 : decode cX2_weightOf 13 = .ok (.if_icmp .ne 10, 3) := by decide +kernel
theorem dX2_weightOf_16 : decode cX2_weightOf 16 = .ok (.aload_n 0, 1) := by decide +kernel
theorem dX2_weightOf_17 : decode cX2_weightOf 17 = .ok (.getfield 13, 3) := by decide +kernel
theorem dX2_weightOf_20 : decode cX2_weightOf 20 = .ok (.goto 7, 3) := by decide +kernel
theorem dX2_weightOf_23 : decode cX2_weightOf 23 = .ok (.aload_n 0, 1) := by decide +kernel
theorem dX2_weightOf_24 : decode cX2_weightOf 24 = .ok (.getfield 16, 3) := by decide +kernel
theorem dX2_weightOf_27 : decode cX2_weightOf 27 = .ok (.ireturn, 1) := by decide +kernel
theorem dX2_change_0 : decode cX2_change 0 = .ok (.iload_n 1, 1) := by decide +kernel
theorem dX2_change_1 : decode cX2_change 1 = .ok (.ifCond .ne 11, 3) := by decide +kernel
theorem dX2_change_4 : decode cX2_change 4 = .ok (.aload_n 0, 1) := by decide +kernel
theorem dX2_change_5 : decode cX2_change 5 = .ok (.iload_n 2, 1) := by decide +kernel
theorem dX2_change_6 : decode cX2_change 6 = .ok (.putfield 7, 3) := by decide +kernel
theorem dX2_change_9 : decode cX2_change 9 = .ok (.goto 21, 3) := by decide +kernel
theorem dX2_change_12 : decode cX2_change 12 = .ok (.iload_n 1, 1) := by decide +kernel
theorem dX2_change_13 : decode cX2_change 13 = .ok (.iconst 1, 1) := by decide +kernel
theorem dX2_change_14 : decode cX2_change 14 = .ok (.if_icmp .ne 11, 3) := by decide +kernel
theorem dX2_change_17 : decode cX2_change 17 = .ok (.aload_n 0, 1) := by decide +kernel
theorem dX2_change_18 : decode cX2_change 18 = .ok (.iload_n 2, 1) := by decide +kernel
theorem dX2_change_19 : decode cX2_change 19 = .ok (.putfield 13, 3) := by decide +kernel
theorem dX2_change_22 : decode cX2_change 22 = .ok (.goto 8, 3) := by decide +kernel
theorem dX2_change_25 : decode cX2_change 25 = .ok (.aload_n 0, 1) := by decide +kernel
theorem dX2_change_26 : decode cX2_change 26 = .ok (.iload_n 2, 1) := by decide +kernel
theorem dX2_change_27 : decode cX2_change 27 = .ok (.putfield 16, 3) := by decide +kernel
theorem dX2_change_30 : decode cX2_change 30 = .ok (.return_, 1) := by decide +kernel
theorem dX2_see_0 : decode cX2_see 0 = .ok (.iconst 1, 1) := by decide +kernel
theorem dX2_see_1 : decode cX2_see 1 = .ok (.aload_n 0, 1) := by decide +kernel
theorem dX2_see_2 : decode cX2_see 2 = .ok (.getfield 7, 3) := by decide +kernel
theorem dX2_see_5 : decode cX2_see 5 = .ok (.iload_n 3, 1) := by decide +kernel
theorem dX2_see_6 : decode cX2_see 6 = .ok (.aload_n 0, 1) := by decide +kernel
theorem dX2_see_7 : decode cX2_see 7 = .ok (.getfield 16, 3) := by decide +kernel
theorem dX2_see_10 : decode cX2_see 10 = .ok (.imul, 1) := by decide +kernel
theorem dX2_see_11 : decode cX2_see 11 = .ok (.isub, 1) := by decide +kernel
theorem dX2_see_12 : decode cX2_see 12 = .ok (.invokestatic 19, 3) := by decide +kernel
theorem dX2_see_15 : decode cX2_see 15 = .ok (.istore 4, 2) := by decide +kernel
theorem dX2_see_17 : decode cX2_see 17 = .ok (.aload_n 1, 1) := by decide +kernel
theorem dX2_see_18 : decode cX2_see 18 = .ok (.aload_n 1, 1) := by decide +kernel
theorem dX2_see_19 : decode cX2_see 19 = .ok (.iload_n 2, 1) := by decide +kernel
theorem dX2_see_20 : decode cX2_see 20 = .ok (.invokevirtual 25, 3) := by decide +kernel
theorem dX2_see_23 : decode cX2_see 23 = .ok (.iload 4, 2) := by decide +kernel
theorem dX2_see_25 : decode cX2_see 25 = .ok (.aload_n 0, 1) := by decide +kernel
theorem dX2_see_26 : decode cX2_see 26 = .ok (.getfield 13, 3) := by decide +kernel
theorem dX2_see_29 : decode cX2_see 29 = .ok (.iload_n 3, 1) := by decide +kernel
theorem dX2_see_30 : decode cX2_see 30 = .ok (.aload_n 0, 1) := by decide +kernel
theorem dX2_see_31 : decode cX2_see 31 = .ok (.getfield 16, 3) := by decide +kernel
theorem dX2_see_34 : decode cX2_see 34 = .ok (.imul, 1) := by decide +kernel
theorem dX2_see_35 : decode cX2_see 35 = .ok (.iadd, 1) := by decide +kernel
theorem dX2_see_36 : decode cX2_see 36 = .ok (.invokestatic 31, 3) := by decide +kernel
theorem dX2_see_39 : decode cX2_see 39 = .ok (.lreturn, 1) := by decide +kernel
theorem dX2_weigh_0 : decode cX2_weigh 0 = .ok (.iload_n 1, 1) := by decide +kernel
theorem dX2_weigh_1 : decode cX2_weigh 1 = .ok (.i2l, 1) := by decide +kernel
theorem dX2_weigh_2 : decode cX2_weigh 2 = .ok (.aload_n 0, 1) := by decide +kernel
theorem dX2_weigh_3 : decode cX2_weigh 3 = .ok (.getfield 35, 3) := by decide +kernel
theorem dX2_weigh_6 : decode cX2_weigh 6 = .ok (.iload_n 2, 1) := by decide +kernel
theorem dX2_weigh_7 : decode cX2_weigh 7 = .ok (.imul, 1) := by decide +kernel
theorem dX2_weigh_8 : decode cX2_weigh 8 = .ok (.bipush 100, 2) := by decide +kernel
theorem dX2_weigh_10 : decode cX2_weigh 10 = .ok (.aload_n 0, 1) := by decide +kernel
theorem dX2_weigh_11 : decode cX2_weigh 11 = .ok (.getfield 35, 3) := by decide +kernel
theorem dX2_weigh_14 : decode cX2_weigh 14 = .ok (.isub, 1) := by decide +kernel
theorem dX2_weigh_15 : decode cX2_weigh 15 = .ok (.iload_n 3, 1) := by decide +kernel
theorem dX2_weigh_16 : decode cX2_weigh 16 = .ok (.imul, 1) := by decide +kernel
theorem dX2_weigh_17 : decode cX2_weigh 17 = .ok (.iadd, 1) := by decide +kernel
theorem dX2_weigh_18 : decode cX2_weigh 18 = .ok (.i2l, 1) := by decide +kernel
theorem dX2_weigh_19 : decode cX2_weigh 19 = .ok (.lmul, 1) := by decide +kernel
theorem dX2_weigh_20 : decode cX2_weigh 20 = .ok (.lreturn, 1) := by decide +kernel
theorem dX2_takeFrom_0 : decode cX2_takeFrom 0 = .ok (.aload_n 0, 1) := by decide +kernel
theorem dX2_takeFrom_1 : decode cX2_takeFrom 1 = .ok (.aload_n 1, 1) := by decide +kernel
theorem dX2_takeFrom_2 : decode cX2_takeFrom 2 = .ok (.getfield 7, 3) := by decide +kernel
theorem dX2_takeFrom_5 : decode cX2_takeFrom 5 = .ok (.putfield 7, 3) := by decide +kernel
theorem dX2_takeFrom_8 : decode cX2_takeFrom 8 = .ok (.aload_n 0, 1) := by decide +kernel
theorem dX2_takeFrom_9 : decode cX2_takeFrom 9 = .ok (.aload_n 1, 1) := by decide +kernel
theorem dX2_takeFrom_10 : decode cX2_takeFrom 10 = .ok (.getfield 13, 3) := by decide +kernel
theorem dX2_takeFrom_13 : decode cX2_takeFrom 13 = .ok (.putfield 13, 3) := by decide +kernel
theorem dX2_takeFrom_16 : decode cX2_takeFrom 16 = .ok (.aload_n 0, 1) := by decide +kernel
theorem dX2_takeFrom_17 : decode cX2_takeFrom 17 = .ok (.aload_n 1, 1) := by decide +kernel
theorem dX2_takeFrom_18 : decode cX2_takeFrom 18 = .ok (.getfield 16, 3) := by decide +kernel
theorem dX2_takeFrom_21 : decode cX2_takeFrom 21 = .ok (.putfield 16, 3) := by decide +kernel
theorem dX2_takeFrom_24 : decode cX2_takeFrom 24 = .ok (.return_, 1) := by decide +kernel
theorem dX3_init_0 : decode cX3_init 0 = .ok (.aload_n 0, 1) := by decide +kernel
theorem dX3_init_1 : decode cX3_init 1 = .ok (.invokespecial 3, 3) := by decide +kernel
theorem dX3_init_4 : decode cX3_init 4 = .ok (.aload_n 0, 1) := by decide +kernel
theorem dX3_init_5 : decode cX3_init 5 = .ok (.bipush 12, 2) := by decide +kernel
theorem dX3_init_7 : decode cX3_init 7 = .ok (.newarray .int, 2) := by decide +kernel
theorem dX3_init_9 : decode cX3_init 9 = .ok (.putfield 9, 3) := by decide +kernel
theorem dX3_init_12 : decode cX3_init 12 = .ok (.aload_n 0, 1) := by decide +kernel
theorem dX3_init_13 : decode cX3_init 13 = .ok (.bipush 12, 2) := by decide +kernel
theorem dX3_init_15 : decode cX3_init 15 = .ok (.newarray .int, 2) := by decide +kernel
theorem dX3_init_17 : decode cX3_init 17 = .ok (.putfield 15, 3) := by decide +kernel
theorem dX3_init_20 : decode cX3_init 20 = .ok (.return_, 1) := by decide +kernel
theorem dX3_gather_0 : decode cX3_gather 0 = .ok (.aload_n 0, 1) := by decide +kernel
theorem dX3_gather_1 : decode cX3_gather 1 = .ok (.aload_n 1, 1) := by decide +kernel
theorem dX3_gather_2 : decode cX3_gather 2 = .ok (.getfield 18, 3) := by decide +kernel
theorem dX3_gather_5 : decode cX3_gather 5 = .ok (.putfield 24, 3) := by decide +kernel
theorem dX3_gather_8 : decode cX3_gather 8 = .ok (.iconst 0, 1) := by decide +kernel
theorem dX3_gather_9 : decode cX3_gather 9 = .ok (.istore_n 2, 1) := by decide +kernel
theorem dX3_gather_10 : decode cX3_gather 10 = .ok (.iload_n 2, 1) := by decide +kernel
theorem dX3_gather_11 : decode cX3_gather 11 = .ok (.bipush 12, 2) := by decide +kernel
theorem dX3_gather_13 : decode cX3_gather 13 = .ok (.if_icmp .ge 23, 3) := by decide +kernel
theorem dX3_gather_16 : decode cX3_gather 16 = .ok (.aload_n 0, 1) := by decide +kernel
theorem dX3_gather_17 : decode cX3_gather 17 = .ok (.getfield 9, 3) := by decide +kernel
theorem dX3_gather_20 : decode cX3_gather 20 = .ok (.iload_n 2, 1) := by decide +kernel
theorem dX3_gather_21 : decode cX3_gather 21 = .ok (.iload_n 2, 1) := by decide +kernel
theorem dX3_gather_22 : decode cX3_gather 22 = .ok (.iastore, 1) := by decide +kernel
theorem dX3_gather_23 : decode cX3_gather 23 = .ok (.aload_n 0, 1) := by decide +kernel
theorem dX3_gather_24 : decode cX3_gather 24 = .ok (.getfield 15, 3) := by decide +kernel
theorem dX3_gather_27 : decode cX3_gather 27 = .ok (.iload_n 2, 1) := by decide +kernel
theorem dX3_gather_28 : decode cX3_gather 28 = .ok (.iconst 1, 1) := by decide +kernel
theorem dX3_gather_29 : decode cX3_gather 29 = .ok (.iastore, 1) := by decide +kernel
theorem dX3_gather_30 : decode cX3_gather 30 = .ok (.iinc 2 1, 3) := by decide +kernel
theorem dX3_gather_33 : decode cX3_gather 33 = .ok (.goto (-23), 3) := by decide +kernel
theorem dX3_gather_36 : decode cX3_gather 36 = .ok (.iconst 0, 1) := by decide +kernel
theorem dX3_gather_37 : decode cX3_gather 37 = .ok (.istore_n 2, 1) := by decide +kernel
theorem dX3_gather_38 : decode cX3_gather 38 = .ok (.iload_n 2, 1) := by decide +kernel
theorem dX3_gather_39 : decode cX3_gather 39 = .ok (.aload_n 1, 1) := by decide +kernel
theorem dX3_gather_40 : decode cX3_gather 40 = .ok (.getfield 27, 3) := by decide +kernel
theorem dX3_gather_43 : decode cX3_gather 43 = .ok (.if_icmp .ge 45, 3) := by decide +kernel
theorem dX3_gather_46 : decode cX3_gather 46 = .ok (.aload_n 1, 1) := by decide +kernel
theorem dX3_gather_47 : decode cX3_gather 47 = .ok (.getfield 30, 3) := by decide +kernel
theorem dX3_gather_50 : decode cX3_gather 50 = .ok (.iload_n 2, 1) := by decide +kernel
theorem dX3_gather_51 : decode cX3_gather 51 = .ok (.aaload, 1) := by decide +kernel
theorem dX3_gather_52 : decode cX3_gather 52 = .ok (.astore_n 3, 1) := by decide +kernel
theorem dX3_gather_53 : decode cX3_gather 53 = .ok (.aload_n 3, 1) := by decide +kernel
theorem dX3_gather_54 : decode cX3_gather 54 = .ok (.getfield 34, 3) := by decide +kernel
theorem dX3_gather_57 : decode cX3_gather 57 = .ok (.ifCond .ne 25, 3) := by decide +kernel
theorem dX3_gather_60 : decode cX3_gather 60 = .ok (.aload_n 0, 1) := by decide +kernel
theorem dX3_gather_61 : decode cX3_gather 61 = .ok (.aload_n 0, 1) := by decide +kernel
theorem dX3_gather_62 : decode cX3_gather 62 = .ok (.getfield 9, 3) := by decide +kernel
theorem dX3_gather_65 : decode cX3_gather 65 = .ok (.aload_n 3, 1) := by decide +kernel
theorem dX3_gather_66 : decode cX3_gather 66 = .ok (.getfield 40, 3) := by decide +kernel
theorem dX3_gather_69 : decode cX3_gather 69 = .ok (.iaload, 1) := by decide +kernel
theorem dX3_gather_70 : decode cX3_gather 70 = .ok (.aload_n 0, 1) := by decide +kernel
theorem dX3_gather_71 : decode cX3_gather 71 = .ok (.getfield 9, 3) := by decide +kernel
theorem dX3_gather_74 : decode cX3_gather 74 = .ok (.aload_n 3, 1) := by decide +kernel
theorem dX3_gather_75 : decode cX3_gather 75 = .ok (.getfield 43, 3) := by decide +kernel
theorem dX3_gather_78 : decode cX3_gather 78 = .ok (.iaload, 1) := by decide +kernel
theorem dX3_gather_79 : decode cX3_gather 79 = .ok (.invokevirtual 46, 3) := by decide +kernel
theorem dX3_gather_82 : decode cX3_gather 82 = .ok (.iinc 2 1, 3) := by decide +kernel
theorem dX3_gather_85 : decode cX3_gather 85 = .ok (.goto (-47), 3) := by decide +kernel
theorem dX3_gather_88 : decode cX3_gather 88 = .ok (.return_, 1) := by decide +kernel
theorem dX3_unite_0 : decode cX3_unite 0 = .ok (.iload_n 1, 1) := by decide +kernel
theorem dX3_unite_1 : decode cX3_unite 1 = .ok (.iload_n 2, 1) := by decide +kernel
theorem dX3_unite_2 : decode cX3_unite 2 = .ok (.if_icmp .ne 4, 3) := by decide +kernel
theorem dX3_unite_5 : decode cX3_unite 5 = .ok (.return_, 1) := by decide +kernel
theorem dX3_unite_6 : decode cX3_unite 6 = .ok (.aload_n 0, 1) := by decide +kernel
theorem dX3_unite_7 : decode cX3_unite 7 = .ok (.getfield 15, 3) := by decide +kernel
theorem dX3_unite_10 : decode cX3_unite 10 = .ok (.iload_n 1, 1) := by decide +kernel
theorem dX3_unite_11 : decode cX3_unite 11 = .ok (.dup2, 1) := by decide +kernel
theorem dX3_unite_12 : decode cX3_unite 12 = .ok (.iaload, 1) := by decide +kernel
theorem dX3_unite_13 : decode cX3_unite 13 = .ok (.aload_n 0, 1) := by decide +kernel
theorem dX3_unite_14 : decode cX3_unite 14 = .ok (.getfield 15, 3) := by decide +kernel
theorem dX3_unite_17 : decode cX3_unite 17 = .ok (.iload_n 2, 1) := by decide +kernel
theorem dX3_unite_18 : decode cX3_unite 18 = .ok (.iaload, 1) := by decide +kernel
theorem dX3_unite_19 : decode cX3_unite 19 = .ok (.iadd, 1) := by decide +kernel
theorem dX3_unite_20 : decode cX3_unite 20 = .ok (.iastore, 1) := by decide +kernel
theorem dX3_unite_21 : decode cX3_unite 21 = .ok (.iconst 0, 1) := by decide +kernel
theorem dX3_unite_22 : decode cX3_unite 22 = .ok (.istore_n 3, 1) := by decide +kernel
theorem dX3_unite_23 : decode cX3_unite 23 = .ok (.iload_n 3, 1) := by decide +kernel
theorem dX3_unite_24 : decode cX3_unite 24 = .ok (.bipush 12, 2) := by decide +kernel
theorem dX3_unite_26 : decode cX3_unite 26 = .ok (.if_icmp .ge 26, 3) := by decide +kernel
theorem dX3_unite_29 : decode cX3_unite 29 = .ok (.aload_n 0, 1) := by decide +kernel
theorem dX3_unite_30 : decode cX3_unite 30 = .ok (.getfield 9, 3) := by decide +kernel
theorem dX3_unite_33 : decode cX3_unite 33 = .ok (.iload_n 3, 1) := by decide +kernel
theorem dX3_unite_34 : decode cX3_unite 34 = .ok (.iaload, 1) := by decide +kernel
theorem dX3_unite_35 : decode cX3_unite 35 = .ok (.iload_n 2, 1) := by decide +kernel
theorem dX3_unite_36 : decode cX3_unite 36 = .ok (.if_icmp .ne 10, 3) := by decide +kernel
theorem dX3_unite_39 : decode cX3_unite 39 = .ok (.aload_n 0, 1) := by decide +kernel
theorem dX3_unite_40 : decode cX3_unite 40 = .ok (.getfield 9, 3) := by decide +kernel
theorem dX3_unite_43 : decode cX3_unite 43 = .ok (.iload_n 3, 1) := by decide +kernel
theorem dX3_unite_44 : decode cX3_unite 44 = .ok (.iload_n 1, 1) := by decide +kernel
theorem dX3_unite_45 : decode cX3_unite 45 = .ok (.iastore, 1) := by decide +kernel
theorem dX3_unite_46 : decode cX3_unite 46 = .ok (.iinc 3 1, 3) := by decide +kernel
theorem dX3_unite_49 : decode cX3_unite 49 = .ok (.goto (-26), 3) := by decide +kernel
theorem dX3_unite_52 : decode cX3_unite 52 = .ok (.return_, 1) := by decide +kernel
theorem dX3_areJoined_0 : decode cX3_areJoined 0 = .ok (.aload_n 0, 1) := by decide +kernel
theorem dX3_areJoined_1 : decode cX3_areJoined 1 = .ok (.getfield 9, 3) := by decide +kernel
theorem dX3_areJoined_4 : decode cX3_areJoined 4 = .ok (.iload_n 1, 1) := by decide +kernel
theorem dX3_areJoined_5 : decode cX3_areJoined 5 = .ok (.iaload, 1) := by decide +kernel
theorem dX3_areJoined_6 : decode cX3_areJoined 6 = .ok (.aload_n 0, 1) := by decide +kernel
theorem dX3_areJoined_7 : decode cX3_areJoined 7 = .ok (.getfield 9, 3) := by decide +kernel
theorem dX3_areJoined_10 : decode cX3_areJoined 10 = .ok (.iload_n 2, 1) := by decide +kernel
theorem dX3_areJoined_11 : decode cX3_areJoined 11 = .ok (.iaload, 1) := by decide +kernel
theorem dX3_areJoined_12 : decode cX3_areJoined 12 = .ok (.if_icmp .ne 7, 3) := by decide +kernel
theorem dX3_areJoined_15 : decode cX3_areJoined 15 = .ok (.iconst 1, 1) := by decide +kernel
theorem dX3_areJoined_16 : decode cX3_areJoined 16 = .ok (.goto 4, 3) := by decide +kernel
theorem dX3_areJoined_19 : decode cX3_areJoined 19 = .ok (.iconst 0, 1) := by decide +kernel
theorem dX3_areJoined_20 : decode cX3_areJoined 20 = .ok (.ireturn, 1) := by decide +kernel
theorem dX3_sizeWith_0 : decode cX3_sizeWith 0 = .ok (.aload_n 0, 1) := by decide +kernel
theorem dX3_sizeWith_1 : decode cX3_sizeWith 1 = .ok (.getfield 15, 3) := by decide +kernel
theorem dX3_sizeWith_4 : decode cX3_sizeWith 4 = .ok (.aload_n 0, 1) := by decide +kernel
theorem dX3_sizeWith_5 : decode cX3_sizeWith 5 = .ok (.getfield 9, 3) := by decide +kernel
theorem dX3_sizeWith_8 : decode cX3_sizeWith 8 = .ok (.iload_n 1, 1) := by decide +kernel
theorem dX3_sizeWith_9 : decode cX3_sizeWith 9 = .ok (.iaload, 1) := by decide +kernel
theorem dX3_sizeWith_10 : decode cX3_sizeWith 10 = .ok (.iaload, 1) := by decide +kernel
theorem dX3_sizeWith_11 : decode cX3_sizeWith 11 = .ok (.ireturn, 1) := by decide +kernel
theorem dX3_countPairs_0 : decode cX3_countPairs 0 = .ok (.iconst 0, 1) := by decide +kernel
theorem dX3_countPairs_1 : decode cX3_countPairs 1 = .ok (.istore_n 1, 1) := by decide +kernel
theorem dX3_countPairs_2 : decode cX3_countPairs 2 = .ok (.iconst 0, 1) := by decide +kernel
theorem dX3_countPairs_3 : decode cX3_countPairs 3 = .ok (.istore_n 2, 1) := by decide +kernel
theorem dX3_countPairs_4 : decode cX3_countPairs 4 = .ok (.iload_n 2, 1) := by decide +kernel
theorem dX3_countPairs_5 : decode cX3_countPairs 5 = .ok (.aload_n 0, 1) := by decide +kernel
theorem dX3_countPairs_6 : decode cX3_countPairs 6 = .ok (.getfield 24, 3) := by decide +kernel
theorem dX3_countPairs_9 : decode cX3_countPairs 9 = .ok (.if_icmp .ge 44, 3) := by decide +kernel
theorem dX3_countPairs_12 : decode cX3_countPairs 12 = .ok (.iload_n 2, 1) := by decide +kernel
theorem dX3_countPairs_13 : decode cX3_countPairs 13 = .ok (.iconst 1, 1) := by decide +kernel
theorem dX3_countPairs_14 : decode cX3_countPairs 14 = .ok (.iadd, 1) := by decide +kernel
theorem dX3_countPairs_15 : decode cX3_countPairs 15 = .ok (.istore_n 3, 1) := by decide +kernel
theorem dX3_countPairs_16 : decode cX3_countPairs 16 = .ok (.iload_n 3, 1) := by decide +kernel
theorem dX3_countPairs_17 : decode cX3_countPairs 17 = .ok (.aload_n 0, 1) := by decide +kernel
theorem dX3_countPairs_18 : decode cX3_countPairs 18 = .ok (.getfield 24, 3) := by decide +kernel
theorem dX3_countPairs_21 : decode cX3_countPairs 21 = .ok (.if_icmp .ge 26, 3) := by decide +kernel
theorem dX3_countPairs_24 : decode cX3_countPairs 24 = .ok (.iload_n 1, 1) := by decide +kernel
theorem dX3_countPairs_25 : decode cX3_countPairs 25 = .ok (.aload_n 0, 1) := by decide +kernel
theorem dX3_countPairs_26 : decode cX3_countPairs 26 = .ok (.iload_n 2, 1) := by decide +kernel
theorem dX3_countPairs_27 : decode cX3_countPairs 27 = .ok (.iload_n 3, 1) := by decide +kernel
theorem dX3_countPairs_28 : decode cX3_countPairs 28 = .ok (.invokevirtual 50, 3) := by decide +kernel
theorem dX3_countPairs_31 : decode cX3_countPairs 31 = .ok (.ifCond .eq 7, 3) := by decide +kernel
theorem dX3_countPairs_34 : decode cX3_countPairs 34 = .ok (.iconst 1, 1) := by decide +kernel
theorem dX3_countPairs_35 : decode cX3_countPairs 35 = .ok (.goto 4, 3) := by decide +kernel
theorem dX3_countPairs_38 : decode cX3_countPairs 38 = .ok (.iconst 0, 1) := by decide +kernel
theorem dX3_countPairs_39 : decode cX3_countPairs 39 = .ok (.iadd, 1) := by decide +kernel
theorem dX3_countPairs_40 : decode cX3_countPairs 40 = .ok (.istore_n 1, 1) := by decide +kernel
theorem dX3_countPairs_41 : decode cX3_countPairs 41 = .ok (.iinc 3 1, 3) := by decide +kernel
theorem dX3_countPairs_44 : decode cX3_countPairs 44 = .ok (.goto (-28), 3) := by decide +kernel
theorem dX3_countPairs_47 : decode cX3_countPairs 47 = .ok (.iinc 2 1, 3) := by decide +kernel
theorem dX3_countPairs_50 : decode cX3_countPairs 50 = .ok (.goto (-46), 3) := by decide +kernel
theorem dX3_countPairs_53 : decode cX3_countPairs 53 = .ok (.iload_n 1, 1) := by decide +kernel
theorem dX3_countPairs_54 : decode cX3_countPairs 54 = .ok (.ireturn, 1) := by decide +kernel
theorem dX4_init_0 : decode cX4_init 0 = .ok (.aload_n 0, 1) := by decide +kernel
theorem dX4_init_1 : decode cX4_init 1 = .ok (.invokespecial 3, 3) := by decide +kernel
theorem dX4_init_4 : decode cX4_init 4 = .ok (.aload_n 0, 1) := by decide +kernel
theorem dX4_init_5 : decode cX4_init 5 = .ok (.sipush 400, 3) := by decide +kernel
theorem dX4_init_8 : decode cX4_init 8 = .ok (.newarray .boolean, 2) := by decide +kernel
theorem dX4_init_10 : decode cX4_init 10 = .ok (.putfield 11, 3) := by decide +kernel
theorem dX4_init_13 : decode cX4_init 13 = .ok (.return_, 1) := by decide +kernel
theorem dX4_read_0 : decode cX4_read 0 = .ok (.iconst 0, 1) := by decide +kernel
theorem dX4_read_1 : decode cX4_read 1 = .ok (.istore 4, 2) := by decide +kernel
theorem dX4_read_3 : decode cX4_read 3 = .ok (.iload 4, 2) := by decide +kernel
theorem dX4_read_5 : decode cX4_read 5 = .ok (.sipush 400, 3) := by decide +kernel
theorem dX4_read_8 : decode cX4_read 8 = .ok (.if_icmp .ge 17, 3) := by decide +kernel
theorem dX4_read_11 : decode cX4_read 11 = .ok (.aload_n 0, 1) := by decide +kernel
theorem dX4_read_12 : decode cX4_read 12 = .ok (.getfield 11, 3) := by decide +kernel
theorem dX4_read_15 : decode cX4_read 15 = .ok (.iload 4, 2) := by decide +kernel
theorem dX4_read_17 : decode cX4_read 17 = .ok (.iconst 1, 1) := by decide +kernel
theorem dX4_read_18 : decode cX4_read 18 = .ok (.bastore, 1) := by decide +kernel
theorem dX4_read_19 : decode cX4_read 19 = .ok (.iinc 4 1, 3) := by decide +kernel
theorem dX4_read_22 : decode cX4_read 22 = .ok (.goto (-19), 3) := by decide +kernel
theorem dX4_read_25 : decode cX4_read 25 = .ok (.iconst 0, 1) := by decide +kernel
theorem dX4_read_26 : decode cX4_read 26 = .ok (.istore 4, 2) := by decide +kernel
theorem dX4_read_28 : decode cX4_read 28 = .ok (.iload 4, 2) := by decide +kernel
theorem dX4_read_30 : decode cX4_read 30 = .ok (.aload_n 1, 1) := by decide +kernel
theorem dX4_read_31 : decode cX4_read 31 = .ok (.getfield 15, 3) := by decide +kernel
theorem dX4_read_34 : decode cX4_read 34 = .ok (.if_icmp .ge 49, 3) := by decide +kernel
theorem dX4_read_37 : decode cX4_read 37 = .ok (.aload_n 1, 1) := by decide +kernel
theorem dX4_read_38 : decode cX4_read 38 = .ok (.getfield 21, 3) := by decide +kernel
theorem dX4_read_41 : decode cX4_read 41 = .ok (.iload 4, 2) := by decide +kernel
theorem dX4_read_43 : decode cX4_read 43 = .ok (.aaload, 1) := by decide +kernel
theorem dX4_read_44 : decode cX4_read 44 = .ok (.getfield 25, 3) := by decide +kernel
theorem dX4_read_47 : decode cX4_read 47 = .ok (.ifCond .ne 30, 3) := by decide +kernel
theorem dX4_read_50 : decode cX4_read 50 = .ok (.aload_n 1, 1) := by decide +kernel
theorem dX4_read_51 : decode cX4_read 51 = .ok (.getfield 21, 3) := by decide +kernel
theorem dX4_read_54 : decode cX4_read 54 = .ok (.iload 4, 2) := by decide +kernel
theorem dX4_read_56 : decode cX4_read 56 = .ok (.aaload, 1) := by decide +kernel
theorem dX4_read_57 : decode cX4_read 57 = .ok (.getfield 31, 3) := by decide +kernel
theorem dX4_read_60 : decode cX4_read 60 = .ok (.iload_n 2, 1) := by decide +kernel
theorem dX4_read_61 : decode cX4_read 61 = .ok (.if_icmp .ne 16, 3) := by decide +kernel
theorem dX4_read_64 : decode cX4_read 64 = .ok (.aload_n 0, 1) := by decide +kernel
theorem dX4_read_65 : decode cX4_read 65 = .ok (.aload_n 1, 1) := by decide +kernel
theorem dX4_read_66 : decode cX4_read 66 = .ok (.aload_n 1, 1) := by decide +kernel
theorem dX4_read_67 : decode cX4_read 67 = .ok (.getfield 21, 3) := by decide +kernel
theorem dX4_read_70 : decode cX4_read 70 = .ok (.iload 4, 2) := by decide +kernel
theorem dX4_read_72 : decode cX4_read 72 = .ok (.aaload, 1) := by decide +kernel
theorem dX4_read_73 : decode cX4_read 73 = .ok (.iload_n 3, 1) := by decide +kernel
theorem dX4_read_74 : decode cX4_read 74 = .ok (.invokevirtual 34, 3) := by decide +kernel
theorem dX4_read_77 : decode cX4_read 77 = .ok (.iinc 4 1, 3) := by decide +kernel
theorem dX4_read_80 : decode cX4_read 80 = .ok (.goto (-52), 3) := by decide +kernel
theorem dX4_read_83 : decode cX4_read 83 = .ok (.aload_n 0, 1) := by decide +kernel
theorem dX4_read_84 : decode cX4_read 84 = .ok (.invokevirtual 38, 3) := by decide +kernel
theorem dX4_read_87 : decode cX4_read 87 = .ok (.return_, 1) := by decide +kernel
theorem dX4_yellowOf_0 : decode cX4_yellowOf 0 = .ok (.iload_n 0, 1) := by decide +kernel
theorem dX4_yellowOf_1 : decode cX4_yellowOf 1 = .ok (.bipush 20, 2) := by decide +kernel
theorem dX4_yellowOf_3 : decode cX4_yellowOf 3 = .ok (.idiv, 1) := by decide +kernel
theorem dX4_yellowOf_4 : decode cX4_yellowOf 4 = .ok (.iconst 1, 1) := by decide +kernel
theorem dX4_yellowOf_5 : decode cX4_yellowOf 5 = .ok (.iadd, 1) := by decide +kernel
theorem dX4_yellowOf_6 : decode cX4_yellowOf 6 = .ok (.bipush 10, 2) := by decide +kernel
theorem dX4_yellowOf_8 : decode cX4_yellowOf 8 = .ok (.imul, 1) := by decide +kernel
theorem dX4_yellowOf_9 : decode cX4_yellowOf 9 = .ok (.ireturn, 1) := by decide +kernel
theorem dX4_blueOf_0 : decode cX4_blueOf 0 = .ok (.iload_n 0, 1) := by decide +kernel
theorem dX4_blueOf_1 : decode cX4_blueOf 1 = .ok (.bipush 20, 2) := by decide +kernel
theorem dX4_blueOf_3 : decode cX4_blueOf 3 = .ok (.irem, 1) := by decide +kernel
theorem dX4_blueOf_4 : decode cX4_blueOf 4 = .ok (.iconst 1, 1) := by decide +kernel
theorem dX4_blueOf_5 : decode cX4_blueOf 5 = .ok (.iadd, 1) := by decide +kernel
theorem dX4_blueOf_6 : decode cX4_blueOf 6 = .ok (.bipush 10, 2) := by decide +kernel
theorem dX4_blueOf_8 : decode cX4_blueOf 8 = .ok (.imul, 1) := by decide +kernel
theorem dX4_blueOf_9 : decode cX4_blueOf 9 = .ok (.ireturn, 1) := by decide +kernel
theorem dX4_strike_0 : decode cX4_strike 0 = .ok (.aload_n 1, 1) := by decide +kernel
theorem dX4_strike_1 : decode cX4_strike 1 = .ok (.getfield 41, 3) := by decide +kernel
theorem dX4_strike_4 : decode cX4_strike 4 = .ok (.aload_n 2, 1) := by decide +kernel
theorem dX4_strike_5 : decode cX4_strike 5 = .ok (.getfield 45, 3) := by decide +kernel
theorem dX4_strike_8 : decode cX4_strike 8 = .ok (.aaload, 1) := by decide +kernel
theorem dX4_strike_9 : decode cX4_strike 9 = .ok (.astore 4, 2) := by decide +kernel
theorem dX4_strike_11 : decode cX4_strike 11 = .ok (.aload_n 1, 1) := by decide +kernel
theorem dX4_strike_12 : decode cX4_strike 12 = .ok (.getfield 41, 3) := by decide +kernel
theorem dX4_strike_15 : decode cX4_strike 15 = .ok (.aload_n 2, 1) := by decide +kernel
theorem dX4_strike_16 : decode cX4_strike 16 = .ok (.getfield 48, 3) := by decide +kernel
theorem dX4_strike_19 : decode cX4_strike 19 = .ok (.aaload, 1) := by decide +kernel
theorem dX4_strike_20 : decode cX4_strike 20 = .ok (.astore 5, 2) := by decide +kernel
theorem dX4_strike_22 : decode cX4_strike 22 = .ok (.aload 4, 2) := by decide +kernel
theorem dX4_strike_24 : decode cX4_strike 24 = .ok (.aload_n 1, 1) := by decide +kernel
theorem dX4_strike_25 : decode cX4_strike 25 = .ok (.getfield 51, 3) := by decide +kernel
theorem dX4_strike_28 : decode cX4_strike 28 = .ok (.invokevirtual 54, 3) := by decide +kernel
theorem dX4_strike_31 : decode cX4_strike 31 = .ok (.istore 6, 2) := by decide +kernel
theorem dX4_strike_33 : decode cX4_strike 33 = .ok (.aload 5, 2) := by decide +kernel
theorem dX4_strike_35 : decode cX4_strike 35 = .ok (.aload_n 1, 1) := by decide +kernel
theorem dX4_strike_36 : decode cX4_strike 36 = .ok (.getfield 51, 3) := by decide +kernel
theorem dX4_strike_39 : decode cX4_strike 39 = .ok (.invokevirtual 54, 3) := by decide +kernel
theorem dX4_strike_42 : decode cX4_strike 42 = .ok (.istore 7, 2) := by decide +kernel
theorem dX4_strike_44 : decode cX4_strike 44 = .ok (.iconst 0, 1) := by decide +kernel
theorem dX4_strike_45 : decode cX4_strike 45 = .ok (.istore 8, 2) := by decide +kernel
theorem dX4_strike_47 : decode cX4_strike 47 = .ok (.iload 8, 2) := by decide +kernel
theorem dX4_strike_49 : decode cX4_strike 49 = .ok (.sipush 400, 3) := by decide +kernel
theorem dX4_strike_52 : decode cX4_strike 52 = .ok (.if_icmp .ge 103, 3) := by decide +kernel
theorem dX4_strike_55 : decode cX4_strike 55 = .ok (.aload_n 0, 1) := by decide +kernel
theorem dX4_strike_56 : decode cX4_strike 56 = .ok (.getfield 11, 3) := by decide +kernel
theorem dX4_strike_59 : decode cX4_strike 59 = .ok (.iload 8, 2) := by decide +kernel
theorem dX4_strike_61 : decode cX4_strike 61 = .ok (.baload, 1) := by decide +kernel
theorem dX4_strike_62 : decode cX4_strike 62 = .ok (.ifCond .eq 87, 3) := by decide +kernel
theorem dX4_strike_65 : decode cX4_strike 65 = .ok (.aload 4, 2) := by decide +kernel
theorem dX4_strike_67 : decode cX4_strike 67 = .ok (.iload 6, 2) := by decide +kernel
theorem dX4_strike_69 : decode cX4_strike 69 = .ok (.iload 8, 2) := by decide +kernel
theorem dX4_strike_71 : decode cX4_strike 71 = .ok (.invokestatic 60, 3) := by decide +kernel
theorem dX4_strike_74 : decode cX4_strike 74 = .ok (.iload 8, 2) := by decide +kernel
theorem dX4_strike_76 : decode cX4_strike 76 = .ok (.invokestatic 63, 3) := by decide +kernel
theorem dX4_strike_79 : decode cX4_strike 79 = .ok (.invokestatic 66, 3) := by decide +kernel
theorem dX4_strike_82 : decode cX4_strike 82 = .ok (.lstore 9, 2) := by decide +kernel
theorem dX4_strike_84 : decode cX4_strike 84 = .ok (.aload 5, 2) := by decide +kernel
theorem dX4_strike_86 : decode cX4_strike 86 = .ok (.iload 7, 2) := by decide +kernel
theorem dX4_strike_88 : decode cX4_strike 88 = .ok (.iload 8, 2) := by decide +kernel
theorem dX4_strike_90 : decode cX4_strike 90 = .ok (.invokestatic 60, 3) := by decide +kernel
theorem dX4_strike_93 : decode cX4_strike 93 = .ok (.iload 8, 2) := by decide +kernel
theorem dX4_strike_95 : decode cX4_strike 95 = .ok (.invokestatic 63, 3) := by decide +kernel
theorem dX4_strike_98 : decode cX4_strike 98 = .ok (.invokestatic 66, 3) := by decide +kernel
theorem dX4_strike_101 : decode cX4_strike 101 = .ok (.lstore 11, 2) := by decide +kernel
theorem dX4_strike_103 : decode cX4_strike 103 = .ok (.aload_n 0, 1) := by decide +kernel
theorem dX4_strike_104 : decode cX4_strike 104 = .ok (.getfield 11, 3) := by decide +kernel
theorem dX4_strike_107 : decode cX4_strike 107 = .ok (.iload 8, 2) := by decide +kernel
theorem dX4_strike_109 : decode cX4_strike 109 = .ok (.aload_n 2, 1) := by decide +kernel
theorem dX4_strike_110 : decode cX4_strike 110 = .ok (.getfield 72, 3) := by decide +kernel
theorem dX4_strike_113 : decode cX4_strike 113 = .ok (.iload_n 3, 1) := by decide +kernel
theorem dX4_strike_114 : decode cX4_strike 114 = .ok (.iadd, 1) := by decide +kernel
theorem dX4_strike_115 : decode cX4_strike 115 = .ok (.lload 9, 2) := by decide +kernel
theorem dX4_strike_117 : decode cX4_strike 117 = .ok (.lload 11, 2) := by decide +kernel
theorem dX4_strike_119 : decode cX4_strike 119 = .ok (.invokestatic 75, 3) := by decide +kernel
theorem dX4_strike_122 : decode cX4_strike 122 = .ok (.ifCond .eq 25, 3) := by decide +kernel
theorem dX4_strike_125 : decode cX4_strike 125 = .ok (.aload_n 2, 1) := by decide +kernel
theorem dX4_strike_126 : decode cX4_strike 126 = .ok (.getfield 72, 3) := by decide +kernel
theorem dX4_strike_129 : decode cX4_strike 129 = .ok (.iload_n 3, 1) := by decide +kernel
theorem dX4_strike_130 : decode cX4_strike 130 = .ok (.isub, 1) := by decide +kernel
theorem dX4_strike_131 : decode cX4_strike 131 = .ok (.iconst 1, 1) := by decide +kernel
theorem dX4_strike_132 : decode cX4_strike 132 = .ok (.isub, 1) := by decide +kernel
theorem dX4_strike_133 : decode cX4_strike 133 = .ok (.lload 9, 2) := by decide +kernel
theorem dX4_strike_135 : decode cX4_strike 135 = .ok (.lload 11, 2) := by decide +kernel
theorem dX4_strike_137 : decode cX4_strike 137 = .ok (.invokestatic 75, 3) := by decide +kernel
theorem dX4_strike_140 : decode cX4_strike 140 = .ok (.ifCond .ne 7, 3) := by decide +kernel
theorem dX4_strike_143 : decode cX4_strike 143 = .ok (.iconst 1, 1) := by decide +kernel
theorem dX4_strike_144 : decode cX4_strike 144 = .ok (.goto 4, 3) := by decide +kernel
theorem dX4_strike_147 : decode cX4_strike 147 = .ok (.iconst 0, 1) := by decide +kernel
theorem dX4_strike_148 : decode cX4_strike 148 = .ok (.bastore, 1) := by decide +kernel
theorem dX4_strike_149 : decode cX4_strike 149 = .ok (.iinc 8 1, 3) := by decide +kernel
theorem dX4_strike_152 : decode cX4_strike 152 = .ok (.goto (-105), 3) := by decide +kernel
theorem dX4_strike_155 : decode cX4_strike 155 = .ok (.return_, 1) := by decide +kernel
theorem dX4_sumUp_0 : decode cX4_sumUp 0 = .ok (.aload_n 0, 1) := by decide +kernel
theorem dX4_sumUp_1 : decode cX4_sumUp 1 = .ok (.iconst 0, 1) := by decide +kernel
theorem dX4_sumUp_2 : decode cX4_sumUp 2 = .ok (.putfield 79, 3) := by decide +kernel
theorem dX4_sumUp_5 : decode cX4_sumUp 5 = .ok (.iconst 0, 1) := by decide +kernel
theorem dX4_sumUp_6 : decode cX4_sumUp 6 = .ok (.istore_n 1, 1) := by decide +kernel
theorem dX4_sumUp_7 : decode cX4_sumUp 7 = .ok (.iload_n 1, 1) := by decide +kernel
theorem dX4_sumUp_8 : decode cX4_sumUp 8 = .ok (.sipush 400, 3) := by decide +kernel
theorem dX4_sumUp_11 : decode cX4_sumUp 11 = .ok (.if_icmp .ge 88, 3) := by decide +kernel
theorem dX4_sumUp_14 : decode cX4_sumUp 14 = .ok (.aload_n 0, 1) := by decide +kernel
theorem dX4_sumUp_15 : decode cX4_sumUp 15 = .ok (.getfield 11, 3) := by decide +kernel
theorem dX4_sumUp_18 : decode cX4_sumUp 18 = .ok (.iload_n 1, 1) := by decide +kernel
theorem dX4_sumUp_19 : decode cX4_sumUp 19 = .ok (.baload, 1) := by decide +kernel
theorem dX4_sumUp_20 : decode cX4_sumUp 20 = .ok (.ifCond .eq 73, 3) := by decide +kernel
theorem dX4_sumUp_23 : decode cX4_sumUp 23 = .ok (.aload_n 0, 1) := by decide +kernel
theorem dX4_sumUp_24 : decode cX4_sumUp 24 = .ok (.aload_n 0, 1) := by decide +kernel
theorem dX4_sumUp_25 : decode cX4_sumUp 25 = .ok (.getfield 79, 3) := by decide +kernel
theorem dX4_sumUp_28 : decode cX4_sumUp 28 = .ok (.ifCond .eq 14, 3) := by decide +kernel
theorem dX4_sumUp_31 : decode cX4_sumUp 31 = .ok (.iload_n 1, 1) := by decide +kernel
theorem dX4_sumUp_32 : decode cX4_sumUp 32 = .ok (.aload_n 0, 1) := by decide +kernel
theorem dX4_sumUp_33 : decode cX4_sumUp 33 = .ok (.getfield 82, 3) := by decide +kernel
theorem dX4_sumUp_36 : decode cX4_sumUp 36 = .ok (.invokestatic 85, 3) := by decide +kernel
theorem dX4_sumUp_39 : decode cX4_sumUp 39 = .ok (.ifCond .eq 7, 3) := by decide +kernel
theorem dX4_sumUp_42 : decode cX4_sumUp 42 = .ok (.iload_n 1, 1) := by decide +kernel
theorem dX4_sumUp_43 : decode cX4_sumUp 43 = .ok (.goto 7, 3) := by decide +kernel
theorem dX4_sumUp_46 : decode cX4_sumUp 46 = .ok (.aload_n 0, 1) := by decide +kernel
theorem dX4_sumUp_47 : decode cX4_sumUp 47 = .ok (.getfield 82, 3) := by decide +kernel
theorem dX4_sumUp_50 : decode cX4_sumUp 50 = .ok (.putfield 82, 3) := by decide +kernel
theorem dX4_sumUp_53 : decode cX4_sumUp 53 = .ok (.aload_n 0, 1) := by decide +kernel
theorem dX4_sumUp_54 : decode cX4_sumUp 54 = .ok (.aload_n 0, 1) := by decide +kernel
theorem dX4_sumUp_55 : decode cX4_sumUp 55 = .ok (.getfield 79, 3) := by decide +kernel
theorem dX4_sumUp_58 : decode cX4_sumUp 58 = .ok (.ifCond .eq 14, 3) := by decide +kernel
theorem dX4_sumUp_61 : decode cX4_sumUp 61 = .ok (.aload_n 0, 1) := by decide +kernel
theorem dX4_sumUp_62 : decode cX4_sumUp 62 = .ok (.getfield 89, 3) := by decide +kernel
theorem dX4_sumUp_65 : decode cX4_sumUp 65 = .ok (.iload_n 1, 1) := by decide +kernel
theorem dX4_sumUp_66 : decode cX4_sumUp 66 = .ok (.invokestatic 85, 3) := by decide +kernel
theorem dX4_sumUp_69 : decode cX4_sumUp 69 = .ok (.ifCond .eq 7, 3) := by decide +kernel
theorem dX4_sumUp_72 : decode cX4_sumUp 72 = .ok (.iload_n 1, 1) := by decide +kernel
theorem dX4_sumUp_73 : decode cX4_sumUp 73 = .ok (.goto 7, 3) := by decide +kernel
theorem dX4_sumUp_76 : decode cX4_sumUp 76 = .ok (.aload_n 0, 1) := by decide +kernel
theorem dX4_sumUp_77 : decode cX4_sumUp 77 = .ok (.getfield 89, 3) := by decide +kernel
theorem dX4_sumUp_80 : decode cX4_sumUp 80 = .ok (.putfield 89, 3) := by decide +kernel
theorem dX4_sumUp_83 : decode cX4_sumUp 83 = .ok (.aload_n 0, 1) := by decide +kernel
theorem dX4_sumUp_84 : decode cX4_sumUp 84 = .ok (.dup, 1) := by decide +kernel
theorem dX4_sumUp_85 : decode cX4_sumUp 85 = .ok (.getfield 79, 3) := by decide +kernel
theorem dX4_sumUp_88 : decode cX4_sumUp 88 = .ok (.iconst 1, 1) := by decide +kernel
theorem dX4_sumUp_89 : decode cX4_sumUp 89 = .ok (.iadd, 1) := by decide +kernel
theorem dX4_sumUp_90 : decode cX4_sumUp 90 = .ok (.putfield 79, 3) := by decide +kernel
theorem dX4_sumUp_93 : decode cX4_sumUp 93 = .ok (.iinc 1 1, 3) := by decide +kernel
theorem dX4_sumUp_96 : decode cX4_sumUp 96 = .ok (.goto (-89), 3) := by decide +kernel
theorem dX4_sumUp_99 : decode cX4_sumUp 99 = .ok (.return_, 1) := by decide +kernel
theorem dX4_isYellower_0 : decode cX4_isYellower 0 = .ok (.iload_n 0, 1) := by decide +kernel
theorem dX4_isYellower_1 : decode cX4_isYellower 1 = .ok (.invokestatic 60, 3) := by decide +kernel
theorem dX4_isYellower_4 : decode cX4_isYellower 4 = .ok (.iload_n 1, 1) := by decide +kernel
theorem dX4_isYellower_5 : decode cX4_isYellower 5 = .ok (.invokestatic 63, 3) := by decide +kernel
theorem dX4_isYellower_8 : decode cX4_isYellower 8 = .ok (.imul, 1) := by decide +kernel
theorem dX4_isYellower_9 : decode cX4_isYellower 9 = .ok (.iload_n 1, 1) := by decide +kernel
theorem dX4_isYellower_10 : decode cX4_isYellower 10 = .ok (.invokestatic 60, 3) := by decide +kernel
theorem dX4_isYellower_13 : decode cX4_isYellower 13 = .ok (.iload_n 0, 1) := by decide +kernel
theorem dX4_isYellower_14 : decode cX4_isYellower 14 = .ok (.invokestatic 63, 3) := by decide +kernel
theorem dX4_isYellower_17 : decode cX4_isYellower 17 = .ok (.imul, 1) := by decide +kernel
theorem dX4_isYellower_18 : decode cX4_isYellower 18 = .ok (.if_icmp .le 7, 3) := by decide +kernel
theorem dX4_isYellower_21 : decode cX4_isYellower 21 = .ok (.iconst 1, 1) := by decide +kernel
theorem dX4_isYellower_22 : decode cX4_isYellower 22 = .ok (.goto 4, 3) := by decide +kernel
theorem dX4_isYellower_25 : decode cX4_isYellower 25 = .ok (.iconst 0, 1) := by decide +kernel
theorem dX4_isYellower_26 : decode cX4_isYellower 26 = .ok (.ireturn, 1) := by decide +kernel
theorem dX4_lawAt_0 : decode cX4_lawAt 0 = .ok (.iconst 0, 1) := by decide +kernel
theorem dX4_lawAt_1 : decode cX4_lawAt 1 = .ok (.istore_n 2, 1) := by decide +kernel
theorem dX4_lawAt_2 : decode cX4_lawAt 2 = .ok (.iconst 0, 1) := by decide +kernel
theorem dX4_lawAt_3 : decode cX4_lawAt 3 = .ok (.istore_n 3, 1) := by decide +kernel
theorem dX4_lawAt_4 : decode cX4_lawAt 4 = .ok (.iload_n 3, 1) := by decide +kernel
theorem dX4_lawAt_5 : decode cX4_lawAt 5 = .ok (.sipush 400, 3) := by decide +kernel
theorem dX4_lawAt_8 : decode cX4_lawAt 8 = .ok (.if_icmp .ge 40, 3) := by decide +kernel
theorem dX4_lawAt_11 : decode cX4_lawAt 11 = .ok (.aload_n 0, 1) := by decide +kernel
theorem dX4_lawAt_12 : decode cX4_lawAt 12 = .ok (.getfield 11, 3) := by decide +kernel
theorem dX4_lawAt_15 : decode cX4_lawAt 15 = .ok (.iload_n 3, 1) := by decide +kernel
theorem dX4_lawAt_16 : decode cX4_lawAt 16 = .ok (.baload, 1) := by decide +kernel
theorem dX4_lawAt_17 : decode cX4_lawAt 17 = .ok (.ifCond .eq 25, 3) := by decide +kernel
theorem dX4_lawAt_20 : decode cX4_lawAt 20 = .ok (.iload_n 2, 1) := by decide +kernel
theorem dX4_lawAt_21 : decode cX4_lawAt 21 = .ok (.iload_n 1, 1) := by decide +kernel
theorem dX4_lawAt_22 : decode cX4_lawAt 22 = .ok (.if_icmp .ne 17, 3) := by decide +kernel
theorem dX4_lawAt_25 : decode cX4_lawAt 25 = .ok (.sipush 1000, 3) := by decide +kernel
theorem dX4_lawAt_28 : decode cX4_lawAt 28 = .ok (.iload_n 3, 1) := by decide +kernel
theorem dX4_lawAt_29 : decode cX4_lawAt 29 = .ok (.invokestatic 60, 3) := by decide +kernel
theorem dX4_lawAt_32 : decode cX4_lawAt 32 = .ok (.imul, 1) := by decide +kernel
theorem dX4_lawAt_33 : decode cX4_lawAt 33 = .ok (.iload_n 3, 1) := by decide +kernel
theorem dX4_lawAt_34 : decode cX4_lawAt 34 = .ok (.invokestatic 63, 3) := by decide +kernel
theorem dX4_lawAt_37 : decode cX4_lawAt 37 = .ok (.iadd, 1) := by decide +kernel
theorem dX4_lawAt_38 : decode cX4_lawAt 38 = .ok (.ireturn, 1) := by decide +kernel
theorem dX4_lawAt_39 : decode cX4_lawAt 39 = .ok (.iinc 2 1, 3) := by decide +kernel
theorem dX4_lawAt_42 : decode cX4_lawAt 42 = .ok (.iinc 3 1, 3) := by decide +kernel
theorem dX4_lawAt_45 : decode cX4_lawAt 45 = .ok (.goto (-41), 3) := by decide +kernel
theorem dX4_lawAt_48 : decode cX4_lawAt 48 = .ok (.bipush (-4), 2) := by decide +kernel
theorem dX4_lawAt_50 : decode cX4_lawAt 50 = .ok (.ireturn, 1) := by decide +kernel
theorem dX4_apart_0 : decode cX4_apart 0 = .ok (.aload_n 0, 1) := by decide +kernel
theorem dX4_apart_1 : decode cX4_apart 1 = .ok (.getfield 82, 3) := by decide +kernel
theorem dX4_apart_4 : decode cX4_apart 4 = .ok (.aload_n 1, 1) := by decide +kernel
theorem dX4_apart_5 : decode cX4_apart 5 = .ok (.iload_n 2, 1) := by decide +kernel
theorem dX4_apart_6 : decode cX4_apart 6 = .ok (.iload_n 3, 1) := by decide +kernel
theorem dX4_apart_7 : decode cX4_apart 7 = .ok (.invokestatic 92, 3) := by decide +kernel
theorem dX4_apart_10 : decode cX4_apart 10 = .ok (.aload_n 0, 1) := by decide +kernel
theorem dX4_apart_11 : decode cX4_apart 11 = .ok (.getfield 89, 3) := by decide +kernel
theorem dX4_apart_14 : decode cX4_apart 14 = .ok (.aload_n 1, 1) := by decide +kernel
theorem dX4_apart_15 : decode cX4_apart 15 = .ok (.iload_n 2, 1) := by decide +kernel
theorem dX4_apart_16 : decode cX4_apart 16 = .ok (.iload_n 3, 1) := by decide +kernel
theorem dX4_apart_17 : decode cX4_apart 17 = .ok (.invokestatic 92, 3) := by decide +kernel
theorem dX4_apart_20 : decode cX4_apart 20 = .ok (.isub, 1) := by decide +kernel
theorem dX4_apart_21 : decode cX4_apart 21 = .ok (.invokestatic 96, 3) := by decide +kernel
theorem dX4_apart_24 : decode cX4_apart 24 = .ok (.ireturn, 1) := by decide +kernel
theorem dX4_placeBy_0 : decode cX4_placeBy 0 = .ok (.aload_n 1, 1) := by decide +kernel
theorem dX4_placeBy_1 : decode cX4_placeBy 1 = .ok (.getfield 41, 3) := by decide +kernel
theorem dX4_placeBy_4 : decode cX4_placeBy 4 = .ok (.iload_n 2, 1) := by decide +kernel
theorem dX4_placeBy_5 : decode cX4_placeBy 5 = .ok (.aaload, 1) := by decide +kernel
theorem dX4_placeBy_6 : decode cX4_placeBy 6 = .ok (.astore 4, 2) := by decide +kernel
theorem dX4_placeBy_8 : decode cX4_placeBy 8 = .ok (.aload_n 1, 1) := by decide +kernel
theorem dX4_placeBy_9 : decode cX4_placeBy 9 = .ok (.getfield 41, 3) := by decide +kernel
theorem dX4_placeBy_12 : decode cX4_placeBy 12 = .ok (.iload_n 3, 1) := by decide +kernel
theorem dX4_placeBy_13 : decode cX4_placeBy 13 = .ok (.aaload, 1) := by decide +kernel
theorem dX4_placeBy_14 : decode cX4_placeBy 14 = .ok (.astore 5, 2) := by decide +kernel
theorem dX4_placeBy_16 : decode cX4_placeBy 16 = .ok (.iload_n 0, 1) := by decide +kernel
theorem dX4_placeBy_17 : decode cX4_placeBy 17 = .ok (.invokestatic 60, 3) := by decide +kernel
theorem dX4_placeBy_20 : decode cX4_placeBy 20 = .ok (.istore 6, 2) := by decide +kernel
theorem dX4_placeBy_22 : decode cX4_placeBy 22 = .ok (.iload_n 0, 1) := by decide +kernel
theorem dX4_placeBy_23 : decode cX4_placeBy 23 = .ok (.invokestatic 63, 3) := by decide +kernel
theorem dX4_placeBy_26 : decode cX4_placeBy 26 = .ok (.istore 7, 2) := by decide +kernel
theorem dX4_placeBy_28 : decode cX4_placeBy 28 = .ok (.aload 4, 2) := by decide +kernel
theorem dX4_placeBy_30 : decode cX4_placeBy 30 = .ok (.aload 4, 2) := by decide +kernel
theorem dX4_placeBy_32 : decode cX4_placeBy 32 = .ok (.aload_n 1, 1) := by decide +kernel
theorem dX4_placeBy_33 : decode cX4_placeBy 33 = .ok (.getfield 51, 3) := by decide +kernel
theorem dX4_placeBy_36 : decode cX4_placeBy 36 = .ok (.invokevirtual 54, 3) := by decide +kernel
theorem dX4_placeBy_39 : decode cX4_placeBy 39 = .ok (.iload 6, 2) := by decide +kernel
theorem dX4_placeBy_41 : decode cX4_placeBy 41 = .ok (.iload 7, 2) := by decide +kernel
theorem dX4_placeBy_43 : decode cX4_placeBy 43 = .ok (.invokestatic 66, 3) := by decide +kernel
theorem dX4_placeBy_46 : decode cX4_placeBy 46 = .ok (.aload 5, 2) := by decide +kernel
theorem dX4_placeBy_48 : decode cX4_placeBy 48 = .ok (.aload 5, 2) := by decide +kernel
theorem dX4_placeBy_50 : decode cX4_placeBy 50 = .ok (.aload_n 1, 1) := by decide +kernel
theorem dX4_placeBy_51 : decode cX4_placeBy 51 = .ok (.getfield 51, 3) := by decide +kernel
theorem dX4_placeBy_54 : decode cX4_placeBy 54 = .ok (.invokevirtual 54, 3) := by decide +kernel
theorem dX4_placeBy_57 : decode cX4_placeBy 57 = .ok (.iload 6, 2) := by decide +kernel
theorem dX4_placeBy_59 : decode cX4_placeBy 59 = .ok (.iload 7, 2) := by decide +kernel
theorem dX4_placeBy_61 : decode cX4_placeBy 61 = .ok (.invokestatic 66, 3) := by decide +kernel
theorem dX4_placeBy_64 : decode cX4_placeBy 64 = .ok (.invokestatic 101, 3) := by decide +kernel
theorem dX4_placeBy_67 : decode cX4_placeBy 67 = .ok (.ireturn, 1) := by decide +kernel
theorem dX5_init_0 : decode cX5_init 0 = .ok (.aload_n 0, 1) := by decide +kernel
theorem dX5_init_1 : decode cX5_init 1 = .ok (.invokespecial 3, 3) := by decide +kernel
theorem dX5_init_4 : decode cX5_init 4 = .ok (.return_, 1) := by decide +kernel
theorem dX5_shineIn_0 : decode cX5_shineIn 0 = .ok (.aload_n 0, 1) := by decide +kernel
theorem dX5_shineIn_1 : decode cX5_shineIn 1 = .ok (.aload_n 0, 1) := by decide +kernel
theorem dX5_shineIn_2 : decode cX5_shineIn 2 = .ok (.getfield 9, 3) := by decide +kernel
theorem dX5_shineIn_5 : decode cX5_shineIn 5 = .ok (.iload_n 1, 1) := by decide +kernel
theorem dX5_shineIn_6 : decode cX5_shineIn 6 = .ok (.invokevirtual 15, 3) := by decide +kernel
theorem dX5_shineIn_9 : decode cX5_shineIn 9 = .ok (.ireturn, 1) := by decide +kernel
theorem dX5_shineAfter_0 : decode cX5_shineAfter 0 = .ok (.iconst 1, 1) := by decide +kernel
theorem dX5_shineAfter_1 : decode cX5_shineAfter 1 = .ok (.ldc 19, 2) := by decide +kernel
theorem dX5_shineAfter_3 : decode cX5_shineAfter 3 = .ok (.aload_n 0, 1) := by decide +kernel
theorem dX5_shineAfter_4 : decode cX5_shineAfter 4 = .ok (.iload_n 1, 1) := by decide +kernel
theorem dX5_shineAfter_5 : decode cX5_shineAfter 5 = .ok (.iload_n 2, 1) := by decide +kernel
theorem dX5_shineAfter_6 : decode cX5_shineAfter 6 = .ok (.invokevirtual 20, 3) := by decide +kernel
theorem dX5_shineAfter_9 : decode cX5_shineAfter 9 = .ok (.invokestatic 23, 3) := by decide +kernel
theorem dX5_shineAfter_12 : decode cX5_shineAfter 12 = .ok (.invokestatic 28, 3) := by decide +kernel
theorem dX5_shineAfter_15 : decode cX5_shineAfter 15 = .ok (.ireturn, 1) := by decide +kernel
theorem dX5_unheld_0 : decode cX5_unheld 0 = .ok (.aload_n 0, 1) := by decide +kernel
theorem dX5_unheld_1 : decode cX5_unheld 1 = .ok (.getfield 31, 3) := by decide +kernel
theorem dX5_unheld_4 : decode cX5_unheld 4 = .ok (.tableswitch 114 1 7 #[44, 57, 72, 90, 96, 114, 103], 44) := by decide +kernel
theorem dX5_unheld_48 : decode cX5_unheld 48 = .ok (.aload_n 0, 1) := by decide +kernel
theorem dX5_unheld_49 : decode cX5_unheld 49 = .ok (.getfield 34, 3) := by decide +kernel
theorem dX5_unheld_52 : decode cX5_unheld 52 = .ok (.aload_n 0, 1) := by decide +kernel
theorem dX5_unheld_53 : decode cX5_unheld 53 = .ok (.getfield 37, 3) := by decide +kernel
theorem dX5_unheld_56 : decode cX5_unheld 56 = .ok (.imul, 1) := by decide +kernel
theorem dX5_unheld_57 : decode cX5_unheld 57 = .ok (.bipush 120, 2) := by decide +kernel
theorem dX5_unheld_59 : decode cX5_unheld 59 = .ok (.idiv, 1) := by decide +kernel
theorem dX5_unheld_60 : decode cX5_unheld 60 = .ok (.ireturn, 1) := by decide +kernel
theorem dX5_unheld_61 : decode cX5_unheld 61 = .ok (.aload_n 0, 1) := by decide +kernel
theorem dX5_unheld_62 : decode cX5_unheld 62 = .ok (.getfield 34, 3) := by decide +kernel
theorem dX5_unheld_65 : decode cX5_unheld 65 = .ok (.iconst 5, 1) := by decide +kernel
theorem dX5_unheld_66 : decode cX5_unheld 66 = .ok (.aload_n 0, 1) := by decide +kernel
theorem dX5_unheld_67 : decode cX5_unheld 67 = .ok (.getfield 37, 3) := by decide +kernel
theorem dX5_unheld_70 : decode cX5_unheld 70 = .ok (.bipush 40, 2) := by decide +kernel
theorem dX5_unheld_72 : decode cX5_unheld 72 = .ok (.isub, 1) := by decide +kernel
theorem dX5_unheld_73 : decode cX5_unheld 73 = .ok (.imul, 1) := by decide +kernel
theorem dX5_unheld_74 : decode cX5_unheld 74 = .ok (.iadd, 1) := by decide +kernel
theorem dX5_unheld_75 : decode cX5_unheld 75 = .ok (.ireturn, 1) := by decide +kernel
theorem dX5_unheld_76 : decode cX5_unheld 76 = .ok (.aload_n 0, 1) := by decide +kernel
theorem dX5_unheld_77 : decode cX5_unheld 77 = .ok (.getfield 34, 3) := by decide +kernel
theorem dX5_unheld_80 : decode cX5_unheld 80 = .ok (.bipush 100, 2) := by decide +kernel
theorem dX5_unheld_82 : decode cX5_unheld 82 = .ok (.aload_n 0, 1) := by decide +kernel
theorem dX5_unheld_83 : decode cX5_unheld 83 = .ok (.getfield 37, 3) := by decide +kernel
theorem dX5_unheld_86 : decode cX5_unheld 86 = .ok (.iadd, 1) := by decide +kernel
theorem dX5_unheld_87 : decode cX5_unheld 87 = .ok (.imul, 1) := by decide +kernel
theorem dX5_unheld_88 : decode cX5_unheld 88 = .ok (.bipush 100, 2) := by decide +kernel
theorem dX5_unheld_90 : decode cX5_unheld 90 = .ok (.idiv, 1) := by decide +kernel
theorem dX5_unheld_91 : decode cX5_unheld 91 = .ok (.iload_n 2, 1) := by decide +kernel
theorem dX5_unheld_92 : decode cX5_unheld 92 = .ok (.isub, 1) := by decide +kernel
theorem dX5_unheld_93 : decode cX5_unheld 93 = .ok (.ireturn, 1) := by decide +kernel
theorem dX5_unheld_94 : decode cX5_unheld 94 = .ok (.aload_n 0, 1) := by decide +kernel
theorem dX5_unheld_95 : decode cX5_unheld 95 = .ok (.iload_n 1, 1) := by decide +kernel
theorem dX5_unheld_96 : decode cX5_unheld 96 = .ok (.invokevirtual 40, 3) := by decide +kernel
theorem dX5_unheld_99 : decode cX5_unheld 99 = .ok (.ireturn, 1) := by decide +kernel
theorem dX5_unheld_100 : decode cX5_unheld 100 = .ok (.aload_n 0, 1) := by decide +kernel
theorem dX5_unheld_101 : decode cX5_unheld 101 = .ok (.getfield 34, 3) := by decide +kernel
theorem dX5_unheld_104 : decode cX5_unheld 104 = .ok (.iload_n 2, 1) := by decide +kernel
theorem dX5_unheld_105 : decode cX5_unheld 105 = .ok (.isub, 1) := by decide +kernel
theorem dX5_unheld_106 : decode cX5_unheld 106 = .ok (.ireturn, 1) := by decide +kernel
theorem dX5_unheld_107 : decode cX5_unheld 107 = .ok (.aload_n 0, 1) := by decide +kernel
theorem dX5_unheld_108 : decode cX5_unheld 108 = .ok (.iload_n 1, 1) := by decide +kernel
theorem dX5_unheld_109 : decode cX5_unheld 109 = .ok (.invokevirtual 40, 3) := by decide +kernel
theorem dX5_unheld_112 : decode cX5_unheld 112 = .ok (.iload_n 1, 1) := by decide +kernel
theorem dX5_unheld_113 : decode cX5_unheld 113 = .ok (.bipush 20, 2) := by decide +kernel
theorem dX5_unheld_115 : decode cX5_unheld 115 = .ok (.idiv, 1) := by decide +kernel
theorem dX5_unheld_116 : decode cX5_unheld 116 = .ok (.isub, 1) := by decide +kernel
theorem dX5_unheld_117 : decode cX5_unheld 117 = .ok (.ireturn, 1) := by decide +kernel
theorem dX5_unheld_118 : decode cX5_unheld 118 = .ok (.aload_n 0, 1) := by decide +kernel
theorem dX5_unheld_119 : decode cX5_unheld 119 = .ok (.getfield 34, 3) := by decide +kernel
theorem dX5_unheld_122 : decode cX5_unheld 122 = .ok (.ireturn, 1) := by decide +kernel
theorem dX5_glow_0 : decode cX5_glow 0 = .ok (.aload_n 0, 1) := by decide +kernel
theorem dX5_glow_1 : decode cX5_glow 1 = .ok (.getfield 34, 3) := by decide +kernel
theorem dX5_glow_4 : decode cX5_glow 4 = .ok (.aload_n 0, 1) := by decide +kernel
theorem dX5_glow_5 : decode cX5_glow 5 = .ok (.getfield 37, 3) := by decide +kernel
theorem dX5_glow_8 : decode cX5_glow 8 = .ok (.imul, 1) := by decide +kernel
theorem dX5_glow_9 : decode cX5_glow 9 = .ok (.bipush 100, 2) := by decide +kernel
theorem dX5_glow_11 : decode cX5_glow 11 = .ok (.idiv, 1) := by decide +kernel
theorem dX5_glow_12 : decode cX5_glow 12 = .ok (.iload_n 1, 1) := by decide +kernel
theorem dX5_glow_13 : decode cX5_glow 13 = .ok (.bipush 10, 2) := by decide +kernel
theorem dX5_glow_15 : decode cX5_glow 15 = .ok (.idiv, 1) := by decide +kernel
theorem dX5_glow_16 : decode cX5_glow 16 = .ok (.isub, 1) := by decide +kernel
theorem dX5_glow_17 : decode cX5_glow 17 = .ok (.ireturn, 1) := by decide +kernel
theorem dX5_wanderIn_0 : decode cX5_wanderIn 0 = .ok (.aload_n 0, 1) := by decide +kernel
theorem dX5_wanderIn_1 : decode cX5_wanderIn 1 = .ok (.getfield 31, 3) := by decide +kernel
theorem dX5_wanderIn_4 : decode cX5_wanderIn 4 = .ok (.tableswitch 81 1 7 #[44, 48, 61, 64, 66, 69, 71], 44) := by decide +kernel
theorem dX5_wanderIn_48 : decode cX5_wanderIn 48 = .ok (.iconst 3, 1) := by decide +kernel
theorem dX5_wanderIn_49 : decode cX5_wanderIn 49 = .ok (.iload_n 1, 1) := by decide +kernel
theorem dX5_wanderIn_50 : decode cX5_wanderIn 50 = .ok (.iadd, 1) := by decide +kernel
theorem dX5_wanderIn_51 : decode cX5_wanderIn 51 = .ok (.ireturn, 1) := by decide +kernel
theorem dX5_wanderIn_52 : decode cX5_wanderIn 52 = .ok (.iconst 3, 1) := by decide +kernel
theorem dX5_wanderIn_53 : decode cX5_wanderIn 53 = .ok (.aload_n 0, 1) := by decide +kernel
theorem dX5_wanderIn_54 : decode cX5_wanderIn 54 = .ok (.getfield 37, 3) := by decide +kernel
theorem dX5_wanderIn_57 : decode cX5_wanderIn 57 = .ok (.bipush 40, 2) := by decide +kernel
theorem dX5_wanderIn_59 : decode cX5_wanderIn 59 = .ok (.isub, 1) := by decide +kernel
theorem dX5_wanderIn_60 : decode cX5_wanderIn 60 = .ok (.invokestatic 44, 3) := by decide +kernel
theorem dX5_wanderIn_63 : decode cX5_wanderIn 63 = .ok (.iadd, 1) := by decide +kernel
theorem dX5_wanderIn_64 : decode cX5_wanderIn 64 = .ok (.ireturn, 1) := by decide +kernel
theorem dX5_wanderIn_65 : decode cX5_wanderIn 65 = .ok (.bipush 6, 2) := by decide +kernel
theorem dX5_wanderIn_67 : decode cX5_wanderIn 67 = .ok (.ireturn, 1) := by decide +kernel
theorem dX5_wanderIn_68 : decode cX5_wanderIn 68 = .ok (.iconst 1, 1) := by decide +kernel
theorem dX5_wanderIn_69 : decode cX5_wanderIn 69 = .ok (.ireturn, 1) := by decide +kernel
theorem dX5_wanderIn_70 : decode cX5_wanderIn 70 = .ok (.bipush 7, 2) := by decide +kernel
theorem dX5_wanderIn_72 : decode cX5_wanderIn 72 = .ok (.ireturn, 1) := by decide +kernel
theorem dX5_wanderIn_73 : decode cX5_wanderIn 73 = .ok (.iconst 0, 1) := by decide +kernel
theorem dX5_wanderIn_74 : decode cX5_wanderIn 74 = .ok (.ireturn, 1) := by decide +kernel
theorem dX5_wanderIn_75 : decode cX5_wanderIn 75 = .ok (.iconst 1, 1) := by decide +kernel
theorem dX5_wanderIn_76 : decode cX5_wanderIn 76 = .ok (.aload_n 0, 1) := by decide +kernel
theorem dX5_wanderIn_77 : decode cX5_wanderIn 77 = .ok (.getfield 9, 3) := by decide +kernel
theorem dX5_wanderIn_80 : decode cX5_wanderIn 80 = .ok (.bipush 100, 2) := by decide +kernel
theorem dX5_wanderIn_82 : decode cX5_wanderIn 82 = .ok (.idiv, 1) := by decide +kernel
theorem dX5_wanderIn_83 : decode cX5_wanderIn 83 = .ok (.iadd, 1) := by decide +kernel
theorem dX5_wanderIn_84 : decode cX5_wanderIn 84 = .ok (.ireturn, 1) := by decide +kernel
theorem dX5_wanderIn_85 : decode cX5_wanderIn 85 = .ok (.iconst 3, 1) := by decide +kernel
theorem dX5_wanderIn_86 : decode cX5_wanderIn 86 = .ok (.ireturn, 1) := by decide +kernel
theorem dX5_isAgedBy_0 : decode cX5_isAgedBy 0 = .ok (.aload_n 0, 1) := by decide +kernel
theorem dX5_isAgedBy_1 : decode cX5_isAgedBy 1 = .ok (.getfield 31, 3) := by decide +kernel
theorem dX5_isAgedBy_4 : decode cX5_isAgedBy 4 = .ok (.iconst 4, 1) := by decide +kernel
theorem dX5_isAgedBy_5 : decode cX5_isAgedBy 5 = .ok (.if_icmp .eq 14, 3) := by decide +kernel
theorem dX5_isAgedBy_8 : decode cX5_isAgedBy 8 = .ok (.aload_n 0, 1) := by decide +kernel
theorem dX5_isAgedBy_9 : decode cX5_isAgedBy 9 = .ok (.getfield 31, 3) := by decide +kernel
theorem dX5_isAgedBy_12 : decode cX5_isAgedBy 12 = .ok (.bipush 7, 2) := by decide +kernel
theorem dX5_isAgedBy_14 : decode cX5_isAgedBy 14 = .ok (.if_icmp .eq 5, 3) := by decide +kernel
theorem dX5_isAgedBy_17 : decode cX5_isAgedBy 17 = .ok (.iconst 0, 1) := by decide +kernel
theorem dX5_isAgedBy_18 : decode cX5_isAgedBy 18 = .ok (.ireturn, 1) := by decide +kernel
theorem dX5_isAgedBy_19 : decode cX5_isAgedBy 19 = .ok (.aload_n 0, 1) := by decide +kernel
theorem dX5_isAgedBy_20 : decode cX5_isAgedBy 20 = .ok (.iconst 0, 1) := by decide +kernel
theorem dX5_isAgedBy_21 : decode cX5_isAgedBy 21 = .ok (.iload_n 2, 1) := by decide +kernel
theorem dX5_isAgedBy_22 : decode cX5_isAgedBy 22 = .ok (.invokevirtual 15, 3) := by decide +kernel
theorem dX5_isAgedBy_25 : decode cX5_isAgedBy 25 = .ok (.istore_n 3, 1) := by decide +kernel
theorem dX5_isAgedBy_26 : decode cX5_isAgedBy 26 = .ok (.iload_n 3, 1) := by decide +kernel
theorem dX5_isAgedBy_27 : decode cX5_isAgedBy 27 = .ok (.aload_n 0, 1) := by decide +kernel
theorem dX5_isAgedBy_28 : decode cX5_isAgedBy 28 = .ok (.iload_n 2, 1) := by decide +kernel
theorem dX5_isAgedBy_29 : decode cX5_isAgedBy 29 = .ok (.invokevirtual 47, 3) := by decide +kernel
theorem dX5_isAgedBy_32 : decode cX5_isAgedBy 32 = .ok (.isub, 1) := by decide +kernel
theorem dX5_isAgedBy_33 : decode cX5_isAgedBy 33 = .ok (.bipush 100, 2) := by decide +kernel
theorem dX5_isAgedBy_35 : decode cX5_isAgedBy 35 = .ok (.imul, 1) := by decide +kernel
theorem dX5_isAgedBy_36 : decode cX5_isAgedBy 36 = .ok (.iload_n 1, 1) := by decide +kernel
theorem dX5_isAgedBy_37 : decode cX5_isAgedBy 37 = .ok (.iload_n 3, 1) := by decide +kernel
theorem dX5_isAgedBy_38 : decode cX5_isAgedBy 38 = .ok (.imul, 1) := by decide +kernel
theorem dX5_isAgedBy_39 : decode cX5_isAgedBy 39 = .ok (.if_icmp .lt 7, 3) := by decide +kernel
theorem dX5_isAgedBy_42 : decode cX5_isAgedBy 42 = .ok (.iconst 1, 1) := by decide +kernel
theorem dX5_isAgedBy_43 : decode cX5_isAgedBy 43 = .ok (.goto 4, 3) := by decide +kernel
theorem dX5_isAgedBy_46 : decode cX5_isAgedBy 46 = .ok (.iconst 0, 1) := by decide +kernel
theorem dX5_isAgedBy_47 : decode cX5_isAgedBy 47 = .ok (.ireturn, 1) := by decide +kernel
theorem dX5_fail_0 : decode cX5_fail 0 = .ok (.aload_n 0, 1) := by decide +kernel
theorem dX5_fail_1 : decode cX5_fail 1 = .ok (.getfield 31, 3) := by decide +kernel
theorem dX5_fail_4 : decode cX5_fail 4 = .ok (.bipush 6, 2) := by decide +kernel
theorem dX5_fail_6 : decode cX5_fail 6 = .ok (.if_icmp .eq 10, 3) := by decide +kernel
theorem dX5_fail_9 : decode cX5_fail 9 = .ok (.aload_n 0, 1) := by decide +kernel
theorem dX5_fail_10 : decode cX5_fail 10 = .ok (.getfield 37, 3) := by decide +kernel
theorem dX5_fail_13 : decode cX5_fail 13 = .ok (.ifCond .ne 4, 3) := by decide +kernel
theorem dX5_fail_16 : decode cX5_fail 16 = .ok (.return_, 1) := by decide +kernel
theorem dX5_fail_17 : decode cX5_fail 17 = .ok (.aload_n 0, 1) := by decide +kernel
theorem dX5_fail_18 : decode cX5_fail 18 = .ok (.getfield 31, 3) := by decide +kernel
theorem dX5_fail_21 : decode cX5_fail 21 = .ok (.iconst 3, 1) := by decide +kernel
theorem dX5_fail_22 : decode cX5_fail 22 = .ok (.if_icmp .ne 13, 3) := by decide +kernel
theorem dX5_fail_25 : decode cX5_fail 25 = .ok (.new 50, 3) := by decide +kernel
theorem dX5_fail_28 : decode cX5_fail 28 = .ok (.dup, 1) := by decide +kernel
theorem dX5_fail_29 : decode cX5_fail 29 = .ok (.ldc 52, 2) := by decide +kernel
theorem dX5_fail_31 : decode cX5_fail 31 = .ok (.invokespecial 54, 3) := by decide +kernel
theorem dX5_fail_34 : decode cX5_fail 34 = .ok (.athrow, 1) := by decide +kernel
theorem dX5_fail_35 : decode cX5_fail 35 = .ok (.aload_n 0, 1) := by decide +kernel
theorem dX5_fail_36 : decode cX5_fail 36 = .ok (.getfield 31, 3) := by decide +kernel
theorem dX5_fail_39 : decode cX5_fail 39 = .ok (.bipush 7, 2) := by decide +kernel
theorem dX5_fail_41 : decode cX5_fail 41 = .ok (.if_icmp .ne 13, 3) := by decide +kernel
theorem dX5_fail_44 : decode cX5_fail 44 = .ok (.new 57, 3) := by decide +kernel
theorem dX5_fail_47 : decode cX5_fail 47 = .ok (.dup, 1) := by decide +kernel
theorem dX5_fail_48 : decode cX5_fail 48 = .ok (.ldc 59, 2) := by decide +kernel
theorem dX5_fail_50 : decode cX5_fail 50 = .ok (.invokespecial 61, 3) := by decide +kernel
theorem dX5_fail_53 : decode cX5_fail 53 = .ok (.athrow, 1) := by decide +kernel
theorem dX5_fail_54 : decode cX5_fail 54 = .ok (.new 62, 3) := by decide +kernel
theorem dX5_fail_57 : decode cX5_fail 57 = .ok (.dup, 1) := by decide +kernel
theorem dX5_fail_58 : decode cX5_fail 58 = .ok (.ldc 64, 2) := by decide +kernel
theorem dX5_fail_60 : decode cX5_fail 60 = .ok (.invokespecial 66, 3) := by decide +kernel
theorem dX5_fail_63 : decode cX5_fail 63 = .ok (.athrow, 1) := by decide +kernel
theorem dX5_takeFrom_0 : decode cX5_takeFrom 0 = .ok (.aload_n 0, 1) := by decide +kernel
theorem dX5_takeFrom_1 : decode cX5_takeFrom 1 = .ok (.aload_n 1, 1) := by decide +kernel
theorem dX5_takeFrom_2 : decode cX5_takeFrom 2 = .ok (.getfield 67, 3) := by decide +kernel
theorem dX5_takeFrom_5 : decode cX5_takeFrom 5 = .ok (.putfield 67, 3) := by decide +kernel
theorem dX5_takeFrom_8 : decode cX5_takeFrom 8 = .ok (.aload_n 0, 1) := by decide +kernel
theorem dX5_takeFrom_9 : decode cX5_takeFrom 9 = .ok (.aload_n 1, 1) := by decide +kernel
theorem dX5_takeFrom_10 : decode cX5_takeFrom 10 = .ok (.getfield 31, 3) := by decide +kernel
theorem dX5_takeFrom_13 : decode cX5_takeFrom 13 = .ok (.putfield 31, 3) := by decide +kernel
theorem dX5_takeFrom_16 : decode cX5_takeFrom 16 = .ok (.aload_n 0, 1) := by decide +kernel
theorem dX5_takeFrom_17 : decode cX5_takeFrom 17 = .ok (.aload_n 1, 1) := by decide +kernel
theorem dX5_takeFrom_18 : decode cX5_takeFrom 18 = .ok (.getfield 34, 3) := by decide +kernel
theorem dX5_takeFrom_21 : decode cX5_takeFrom 21 = .ok (.putfield 34, 3) := by decide +kernel
theorem dX5_takeFrom_24 : decode cX5_takeFrom 24 = .ok (.aload_n 0, 1) := by decide +kernel
theorem dX5_takeFrom_25 : decode cX5_takeFrom 25 = .ok (.aload_n 1, 1) := by decide +kernel
theorem dX5_takeFrom_26 : decode cX5_takeFrom 26 = .ok (.getfield 70, 3) := by decide +kernel
theorem dX5_takeFrom_29 : decode cX5_takeFrom 29 = .ok (.putfield 70, 3) := by decide +kernel
theorem dX5_takeFrom_32 : decode cX5_takeFrom 32 = .ok (.aload_n 0, 1) := by decide +kernel
theorem dX5_takeFrom_33 : decode cX5_takeFrom 33 = .ok (.aload_n 1, 1) := by decide +kernel
theorem dX5_takeFrom_34 : decode cX5_takeFrom 34 = .ok (.getfield 37, 3) := by decide +kernel
theorem dX5_takeFrom_37 : decode cX5_takeFrom 37 = .ok (.putfield 37, 3) := by decide +kernel
theorem dX5_takeFrom_40 : decode cX5_takeFrom 40 = .ok (.aload_n 0, 1) := by decide +kernel
theorem dX5_takeFrom_41 : decode cX5_takeFrom 41 = .ok (.aload_n 1, 1) := by decide +kernel
theorem dX5_takeFrom_42 : decode cX5_takeFrom 42 = .ok (.getfield 9, 3) := by decide +kernel
theorem dX5_takeFrom_45 : decode cX5_takeFrom 45 = .ok (.putfield 9, 3) := by decide +kernel
theorem dX5_takeFrom_48 : decode cX5_takeFrom 48 = .ok (.return_, 1) := by decide +kernel
theorem dX6_init_0 : decode cX6_init 0 = .ok (.aload_n 0, 1) := by decide +kernel
theorem dX6_init_1 : decode cX6_init 1 = .ok (.invokespecial 1, 3) := by decide +kernel
theorem dX6_init_4 : decode cX6_init 4 = .ok (.return_, 1) := by decide +kernel
theorem dX6_joins_0 : decode cX6_joins 0 = .ok (.aload_n 0, 1) := by decide +kernel
theorem dX6_joins_1 : decode cX6_joins 1 = .ok (.getfield 7, 3) := by decide +kernel
theorem dX6_joins_4 : decode cX6_joins 4 = .ok (.ifCond .ne 23, 3) := by decide +kernel
theorem dX6_joins_7 : decode cX6_joins 7 = .ok (.aload_n 0, 1) := by decide +kernel
theorem dX6_joins_8 : decode cX6_joins 8 = .ok (.getfield 13, 3) := by decide +kernel
theorem dX6_joins_11 : decode cX6_joins 11 = .ok (.iload_n 1, 1) := by decide +kernel
theorem dX6_joins_12 : decode cX6_joins 12 = .ok (.if_icmp .eq 11, 3) := by decide +kernel
theorem dX6_joins_15 : decode cX6_joins 15 = .ok (.aload_n 0, 1) := by decide +kernel
theorem dX6_joins_16 : decode cX6_joins 16 = .ok (.getfield 17, 3) := by decide +kernel
theorem dX6_joins_19 : decode cX6_joins 19 = .ok (.iload_n 1, 1) := by decide +kernel
theorem dX6_joins_20 : decode cX6_joins 20 = .ok (.if_icmp .ne 7, 3) := by decide +kernel
theorem dX6_joins_23 : decode cX6_joins 23 = .ok (.iconst 1, 1) := by decide +kernel
theorem dX6_joins_24 : decode cX6_joins 24 = .ok (.goto 4, 3) := by decide +kernel
theorem dX6_joins_27 : decode cX6_joins 27 = .ok (.iconst 0, 1) := by decide +kernel
theorem dX6_joins_28 : decode cX6_joins 28 = .ok (.ireturn, 1) := by decide +kernel
theorem dX6_otherThan_0 : decode cX6_otherThan 0 = .ok (.aload_n 0, 1) := by decide +kernel
theorem dX6_otherThan_1 : decode cX6_otherThan 1 = .ok (.getfield 13, 3) := by decide +kernel
theorem dX6_otherThan_4 : decode cX6_otherThan 4 = .ok (.iload_n 1, 1) := by decide +kernel
theorem dX6_otherThan_5 : decode cX6_otherThan 5 = .ok (.if_icmp .ne 10, 3) := by decide +kernel
theorem dX6_otherThan_8 : decode cX6_otherThan 8 = .ok (.aload_n 0, 1) := by decide +kernel
theorem dX6_otherThan_9 : decode cX6_otherThan 9 = .ok (.getfield 17, 3) := by decide +kernel
theorem dX6_otherThan_12 : decode cX6_otherThan 12 = .ok (.goto 7, 3) := by decide +kernel
theorem dX6_otherThan_15 : decode cX6_otherThan 15 = .ok (.aload_n 0, 1) := by decide +kernel
theorem dX6_otherThan_16 : decode cX6_otherThan 16 = .ok (.getfield 13, 3) := by decide +kernel
theorem dX6_otherThan_19 : decode cX6_otherThan 19 = .ok (.ireturn, 1) := by decide +kernel
theorem dX6_takeFrom_0 : decode cX6_takeFrom 0 = .ok (.aload_n 0, 1) := by decide +kernel
theorem dX6_takeFrom_1 : decode cX6_takeFrom 1 = .ok (.aload_n 1, 1) := by decide +kernel
theorem dX6_takeFrom_2 : decode cX6_takeFrom 2 = .ok (.getfield 13, 3) := by decide +kernel
theorem dX6_takeFrom_5 : decode cX6_takeFrom 5 = .ok (.putfield 13, 3) := by decide +kernel
theorem dX6_takeFrom_8 : decode cX6_takeFrom 8 = .ok (.aload_n 0, 1) := by decide +kernel
theorem dX6_takeFrom_9 : decode cX6_takeFrom 9 = .ok (.aload_n 1, 1) := by decide +kernel
theorem dX6_takeFrom_10 : decode cX6_takeFrom 10 = .ok (.getfield 17, 3) := by decide +kernel
theorem dX6_takeFrom_13 : decode cX6_takeFrom 13 = .ok (.putfield 17, 3) := by decide +kernel
theorem dX6_takeFrom_16 : decode cX6_takeFrom 16 = .ok (.aload_n 0, 1) := by decide +kernel
theorem dX6_takeFrom_17 : decode cX6_takeFrom 17 = .ok (.aload_n 1, 1) := by decide +kernel
theorem dX6_takeFrom_18 : decode cX6_takeFrom 18 = .ok (.getfield 20, 3) := by decide +kernel
theorem dX6_takeFrom_21 : decode cX6_takeFrom 21 = .ok (.putfield 20, 3) := by decide +kernel
theorem dX6_takeFrom_24 : decode cX6_takeFrom 24 = .ok (.aload_n 0, 1) := by decide +kernel
theorem dX6_takeFrom_25 : decode cX6_takeFrom 25 = .ok (.aload_n 1, 1) := by decide +kernel
theorem dX6_takeFrom_26 : decode cX6_takeFrom 26 = .ok (.getfield 23, 3) := by decide +kernel
theorem dX6_takeFrom_29 : decode cX6_takeFrom 29 = .ok (.putfield 23, 3) := by decide +kernel
theorem dX6_takeFrom_32 : decode cX6_takeFrom 32 = .ok (.aload_n 0, 1) := by decide +kernel
theorem dX6_takeFrom_33 : decode cX6_takeFrom 33 = .ok (.aload_n 1, 1) := by decide +kernel
theorem dX6_takeFrom_34 : decode cX6_takeFrom 34 = .ok (.getfield 26, 3) := by decide +kernel
theorem dX6_takeFrom_37 : decode cX6_takeFrom 37 = .ok (.putfield 26, 3) := by decide +kernel
theorem dX6_takeFrom_40 : decode cX6_takeFrom 40 = .ok (.aload_n 0, 1) := by decide +kernel
theorem dX6_takeFrom_41 : decode cX6_takeFrom 41 = .ok (.aload_n 1, 1) := by decide +kernel
theorem dX6_takeFrom_42 : decode cX6_takeFrom 42 = .ok (.getfield 7, 3) := by decide +kernel
theorem dX6_takeFrom_45 : decode cX6_takeFrom 45 = .ok (.putfield 7, 3) := by decide +kernel
theorem dX6_takeFrom_48 : decode cX6_takeFrom 48 = .ok (.return_, 1) := by decide +kernel
theorem dX7_init_0 : decode cX7_init 0 = .ok (.aload_n 0, 1) := by decide +kernel
theorem dX7_init_1 : decode cX7_init 1 = .ok (.invokespecial 3, 3) := by decide +kernel
theorem dX7_init_4 : decode cX7_init 4 = .ok (.aload_n 0, 1) := by decide +kernel
theorem dX7_init_5 : decode cX7_init 5 = .ok (.bipush 100, 2) := by decide +kernel
theorem dX7_init_7 : decode cX7_init 7 = .ok (.newarray .int, 2) := by decide +kernel
theorem dX7_init_9 : decode cX7_init 9 = .ok (.putfield 9, 3) := by decide +kernel
theorem dX7_init_12 : decode cX7_init 12 = .ok (.return_, 1) := by decide +kernel
theorem dX7_begin_0 : decode cX7_begin 0 = .ok (.aload_n 0, 1) := by decide +kernel
theorem dX7_begin_1 : decode cX7_begin 1 = .ok (.iload_n 1, 1) := by decide +kernel
theorem dX7_begin_2 : decode cX7_begin 2 = .ok (.putfield 15, 3) := by decide +kernel
theorem dX7_begin_5 : decode cX7_begin 5 = .ok (.aload_n 0, 1) := by decide +kernel
theorem dX7_begin_6 : decode cX7_begin 6 = .ok (.iload_n 2, 1) := by decide +kernel
theorem dX7_begin_7 : decode cX7_begin 7 = .ok (.putfield 19, 3) := by decide +kernel
theorem dX7_begin_10 : decode cX7_begin 10 = .ok (.iconst 0, 1) := by decide +kernel
theorem dX7_begin_11 : decode cX7_begin 11 = .ok (.istore_n 3, 1) := by decide +kernel
theorem dX7_begin_12 : decode cX7_begin 12 = .ok (.iload_n 3, 1) := by decide +kernel
theorem dX7_begin_13 : decode cX7_begin 13 = .ok (.bipush 100, 2) := by decide +kernel
theorem dX7_begin_15 : decode cX7_begin 15 = .ok (.if_icmp .ge 16, 3) := by decide +kernel
theorem dX7_begin_18 : decode cX7_begin 18 = .ok (.aload_n 0, 1) := by decide +kernel
theorem dX7_begin_19 : decode cX7_begin 19 = .ok (.getfield 9, 3) := by decide +kernel
theorem dX7_begin_22 : decode cX7_begin 22 = .ok (.iload_n 3, 1) := by decide +kernel
theorem dX7_begin_23 : decode cX7_begin 23 = .ok (.iconst 0, 1) := by decide +kernel
theorem dX7_begin_24 : decode cX7_begin 24 = .ok (.iastore, 1) := by decide +kernel
theorem dX7_begin_25 : decode cX7_begin 25 = .ok (.iinc 3 1, 3) := by decide +kernel
theorem dX7_begin_28 : decode cX7_begin 28 = .ok (.goto (-16), 3) := by decide +kernel
theorem dX7_begin_31 : decode cX7_begin 31 = .ok (.return_, 1) := by decide +kernel
theorem dX7_lowestBits_0 : decode cX7_lowestBits 0 = .ok (.aload_n 0, 1) := by decide +kernel
theorem dX7_lowestBits_1 : decode cX7_lowestBits 1 = .ok (.getfield 15, 3) := by decide +kernel
theorem dX7_lowestBits_4 : decode cX7_lowestBits 4 = .ok (.ifCond .ne 8, 3) := by decide +kernel
theorem dX7_lowestBits_7 : decode cX7_lowestBits 7 = .ok (.iload_n 1, 1) := by decide +kernel
theorem dX7_lowestBits_8 : decode cX7_lowestBits 8 = .ok (.i2b, 1) := by decide +kernel
theorem dX7_lowestBits_9 : decode cX7_lowestBits 9 = .ok (.goto 17, 3) := by decide +kernel
theorem dX7_lowestBits_12 : decode cX7_lowestBits 12 = .ok (.aload_n 0, 1) := by decide +kernel
theorem dX7_lowestBits_13 : decode cX7_lowestBits 13 = .ok (.getfield 15, 3) := by decide +kernel
theorem dX7_lowestBits_16 : decode cX7_lowestBits 16 = .ok (.iconst 1, 1) := by decide +kernel
theorem dX7_lowestBits_17 : decode cX7_lowestBits 17 = .ok (.if_icmp .ne 8, 3) := by decide +kernel
theorem dX7_lowestBits_20 : decode cX7_lowestBits 20 = .ok (.iload_n 1, 1) := by decide +kernel
theorem dX7_lowestBits_21 : decode cX7_lowestBits 21 = .ok (.i2s, 1) := by decide +kernel
theorem dX7_lowestBits_22 : decode cX7_lowestBits 22 = .ok (.goto 4, 3) := by decide +kernel
theorem dX7_lowestBits_25 : decode cX7_lowestBits 25 = .ok (.iload_n 1, 1) := by decide +kernel
theorem dX7_lowestBits_26 : decode cX7_lowestBits 26 = .ok (.ireturn, 1) := by decide +kernel
theorem dX7_leastNumber_0 : decode cX7_leastNumber 0 = .ok (.aload_n 0, 1) := by decide +kernel
theorem dX7_leastNumber_1 : decode cX7_leastNumber 1 = .ok (.getfield 15, 3) := by decide +kernel
theorem dX7_leastNumber_4 : decode cX7_leastNumber 4 = .ok (.ifCond .ne 8, 3) := by decide +kernel
theorem dX7_leastNumber_7 : decode cX7_leastNumber 7 = .ok (.bipush (-128), 2) := by decide +kernel
theorem dX7_leastNumber_9 : decode cX7_leastNumber 9 = .ok (.goto 19, 3) := by decide +kernel
theorem dX7_leastNumber_12 : decode cX7_leastNumber 12 = .ok (.aload_n 0, 1) := by decide +kernel
theorem dX7_leastNumber_13 : decode cX7_leastNumber 13 = .ok (.getfield 15, 3) := by decide +kernel
theorem dX7_leastNumber_16 : decode cX7_leastNumber 16 = .ok (.iconst 1, 1) := by decide +kernel
theorem dX7_leastNumber_17 : decode cX7_leastNumber 17 = .ok (.if_icmp .ne 9, 3) := by decide +kernel
theorem dX7_leastNumber_20 : decode cX7_leastNumber 20 = .ok (.sipush (-32768), 3) := by decide +kernel
theorem dX7_leastNumber_23 : decode cX7_leastNumber 23 = .ok (.goto 5, 3) := by decide +kernel
theorem dX7_leastNumber_26 : decode cX7_leastNumber 26 = .ok (.ldc 24, 2) := by decide +kernel
theorem dX7_leastNumber_28 : decode cX7_leastNumber 28 = .ok (.ireturn, 1) := by decide +kernel
theorem dX7_isTiredAt_0 : decode cX7_isTiredAt 0 = .ok (.aload_n 0, 1) := by decide +kernel
theorem dX7_isTiredAt_1 : decode cX7_isTiredAt 1 = .ok (.invokevirtual 25, 3) := by decide +kernel
theorem dX7_isTiredAt_4 : decode cX7_isTiredAt 4 = .ok (.istore_n 2, 1) := by decide +kernel
theorem dX7_isTiredAt_5 : decode cX7_isTiredAt 5 = .ok (.iload_n 1, 1) := by decide +kernel
theorem dX7_isTiredAt_6 : decode cX7_isTiredAt 6 = .ok (.istore_n 3, 1) := by decide +kernel
theorem dX7_isTiredAt_7 : decode cX7_isTiredAt 7 = .ok (.iload_n 3, 1) := by decide +kernel
theorem dX7_isTiredAt_8 : decode cX7_isTiredAt 8 = .ok (.iload_n 1, 1) := by decide +kernel
theorem dX7_isTiredAt_9 : decode cX7_isTiredAt 9 = .ok (.iconst 5, 1) := by decide +kernel
theorem dX7_isTiredAt_10 : decode cX7_isTiredAt 10 = .ok (.iadd, 1) := by decide +kernel
theorem dX7_isTiredAt_11 : decode cX7_isTiredAt 11 = .ok (.if_icmp .ge 29, 3) := by decide +kernel
theorem dX7_isTiredAt_14 : decode cX7_isTiredAt 14 = .ok (.iload_n 3, 1) := by decide +kernel
theorem dX7_isTiredAt_15 : decode cX7_isTiredAt 15 = .ok (.aload_n 0, 1) := by decide +kernel
theorem dX7_isTiredAt_16 : decode cX7_isTiredAt 16 = .ok (.getfield 19, 3) := by decide +kernel
theorem dX7_isTiredAt_19 : decode cX7_isTiredAt 19 = .ok (.if_icmp .ge 21, 3) := by decide +kernel
theorem dX7_isTiredAt_22 : decode cX7_isTiredAt 22 = .ok (.aload_n 0, 1) := by decide +kernel
theorem dX7_isTiredAt_23 : decode cX7_isTiredAt 23 = .ok (.getfield 9, 3) := by decide +kernel
theorem dX7_isTiredAt_26 : decode cX7_isTiredAt 26 = .ok (.iload_n 3, 1) := by decide +kernel
theorem dX7_isTiredAt_27 : decode cX7_isTiredAt 27 = .ok (.iaload, 1) := by decide +kernel
theorem dX7_isTiredAt_28 : decode cX7_isTiredAt 28 = .ok (.iload_n 2, 1) := by decide +kernel
theorem dX7_isTiredAt_29 : decode cX7_isTiredAt 29 = .ok (.if_icmp .ne 5, 3) := by decide +kernel
theorem dX7_isTiredAt_32 : decode cX7_isTiredAt 32 = .ok (.iconst 1, 1) := by decide +kernel
theorem dX7_isTiredAt_33 : decode cX7_isTiredAt 33 = .ok (.ireturn, 1) := by decide +kernel
theorem dX7_isTiredAt_34 : decode cX7_isTiredAt 34 = .ok (.iinc 3 1, 3) := by decide +kernel
theorem dX7_isTiredAt_37 : decode cX7_isTiredAt 37 = .ok (.goto (-30), 3) := by decide +kernel
theorem dX7_isTiredAt_40 : decode cX7_isTiredAt 40 = .ok (.iconst 0, 1) := by decide +kernel
theorem dX7_isTiredAt_41 : decode cX7_isTiredAt 41 = .ok (.ireturn, 1) := by decide +kernel
theorem dX8_init_0 : decode cX8_init 0 = .ok (.aload_n 0, 1) := by decide +kernel
theorem dX8_init_1 : decode cX8_init 1 = .ok (.invokespecial 3, 3) := by decide +kernel
theorem dX8_init_4 : decode cX8_init 4 = .ok (.aload_n 0, 1) := by decide +kernel
theorem dX8_init_5 : decode cX8_init 5 = .ok (.bipush 7, 2) := by decide +kernel
theorem dX8_init_7 : decode cX8_init 7 = .ok (.newarray .int, 2) := by decide +kernel
theorem dX8_init_9 : decode cX8_init 9 = .ok (.putfield 9, 3) := by decide +kernel
theorem dX8_init_12 : decode cX8_init 12 = .ok (.aload_n 0, 1) := by decide +kernel
theorem dX8_init_13 : decode cX8_init 13 = .ok (.iconst 0, 1) := by decide +kernel
theorem dX8_init_14 : decode cX8_init 14 = .ok (.newarray .int, 2) := by decide +kernel
theorem dX8_init_16 : decode cX8_init 16 = .ok (.putfield 15, 3) := by decide +kernel
theorem dX8_init_19 : decode cX8_init 19 = .ok (.return_, 1) := by decide +kernel
theorem dX8_findFault_0 : decode cX8_findFault 0 = .ok (.aload_n 0, 1) := by decide +kernel
theorem dX8_findFault_1 : decode cX8_findFault 1 = .ok (.aload_n 1, 1) := by decide +kernel
theorem dX8_findFault_2 : decode cX8_findFault 2 = .ok (.iload_n 2, 1) := by decide +kernel
theorem dX8_findFault_3 : decode cX8_findFault 3 = .ok (.invokevirtual 18, 3) := by decide +kernel
theorem dX8_findFault_6 : decode cX8_findFault 6 = .ok (.aload_n 0, 1) := by decide +kernel
theorem dX8_findFault_7 : decode cX8_findFault 7 = .ok (.iconst 0, 1) := by decide +kernel
theorem dX8_findFault_8 : decode cX8_findFault 8 = .ok (.invokevirtual 22, 3) := by decide +kernel
theorem dX8_findFault_11 : decode cX8_findFault 11 = .ok (.pop, 1) := by decide +kernel
theorem dX8_findFault_12 : decode cX8_findFault 12 = .ok (.aload_n 0, 1) := by decide +kernel
theorem dX8_findFault_13 : decode cX8_findFault 13 = .ok (.getfield 26, 3) := by decide +kernel
theorem dX8_findFault_16 : decode cX8_findFault 16 = .ok (.ifCond .ne 13, 3) := by decide +kernel
theorem dX8_findFault_19 : decode cX8_findFault 19 = .ok (.aload_n 0, 1) := by decide +kernel
theorem dX8_findFault_20 : decode cX8_findFault 20 = .ok (.getfield 30, 3) := by decide +kernel
theorem dX8_findFault_23 : decode cX8_findFault 23 = .ok (.sipush 256, 3) := by decide +kernel
theorem dX8_findFault_26 : decode cX8_findFault 26 = .ok (.if_icmp .eq 10, 3) := by decide +kernel
theorem dX8_findFault_29 : decode cX8_findFault 29 = .ok (.aload_n 0, 1) := by decide +kernel
theorem dX8_findFault_30 : decode cX8_findFault 30 = .ok (.getfield 34, 3) := by decide +kernel
theorem dX8_findFault_33 : decode cX8_findFault 33 = .ok (.goto 5, 3) := by decide +kernel
theorem dX8_findFault_36 : decode cX8_findFault 36 = .ok (.bipush (-4), 2) := by decide +kernel
theorem dX8_findFault_38 : decode cX8_findFault 38 = .ok (.ireturn, 1) := by decide +kernel
theorem dX8_workOut_0 : decode cX8_workOut 0 = .ok (.aload_n 0, 1) := by decide +kernel
theorem dX8_workOut_1 : decode cX8_workOut 1 = .ok (.getfield 9, 3) := by decide +kernel
theorem dX8_workOut_4 : decode cX8_workOut 4 = .ok (.iconst 0, 1) := by decide +kernel
theorem dX8_workOut_5 : decode cX8_workOut 5 = .ok (.aload_n 2, 1) := by decide +kernel
theorem dX8_workOut_6 : decode cX8_workOut 6 = .ok (.aload_n 1, 1) := by decide +kernel
theorem dX8_workOut_7 : decode cX8_workOut 7 = .ok (.getfield 37, 3) := by decide +kernel
theorem dX8_workOut_10 : decode cX8_workOut 10 = .ok (.invokevirtual 42, 3) := by decide +kernel
theorem dX8_workOut_13 : decode cX8_workOut 13 = .ok (.iastore, 1) := by decide +kernel
theorem dX8_workOut_14 : decode cX8_workOut 14 = .ok (.aload_n 0, 1) := by decide +kernel
theorem dX8_workOut_15 : decode cX8_workOut 15 = .ok (.getfield 9, 3) := by decide +kernel
theorem dX8_workOut_18 : decode cX8_workOut 18 = .ok (.iconst 1, 1) := by decide +kernel
theorem dX8_workOut_19 : decode cX8_workOut 19 = .ok (.aload_n 2, 1) := by decide +kernel
theorem dX8_workOut_20 : decode cX8_workOut 20 = .ok (.getfield 47, 3) := by decide +kernel
theorem dX8_workOut_23 : decode cX8_workOut 23 = .ok (.iastore, 1) := by decide +kernel
theorem dX8_workOut_24 : decode cX8_workOut 24 = .ok (.aload_n 0, 1) := by decide +kernel
theorem dX8_workOut_25 : decode cX8_workOut 25 = .ok (.getfield 9, 3) := by decide +kernel
theorem dX8_workOut_28 : decode cX8_workOut 28 = .ok (.iconst 2, 1) := by decide +kernel
theorem dX8_workOut_29 : decode cX8_workOut 29 = .ok (.aload_n 2, 1) := by decide +kernel
theorem dX8_workOut_30 : decode cX8_workOut 30 = .ok (.getfield 50, 3) := by decide +kernel
theorem dX8_workOut_33 : decode cX8_workOut 33 = .ok (.iastore, 1) := by decide +kernel
theorem dX8_workOut_34 : decode cX8_workOut 34 = .ok (.aload_n 0, 1) := by decide +kernel
theorem dX8_workOut_35 : decode cX8_workOut 35 = .ok (.getfield 9, 3) := by decide +kernel
theorem dX8_workOut_38 : decode cX8_workOut 38 = .ok (.iconst 3, 1) := by decide +kernel
theorem dX8_workOut_39 : decode cX8_workOut 39 = .ok (.aload_n 2, 1) := by decide +kernel
theorem dX8_workOut_40 : decode cX8_workOut 40 = .ok (.getfield 53, 3) := by decide +kernel
theorem dX8_workOut_43 : decode cX8_workOut 43 = .ok (.iastore, 1) := by decide +kernel
theorem dX8_workOut_44 : decode cX8_workOut 44 = .ok (.aload_n 0, 1) := by decide +kernel
theorem dX8_workOut_45 : decode cX8_workOut 45 = .ok (.getfield 9, 3) := by decide +kernel
theorem dX8_workOut_48 : decode cX8_workOut 48 = .ok (.iconst 4, 1) := by decide +kernel
theorem dX8_workOut_49 : decode cX8_workOut 49 = .ok (.aload_n 2, 1) := by decide +kernel
theorem dX8_workOut_50 : decode cX8_workOut 50 = .ok (.aload_n 1, 1) := by decide +kernel
theorem dX8_workOut_51 : decode cX8_workOut 51 = .ok (.getfield 37, 3) := by decide +kernel
theorem dX8_workOut_54 : decode cX8_workOut 54 = .ok (.invokevirtual 56, 3) := by decide +kernel
theorem dX8_workOut_57 : decode cX8_workOut 57 = .ok (.iastore, 1) := by decide +kernel
theorem dX8_workOut_58 : decode cX8_workOut 58 = .ok (.aload_n 0, 1) := by decide +kernel
theorem dX8_workOut_59 : decode cX8_workOut 59 = .ok (.getfield 9, 3) := by decide +kernel
theorem dX8_workOut_62 : decode cX8_workOut 62 = .ok (.iconst 5, 1) := by decide +kernel
theorem dX8_workOut_63 : decode cX8_workOut 63 = .ok (.aload_n 1, 1) := by decide +kernel
theorem dX8_workOut_64 : decode cX8_workOut 64 = .ok (.getfield 37, 3) := by decide +kernel
theorem dX8_workOut_67 : decode cX8_workOut 67 = .ok (.iastore, 1) := by decide +kernel
theorem dX8_workOut_68 : decode cX8_workOut 68 = .ok (.aload_n 0, 1) := by decide +kernel
theorem dX8_workOut_69 : decode cX8_workOut 69 = .ok (.getfield 9, 3) := by decide +kernel
theorem dX8_workOut_72 : decode cX8_workOut 72 = .ok (.bipush 6, 2) := by decide +kernel
theorem dX8_workOut_74 : decode cX8_workOut 74 = .ok (.aload_n 2, 1) := by decide +kernel
theorem dX8_workOut_75 : decode cX8_workOut 75 = .ok (.getfield 59, 3) := by decide +kernel
theorem dX8_workOut_78 : decode cX8_workOut 78 = .ok (.iastore, 1) := by decide +kernel
theorem dX8_workOut_79 : decode cX8_workOut 79 = .ok (.aload_n 0, 1) := by decide +kernel
theorem dX8_workOut_80 : decode cX8_workOut 80 = .ok (.aload_n 1, 1) := by decide +kernel
theorem dX8_workOut_81 : decode cX8_workOut 81 = .ok (.getfield 62, 3) := by decide +kernel
theorem dX8_workOut_84 : decode cX8_workOut 84 = .ok (.aload_n 1, 1) := by decide +kernel
theorem dX8_workOut_85 : decode cX8_workOut 85 = .ok (.getfield 65, 3) := by decide +kernel
theorem dX8_workOut_88 : decode cX8_workOut 88 = .ok (.invokevirtual 18, 3) := by decide +kernel
theorem dX8_workOut_91 : decode cX8_workOut 91 = .ok (.aload_n 0, 1) := by decide +kernel
theorem dX8_workOut_92 : decode cX8_workOut 92 = .ok (.iconst 0, 1) := by decide +kernel
theorem dX8_workOut_93 : decode cX8_workOut 93 = .ok (.invokevirtual 22, 3) := by decide +kernel
theorem dX8_workOut_96 : decode cX8_workOut 96 = .ok (.ireturn, 1) := by decide +kernel
theorem dX8_begin_0 : decode cX8_begin 0 = .ok (.aload_n 0, 1) := by decide +kernel
theorem dX8_begin_1 : decode cX8_begin 1 = .ok (.aload_n 1, 1) := by decide +kernel
theorem dX8_begin_2 : decode cX8_begin 2 = .ok (.putfield 15, 3) := by decide +kernel
theorem dX8_begin_5 : decode cX8_begin 5 = .ok (.aload_n 0, 1) := by decide +kernel
theorem dX8_begin_6 : decode cX8_begin 6 = .ok (.iload_n 2, 1) := by decide +kernel
theorem dX8_begin_7 : decode cX8_begin 7 = .ok (.aload_n 1, 1) := by decide +kernel
theorem dX8_begin_8 : decode cX8_begin 8 = .ok (.arraylength, 1) := by decide +kernel
theorem dX8_begin_9 : decode cX8_begin 9 = .ok (.invokestatic 68, 3) := by decide +kernel
theorem dX8_begin_12 : decode cX8_begin 12 = .ok (.putfield 74, 3) := by decide +kernel
theorem dX8_begin_15 : decode cX8_begin 15 = .ok (.aload_n 0, 1) := by decide +kernel
theorem dX8_begin_16 : decode cX8_begin 16 = .ok (.iconst (-1), 1) := by decide +kernel
theorem dX8_begin_17 : decode cX8_begin 17 = .ok (.putfield 34, 3) := by decide +kernel
theorem dX8_begin_20 : decode cX8_begin 20 = .ok (.aload_n 0, 1) := by decide +kernel
theorem dX8_begin_21 : decode cX8_begin 21 = .ok (.iconst 0, 1) := by decide +kernel
theorem dX8_begin_22 : decode cX8_begin 22 = .ok (.putfield 26, 3) := by decide +kernel
theorem dX8_begin_25 : decode cX8_begin 25 = .ok (.aload_n 0, 1) := by decide +kernel
theorem dX8_begin_26 : decode cX8_begin 26 = .ok (.invokevirtual 77, 3) := by decide +kernel
theorem dX8_begin_29 : decode cX8_begin 29 = .ok (.return_, 1) := by decide +kernel
theorem dX8_step_0 : decode cX8_step 0 = .ok (.aload_n 0, 1) := by decide +kernel
theorem dX8_step_1 : decode cX8_step 1 = .ok (.dup, 1) := by decide +kernel
theorem dX8_step_2 : decode cX8_step 2 = .ok (.getfield 34, 3) := by decide +kernel
theorem dX8_step_5 : decode cX8_step 5 = .ok (.iconst 1, 1) := by decide +kernel
theorem dX8_step_6 : decode cX8_step 6 = .ok (.iadd, 1) := by decide +kernel
theorem dX8_step_7 : decode cX8_step 7 = .ok (.putfield 34, 3) := by decide +kernel
theorem dX8_step_10 : decode cX8_step 10 = .ok (.aload_n 0, 1) := by decide +kernel
theorem dX8_step_11 : decode cX8_step 11 = .ok (.aload_n 0, 1) := by decide +kernel
theorem dX8_step_12 : decode cX8_step 12 = .ok (.getfield 34, 3) := by decide +kernel
theorem dX8_step_15 : decode cX8_step 15 = .ok (.aload_n 0, 1) := by decide +kernel
theorem dX8_step_16 : decode cX8_step 16 = .ok (.getfield 74, 3) := by decide +kernel
theorem dX8_step_19 : decode cX8_step 19 = .ok (.if_icmp .ge 15, 3) := by decide +kernel
theorem dX8_step_22 : decode cX8_step 22 = .ok (.aload_n 0, 1) := by decide +kernel
theorem dX8_step_23 : decode cX8_step 23 = .ok (.getfield 15, 3) := by decide +kernel
theorem dX8_step_26 : decode cX8_step 26 = .ok (.aload_n 0, 1) := by decide +kernel
theorem dX8_step_27 : decode cX8_step 27 = .ok (.getfield 34, 3) := by decide +kernel
theorem dX8_step_30 : decode cX8_step 30 = .ok (.iaload, 1) := by decide +kernel
theorem dX8_step_31 : decode cX8_step 31 = .ok (.goto 6, 3) := by decide +kernel
theorem dX8_step_34 : decode cX8_step 34 = .ok (.sipush 256, 3) := by decide +kernel
theorem dX8_step_37 : decode cX8_step 37 = .ok (.putfield 30, 3) := by decide +kernel
theorem dX8_step_40 : decode cX8_step 40 = .ok (.return_, 1) := by decide +kernel
theorem dX8_expect_0 : decode cX8_expect 0 = .ok (.aload_n 0, 1) := by decide +kernel
theorem dX8_expect_1 : decode cX8_expect 1 = .ok (.getfield 26, 3) := by decide +kernel
theorem dX8_expect_4 : decode cX8_expect 4 = .ok (.ifCond .ne 11, 3) := by decide +kernel
theorem dX8_expect_7 : decode cX8_expect 7 = .ok (.aload_n 0, 1) := by decide +kernel
theorem dX8_expect_8 : decode cX8_expect 8 = .ok (.getfield 30, 3) := by decide +kernel
theorem dX8_expect_11 : decode cX8_expect 11 = .ok (.iload_n 1, 1) := by decide +kernel
theorem dX8_expect_12 : decode cX8_expect 12 = .ok (.if_icmp .eq 9, 3) := by decide +kernel
theorem dX8_expect_15 : decode cX8_expect 15 = .ok (.aload_n 0, 1) := by decide +kernel
theorem dX8_expect_16 : decode cX8_expect 16 = .ok (.iconst 1, 1) := by decide +kernel
theorem dX8_expect_17 : decode cX8_expect 17 = .ok (.putfield 26, 3) := by decide +kernel
theorem dX8_expect_20 : decode cX8_expect 20 = .ok (.return_, 1) := by decide +kernel
theorem dX8_expect_21 : decode cX8_expect 21 = .ok (.aload_n 0, 1) := by decide +kernel
theorem dX8_expect_22 : decode cX8_expect 22 = .ok (.invokevirtual 77, 3) := by decide +kernel
theorem dX8_expect_25 : decode cX8_expect 25 = .ok (.return_, 1) := by decide +kernel
theorem dX8_readSum_0 : decode cX8_readSum 0 = .ok (.aload_n 0, 1) := by decide +kernel
theorem dX8_readSum_1 : decode cX8_readSum 1 = .ok (.iload_n 1, 1) := by decide +kernel
theorem dX8_readSum_2 : decode cX8_readSum 2 = .ok (.invokevirtual 80, 3) := by decide +kernel
theorem dX8_readSum_5 : decode cX8_readSum 5 = .ok (.istore_n 2, 1) := by decide +kernel
theorem dX8_readSum_6 : decode cX8_readSum 6 = .ok (.iconst 0, 1) := by decide +kernel
theorem dX8_readSum_7 : decode cX8_readSum 7 = .ok (.istore_n 3, 1) := by decide +kernel
theorem dX8_readSum_8 : decode cX8_readSum 8 = .ok (.iload_n 3, 1) := by decide +kernel
theorem dX8_readSum_9 : decode cX8_readSum 9 = .ok (.aload_n 0, 1) := by decide +kernel
theorem dX8_readSum_10 : decode cX8_readSum 10 = .ok (.getfield 74, 3) := by decide +kernel
theorem dX8_readSum_13 : decode cX8_readSum 13 = .ok (.if_icmp .ge 78, 3) := by decide +kernel
theorem dX8_readSum_16 : decode cX8_readSum 16 = .ok (.aload_n 0, 1) := by decide +kernel
theorem dX8_readSum_17 : decode cX8_readSum 17 = .ok (.getfield 26, 3) := by decide +kernel
theorem dX8_readSum_20 : decode cX8_readSum 20 = .ok (.ifCond .ne 71, 3) := by decide +kernel
theorem dX8_readSum_23 : decode cX8_readSum 23 = .ok (.aload_n 0, 1) := by decide +kernel
theorem dX8_readSum_24 : decode cX8_readSum 24 = .ok (.getfield 30, 3) := by decide +kernel
theorem dX8_readSum_27 : decode cX8_readSum 27 = .ok (.bipush 43, 2) := by decide +kernel
theorem dX8_readSum_29 : decode cX8_readSum 29 = .ok (.if_icmp .eq 12, 3) := by decide +kernel
theorem dX8_readSum_32 : decode cX8_readSum 32 = .ok (.aload_n 0, 1) := by decide +kernel
theorem dX8_readSum_33 : decode cX8_readSum 33 = .ok (.getfield 30, 3) := by decide +kernel
theorem dX8_readSum_36 : decode cX8_readSum 36 = .ok (.bipush 45, 2) := by decide +kernel
theorem dX8_readSum_38 : decode cX8_readSum 38 = .ok (.if_icmp .ne 53, 3) := by decide +kernel
theorem dX8_readSum_41 : decode cX8_readSum 41 = .ok (.aload_n 0, 1) := by decide +kernel
theorem dX8_readSum_42 : decode cX8_readSum 42 = .ok (.getfield 30, 3) := by decide +kernel
theorem dX8_readSum_45 : decode cX8_readSum 45 = .ok (.bipush 43, 2) := by decide +kernel
theorem dX8_readSum_47 : decode cX8_readSum 47 = .ok (.if_icmp .ne 7, 3) := by decide +kernel
theorem dX8_readSum_50 : decode cX8_readSum 50 = .ok (.iconst 1, 1) := by decide +kernel
theorem dX8_readSum_51 : decode cX8_readSum 51 = .ok (.goto 4, 3) := by decide +kernel
theorem dX8_readSum_54 : decode cX8_readSum 54 = .ok (.iconst 0, 1) := by decide +kernel
theorem dX8_readSum_55 : decode cX8_readSum 55 = .ok (.istore 4, 2) := by decide +kernel
theorem dX8_readSum_57 : decode cX8_readSum 57 = .ok (.aload_n 0, 1) := by decide +kernel
theorem dX8_readSum_58 : decode cX8_readSum 58 = .ok (.invokevirtual 77, 3) := by decide +kernel
theorem dX8_readSum_61 : decode cX8_readSum 61 = .ok (.aload_n 0, 1) := by decide +kernel
theorem dX8_readSum_62 : decode cX8_readSum 62 = .ok (.iload_n 1, 1) := by decide +kernel
theorem dX8_readSum_63 : decode cX8_readSum 63 = .ok (.invokevirtual 80, 3) := by decide +kernel
theorem dX8_readSum_66 : decode cX8_readSum 66 = .ok (.istore 5, 2) := by decide +kernel
theorem dX8_readSum_68 : decode cX8_readSum 68 = .ok (.iload 4, 2) := by decide +kernel
theorem dX8_readSum_70 : decode cX8_readSum 70 = .ok (.ifCond .eq 10, 3) := by decide +kernel
theorem dX8_readSum_73 : decode cX8_readSum 73 = .ok (.iload_n 2, 1) := by decide +kernel
theorem dX8_readSum_74 : decode cX8_readSum 74 = .ok (.iload 5, 2) := by decide +kernel
theorem dX8_readSum_76 : decode cX8_readSum 76 = .ok (.iadd, 1) := by decide +kernel
theorem dX8_readSum_77 : decode cX8_readSum 77 = .ok (.goto 7, 3) := by decide +kernel
theorem dX8_readSum_80 : decode cX8_readSum 80 = .ok (.iload_n 2, 1) := by decide +kernel
theorem dX8_readSum_81 : decode cX8_readSum 81 = .ok (.iload 5, 2) := by decide +kernel
theorem dX8_readSum_83 : decode cX8_readSum 83 = .ok (.isub, 1) := by decide +kernel
theorem dX8_readSum_84 : decode cX8_readSum 84 = .ok (.istore_n 2, 1) := by decide +kernel
theorem dX8_readSum_85 : decode cX8_readSum 85 = .ok (.iinc 3 1, 3) := by decide +kernel
theorem dX8_readSum_88 : decode cX8_readSum 88 = .ok (.goto (-80), 3) := by decide +kernel
theorem dX8_readSum_91 : decode cX8_readSum 91 = .ok (.iload_n 2, 1) := by decide +kernel
theorem dX8_readSum_92 : decode cX8_readSum 92 = .ok (.ireturn, 1) := by decide +kernel
theorem dX8_readProduct_0 : decode cX8_readProduct 0 = .ok (.aload_n 0, 1) := by decide +kernel
theorem dX8_readProduct_1 : decode cX8_readProduct 1 = .ok (.iload_n 1, 1) := by decide +kernel
theorem dX8_readProduct_2 : decode cX8_readProduct 2 = .ok (.invokevirtual 83, 3) := by decide +kernel
theorem dX8_readProduct_5 : decode cX8_readProduct 5 = .ok (.istore_n 2, 1) := by decide +kernel
theorem dX8_readProduct_6 : decode cX8_readProduct 6 = .ok (.iconst 0, 1) := by decide +kernel
theorem dX8_readProduct_7 : decode cX8_readProduct 7 = .ok (.istore_n 3, 1) := by decide +kernel
theorem dX8_readProduct_8 : decode cX8_readProduct 8 = .ok (.iload_n 3, 1) := by decide +kernel
theorem dX8_readProduct_9 : decode cX8_readProduct 9 = .ok (.aload_n 0, 1) := by decide +kernel
theorem dX8_readProduct_10 : decode cX8_readProduct 10 = .ok (.getfield 74, 3) := by decide +kernel
theorem dX8_readProduct_13 : decode cX8_readProduct 13 = .ok (.if_icmp .ge 88, 3) := by decide +kernel
theorem dX8_readProduct_16 : decode cX8_readProduct 16 = .ok (.aload_n 0, 1) := by decide +kernel
theorem dX8_readProduct_17 : decode cX8_readProduct 17 = .ok (.getfield 26, 3) := by decide +kernel
theorem dX8_readProduct_20 : decode cX8_readProduct 20 = .ok (.ifCond .ne 81, 3) := by decide +kernel
theorem dX8_readProduct_23 : decode cX8_readProduct 23 = .ok (.aload_n 0, 1) := by decide +kernel
theorem dX8_readProduct_24 : decode cX8_readProduct 24 = .ok (.getfield 30, 3) := by decide +kernel
theorem dX8_readProduct_27 : decode cX8_readProduct 27 = .ok (.bipush 42, 2) := by decide +kernel
theorem dX8_readProduct_29 : decode cX8_readProduct 29 = .ok (.if_icmp .eq 12, 3) := by decide +kernel
theorem dX8_readProduct_32 : decode cX8_readProduct 32 = .ok (.aload_n 0, 1) := by decide +kernel
theorem dX8_readProduct_33 : decode cX8_readProduct 33 = .ok (.getfield 30, 3) := by decide +kernel
theorem dX8_readProduct_36 : decode cX8_readProduct 36 = .ok (.bipush 47, 2) := by decide +kernel
theorem dX8_readProduct_38 : decode cX8_readProduct 38 = .ok (.if_icmp .ne 63, 3) := by decide +kernel
theorem dX8_readProduct_41 : decode cX8_readProduct 41 = .ok (.aload_n 0, 1) := by decide +kernel
theorem dX8_readProduct_42 : decode cX8_readProduct 42 = .ok (.getfield 30, 3) := by decide +kernel
theorem dX8_readProduct_45 : decode cX8_readProduct 45 = .ok (.bipush 42, 2) := by decide +kernel
theorem dX8_readProduct_47 : decode cX8_readProduct 47 = .ok (.if_icmp .ne 7, 3) := by decide +kernel
theorem dX8_readProduct_50 : decode cX8_readProduct 50 = .ok (.iconst 1, 1) := by decide +kernel
theorem dX8_readProduct_51 : decode cX8_readProduct 51 = .ok (.goto 4, 3) := by decide +kernel
theorem dX8_readProduct_54 : decode cX8_readProduct 54 = .ok (.iconst 0, 1) := by decide +kernel
theorem dX8_readProduct_55 : decode cX8_readProduct 55 = .ok (.istore 4, 2) := by decide +kernel
theorem dX8_readProduct_57 : decode cX8_readProduct 57 = .ok (.aload_n 0, 1) := by decide +kernel
theorem dX8_readProduct_58 : decode cX8_readProduct 58 = .ok (.invokevirtual 77, 3) := by decide +kernel
theorem dX8_readProduct_61 : decode cX8_readProduct 61 = .ok (.aload_n 0, 1) := by decide +kernel
theorem dX8_readProduct_62 : decode cX8_readProduct 62 = .ok (.iload_n 1, 1) := by decide +kernel
theorem dX8_readProduct_63 : decode cX8_readProduct 63 = .ok (.invokevirtual 83, 3) := by decide +kernel
theorem dX8_readProduct_66 : decode cX8_readProduct 66 = .ok (.istore 5, 2) := by decide +kernel
theorem dX8_readProduct_68 : decode cX8_readProduct 68 = .ok (.iload 4, 2) := by decide +kernel
theorem dX8_readProduct_70 : decode cX8_readProduct 70 = .ok (.ifCond .eq 11, 3) := by decide +kernel
theorem dX8_readProduct_73 : decode cX8_readProduct 73 = .ok (.iload_n 2, 1) := by decide +kernel
theorem dX8_readProduct_74 : decode cX8_readProduct 74 = .ok (.iload 5, 2) := by decide +kernel
theorem dX8_readProduct_76 : decode cX8_readProduct 76 = .ok (.imul, 1) := by decide +kernel
theorem dX8_readProduct_77 : decode cX8_readProduct 77 = .ok (.istore_n 2, 1) := by decide +kernel
theorem dX8_readProduct_78 : decode cX8_readProduct 78 = .ok (.goto 17, 3) := by decide +kernel
theorem dX8_readProduct_81 : decode cX8_readProduct 81 = .ok (.iload 5, 2) := by decide +kernel
theorem dX8_readProduct_83 : decode cX8_readProduct 83 = .ok (.ifCond .ne 7, 3) := by decide +kernel
theorem dX8_readProduct_86 : decode cX8_readProduct 86 = .ok (.iconst 0, 1) := by decide +kernel
theorem dX8_readProduct_87 : decode cX8_readProduct 87 = .ok (.goto 7, 3) := by decide +kernel
theorem dX8_readProduct_90 : decode cX8_readProduct 90 = .ok (.iload_n 2, 1) := by decide +kernel
theorem dX8_readProduct_91 : decode cX8_readProduct 91 = .ok (.iload 5, 2) := by decide +kernel
theorem dX8_readProduct_93 : decode cX8_readProduct 93 = .ok (.idiv, 1) := by decide +kernel
theorem dX8_readProduct_94 : decode cX8_readProduct 94 = .ok (.istore_n 2, 1) := by decide +kernel
theorem dX8_readProduct_95 : decode cX8_readProduct 95 = .ok (.iinc 3 1, 3) := by decide +kernel
theorem dX8_readProduct_98 : decode cX8_readProduct 98 = .ok (.goto (-90), 3) := by decide +kernel
theorem dX8_readProduct_101 : decode cX8_readProduct 101 = .ok (.iload_n 2, 1) := by decide +kernel
theorem dX8_readProduct_102 : decode cX8_readProduct 102 = .ok (.ireturn, 1) := by decide +kernel
theorem dX8_readAtom_0 : decode cX8_readAtom 0 = .ok (.aload_n 0, 1) := by decide +kernel
theorem dX8_readAtom_1 : decode cX8_readAtom 1 = .ok (.getfield 30, 3) := by decide +kernel
theorem dX8_readAtom_4 : decode cX8_readAtom 4 = .ok (.istore_n 2, 1) := by decide +kernel
theorem dX8_readAtom_5 : decode cX8_readAtom 5 = .ok (.iload_n 2, 1) := by decide +kernel
theorem dX8_readAtom_6 : decode cX8_readAtom 6 = .ok (.bipush 48, 2) := by decide +kernel
theorem dX8_readAtom_8 : decode cX8_readAtom 8 = .ok (.bipush 57, 2) := by decide +kernel
theorem dX8_readAtom_10 : decode cX8_readAtom 10 = .ok (.invokestatic 86, 3) := by decide +kernel
theorem dX8_readAtom_13 : decode cX8_readAtom 13 = .ok (.ifCond .eq 8, 3) := by decide +kernel
theorem dX8_readAtom_16 : decode cX8_readAtom 16 = .ok (.aload_n 0, 1) := by decide +kernel
theorem dX8_readAtom_17 : decode cX8_readAtom 17 = .ok (.invokevirtual 90, 3) := by decide +kernel
theorem dX8_readAtom_20 : decode cX8_readAtom 20 = .ok (.ireturn, 1) := by decide +kernel
theorem dX8_readAtom_21 : decode cX8_readAtom 21 = .ok (.iload_n 2, 1) := by decide +kernel
theorem dX8_readAtom_22 : decode cX8_readAtom 22 = .ok (.bipush 40, 2) := by decide +kernel
theorem dX8_readAtom_24 : decode cX8_readAtom 24 = .ok (.if_icmp .eq 9, 3) := by decide +kernel
theorem dX8_readAtom_27 : decode cX8_readAtom 27 = .ok (.iload_n 2, 1) := by decide +kernel
theorem dX8_readAtom_28 : decode cX8_readAtom 28 = .ok (.bipush 91, 2) := by decide +kernel
theorem dX8_readAtom_30 : decode cX8_readAtom 30 = .ok (.if_icmp .ne 82, 3) := by decide +kernel
theorem dX8_readAtom_33 : decode cX8_readAtom 33 = .ok (.iload_n 1, 1) := by decide +kernel
theorem dX8_readAtom_34 : decode cX8_readAtom 34 = .ok (.bipush 6, 2) := by decide +kernel
theorem dX8_readAtom_36 : decode cX8_readAtom 36 = .ok (.if_icmp .lt 10, 3) := by decide +kernel
theorem dX8_readAtom_39 : decode cX8_readAtom 39 = .ok (.aload_n 0, 1) := by decide +kernel
theorem dX8_readAtom_40 : decode cX8_readAtom 40 = .ok (.iconst 1, 1) := by decide +kernel
theorem dX8_readAtom_41 : decode cX8_readAtom 41 = .ok (.putfield 26, 3) := by decide +kernel
theorem dX8_readAtom_44 : decode cX8_readAtom 44 = .ok (.iconst 0, 1) := by decide +kernel
theorem dX8_readAtom_45 : decode cX8_readAtom 45 = .ok (.ireturn, 1) := by decide +kernel
theorem dX8_readAtom_46 : decode cX8_readAtom 46 = .ok (.aload_n 0, 1) := by decide +kernel
theorem dX8_readAtom_47 : decode cX8_readAtom 47 = .ok (.invokevirtual 77, 3) := by decide +kernel
theorem dX8_readAtom_50 : decode cX8_readAtom 50 = .ok (.aload_n 0, 1) := by decide +kernel
theorem dX8_readAtom_51 : decode cX8_readAtom 51 = .ok (.iload_n 1, 1) := by decide +kernel
theorem dX8_readAtom_52 : decode cX8_readAtom 52 = .ok (.iconst 1, 1) := by decide +kernel
theorem dX8_readAtom_53 : decode cX8_readAtom 53 = .ok (.iadd, 1) := by decide +kernel
theorem dX8_readAtom_54 : decode cX8_readAtom 54 = .ok (.invokevirtual 22, 3) := by decide +kernel
theorem dX8_readAtom_57 : decode cX8_readAtom 57 = .ok (.istore_n 3, 1) := by decide +kernel
theorem dX8_readAtom_58 : decode cX8_readAtom 58 = .ok (.iload_n 2, 1) := by decide +kernel
theorem dX8_readAtom_59 : decode cX8_readAtom 59 = .ok (.bipush 91, 2) := by decide +kernel
theorem dX8_readAtom_61 : decode cX8_readAtom 61 = .ok (.if_icmp .ne 32, 3) := by decide +kernel
theorem dX8_readAtom_64 : decode cX8_readAtom 64 = .ok (.aload_n 0, 1) := by decide +kernel
theorem dX8_readAtom_65 : decode cX8_readAtom 65 = .ok (.bipush 44, 2) := by decide +kernel
theorem dX8_readAtom_67 : decode cX8_readAtom 67 = .ok (.invokevirtual 94, 3) := by decide +kernel
theorem dX8_readAtom_70 : decode cX8_readAtom 70 = .ok (.aload_n 0, 1) := by decide +kernel
theorem dX8_readAtom_71 : decode cX8_readAtom 71 = .ok (.getfield 26, 3) := by decide +kernel
theorem dX8_readAtom_74 : decode cX8_readAtom 74 = .ok (.ifCond .eq 7, 3) := by decide +kernel
theorem dX8_readAtom_77 : decode cX8_readAtom 77 = .ok (.iconst 0, 1) := by decide +kernel
theorem dX8_readAtom_78 : decode cX8_readAtom 78 = .ok (.goto 14, 3) := by decide +kernel
theorem dX8_readAtom_81 : decode cX8_readAtom 81 = .ok (.iload_n 3, 1) := by decide +kernel
theorem dX8_readAtom_82 : decode cX8_readAtom 82 = .ok (.aload_n 0, 1) := by decide +kernel
theorem dX8_readAtom_83 : decode cX8_readAtom 83 = .ok (.iload_n 1, 1) := by decide +kernel
theorem dX8_readAtom_84 : decode cX8_readAtom 84 = .ok (.iconst 1, 1) := by decide +kernel
theorem dX8_readAtom_85 : decode cX8_readAtom 85 = .ok (.iadd, 1) := by decide +kernel
theorem dX8_readAtom_86 : decode cX8_readAtom 86 = .ok (.invokevirtual 22, 3) := by decide +kernel
theorem dX8_readAtom_89 : decode cX8_readAtom 89 = .ok (.invokestatic 68, 3) := by decide +kernel
theorem dX8_readAtom_92 : decode cX8_readAtom 92 = .ok (.istore_n 3, 1) := by decide +kernel
theorem dX8_readAtom_93 : decode cX8_readAtom 93 = .ok (.aload_n 0, 1) := by decide +kernel
theorem dX8_readAtom_94 : decode cX8_readAtom 94 = .ok (.iload_n 2, 1) := by decide +kernel
theorem dX8_readAtom_95 : decode cX8_readAtom 95 = .ok (.bipush 40, 2) := by decide +kernel
theorem dX8_readAtom_97 : decode cX8_readAtom 97 = .ok (.if_icmp .ne 8, 3) := by decide +kernel
theorem dX8_readAtom_100 : decode cX8_readAtom 100 = .ok (.bipush 41, 2) := by decide +kernel
theorem dX8_readAtom_102 : decode cX8_readAtom 102 = .ok (.goto 5, 3) := by decide +kernel
theorem dX8_readAtom_105 : decode cX8_readAtom 105 = .ok (.bipush 93, 2) := by decide +kernel
theorem dX8_readAtom_107 : decode cX8_readAtom 107 = .ok (.invokevirtual 94, 3) := by decide +kernel
theorem dX8_readAtom_110 : decode cX8_readAtom 110 = .ok (.iload_n 3, 1) := by decide +kernel
theorem dX8_readAtom_111 : decode cX8_readAtom 111 = .ok (.ireturn, 1) := by decide +kernel
theorem dX8_readAtom_112 : decode cX8_readAtom 112 = .ok (.iconst 0, 1) := by decide +kernel
theorem dX8_readAtom_113 : decode cX8_readAtom 113 = .ok (.istore_n 3, 1) := by decide +kernel
theorem dX8_readAtom_114 : decode cX8_readAtom 114 = .ok (.iload_n 3, 1) := by decide +kernel
theorem dX8_readAtom_115 : decode cX8_readAtom 115 = .ok (.getstatic 98, 3) := by decide +kernel
theorem dX8_readAtom_118 : decode cX8_readAtom 118 = .ok (.arraylength, 1) := by decide +kernel
theorem dX8_readAtom_119 : decode cX8_readAtom 119 = .ok (.if_icmp .ge 38, 3) := by decide +kernel
theorem dX8_readAtom_122 : decode cX8_readAtom 122 = .ok (.iload_n 3, 1) := by decide +kernel
theorem dX8_readAtom_123 : decode cX8_readAtom 123 = .ok (.aload_n 0, 1) := by decide +kernel
theorem dX8_readAtom_124 : decode cX8_readAtom 124 = .ok (.getfield 9, 3) := by decide +kernel
theorem dX8_readAtom_127 : decode cX8_readAtom 127 = .ok (.arraylength, 1) := by decide +kernel
theorem dX8_readAtom_128 : decode cX8_readAtom 128 = .ok (.if_icmp .ge 29, 3) := by decide +kernel
theorem dX8_readAtom_131 : decode cX8_readAtom 131 = .ok (.getstatic 98, 3) := by decide +kernel
theorem dX8_readAtom_134 : decode cX8_readAtom 134 = .ok (.iload_n 3, 1) := by decide +kernel
theorem dX8_readAtom_135 : decode cX8_readAtom 135 = .ok (.caload, 1) := by decide +kernel
theorem dX8_readAtom_136 : decode cX8_readAtom 136 = .ok (.iload_n 2, 1) := by decide +kernel
theorem dX8_readAtom_137 : decode cX8_readAtom 137 = .ok (.if_icmp .ne 14, 3) := by decide +kernel
theorem dX8_readAtom_140 : decode cX8_readAtom 140 = .ok (.aload_n 0, 1) := by decide +kernel
theorem dX8_readAtom_141 : decode cX8_readAtom 141 = .ok (.invokevirtual 77, 3) := by decide +kernel
theorem dX8_readAtom_144 : decode cX8_readAtom 144 = .ok (.aload_n 0, 1) := by decide +kernel
theorem dX8_readAtom_145 : decode cX8_readAtom 145 = .ok (.getfield 9, 3) := by decide +kernel
theorem dX8_readAtom_148 : decode cX8_readAtom 148 = .ok (.iload_n 3, 1) := by decide +kernel
theorem dX8_readAtom_149 : decode cX8_readAtom 149 = .ok (.iaload, 1) := by decide +kernel
theorem dX8_readAtom_150 : decode cX8_readAtom 150 = .ok (.ireturn, 1) := by decide +kernel
theorem dX8_readAtom_151 : decode cX8_readAtom 151 = .ok (.iinc 3 1, 3) := by decide +kernel
theorem dX8_readAtom_154 : decode cX8_readAtom 154 = .ok (.goto (-40), 3) := by decide +kernel
theorem dX8_readAtom_157 : decode cX8_readAtom 157 = .ok (.aload_n 0, 1) := by decide +kernel
theorem dX8_readAtom_158 : decode cX8_readAtom 158 = .ok (.iconst 1, 1) := by decide +kernel
theorem dX8_readAtom_159 : decode cX8_readAtom 159 = .ok (.putfield 26, 3) := by decide +kernel
theorem dX8_readAtom_162 : decode cX8_readAtom 162 = .ok (.iconst 0, 1) := by decide +kernel
theorem dX8_readAtom_163 : decode cX8_readAtom 163 = .ok (.ireturn, 1) := by decide +kernel
theorem dX8_readNumber_0 : decode cX8_readNumber 0 = .ok (.aload_n 0, 1) := by decide +kernel
theorem dX8_readNumber_1 : decode cX8_readNumber 1 = .ok (.getfield 30, 3) := by decide +kernel
theorem dX8_readNumber_4 : decode cX8_readNumber 4 = .ok (.bipush 48, 2) := by decide +kernel
theorem dX8_readNumber_6 : decode cX8_readNumber 6 = .ok (.isub, 1) := by decide +kernel
theorem dX8_readNumber_7 : decode cX8_readNumber 7 = .ok (.istore_n 1, 1) := by decide +kernel
theorem dX8_readNumber_8 : decode cX8_readNumber 8 = .ok (.iload_n 1, 1) := by decide +kernel
theorem dX8_readNumber_9 : decode cX8_readNumber 9 = .ok (.ifCond .eq 7, 3) := by decide +kernel
theorem dX8_readNumber_12 : decode cX8_readNumber 12 = .ok (.iconst 1, 1) := by decide +kernel
theorem dX8_readNumber_13 : decode cX8_readNumber 13 = .ok (.goto 4, 3) := by decide +kernel
theorem dX8_readNumber_16 : decode cX8_readNumber 16 = .ok (.iconst 0, 1) := by decide +kernel
theorem dX8_readNumber_17 : decode cX8_readNumber 17 = .ok (.istore_n 2, 1) := by decide +kernel
theorem dX8_readNumber_18 : decode cX8_readNumber 18 = .ok (.aload_n 0, 1) := by decide +kernel
theorem dX8_readNumber_19 : decode cX8_readNumber 19 = .ok (.invokevirtual 77, 3) := by decide +kernel
theorem dX8_readNumber_22 : decode cX8_readNumber 22 = .ok (.iconst 1, 1) := by decide +kernel
theorem dX8_readNumber_23 : decode cX8_readNumber 23 = .ok (.istore_n 3, 1) := by decide +kernel
theorem dX8_readNumber_24 : decode cX8_readNumber 24 = .ok (.iload_n 3, 1) := by decide +kernel
theorem dX8_readNumber_25 : decode cX8_readNumber 25 = .ok (.iconst 4, 1) := by decide +kernel
theorem dX8_readNumber_26 : decode cX8_readNumber 26 = .ok (.if_icmp .ge 44, 3) := by decide +kernel
theorem dX8_readNumber_29 : decode cX8_readNumber 29 = .ok (.iload_n 2, 1) := by decide +kernel
theorem dX8_readNumber_30 : decode cX8_readNumber 30 = .ok (.ifCond .eq 40, 3) := by decide +kernel
theorem dX8_readNumber_33 : decode cX8_readNumber 33 = .ok (.aload_n 0, 1) := by decide +kernel
theorem dX8_readNumber_34 : decode cX8_readNumber 34 = .ok (.getfield 30, 3) := by decide +kernel
theorem dX8_readNumber_37 : decode cX8_readNumber 37 = .ok (.bipush 48, 2) := by decide +kernel
theorem dX8_readNumber_39 : decode cX8_readNumber 39 = .ok (.bipush 57, 2) := by decide +kernel
theorem dX8_readNumber_41 : decode cX8_readNumber 41 = .ok (.invokestatic 86, 3) := by decide +kernel
theorem dX8_readNumber_44 : decode cX8_readNumber 44 = .ok (.ifCond .eq 26, 3) := by decide +kernel
theorem dX8_readNumber_47 : decode cX8_readNumber 47 = .ok (.iload_n 1, 1) := by decide +kernel
theorem dX8_readNumber_48 : decode cX8_readNumber 48 = .ok (.bipush 10, 2) := by decide +kernel
theorem dX8_readNumber_50 : decode cX8_readNumber 50 = .ok (.imul, 1) := by decide +kernel
theorem dX8_readNumber_51 : decode cX8_readNumber 51 = .ok (.aload_n 0, 1) := by decide +kernel
theorem dX8_readNumber_52 : decode cX8_readNumber 52 = .ok (.getfield 30, 3) := by decide +kernel
theorem dX8_readNumber_55 : decode cX8_readNumber 55 = .ok (.iadd, 1) := by decide +kernel
theorem dX8_readNumber_56 : decode cX8_readNumber 56 = .ok (.bipush 48, 2) := by decide +kernel
theorem dX8_readNumber_58 : decode cX8_readNumber 58 = .ok (.isub, 1) := by decide +kernel
theorem dX8_readNumber_59 : decode cX8_readNumber 59 = .ok (.istore_n 1, 1) := by decide +kernel
theorem dX8_readNumber_60 : decode cX8_readNumber 60 = .ok (.aload_n 0, 1) := by decide +kernel
theorem dX8_readNumber_61 : decode cX8_readNumber 61 = .ok (.invokevirtual 77, 3) := by decide +kernel
theorem dX8_readNumber_64 : decode cX8_readNumber 64 = .ok (.iinc 3 1, 3) := by decide +kernel
theorem dX8_readNumber_67 : decode cX8_readNumber 67 = .ok (.goto (-43), 3) := by decide +kernel
theorem dX8_readNumber_70 : decode cX8_readNumber 70 = .ok (.iload_n 1, 1) := by decide +kernel
theorem dX8_readNumber_71 : decode cX8_readNumber 71 = .ok (.ireturn, 1) := by decide +kernel
theorem dX9_init_0 : decode cX9_init 0 = .ok (.aload_n 0, 1) := by decide +kernel
theorem dX9_init_1 : decode cX9_init 1 = .ok (.invokespecial 3, 3) := by decide +kernel
theorem dX9_init_4 : decode cX9_init 4 = .ok (.aload_n 0, 1) := by decide +kernel
theorem dX9_init_5 : decode cX9_init 5 = .ok (.iconst 0, 1) := by decide +kernel
theorem dX9_init_6 : decode cX9_init 6 = .ok (.putfield 9, 3) := by decide +kernel
theorem dX9_init_9 : decode cX9_init 9 = .ok (.aload_n 0, 1) := by decide +kernel
theorem dX9_init_10 : decode cX9_init 10 = .ok (.new 15, 3) := by decide +kernel
theorem dX9_init_13 : decode cX9_init 13 = .ok (.dup, 1) := by decide +kernel
theorem dX9_init_14 : decode cX9_init 14 = .ok (.invokespecial 17, 3) := by decide +kernel
theorem dX9_init_17 : decode cX9_init 17 = .ok (.putfield 18, 3) := by decide +kernel
theorem dX9_init_20 : decode cX9_init 20 = .ok (.aload_n 0, 1) := by decide +kernel
theorem dX9_init_21 : decode cX9_init 21 = .ok (.new 22, 3) := by decide +kernel
theorem dX9_init_24 : decode cX9_init 24 = .ok (.dup, 1) := by decide +kernel
theorem dX9_init_25 : decode cX9_init 25 = .ok (.invokespecial 24, 3) := by decide +kernel
theorem dX9_init_28 : decode cX9_init 28 = .ok (.putfield 25, 3) := by decide +kernel
theorem dX9_init_31 : decode cX9_init 31 = .ok (.return_, 1) := by decide +kernel
theorem dX10_init_0 : decode cX10_init 0 = .ok (.aload_n 0, 1) := by decide +kernel
theorem dX10_init_1 : decode cX10_init 1 = .ok (.invokespecial 3, 3) := by decide +kernel
theorem dX10_init_4 : decode cX10_init 4 = .ok (.aload_n 0, 1) := by decide +kernel
theorem dX10_init_5 : decode cX10_init 5 = .ok (.bipush 12, 2) := by decide +kernel
theorem dX10_init_7 : decode cX10_init 7 = .ok (.anewarray 9, 3) := by decide +kernel
theorem dX10_init_10 : decode cX10_init 10 = .ok (.putfield 11, 3) := by decide +kernel
theorem dX10_init_13 : decode cX10_init 13 = .ok (.aload_n 0, 1) := by decide +kernel
theorem dX10_init_14 : decode cX10_init 14 = .ok (.bipush 8, 2) := by decide +kernel
theorem dX10_init_16 : decode cX10_init 16 = .ok (.anewarray 17, 3) := by decide +kernel
theorem dX10_init_19 : decode cX10_init 19 = .ok (.putfield 19, 3) := by decide +kernel
theorem dX10_init_22 : decode cX10_init 22 = .ok (.aload_n 0, 1) := by decide +kernel
theorem dX10_init_23 : decode cX10_init 23 = .ok (.bipush 30, 2) := by decide +kernel
theorem dX10_init_25 : decode cX10_init 25 = .ok (.anewarray 23, 3) := by decide +kernel
theorem dX10_init_28 : decode cX10_init 28 = .ok (.putfield 25, 3) := by decide +kernel
theorem dX10_init_31 : decode cX10_init 31 = .ok (.aload_n 0, 1) := by decide +kernel
theorem dX10_init_32 : decode cX10_init 32 = .ok (.bipush 20, 2) := by decide +kernel
theorem dX10_init_34 : decode cX10_init 34 = .ok (.anewarray 29, 3) := by decide +kernel
theorem dX10_init_37 : decode cX10_init 37 = .ok (.putfield 31, 3) := by decide +kernel
theorem dX10_init_40 : decode cX10_init 40 = .ok (.aload_n 0, 1) := by decide +kernel
theorem dX10_init_41 : decode cX10_init 41 = .ok (.bipush 100, 2) := by decide +kernel
theorem dX10_init_43 : decode cX10_init 43 = .ok (.newarray .int, 2) := by decide +kernel
theorem dX10_init_45 : decode cX10_init 45 = .ok (.putfield 35, 3) := by decide +kernel
theorem dX10_init_48 : decode cX10_init 48 = .ok (.aload_n 0, 1) := by decide +kernel
theorem dX10_init_49 : decode cX10_init 49 = .ok (.iconst 1, 1) := by decide +kernel
theorem dX10_init_50 : decode cX10_init 50 = .ok (.putfield 39, 3) := by decide +kernel
theorem dX10_init_53 : decode cX10_init 53 = .ok (.aload_n 0, 1) := by decide +kernel
theorem dX10_init_54 : decode cX10_init 54 = .ok (.bipush (-4), 2) := by decide +kernel
theorem dX10_init_56 : decode cX10_init 56 = .ok (.putfield 43, 3) := by decide +kernel
theorem dX10_init_59 : decode cX10_init 59 = .ok (.iconst 0, 1) := by decide +kernel
theorem dX10_init_60 : decode cX10_init 60 = .ok (.istore_n 1, 1) := by decide +kernel
theorem dX10_init_61 : decode cX10_init 61 = .ok (.iload_n 1, 1) := by decide +kernel
theorem dX10_init_62 : decode cX10_init 62 = .ok (.bipush 12, 2) := by decide +kernel
theorem dX10_init_64 : decode cX10_init 64 = .ok (.if_icmp .ge 22, 3) := by decide +kernel
theorem dX10_init_67 : decode cX10_init 67 = .ok (.aload_n 0, 1) := by decide +kernel
theorem dX10_init_68 : decode cX10_init 68 = .ok (.getfield 11, 3) := by decide +kernel
theorem dX10_init_71 : decode cX10_init 71 = .ok (.iload_n 1, 1) := by decide +kernel
theorem dX10_init_72 : decode cX10_init 72 = .ok (.new 9, 3) := by decide +kernel
theorem dX10_init_75 : decode cX10_init 75 = .ok (.dup, 1) := by decide +kernel
theorem dX10_init_76 : decode cX10_init 76 = .ok (.invokespecial 46, 3) := by decide +kernel
theorem dX10_init_79 : decode cX10_init 79 = .ok (.aastore, 1) := by decide +kernel
theorem dX10_init_80 : decode cX10_init 80 = .ok (.iinc 1 1, 3) := by decide +kernel
theorem dX10_init_83 : decode cX10_init 83 = .ok (.goto (-22), 3) := by decide +kernel
theorem dX10_init_86 : decode cX10_init 86 = .ok (.iconst 0, 1) := by decide +kernel
theorem dX10_init_87 : decode cX10_init 87 = .ok (.istore_n 1, 1) := by decide +kernel
theorem dX10_init_88 : decode cX10_init 88 = .ok (.iload_n 1, 1) := by decide +kernel
theorem dX10_init_89 : decode cX10_init 89 = .ok (.bipush 8, 2) := by decide +kernel
theorem dX10_init_91 : decode cX10_init 91 = .ok (.if_icmp .ge 22, 3) := by decide +kernel
theorem dX10_init_94 : decode cX10_init 94 = .ok (.aload_n 0, 1) := by decide +kernel
theorem dX10_init_95 : decode cX10_init 95 = .ok (.getfield 19, 3) := by decide +kernel
theorem dX10_init_98 : decode cX10_init 98 = .ok (.iload_n 1, 1) := by decide +kernel
theorem dX10_init_99 : decode cX10_init 99 = .ok (.new 17, 3) := by decide +kernel
theorem dX10_init_102 : decode cX10_init 102 = .ok (.dup, 1) := by decide +kernel
theorem dX10_init_103 : decode cX10_init 103 = .ok (.invokespecial 47, 3) := by decide +kernel
theorem dX10_init_106 : decode cX10_init 106 = .ok (.aastore, 1) := by decide +kernel
theorem dX10_init_107 : decode cX10_init 107 = .ok (.iinc 1 1, 3) := by decide +kernel
theorem dX10_init_110 : decode cX10_init 110 = .ok (.goto (-22), 3) := by decide +kernel
theorem dX10_init_113 : decode cX10_init 113 = .ok (.iconst 0, 1) := by decide +kernel
theorem dX10_init_114 : decode cX10_init 114 = .ok (.istore_n 1, 1) := by decide +kernel
theorem dX10_init_115 : decode cX10_init 115 = .ok (.iload_n 1, 1) := by decide +kernel
theorem dX10_init_116 : decode cX10_init 116 = .ok (.bipush 30, 2) := by decide +kernel
theorem dX10_init_118 : decode cX10_init 118 = .ok (.if_icmp .ge 22, 3) := by decide +kernel
theorem dX10_init_121 : decode cX10_init 121 = .ok (.aload_n 0, 1) := by decide +kernel
theorem dX10_init_122 : decode cX10_init 122 = .ok (.getfield 25, 3) := by decide +kernel
theorem dX10_init_125 : decode cX10_init 125 = .ok (.iload_n 1, 1) := by decide +kernel
theorem dX10_init_126 : decode cX10_init 126 = .ok (.new 23, 3) := by decide +kernel
theorem dX10_init_129 : decode cX10_init 129 = .ok (.dup, 1) := by decide +kernel
theorem dX10_init_130 : decode cX10_init 130 = .ok (.invokespecial 48, 3) := by decide +kernel
theorem dX10_init_133 : decode cX10_init 133 = .ok (.aastore, 1) := by decide +kernel
theorem dX10_init_134 : decode cX10_init 134 = .ok (.iinc 1 1, 3) := by decide +kernel
theorem dX10_init_137 : decode cX10_init 137 = .ok (.goto (-22), 3) := by decide +kernel
theorem dX10_init_140 : decode cX10_init 140 = .ok (.iconst 0, 1) := by decide +kernel
theorem dX10_init_141 : decode cX10_init 141 = .ok (.istore_n 1, 1) := by decide +kernel
theorem dX10_init_142 : decode cX10_init 142 = .ok (.iload_n 1, 1) := by decide +kernel
theorem dX10_init_143 : decode cX10_init 143 = .ok (.bipush 20, 2) := by decide +kernel
theorem dX10_init_145 : decode cX10_init 145 = .ok (.if_icmp .ge 22, 3) := by decide +kernel
theorem dX10_init_148 : decode cX10_init 148 = .ok (.aload_n 0, 1) := by decide +kernel
theorem dX10_init_149 : decode cX10_init 149 = .ok (.getfield 31, 3) := by decide +kernel
theorem dX10_init_152 : decode cX10_init 152 = .ok (.iload_n 1, 1) := by decide +kernel
theorem dX10_init_153 : decode cX10_init 153 = .ok (.new 29, 3) := by decide +kernel
theorem dX10_init_156 : decode cX10_init 156 = .ok (.dup, 1) := by decide +kernel
theorem dX10_init_157 : decode cX10_init 157 = .ok (.invokespecial 49, 3) := by decide +kernel
theorem dX10_init_160 : decode cX10_init 160 = .ok (.aastore, 1) := by decide +kernel
theorem dX10_init_161 : decode cX10_init 161 = .ok (.iinc 1 1, 3) := by decide +kernel
theorem dX10_init_164 : decode cX10_init 164 = .ok (.goto (-22), 3) := by decide +kernel
theorem dX10_init_167 : decode cX10_init 167 = .ok (.aload_n 0, 1) := by decide +kernel
theorem dX10_init_168 : decode cX10_init 168 = .ok (.getfield 35, 3) := by decide +kernel
theorem dX10_init_171 : decode cX10_init 171 = .ok (.iconst 0, 1) := by decide +kernel
theorem dX10_init_172 : decode cX10_init 172 = .ok (.bipush 103, 2) := by decide +kernel
theorem dX10_init_174 : decode cX10_init 174 = .ok (.iastore, 1) := by decide +kernel
theorem dX10_init_175 : decode cX10_init 175 = .ok (.return_, 1) := by decide +kernel
theorem dX10_takeFrom_0 : decode cX10_takeFrom 0 = .ok (.aload_n 0, 1) := by decide +kernel
theorem dX10_takeFrom_1 : decode cX10_takeFrom 1 = .ok (.aload_n 1, 1) := by decide +kernel
theorem dX10_takeFrom_2 : decode cX10_takeFrom 2 = .ok (.getfield 50, 3) := by decide +kernel
theorem dX10_takeFrom_5 : decode cX10_takeFrom 5 = .ok (.putfield 50, 3) := by decide +kernel
theorem dX10_takeFrom_8 : decode cX10_takeFrom 8 = .ok (.aload_n 0, 1) := by decide +kernel
theorem dX10_takeFrom_9 : decode cX10_takeFrom 9 = .ok (.aload_n 1, 1) := by decide +kernel
theorem dX10_takeFrom_10 : decode cX10_takeFrom 10 = .ok (.getfield 53, 3) := by decide +kernel
theorem dX10_takeFrom_13 : decode cX10_takeFrom 13 = .ok (.putfield 53, 3) := by decide +kernel
theorem dX10_takeFrom_16 : decode cX10_takeFrom 16 = .ok (.aload_n 0, 1) := by decide +kernel
theorem dX10_takeFrom_17 : decode cX10_takeFrom 17 = .ok (.aload_n 1, 1) := by decide +kernel
theorem dX10_takeFrom_18 : decode cX10_takeFrom 18 = .ok (.getfield 56, 3) := by decide +kernel
theorem dX10_takeFrom_21 : decode cX10_takeFrom 21 = .ok (.putfield 56, 3) := by decide +kernel
theorem dX10_takeFrom_24 : decode cX10_takeFrom 24 = .ok (.aload_n 0, 1) := by decide +kernel
theorem dX10_takeFrom_25 : decode cX10_takeFrom 25 = .ok (.aload_n 1, 1) := by decide +kernel
theorem dX10_takeFrom_26 : decode cX10_takeFrom 26 = .ok (.getfield 59, 3) := by decide +kernel
theorem dX10_takeFrom_29 : decode cX10_takeFrom 29 = .ok (.putfield 59, 3) := by decide +kernel
theorem dX10_takeFrom_32 : decode cX10_takeFrom 32 = .ok (.aload_n 0, 1) := by decide +kernel
theorem dX10_takeFrom_33 : decode cX10_takeFrom 33 = .ok (.aload_n 1, 1) := by decide +kernel
theorem dX10_takeFrom_34 : decode cX10_takeFrom 34 = .ok (.getfield 43, 3) := by decide +kernel
theorem dX10_takeFrom_37 : decode cX10_takeFrom 37 = .ok (.putfield 43, 3) := by decide +kernel
theorem dX10_takeFrom_40 : decode cX10_takeFrom 40 = .ok (.iconst 0, 1) := by decide +kernel
theorem dX10_takeFrom_41 : decode cX10_takeFrom 41 = .ok (.istore_n 2, 1) := by decide +kernel
theorem dX10_takeFrom_42 : decode cX10_takeFrom 42 = .ok (.iload_n 2, 1) := by decide +kernel
theorem dX10_takeFrom_43 : decode cX10_takeFrom 43 = .ok (.bipush 12, 2) := by decide +kernel
theorem dX10_takeFrom_45 : decode cX10_takeFrom 45 = .ok (.if_icmp .ge 24, 3) := by decide +kernel
theorem dX10_takeFrom_48 : decode cX10_takeFrom 48 = .ok (.aload_n 0, 1) := by decide +kernel
theorem dX10_takeFrom_49 : decode cX10_takeFrom 49 = .ok (.getfield 11, 3) := by decide +kernel
theorem dX10_takeFrom_52 : decode cX10_takeFrom 52 = .ok (.iload_n 2, 1) := by decide +kernel
theorem dX10_takeFrom_53 : decode cX10_takeFrom 53 = .ok (.aaload, 1) := by decide +kernel
theorem dX10_takeFrom_54 : decode cX10_takeFrom 54 = .ok (.aload_n 1, 1) := by decide +kernel
theorem dX10_takeFrom_55 : decode cX10_takeFrom 55 = .ok (.getfield 11, 3) := by decide +kernel
theorem dX10_takeFrom_58 : decode cX10_takeFrom 58 = .ok (.iload_n 2, 1) := by decide +kernel
theorem dX10_takeFrom_59 : decode cX10_takeFrom 59 = .ok (.aaload, 1) := by decide +kernel
theorem dX10_takeFrom_60 : decode cX10_takeFrom 60 = .ok (.invokevirtual 62, 3) := by decide +kernel
theorem dX10_takeFrom_63 : decode cX10_takeFrom 63 = .ok (.iinc 2 1, 3) := by decide +kernel
theorem dX10_takeFrom_66 : decode cX10_takeFrom 66 = .ok (.goto (-24), 3) := by decide +kernel
theorem dX10_takeFrom_69 : decode cX10_takeFrom 69 = .ok (.iconst 0, 1) := by decide +kernel
theorem dX10_takeFrom_70 : decode cX10_takeFrom 70 = .ok (.istore_n 2, 1) := by decide +kernel
theorem dX10_takeFrom_71 : decode cX10_takeFrom 71 = .ok (.iload_n 2, 1) := by decide +kernel
theorem dX10_takeFrom_72 : decode cX10_takeFrom 72 = .ok (.bipush 8, 2) := by decide +kernel
theorem dX10_takeFrom_74 : decode cX10_takeFrom 74 = .ok (.if_icmp .ge 24, 3) := by decide +kernel
theorem dX10_takeFrom_77 : decode cX10_takeFrom 77 = .ok (.aload_n 0, 1) := by decide +kernel
theorem dX10_takeFrom_78 : decode cX10_takeFrom 78 = .ok (.getfield 19, 3) := by decide +kernel
theorem dX10_takeFrom_81 : decode cX10_takeFrom 81 = .ok (.iload_n 2, 1) := by decide +kernel
theorem dX10_takeFrom_82 : decode cX10_takeFrom 82 = .ok (.aaload, 1) := by decide +kernel
theorem dX10_takeFrom_83 : decode cX10_takeFrom 83 = .ok (.aload_n 1, 1) := by decide +kernel
theorem dX10_takeFrom_84 : decode cX10_takeFrom 84 = .ok (.getfield 19, 3) := by decide +kernel
theorem dX10_takeFrom_87 : decode cX10_takeFrom 87 = .ok (.iload_n 2, 1) := by decide +kernel
theorem dX10_takeFrom_88 : decode cX10_takeFrom 88 = .ok (.aaload, 1) := by decide +kernel
theorem dX10_takeFrom_89 : decode cX10_takeFrom 89 = .ok (.invokevirtual 66, 3) := by decide +kernel
theorem dX10_takeFrom_92 : decode cX10_takeFrom 92 = .ok (.iinc 2 1, 3) := by decide +kernel
theorem dX10_takeFrom_95 : decode cX10_takeFrom 95 = .ok (.goto (-24), 3) := by decide +kernel
theorem dX10_takeFrom_98 : decode cX10_takeFrom 98 = .ok (.iconst 0, 1) := by decide +kernel
theorem dX10_takeFrom_99 : decode cX10_takeFrom 99 = .ok (.istore_n 2, 1) := by decide +kernel
theorem dX10_takeFrom_100 : decode cX10_takeFrom 100 = .ok (.iload_n 2, 1) := by decide +kernel
theorem dX10_takeFrom_101 : decode cX10_takeFrom 101 = .ok (.bipush 30, 2) := by decide +kernel
theorem dX10_takeFrom_103 : decode cX10_takeFrom 103 = .ok (.if_icmp .ge 24, 3) := by decide +kernel
theorem dX10_takeFrom_106 : decode cX10_takeFrom 106 = .ok (.aload_n 0, 1) := by decide +kernel
theorem dX10_takeFrom_107 : decode cX10_takeFrom 107 = .ok (.getfield 25, 3) := by decide +kernel
theorem dX10_takeFrom_110 : decode cX10_takeFrom 110 = .ok (.iload_n 2, 1) := by decide +kernel
theorem dX10_takeFrom_111 : decode cX10_takeFrom 111 = .ok (.aaload, 1) := by decide +kernel
theorem dX10_takeFrom_112 : decode cX10_takeFrom 112 = .ok (.aload_n 1, 1) := by decide +kernel
theorem dX10_takeFrom_113 : decode cX10_takeFrom 113 = .ok (.getfield 25, 3) := by decide +kernel
theorem dX10_takeFrom_116 : decode cX10_takeFrom 116 = .ok (.iload_n 2, 1) := by decide +kernel
theorem dX10_takeFrom_117 : decode cX10_takeFrom 117 = .ok (.aaload, 1) := by decide +kernel
theorem dX10_takeFrom_118 : decode cX10_takeFrom 118 = .ok (.invokevirtual 69, 3) := by decide +kernel
theorem dX10_takeFrom_121 : decode cX10_takeFrom 121 = .ok (.iinc 2 1, 3) := by decide +kernel
theorem dX10_takeFrom_124 : decode cX10_takeFrom 124 = .ok (.goto (-24), 3) := by decide +kernel
theorem dX10_takeFrom_127 : decode cX10_takeFrom 127 = .ok (.iconst 0, 1) := by decide +kernel
theorem dX10_takeFrom_128 : decode cX10_takeFrom 128 = .ok (.istore_n 2, 1) := by decide +kernel
theorem dX10_takeFrom_129 : decode cX10_takeFrom 129 = .ok (.iload_n 2, 1) := by decide +kernel
theorem dX10_takeFrom_130 : decode cX10_takeFrom 130 = .ok (.bipush 20, 2) := by decide +kernel
theorem dX10_takeFrom_132 : decode cX10_takeFrom 132 = .ok (.if_icmp .ge 24, 3) := by decide +kernel
theorem dX10_takeFrom_135 : decode cX10_takeFrom 135 = .ok (.aload_n 0, 1) := by decide +kernel
theorem dX10_takeFrom_136 : decode cX10_takeFrom 136 = .ok (.getfield 31, 3) := by decide +kernel
theorem dX10_takeFrom_139 : decode cX10_takeFrom 139 = .ok (.iload_n 2, 1) := by decide +kernel
theorem dX10_takeFrom_140 : decode cX10_takeFrom 140 = .ok (.aaload, 1) := by decide +kernel
theorem dX10_takeFrom_141 : decode cX10_takeFrom 141 = .ok (.aload_n 1, 1) := by decide +kernel
theorem dX10_takeFrom_142 : decode cX10_takeFrom 142 = .ok (.getfield 31, 3) := by decide +kernel
theorem dX10_takeFrom_145 : decode cX10_takeFrom 145 = .ok (.iload_n 2, 1) := by decide +kernel
theorem dX10_takeFrom_146 : decode cX10_takeFrom 146 = .ok (.aaload, 1) := by decide +kernel
theorem dX10_takeFrom_147 : decode cX10_takeFrom 147 = .ok (.invokevirtual 72, 3) := by decide +kernel
theorem dX10_takeFrom_150 : decode cX10_takeFrom 150 = .ok (.iinc 2 1, 3) := by decide +kernel
theorem dX10_takeFrom_153 : decode cX10_takeFrom 153 = .ok (.goto (-24), 3) := by decide +kernel
theorem dX10_takeFrom_156 : decode cX10_takeFrom 156 = .ok (.aload_n 0, 1) := by decide +kernel
theorem dX10_takeFrom_157 : decode cX10_takeFrom 157 = .ok (.aload_n 1, 1) := by decide +kernel
theorem dX10_takeFrom_158 : decode cX10_takeFrom 158 = .ok (.getfield 35, 3) := by decide +kernel
theorem dX10_takeFrom_161 : decode cX10_takeFrom 161 = .ok (.aload_n 1, 1) := by decide +kernel
theorem dX10_takeFrom_162 : decode cX10_takeFrom 162 = .ok (.getfield 39, 3) := by decide +kernel
theorem dX10_takeFrom_165 : decode cX10_takeFrom 165 = .ok (.invokevirtual 75, 3) := by decide +kernel
theorem dX10_takeFrom_168 : decode cX10_takeFrom 168 = .ok (.return_, 1) := by decide +kernel
theorem dX10_putInForce_0 : decode cX10_putInForce 0 = .ok (.iconst 0, 1) := by decide +kernel
theorem dX10_putInForce_1 : decode cX10_putInForce 1 = .ok (.istore_n 3, 1) := by decide +kernel
theorem dX10_putInForce_2 : decode cX10_putInForce 2 = .ok (.iload_n 3, 1) := by decide +kernel
theorem dX10_putInForce_3 : decode cX10_putInForce 3 = .ok (.iload_n 2, 1) := by decide +kernel
theorem dX10_putInForce_4 : decode cX10_putInForce 4 = .ok (.if_icmp .ge 30, 3) := by decide +kernel
theorem dX10_putInForce_7 : decode cX10_putInForce 7 = .ok (.iload_n 3, 1) := by decide +kernel
theorem dX10_putInForce_8 : decode cX10_putInForce 8 = .ok (.aload_n 1, 1) := by decide +kernel
theorem dX10_putInForce_9 : decode cX10_putInForce 9 = .ok (.arraylength, 1) := by decide +kernel
theorem dX10_putInForce_10 : decode cX10_putInForce 10 = .ok (.if_icmp .ge 24, 3) := by decide +kernel
theorem dX10_putInForce_13 : decode cX10_putInForce 13 = .ok (.iload_n 3, 1) := by decide +kernel
theorem dX10_putInForce_14 : decode cX10_putInForce 14 = .ok (.bipush 100, 2) := by decide +kernel
theorem dX10_putInForce_16 : decode cX10_putInForce 16 = .ok (.if_icmp .ge 18, 3) := by decide +kernel
theorem dX10_putInForce_19 : decode cX10_putInForce 19 = .ok (.aload_n 0, 1) := by decide +kernel
theorem dX10_putInForce_20 : decode cX10_putInForce 20 = .ok (.getfield 35, 3) := by decide +kernel
theorem dX10_putInForce_23 : decode cX10_putInForce 23 = .ok (.iload_n 3, 1) := by decide +kernel
theorem dX10_putInForce_24 : decode cX10_putInForce 24 = .ok (.aload_n 1, 1) := by decide +kernel
theorem dX10_putInForce_25 : decode cX10_putInForce 25 = .ok (.iload_n 3, 1) := by decide +kernel
theorem dX10_putInForce_26 : decode cX10_putInForce 26 = .ok (.iaload, 1) := by decide +kernel
theorem dX10_putInForce_27 : decode cX10_putInForce 27 = .ok (.iastore, 1) := by decide +kernel
theorem dX10_putInForce_28 : decode cX10_putInForce 28 = .ok (.iinc 3 1, 3) := by decide +kernel
theorem dX10_putInForce_31 : decode cX10_putInForce 31 = .ok (.goto (-29), 3) := by decide +kernel
theorem dX10_putInForce_34 : decode cX10_putInForce 34 = .ok (.aload_n 0, 1) := by decide +kernel
theorem dX10_putInForce_35 : decode cX10_putInForce 35 = .ok (.iload_n 2, 1) := by decide +kernel
theorem dX10_putInForce_36 : decode cX10_putInForce 36 = .ok (.putfield 39, 3) := by decide +kernel
theorem dX10_putInForce_39 : decode cX10_putInForce 39 = .ok (.return_, 1) := by decide +kernel
theorem dX10_isLight_0 : decode cX10_isLight 0 = .ok (.iload_n 1, 1) := by decide +kernel
theorem dX10_isLight_1 : decode cX10_isLight 1 = .ok (.iconst 0, 1) := by decide +kernel
theorem dX10_isLight_2 : decode cX10_isLight 2 = .ok (.aload_n 0, 1) := by decide +kernel
theorem dX10_isLight_3 : decode cX10_isLight 3 = .ok (.getfield 50, 3) := by decide +kernel
theorem dX10_isLight_6 : decode cX10_isLight 6 = .ok (.iconst 1, 1) := by decide +kernel
theorem dX10_isLight_7 : decode cX10_isLight 7 = .ok (.isub, 1) := by decide +kernel
theorem dX10_isLight_8 : decode cX10_isLight 8 = .ok (.invokestatic 79, 3) := by decide +kernel
theorem dX10_isLight_11 : decode cX10_isLight 11 = .ok (.ireturn, 1) := by decide +kernel
theorem dX10_isPair_0 : decode cX10_isPair 0 = .ok (.aload_n 0, 1) := by decide +kernel
theorem dX10_isPair_1 : decode cX10_isPair 1 = .ok (.iload_n 1, 1) := by decide +kernel
theorem dX10_isPair_2 : decode cX10_isPair 2 = .ok (.invokevirtual 83, 3) := by decide +kernel
theorem dX10_isPair_5 : decode cX10_isPair 5 = .ok (.ifCond .eq 20, 3) := by decide +kernel
theorem dX10_isPair_8 : decode cX10_isPair 8 = .ok (.aload_n 0, 1) := by decide +kernel
theorem dX10_isPair_9 : decode cX10_isPair 9 = .ok (.iload_n 2, 1) := by decide +kernel
theorem dX10_isPair_10 : decode cX10_isPair 10 = .ok (.invokevirtual 83, 3) := by decide +kernel
theorem dX10_isPair_13 : decode cX10_isPair 13 = .ok (.ifCond .eq 12, 3) := by decide +kernel
theorem dX10_isPair_16 : decode cX10_isPair 16 = .ok (.iload_n 1, 1) := by decide +kernel
theorem dX10_isPair_17 : decode cX10_isPair 17 = .ok (.iload_n 2, 1) := by decide +kernel
theorem dX10_isPair_18 : decode cX10_isPair 18 = .ok (.if_icmp .eq 7, 3) := by decide +kernel
theorem dX10_isPair_21 : decode cX10_isPair 21 = .ok (.iconst 1, 1) := by decide +kernel
theorem dX10_isPair_22 : decode cX10_isPair 22 = .ok (.goto 4, 3) := by decide +kernel
theorem dX10_isPair_25 : decode cX10_isPair 25 = .ok (.iconst 0, 1) := by decide +kernel
theorem dX10_isPair_26 : decode cX10_isPair 26 = .ok (.ireturn, 1) := by decide +kernel
theorem dX10_lightAt_0 : decode cX10_lightAt 0 = .ok (.aload_n 0, 1) := by decide +kernel
theorem dX10_lightAt_1 : decode cX10_lightAt 1 = .ok (.iload_n 1, 1) := by decide +kernel
theorem dX10_lightAt_2 : decode cX10_lightAt 2 = .ok (.invokevirtual 83, 3) := by decide +kernel
theorem dX10_lightAt_5 : decode cX10_lightAt 5 = .ok (.ifCond .eq 12, 3) := by decide +kernel
theorem dX10_lightAt_8 : decode cX10_lightAt 8 = .ok (.aload_n 0, 1) := by decide +kernel
theorem dX10_lightAt_9 : decode cX10_lightAt 9 = .ok (.getfield 11, 3) := by decide +kernel
theorem dX10_lightAt_12 : decode cX10_lightAt 12 = .ok (.iload_n 1, 1) := by decide +kernel
theorem dX10_lightAt_13 : decode cX10_lightAt 13 = .ok (.aaload, 1) := by decide +kernel
theorem dX10_lightAt_14 : decode cX10_lightAt 14 = .ok (.goto 4, 3) := by decide +kernel
theorem dX10_lightAt_17 : decode cX10_lightAt 17 = .ok (.aconst_null, 1) := by decide +kernel
theorem dX10_lightAt_18 : decode cX10_lightAt 18 = .ok (.areturn, 1) := by decide +kernel
theorem dX10_eyeAt_0 : decode cX10_eyeAt 0 = .ok (.iload_n 1, 1) := by decide +kernel
theorem dX10_eyeAt_1 : decode cX10_eyeAt 1 = .ok (.iconst 0, 1) := by decide +kernel
theorem dX10_eyeAt_2 : decode cX10_eyeAt 2 = .ok (.bipush 7, 2) := by decide +kernel
theorem dX10_eyeAt_4 : decode cX10_eyeAt 4 = .ok (.invokestatic 79, 3) := by decide +kernel
theorem dX10_eyeAt_7 : decode cX10_eyeAt 7 = .ok (.ifCond .eq 12, 3) := by decide +kernel
theorem dX10_eyeAt_10 : decode cX10_eyeAt 10 = .ok (.aload_n 0, 1) := by decide +kernel
theorem dX10_eyeAt_11 : decode cX10_eyeAt 11 = .ok (.getfield 19, 3) := by decide +kernel
theorem dX10_eyeAt_14 : decode cX10_eyeAt 14 = .ok (.iload_n 1, 1) := by decide +kernel
theorem dX10_eyeAt_15 : decode cX10_eyeAt 15 = .ok (.aaload, 1) := by decide +kernel
theorem dX10_eyeAt_16 : decode cX10_eyeAt 16 = .ok (.goto 4, 3) := by decide +kernel
theorem dX10_eyeAt_19 : decode cX10_eyeAt 19 = .ok (.aconst_null, 1) := by decide +kernel
theorem dX10_eyeAt_20 : decode cX10_eyeAt 20 = .ok (.areturn, 1) := by decide +kernel
theorem dX10_matchAt_0 : decode cX10_matchAt 0 = .ok (.iload_n 1, 1) := by decide +kernel
theorem dX10_matchAt_1 : decode cX10_matchAt 1 = .ok (.iconst 0, 1) := by decide +kernel
theorem dX10_matchAt_2 : decode cX10_matchAt 2 = .ok (.aload_n 0, 1) := by decide +kernel
theorem dX10_matchAt_3 : decode cX10_matchAt 3 = .ok (.getfield 56, 3) := by decide +kernel
theorem dX10_matchAt_6 : decode cX10_matchAt 6 = .ok (.iconst 1, 1) := by decide +kernel
theorem dX10_matchAt_7 : decode cX10_matchAt 7 = .ok (.isub, 1) := by decide +kernel
theorem dX10_matchAt_8 : decode cX10_matchAt 8 = .ok (.invokestatic 79, 3) := by decide +kernel
theorem dX10_matchAt_11 : decode cX10_matchAt 11 = .ok (.ifCond .eq 12, 3) := by decide +kernel
theorem dX10_matchAt_14 : decode cX10_matchAt 14 = .ok (.aload_n 0, 1) := by decide +kernel
theorem dX10_matchAt_15 : decode cX10_matchAt 15 = .ok (.getfield 25, 3) := by decide +kernel
theorem dX10_matchAt_18 : decode cX10_matchAt 18 = .ok (.iload_n 1, 1) := by decide +kernel
theorem dX10_matchAt_19 : decode cX10_matchAt 19 = .ok (.aaload, 1) := by decide +kernel
theorem dX10_matchAt_20 : decode cX10_matchAt 20 = .ok (.goto 4, 3) := by decide +kernel
theorem dX10_matchAt_23 : decode cX10_matchAt 23 = .ok (.aconst_null, 1) := by decide +kernel
theorem dX10_matchAt_24 : decode cX10_matchAt 24 = .ok (.areturn, 1) := by decide +kernel
theorem dX10_placeFor_0 : decode cX10_placeFor 0 = .ok (.aload_n 3, 1) := by decide +kernel
theorem dX10_placeFor_1 : decode cX10_placeFor 1 = .ok (.aload_n 0, 1) := by decide +kernel
theorem dX10_placeFor_2 : decode cX10_placeFor 2 = .ok (.getfield 11, 3) := by decide +kernel
theorem dX10_placeFor_5 : decode cX10_placeFor 5 = .ok (.iload_n 1, 1) := by decide +kernel
theorem dX10_placeFor_6 : decode cX10_placeFor 6 = .ok (.aaload, 1) := by decide +kernel
theorem dX10_placeFor_7 : decode cX10_placeFor 7 = .ok (.aload_n 0, 1) := by decide +kernel
theorem dX10_placeFor_8 : decode cX10_placeFor 8 = .ok (.getfield 53, 3) := by decide +kernel
theorem dX10_placeFor_11 : decode cX10_placeFor 11 = .ok (.iload 4, 2) := by decide +kernel
theorem dX10_placeFor_13 : decode cX10_placeFor 13 = .ok (.invokevirtual 87, 3) := by decide +kernel
theorem dX10_placeFor_16 : decode cX10_placeFor 16 = .ok (.aload_n 3, 1) := by decide +kernel
theorem dX10_placeFor_17 : decode cX10_placeFor 17 = .ok (.aload_n 0, 1) := by decide +kernel
theorem dX10_placeFor_18 : decode cX10_placeFor 18 = .ok (.getfield 11, 3) := by decide +kernel
theorem dX10_placeFor_21 : decode cX10_placeFor 21 = .ok (.iload_n 2, 1) := by decide +kernel
theorem dX10_placeFor_22 : decode cX10_placeFor 22 = .ok (.aaload, 1) := by decide +kernel
theorem dX10_placeFor_23 : decode cX10_placeFor 23 = .ok (.aload_n 0, 1) := by decide +kernel
theorem dX10_placeFor_24 : decode cX10_placeFor 24 = .ok (.getfield 53, 3) := by decide +kernel
theorem dX10_placeFor_27 : decode cX10_placeFor 27 = .ok (.iload 4, 2) := by decide +kernel
theorem dX10_placeFor_29 : decode cX10_placeFor 29 = .ok (.invokevirtual 87, 3) := by decide +kernel
theorem dX10_placeFor_32 : decode cX10_placeFor 32 = .ok (.invokestatic 91, 3) := by decide +kernel
theorem dX10_placeFor_35 : decode cX10_placeFor 35 = .ok (.ireturn, 1) := by decide +kernel
theorem dX10_addMatch_0 : decode cX10_addMatch 0 = .ok (.aload_n 0, 1) := by decide +kernel
theorem dX10_addMatch_1 : decode cX10_addMatch 1 = .ok (.iload_n 1, 1) := by decide +kernel
theorem dX10_addMatch_2 : decode cX10_addMatch 2 = .ok (.iload_n 2, 1) := by decide +kernel
theorem dX10_addMatch_3 : decode cX10_addMatch 3 = .ok (.invokevirtual 95, 3) := by decide +kernel
theorem dX10_addMatch_6 : decode cX10_addMatch 6 = .ok (.ifCond .eq 36, 3) := by decide +kernel
theorem dX10_addMatch_9 : decode cX10_addMatch 9 = .ok (.iload_n 3, 1) := by decide +kernel
theorem dX10_addMatch_10 : decode cX10_addMatch 10 = .ok (.iconst 0, 1) := by decide +kernel
theorem dX10_addMatch_11 : decode cX10_addMatch 11 = .ok (.bipush 7, 2) := by decide +kernel
theorem dX10_addMatch_13 : decode cX10_addMatch 13 = .ok (.invokestatic 79, 3) := by decide +kernel
theorem dX10_addMatch_16 : decode cX10_addMatch 16 = .ok (.ifCond .eq 26, 3) := by decide +kernel
theorem dX10_addMatch_19 : decode cX10_addMatch 19 = .ok (.iload 4, 2) := by decide +kernel
theorem dX10_addMatch_21 : decode cX10_addMatch 21 = .ok (.iconst 1, 1) := by decide +kernel
theorem dX10_addMatch_22 : decode cX10_addMatch 22 = .ok (.bipush 99, 2) := by decide +kernel
theorem dX10_addMatch_24 : decode cX10_addMatch 24 = .ok (.invokestatic 79, 3) := by decide +kernel
theorem dX10_addMatch_27 : decode cX10_addMatch 27 = .ok (.ifCond .eq 15, 3) := by decide +kernel
theorem dX10_addMatch_30 : decode cX10_addMatch 30 = .ok (.iload 5, 2) := by decide +kernel
theorem dX10_addMatch_32 : decode cX10_addMatch 32 = .ok (.iconst 0, 1) := by decide +kernel
theorem dX10_addMatch_33 : decode cX10_addMatch 33 = .ok (.sipush 999, 3) := by decide +kernel
theorem dX10_addMatch_36 : decode cX10_addMatch 36 = .ok (.invokestatic 79, 3) := by decide +kernel
theorem dX10_addMatch_39 : decode cX10_addMatch 39 = .ok (.ifCond .ne 5, 3) := by decide +kernel
theorem dX10_addMatch_42 : decode cX10_addMatch 42 = .ok (.iconst (-1), 1) := by decide +kernel
theorem dX10_addMatch_43 : decode cX10_addMatch 43 = .ok (.ireturn, 1) := by decide +kernel
theorem dX10_addMatch_44 : decode cX10_addMatch 44 = .ok (.aload_n 0, 1) := by decide +kernel
theorem dX10_addMatch_45 : decode cX10_addMatch 45 = .ok (.getfield 56, 3) := by decide +kernel
theorem dX10_addMatch_48 : decode cX10_addMatch 48 = .ok (.bipush 30, 2) := by decide +kernel
theorem dX10_addMatch_50 : decode cX10_addMatch 50 = .ok (.if_icmp .lt 6, 3) := by decide +kernel
theorem dX10_addMatch_53 : decode cX10_addMatch 53 = .ok (.bipush (-2), 2) := by decide +kernel
theorem dX10_addMatch_55 : decode cX10_addMatch 55 = .ok (.ireturn, 1) := by decide +kernel
theorem dX10_addMatch_56 : decode cX10_addMatch 56 = .ok (.aload_n 0, 1) := by decide +kernel
theorem dX10_addMatch_57 : decode cX10_addMatch 57 = .ok (.getfield 56, 3) := by decide +kernel
theorem dX10_addMatch_60 : decode cX10_addMatch 60 = .ok (.istore 6, 2) := by decide +kernel
theorem dX10_addMatch_62 : decode cX10_addMatch 62 = .ok (.aload_n 0, 1) := by decide +kernel
theorem dX10_addMatch_63 : decode cX10_addMatch 63 = .ok (.getfield 25, 3) := by decide +kernel
theorem dX10_addMatch_66 : decode cX10_addMatch 66 = .ok (.iload 6, 2) := by decide +kernel
theorem dX10_addMatch_68 : decode cX10_addMatch 68 = .ok (.aaload, 1) := by decide +kernel
theorem dX10_addMatch_69 : decode cX10_addMatch 69 = .ok (.astore 7, 2) := by decide +kernel
theorem dX10_addMatch_71 : decode cX10_addMatch 71 = .ok (.aload 7, 2) := by decide +kernel
theorem dX10_addMatch_73 : decode cX10_addMatch 73 = .ok (.iload_n 1, 1) := by decide +kernel
theorem dX10_addMatch_74 : decode cX10_addMatch 74 = .ok (.putfield 99, 3) := by decide +kernel
theorem dX10_addMatch_77 : decode cX10_addMatch 77 = .ok (.aload 7, 2) := by decide +kernel
theorem dX10_addMatch_79 : decode cX10_addMatch 79 = .ok (.iload_n 2, 1) := by decide +kernel
theorem dX10_addMatch_80 : decode cX10_addMatch 80 = .ok (.putfield 102, 3) := by decide +kernel
theorem dX10_addMatch_83 : decode cX10_addMatch 83 = .ok (.aload 7, 2) := by decide +kernel
theorem dX10_addMatch_85 : decode cX10_addMatch 85 = .ok (.iload_n 3, 1) := by decide +kernel
theorem dX10_addMatch_86 : decode cX10_addMatch 86 = .ok (.putfield 105, 3) := by decide +kernel
theorem dX10_addMatch_89 : decode cX10_addMatch 89 = .ok (.aload 7, 2) := by decide +kernel
theorem dX10_addMatch_91 : decode cX10_addMatch 91 = .ok (.iload 4, 2) := by decide +kernel
theorem dX10_addMatch_93 : decode cX10_addMatch 93 = .ok (.putfield 108, 3) := by decide +kernel
theorem dX10_addMatch_96 : decode cX10_addMatch 96 = .ok (.aload 7, 2) := by decide +kernel
theorem dX10_addMatch_98 : decode cX10_addMatch 98 = .ok (.iload 5, 2) := by decide +kernel
theorem dX10_addMatch_100 : decode cX10_addMatch 100 = .ok (.putfield 111, 3) := by decide +kernel
theorem dX10_addMatch_103 : decode cX10_addMatch 103 = .ok (.aload 7, 2) := by decide +kernel
theorem dX10_addMatch_105 : decode cX10_addMatch 105 = .ok (.iconst 0, 1) := by decide +kernel
theorem dX10_addMatch_106 : decode cX10_addMatch 106 = .ok (.putfield 114, 3) := by decide +kernel
theorem dX10_addMatch_109 : decode cX10_addMatch 109 = .ok (.aload_n 0, 1) := by decide +kernel
theorem dX10_addMatch_110 : decode cX10_addMatch 110 = .ok (.dup, 1) := by decide +kernel
theorem dX10_addMatch_111 : decode cX10_addMatch 111 = .ok (.getfield 56, 3) := by decide +kernel
theorem dX10_addMatch_114 : decode cX10_addMatch 114 = .ok (.iconst 1, 1) := by decide +kernel
theorem dX10_addMatch_115 : decode cX10_addMatch 115 = .ok (.iadd, 1) := by decide +kernel
theorem dX10_addMatch_116 : decode cX10_addMatch 116 = .ok (.putfield 56, 3) := by decide +kernel
theorem dX10_addMatch_119 : decode cX10_addMatch 119 = .ok (.iload 6, 2) := by decide +kernel
theorem dX10_addMatch_121 : decode cX10_addMatch 121 = .ok (.ireturn, 1) := by decide +kernel
theorem dX10_countOut_0 : decode cX10_countOut 0 = .ok (.iconst 0, 1) := by decide +kernel
theorem dX10_countOut_1 : decode cX10_countOut 1 = .ok (.istore_n 1, 1) := by decide +kernel
theorem dX10_countOut_2 : decode cX10_countOut 2 = .ok (.iconst 0, 1) := by decide +kernel
theorem dX10_countOut_3 : decode cX10_countOut 3 = .ok (.istore_n 2, 1) := by decide +kernel
theorem dX10_countOut_4 : decode cX10_countOut 4 = .ok (.iload_n 2, 1) := by decide +kernel
theorem dX10_countOut_5 : decode cX10_countOut 5 = .ok (.aload_n 0, 1) := by decide +kernel
theorem dX10_countOut_6 : decode cX10_countOut 6 = .ok (.getfield 56, 3) := by decide +kernel
theorem dX10_countOut_9 : decode cX10_countOut 9 = .ok (.if_icmp .ge 29, 3) := by decide +kernel
theorem dX10_countOut_12 : decode cX10_countOut 12 = .ok (.iload_n 1, 1) := by decide +kernel
theorem dX10_countOut_13 : decode cX10_countOut 13 = .ok (.aload_n 0, 1) := by decide +kernel
theorem dX10_countOut_14 : decode cX10_countOut 14 = .ok (.getfield 25, 3) := by decide +kernel
theorem dX10_countOut_17 : decode cX10_countOut 17 = .ok (.iload_n 2, 1) := by decide +kernel
theorem dX10_countOut_18 : decode cX10_countOut 18 = .ok (.aaload, 1) := by decide +kernel
theorem dX10_countOut_19 : decode cX10_countOut 19 = .ok (.getfield 114, 3) := by decide +kernel
theorem dX10_countOut_22 : decode cX10_countOut 22 = .ok (.ifCond .eq 7, 3) := by decide +kernel
theorem dX10_countOut_25 : decode cX10_countOut 25 = .ok (.iconst 1, 1) := by decide +kernel
theorem dX10_countOut_26 : decode cX10_countOut 26 = .ok (.goto 4, 3) := by decide +kernel
theorem dX10_countOut_29 : decode cX10_countOut 29 = .ok (.iconst 0, 1) := by decide +kernel
theorem dX10_countOut_30 : decode cX10_countOut 30 = .ok (.iadd, 1) := by decide +kernel
theorem dX10_countOut_31 : decode cX10_countOut 31 = .ok (.istore_n 1, 1) := by decide +kernel
theorem dX10_countOut_32 : decode cX10_countOut 32 = .ok (.iinc 2 1, 3) := by decide +kernel
theorem dX10_countOut_35 : decode cX10_countOut 35 = .ok (.goto (-31), 3) := by decide +kernel
theorem dX10_countOut_38 : decode cX10_countOut 38 = .ok (.iload_n 1, 1) := by decide +kernel
theorem dX10_countOut_39 : decode cX10_countOut 39 = .ok (.ireturn, 1) := by decide +kernel
theorem dX10_allHours_0 : decode cX10_allHours 0 = .ok (.iconst 0, 1) := by decide +kernel
theorem dX10_allHours_1 : decode cX10_allHours 1 = .ok (.istore_n 1, 1) := by decide +kernel
theorem dX10_allHours_2 : decode cX10_allHours 2 = .ok (.iconst 0, 1) := by decide +kernel
theorem dX10_allHours_3 : decode cX10_allHours 3 = .ok (.istore_n 2, 1) := by decide +kernel
theorem dX10_allHours_4 : decode cX10_allHours 4 = .ok (.iload_n 2, 1) := by decide +kernel
theorem dX10_allHours_5 : decode cX10_allHours 5 = .ok (.aload_n 0, 1) := by decide +kernel
theorem dX10_allHours_6 : decode cX10_allHours 6 = .ok (.getfield 50, 3) := by decide +kernel
theorem dX10_allHours_9 : decode cX10_allHours 9 = .ok (.if_icmp .ge 21, 3) := by decide +kernel
theorem dX10_allHours_12 : decode cX10_allHours 12 = .ok (.iload_n 1, 1) := by decide +kernel
theorem dX10_allHours_13 : decode cX10_allHours 13 = .ok (.aload_n 0, 1) := by decide +kernel
theorem dX10_allHours_14 : decode cX10_allHours 14 = .ok (.getfield 11, 3) := by decide +kernel
theorem dX10_allHours_17 : decode cX10_allHours 17 = .ok (.iload_n 2, 1) := by decide +kernel
theorem dX10_allHours_18 : decode cX10_allHours 18 = .ok (.aaload, 1) := by decide +kernel
theorem dX10_allHours_19 : decode cX10_allHours 19 = .ok (.getfield 118, 3) := by decide +kernel
theorem dX10_allHours_22 : decode cX10_allHours 22 = .ok (.iadd, 1) := by decide +kernel
theorem dX10_allHours_23 : decode cX10_allHours 23 = .ok (.istore_n 1, 1) := by decide +kernel
theorem dX10_allHours_24 : decode cX10_allHours 24 = .ok (.iinc 2 1, 3) := by decide +kernel
theorem dX10_allHours_27 : decode cX10_allHours 27 = .ok (.goto (-23), 3) := by decide +kernel
theorem dX10_allHours_30 : decode cX10_allHours 30 = .ok (.iload_n 1, 1) := by decide +kernel
theorem dX10_allHours_31 : decode cX10_allHours 31 = .ok (.ireturn, 1) := by decide +kernel
