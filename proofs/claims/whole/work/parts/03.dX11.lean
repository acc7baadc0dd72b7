theorem dX11_init_0 : decode cX11_init 0 = .ok (.aload_n 0, 1) := by decide +kernel
theorem dX11_init_1 : decode cX11_init 1 = .ok (.invokespecial 1, 3) := by decide +kernel
theorem dX11_init_4 : decode cX11_init 4 = .ok (.aload_n 0, 1) := by decide +kernel
theorem dX11_init_5 : decode cX11_init 5 = .ok (.new 7, 3) := by decide +kernel
theorem dX11_init_8 : decode cX11_init 8 = .ok (.dup, 1) := by decide +kernel
theorem dX11_init_9 : decode cX11_init 9 = .ok (.invokespecial 9, 3) := by decide +kernel
theorem dX11_init_12 : decode cX11_init 12 = .ok (.putfield 10, 3) := by decide +kernel
theorem dX11_init_15 : decode cX11_init 15 = .ok (.aload_n 0, 1) := by decide +kernel
theorem dX11_init_16 : decode cX11_init 16 = .ok (.new 7, 3) := by decide +kernel
theorem dX11_init_19 : decode cX11_init 19 = .ok (.dup, 1) := by decide +kernel
theorem dX11_init_20 : decode cX11_init 20 = .ok (.invokespecial 9, 3) := by decide +kernel
theorem dX11_init_23 : decode cX11_init 23 = .ok (.putfield 16, 3) := by decide +kernel
theorem dX11_init_26 : decode cX11_init 26 = .ok (.aload_n 0, 1) := by decide +kernel
theorem dX11_init_27 : decode cX11_init 27 = .ok (.bipush 8, 2) := by decide +kernel
theorem dX11_init_29 : decode cX11_init 29 = .ok (.anewarray 19, 3) := by decide +kernel
theorem dX11_init_32 : decode cX11_init 32 = .ok (.putfield 21, 3) := by decide +kernel
theorem dX11_init_35 : decode cX11_init 35 = .ok (.aload_n 0, 1) := by decide +kernel
theorem dX11_init_36 : decode cX11_init 36 = .ok (.new 25, 3) := by decide +kernel
theorem dX11_init_39 : decode cX11_init 39 = .ok (.dup, 1) := by decide +kernel
theorem dX11_init_40 : decode cX11_init 40 = .ok (.invokespecial 27, 3) := by decide +kernel
theorem dX11_init_43 : decode cX11_init 43 = .ok (.putfield 28, 3) := by decide +kernel
theorem dX11_init_46 : decode cX11_init 46 = .ok (.aload_n 0, 1) := by decide +kernel
theorem dX11_init_47 : decode cX11_init 47 = .ok (.new 32, 3) := by decide +kernel
theorem dX11_init_50 : decode cX11_init 50 = .ok (.dup, 1) := by decide +kernel
theorem dX11_init_51 : decode cX11_init 51 = .ok (.invokespecial 34, 3) := by decide +kernel
theorem dX11_init_54 : decode cX11_init 54 = .ok (.putfield 35, 3) := by decide +kernel
theorem dX11_init_57 : decode cX11_init 57 = .ok (.aload_n 0, 1) := by decide +kernel
theorem dX11_init_58 : decode cX11_init 58 = .ok (.new 39, 3) := by decide +kernel
theorem dX11_init_61 : decode cX11_init 61 = .ok (.dup, 1) := by decide +kernel
theorem dX11_init_62 : decode cX11_init 62 = .ok (.invokespecial 41, 3) := by decide +kernel
theorem dX11_init_65 : decode cX11_init 65 = .ok (.putfield 42, 3) := by decide +kernel
theorem dX11_init_68 : decode cX11_init 68 = .ok (.aload_n 0, 1) := by decide +kernel
theorem dX11_init_69 : decode cX11_init 69 = .ok (.new 46, 3) := by decide +kernel
theorem dX11_init_72 : decode cX11_init 72 = .ok (.dup, 1) := by decide +kernel
theorem dX11_init_73 : decode cX11_init 73 = .ok (.invokespecial 48, 3) := by decide +kernel
theorem dX11_init_76 : decode cX11_init 76 = .ok (.putfield 49, 3) := by decide +kernel
theorem dX11_init_79 : decode cX11_init 79 = .ok (.aload_n 0, 1) := by decide +kernel
theorem dX11_init_80 : decode cX11_init 80 = .ok (.new 53, 3) := by decide +kernel
theorem dX11_init_83 : decode cX11_init 83 = .ok (.dup, 1) := by decide +kernel
theorem dX11_init_84 : decode cX11_init 84 = .ok (.invokespecial 55, 3) := by decide +kernel
theorem dX11_init_87 : decode cX11_init 87 = .ok (.putfield 56, 3) := by decide +kernel
theorem dX11_init_90 : decode cX11_init 90 = .ok (.iconst 0, 1) := by decide +kernel
theorem dX11_init_91 : decode cX11_init 91 = .ok (.istore_n 1, 1) := by decide +kernel
theorem dX11_init_92 : decode cX11_init 92 = .ok (.iload_n 1, 1) := by decide +kernel
theorem dX11_init_93 : decode cX11_init 93 = .ok (.bipush 8, 2) := by decide +kernel
theorem dX11_init_95 : decode cX11_init 95 = .ok (.if_icmp .ge 22, 3) := by decide +kernel
theorem dX11_init_98 : decode cX11_init 98 = .ok (.aload_n 0, 1) := by decide +kernel
theorem dX11_init_99 : decode cX11_init 99 = .ok (.getfield 21, 3) := by decide +kernel
theorem dX11_init_102 : decode cX11_init 102 = .ok (.iload_n 1, 1) := by decide +kernel
theorem dX11_init_103 : decode cX11_init 103 = .ok (.new 19, 3) := by decide +kernel
theorem dX11_init_106 : decode cX11_init 106 = .ok (.dup, 1) := by decide +kernel
theorem dX11_init_107 : decode cX11_init 107 = .ok (.invokespecial 60, 3) := by decide +kernel
theorem dX11_init_110 : decode cX11_init 110 = .ok (.aastore, 1) := by decide +kernel
theorem dX11_init_111 : decode cX11_init 111 = .ok (.iinc 1 1, 3) := by decide +kernel
theorem dX11_init_114 : decode cX11_init 114 = .ok (.goto (-22), 3) := by decide +kernel
theorem dX11_init_117 : decode cX11_init 117 = .ok (.return_, 1) := by decide +kernel
theorem dX11_light_0 : decode cX11_light 0 = .ok (.iload_n 1, 1) := by decide +kernel
theorem dX11_light_1 : decode cX11_light 1 = .ok (.iconst 0, 1) := by decide +kernel
theorem dX11_light_2 : decode cX11_light 2 = .ok (.bipush 7, 2) := by decide +kernel
theorem dX11_light_4 : decode cX11_light 4 = .ok (.invokestatic 61, 3) := by decide +kernel
theorem dX11_light_7 : decode cX11_light 7 = .ok (.ifCond .eq 36, 3) := by decide +kernel
theorem dX11_light_10 : decode cX11_light 10 = .ok (.iload_n 2, 1) := by decide +kernel
theorem dX11_light_11 : decode cX11_light 11 = .ok (.iconst 1, 1) := by decide +kernel
theorem dX11_light_12 : decode cX11_light 12 = .ok (.sipush 9999, 3) := by decide +kernel
theorem dX11_light_15 : decode cX11_light 15 = .ok (.invokestatic 61, 3) := by decide +kernel
theorem dX11_light_18 : decode cX11_light 18 = .ok (.ifCond .eq 25, 3) := by decide +kernel
theorem dX11_light_21 : decode cX11_light 21 = .ok (.iload_n 3, 1) := by decide +kernel
theorem dX11_light_22 : decode cX11_light 22 = .ok (.iconst 0, 1) := by decide +kernel
theorem dX11_light_23 : decode cX11_light 23 = .ok (.bipush 100, 2) := by decide +kernel
theorem dX11_light_25 : decode cX11_light 25 = .ok (.invokestatic 61, 3) := by decide +kernel
theorem dX11_light_28 : decode cX11_light 28 = .ok (.ifCond .eq 15, 3) := by decide +kernel
theorem dX11_light_31 : decode cX11_light 31 = .ok (.iload 4, 2) := by decide +kernel
theorem dX11_light_33 : decode cX11_light 33 = .ok (.iconst 0, 1) := by decide +kernel
theorem dX11_light_34 : decode cX11_light 34 = .ok (.sipush 200, 3) := by decide +kernel
theorem dX11_light_37 : decode cX11_light 37 = .ok (.invokestatic 61, 3) := by decide +kernel
theorem dX11_light_40 : decode cX11_light 40 = .ok (.ifCond .ne 5, 3) := by decide +kernel
theorem dX11_light_43 : decode cX11_light 43 = .ok (.iconst (-1), 1) := by decide +kernel
theorem dX11_light_44 : decode cX11_light 44 = .ok (.ireturn, 1) := by decide +kernel
theorem dX11_light_45 : decode cX11_light 45 = .ok (.aload_n 0, 1) := by decide +kernel
theorem dX11_light_46 : decode cX11_light 46 = .ok (.getfield 10, 3) := by decide +kernel
theorem dX11_light_49 : decode cX11_light 49 = .ok (.getfield 65, 3) := by decide +kernel
theorem dX11_light_52 : decode cX11_light 52 = .ok (.bipush 12, 2) := by decide +kernel
theorem dX11_light_54 : decode cX11_light 54 = .ok (.if_icmp .lt 6, 3) := by decide +kernel
theorem dX11_light_57 : decode cX11_light 57 = .ok (.bipush (-2), 2) := by decide +kernel
theorem dX11_light_59 : decode cX11_light 59 = .ok (.ireturn, 1) := by decide +kernel
theorem dX11_light_60 : decode cX11_light 60 = .ok (.aload_n 0, 1) := by decide +kernel
theorem dX11_light_61 : decode cX11_light 61 = .ok (.getfield 10, 3) := by decide +kernel
theorem dX11_light_64 : decode cX11_light 64 = .ok (.getfield 65, 3) := by decide +kernel
theorem dX11_light_67 : decode cX11_light 67 = .ok (.istore 5, 2) := by decide +kernel
theorem dX11_light_69 : decode cX11_light 69 = .ok (.aload_n 0, 1) := by decide +kernel
theorem dX11_light_70 : decode cX11_light 70 = .ok (.getfield 10, 3) := by decide +kernel
theorem dX11_light_73 : decode cX11_light 73 = .ok (.getfield 69, 3) := by decide +kernel
theorem dX11_light_76 : decode cX11_light 76 = .ok (.iload 5, 2) := by decide +kernel
theorem dX11_light_78 : decode cX11_light 78 = .ok (.aaload, 1) := by decide +kernel
theorem dX11_light_79 : decode cX11_light 79 = .ok (.astore 6, 2) := by decide +kernel
theorem dX11_light_81 : decode cX11_light 81 = .ok (.aload 6, 2) := by decide +kernel
theorem dX11_light_83 : decode cX11_light 83 = .ok (.iload 5, 2) := by decide +kernel
theorem dX11_light_85 : decode cX11_light 85 = .ok (.putfield 73, 3) := by decide +kernel
theorem dX11_light_88 : decode cX11_light 88 = .ok (.aload 6, 2) := by decide +kernel
theorem dX11_light_90 : decode cX11_light 90 = .ok (.iload_n 1, 1) := by decide +kernel
theorem dX11_light_91 : decode cX11_light 91 = .ok (.putfield 78, 3) := by decide +kernel
theorem dX11_light_94 : decode cX11_light 94 = .ok (.aload 6, 2) := by decide +kernel
theorem dX11_light_96 : decode cX11_light 96 = .ok (.iload_n 2, 1) := by decide +kernel
theorem dX11_light_97 : decode cX11_light 97 = .ok (.putfield 81, 3) := by decide +kernel
theorem dX11_light_100 : decode cX11_light 100 = .ok (.aload 6, 2) := by decide +kernel
theorem dX11_light_102 : decode cX11_light 102 = .ok (.iload_n 3, 1) := by decide +kernel
theorem dX11_light_103 : decode cX11_light 103 = .ok (.putfield 84, 3) := by decide +kernel
theorem dX11_light_106 : decode cX11_light 106 = .ok (.aload 6, 2) := by decide +kernel
theorem dX11_light_108 : decode cX11_light 108 = .ok (.iload 4, 2) := by decide +kernel
theorem dX11_light_110 : decode cX11_light 110 = .ok (.putfield 87, 3) := by decide +kernel
theorem dX11_light_113 : decode cX11_light 113 = .ok (.aload 6, 2) := by decide +kernel
theorem dX11_light_115 : decode cX11_light 115 = .ok (.iconst 0, 1) := by decide +kernel
theorem dX11_light_116 : decode cX11_light 116 = .ok (.putfield 90, 3) := by decide +kernel
theorem dX11_light_119 : decode cX11_light 119 = .ok (.aload_n 0, 1) := by decide +kernel
theorem dX11_light_120 : decode cX11_light 120 = .ok (.getfield 10, 3) := by decide +kernel
theorem dX11_light_123 : decode cX11_light 123 = .ok (.dup, 1) := by decide +kernel
theorem dX11_light_124 : decode cX11_light 124 = .ok (.getfield 65, 3) := by decide +kernel
theorem dX11_light_127 : decode cX11_light 127 = .ok (.iconst 1, 1) := by decide +kernel
theorem dX11_light_128 : decode cX11_light 128 = .ok (.iadd, 1) := by decide +kernel
theorem dX11_light_129 : decode cX11_light 129 = .ok (.putfield 65, 3) := by decide +kernel
theorem dX11_light_132 : decode cX11_light 132 = .ok (.iload 5, 2) := by decide +kernel
theorem dX11_light_134 : decode cX11_light 134 = .ok (.ireturn, 1) := by decide +kernel
theorem dX11_setting_0 : decode cX11_setting 0 = .ok (.aload_n 0, 1) := by decide +kernel
theorem dX11_setting_1 : decode cX11_setting 1 = .ok (.getfield 10, 3) := by decide +kernel
theorem dX11_setting_4 : decode cX11_setting 4 = .ok (.iload_n 1, 1) := by decide +kernel
theorem dX11_setting_5 : decode cX11_setting 5 = .ok (.invokevirtual 93, 3) := by decide +kernel
theorem dX11_setting_8 : decode cX11_setting 8 = .ok (.astore_n 3, 1) := by decide +kernel
theorem dX11_setting_9 : decode cX11_setting 9 = .ok (.aload_n 3, 1) := by decide +kernel
theorem dX11_setting_10 : decode cX11_setting 10 = .ok (.ifnull 14, 3) := by decide +kernel
theorem dX11_setting_13 : decode cX11_setting 13 = .ok (.iload_n 2, 1) := by decide +kernel
theorem dX11_setting_14 : decode cX11_setting 14 = .ok (.iconst 0, 1) := by decide +kernel
theorem dX11_setting_15 : decode cX11_setting 15 = .ok (.sipush 200, 3) := by decide +kernel
theorem dX11_setting_18 : decode cX11_setting 18 = .ok (.invokestatic 61, 3) := by decide +kernel
theorem dX11_setting_21 : decode cX11_setting 21 = .ok (.ifCond .ne 5, 3) := by decide +kernel
theorem dX11_setting_24 : decode cX11_setting 24 = .ok (.iconst (-1), 1) := by decide +kernel
theorem dX11_setting_25 : decode cX11_setting 25 = .ok (.ireturn, 1) := by decide +kernel
theorem dX11_setting_26 : decode cX11_setting 26 = .ok (.aload_n 3, 1) := by decide +kernel
theorem dX11_setting_27 : decode cX11_setting 27 = .ok (.getfield 87, 3) := by decide +kernel
theorem dX11_setting_30 : decode cX11_setting 30 = .ok (.istore 4, 2) := by decide +kernel
theorem dX11_setting_32 : decode cX11_setting 32 = .ok (.aload_n 3, 1) := by decide +kernel
theorem dX11_setting_33 : decode cX11_setting 33 = .ok (.iload_n 2, 1) := by decide +kernel
theorem dX11_setting_34 : decode cX11_setting 34 = .ok (.putfield 87, 3) := by decide +kernel
theorem dX11_setting_37 : decode cX11_setting 37 = .ok (.iload 4, 2) := by decide +kernel
theorem dX11_setting_39 : decode cX11_setting 39 = .ok (.ireturn, 1) := by decide +kernel
theorem dX11_burn_0 : decode cX11_burn 0 = .ok (.aload_n 0, 1) := by decide +kernel
theorem dX11_burn_1 : decode cX11_burn 1 = .ok (.getfield 10, 3) := by decide +kernel
theorem dX11_burn_4 : decode cX11_burn 4 = .ok (.iload_n 1, 1) := by decide +kernel
theorem dX11_burn_5 : decode cX11_burn 5 = .ok (.invokevirtual 93, 3) := by decide +kernel
theorem dX11_burn_8 : decode cX11_burn 8 = .ok (.astore_n 3, 1) := by decide +kernel
theorem dX11_burn_9 : decode cX11_burn 9 = .ok (.aload_n 3, 1) := by decide +kernel
theorem dX11_burn_10 : decode cX11_burn 10 = .ok (.ifnull 14, 3) := by decide +kernel
theorem dX11_burn_13 : decode cX11_burn 13 = .ok (.iload_n 2, 1) := by decide +kernel
theorem dX11_burn_14 : decode cX11_burn 14 = .ok (.iconst 1, 1) := by decide +kernel
theorem dX11_burn_15 : decode cX11_burn 15 = .ok (.sipush 999, 3) := by decide +kernel
theorem dX11_burn_18 : decode cX11_burn 18 = .ok (.invokestatic 61, 3) := by decide +kernel
theorem dX11_burn_21 : decode cX11_burn 21 = .ok (.ifCond .ne 5, 3) := by decide +kernel
theorem dX11_burn_24 : decode cX11_burn 24 = .ok (.iconst (-1), 1) := by decide +kernel
theorem dX11_burn_25 : decode cX11_burn 25 = .ok (.ireturn, 1) := by decide +kernel
theorem dX11_burn_26 : decode cX11_burn 26 = .ok (.aload_n 3, 1) := by decide +kernel
theorem dX11_burn_27 : decode cX11_burn 27 = .ok (.getfield 90, 3) := by decide +kernel
theorem dX11_burn_30 : decode cX11_burn 30 = .ok (.iload_n 2, 1) := by decide +kernel
theorem dX11_burn_31 : decode cX11_burn 31 = .ok (.iadd, 1) := by decide +kernel
theorem dX11_burn_32 : decode cX11_burn 32 = .ok (.ldc 97, 2) := by decide +kernel
theorem dX11_burn_34 : decode cX11_burn 34 = .ok (.if_icmp .le 6, 3) := by decide +kernel
theorem dX11_burn_37 : decode cX11_burn 37 = .ok (.bipush (-2), 2) := by decide +kernel
theorem dX11_burn_39 : decode cX11_burn 39 = .ok (.ireturn, 1) := by decide +kernel
theorem dX11_burn_40 : decode cX11_burn 40 = .ok (.aload_n 3, 1) := by decide +kernel
theorem dX11_burn_41 : decode cX11_burn 41 = .ok (.dup, 1) := by decide +kernel
theorem dX11_burn_42 : decode cX11_burn 42 = .ok (.getfield 90, 3) := by decide +kernel
theorem dX11_burn_45 : decode cX11_burn 45 = .ok (.iload_n 2, 1) := by decide +kernel
theorem dX11_burn_46 : decode cX11_burn 46 = .ok (.iadd, 1) := by decide +kernel
theorem dX11_burn_47 : decode cX11_burn 47 = .ok (.putfield 90, 3) := by decide +kernel
theorem dX11_burn_50 : decode cX11_burn 50 = .ok (.aload_n 3, 1) := by decide +kernel
theorem dX11_burn_51 : decode cX11_burn 51 = .ok (.getfield 90, 3) := by decide +kernel
theorem dX11_burn_54 : decode cX11_burn 54 = .ok (.ireturn, 1) := by decide +kernel
theorem dX11_damp_0 : decode cX11_damp 0 = .ok (.iload_n 1, 1) := by decide +kernel
theorem dX11_damp_1 : decode cX11_damp 1 = .ok (.iconst 0, 1) := by decide +kernel
theorem dX11_damp_2 : decode cX11_damp 2 = .ok (.bipush 50, 2) := by decide +kernel
theorem dX11_damp_4 : decode cX11_damp 4 = .ok (.invokestatic 61, 3) := by decide +kernel
theorem dX11_damp_7 : decode cX11_damp 7 = .ok (.ifCond .ne 5, 3) := by decide +kernel
theorem dX11_damp_10 : decode cX11_damp 10 = .ok (.iconst (-1), 1) := by decide +kernel
theorem dX11_damp_11 : decode cX11_damp 11 = .ok (.ireturn, 1) := by decide +kernel
theorem dX11_damp_12 : decode cX11_damp 12 = .ok (.aload_n 0, 1) := by decide +kernel
theorem dX11_damp_13 : decode cX11_damp 13 = .ok (.getfield 10, 3) := by decide +kernel
theorem dX11_damp_16 : decode cX11_damp 16 = .ok (.getfield 98, 3) := by decide +kernel
theorem dX11_damp_19 : decode cX11_damp 19 = .ok (.istore_n 2, 1) := by decide +kernel
theorem dX11_damp_20 : decode cX11_damp 20 = .ok (.aload_n 0, 1) := by decide +kernel
theorem dX11_damp_21 : decode cX11_damp 21 = .ok (.getfield 10, 3) := by decide +kernel
theorem dX11_damp_24 : decode cX11_damp 24 = .ok (.iload_n 1, 1) := by decide +kernel
theorem dX11_damp_25 : decode cX11_damp 25 = .ok (.putfield 98, 3) := by decide +kernel
theorem dX11_damp_28 : decode cX11_damp 28 = .ok (.iload_n 2, 1) := by decide +kernel
theorem dX11_damp_29 : decode cX11_damp 29 = .ok (.ireturn, 1) := by decide +kernel
theorem dX11_of_0 : decode cX11_of 0 = .ok (.aload_n 0, 1) := by decide +kernel
theorem dX11_of_1 : decode cX11_of 1 = .ok (.getfield 10, 3) := by decide +kernel
theorem dX11_of_4 : decode cX11_of 4 = .ok (.iload_n 1, 1) := by decide +kernel
theorem dX11_of_5 : decode cX11_of 5 = .ok (.invokevirtual 93, 3) := by decide +kernel
theorem dX11_of_8 : decode cX11_of 8 = .ok (.astore_n 3, 1) := by decide +kernel
theorem dX11_of_9 : decode cX11_of 9 = .ok (.aload_n 3, 1) := by decide +kernel
theorem dX11_of_10 : decode cX11_of 10 = .ok (.ifnonnull 5, 3) := by decide +kernel
theorem dX11_of_13 : decode cX11_of 13 = .ok (.iconst (-1), 1) := by decide +kernel
theorem dX11_of_14 : decode cX11_of 14 = .ok (.ireturn, 1) := by decide +kernel
theorem dX11_of_15 : decode cX11_of 15 = .ok (.iload_n 2, 1) := by decide +kernel
theorem dX11_of_16 : decode cX11_of 16 = .ok (.tableswitch 93 0 6 #[44, 49, 54, 59, 64, 69, 81], 44) := by decide +kernel
theorem dX11_of_60 : decode cX11_of 60 = .ok (.aload_n 3, 1) := by decide +kernel
theorem dX11_of_61 : decode cX11_of 61 = .ok (.getfield 78, 3) := by decide +kernel
theorem dX11_of_64 : decode cX11_of 64 = .ok (.ireturn, 1) := by decide +kernel
theorem dX11_of_65 : decode cX11_of 65 = .ok (.aload_n 3, 1) := by decide +kernel
theorem dX11_of_66 : decode cX11_of 66 = .ok (.getfield 81, 3) := by decide +kernel
theorem dX11_of_69 : decode cX11_of 69 = .ok (.ireturn, 1) := by decide +kernel
theorem dX11_of_70 : decode cX11_of 70 = .ok (.aload_n 3, 1) := by decide +kernel
theorem dX11_of_71 : decode cX11_of 71 = .ok (.getfield 84, 3) := by decide +kernel
theorem dX11_of_74 : decode cX11_of 74 = .ok (.ireturn, 1) := by decide +kernel
theorem dX11_of_75 : decode cX11_of 75 = .ok (.aload_n 3, 1) := by decide +kernel
theorem dX11_of_76 : decode cX11_of 76 = .ok (.getfield 87, 3) := by decide +kernel
theorem dX11_of_79 : decode cX11_of 79 = .ok (.ireturn, 1) := by decide +kernel
theorem dX11_of_80 : decode cX11_of 80 = .ok (.aload_n 3, 1) := by decide +kernel
theorem dX11_of_81 : decode cX11_of 81 = .ok (.getfield 90, 3) := by decide +kernel
theorem dX11_of_84 : decode cX11_of 84 = .ok (.ireturn, 1) := by decide +kernel
theorem dX11_of_85 : decode cX11_of 85 = .ok (.aload_n 3, 1) := by decide +kernel
theorem dX11_of_86 : decode cX11_of 86 = .ok (.aload_n 0, 1) := by decide +kernel
theorem dX11_of_87 : decode cX11_of 87 = .ok (.getfield 10, 3) := by decide +kernel
theorem dX11_of_90 : decode cX11_of 90 = .ok (.getfield 98, 3) := by decide +kernel
theorem dX11_of_93 : decode cX11_of 93 = .ok (.invokevirtual 101, 3) := by decide +kernel
theorem dX11_of_96 : decode cX11_of 96 = .ok (.ireturn, 1) := by decide +kernel
theorem dX11_of_97 : decode cX11_of 97 = .ok (.aload_n 3, 1) := by decide +kernel
theorem dX11_of_98 : decode cX11_of 98 = .ok (.aload_n 0, 1) := by decide +kernel
theorem dX11_of_99 : decode cX11_of 99 = .ok (.getfield 10, 3) := by decide +kernel
theorem dX11_of_102 : decode cX11_of 102 = .ok (.getfield 98, 3) := by decide +kernel
theorem dX11_of_105 : decode cX11_of 105 = .ok (.invokevirtual 105, 3) := by decide +kernel
theorem dX11_of_108 : decode cX11_of 108 = .ok (.ireturn, 1) := by decide +kernel
theorem dX11_of_109 : decode cX11_of 109 = .ok (.iconst (-1), 1) := by decide +kernel
theorem dX11_of_110 : decode cX11_of 110 = .ok (.ireturn, 1) := by decide +kernel
theorem dX11_eye_0 : decode cX11_eye 0 = .ok (.aload_n 0, 1) := by decide +kernel
theorem dX11_eye_1 : decode cX11_eye 1 = .ok (.getfield 10, 3) := by decide +kernel
theorem dX11_eye_4 : decode cX11_eye 4 = .ok (.iload_n 1, 1) := by decide +kernel
theorem dX11_eye_5 : decode cX11_eye 5 = .ok (.invokevirtual 108, 3) := by decide +kernel
theorem dX11_eye_8 : decode cX11_eye 8 = .ok (.astore 4, 2) := by decide +kernel
theorem dX11_eye_10 : decode cX11_eye 10 = .ok (.aload 4, 2) := by decide +kernel
theorem dX11_eye_12 : decode cX11_eye 12 = .ok (.ifnull 12, 3) := by decide +kernel
theorem dX11_eye_15 : decode cX11_eye 15 = .ok (.iload_n 2, 1) := by decide +kernel
theorem dX11_eye_16 : decode cX11_eye 16 = .ok (.iconst 0, 1) := by decide +kernel
theorem dX11_eye_17 : decode cX11_eye 17 = .ok (.iconst 2, 1) := by decide +kernel
theorem dX11_eye_18 : decode cX11_eye 18 = .ok (.invokestatic 61, 3) := by decide +kernel
theorem dX11_eye_21 : decode cX11_eye 21 = .ok (.ifCond .ne 5, 3) := by decide +kernel
theorem dX11_eye_24 : decode cX11_eye 24 = .ok (.iconst (-1), 1) := by decide +kernel
theorem dX11_eye_25 : decode cX11_eye 25 = .ok (.ireturn, 1) := by decide +kernel
theorem dX11_eye_26 : decode cX11_eye 26 = .ok (.iload_n 2, 1) := by decide +kernel
theorem dX11_eye_27 : decode cX11_eye 27 = .ok (.iconst 2, 1) := by decide +kernel
theorem dX11_eye_28 : decode cX11_eye 28 = .ok (.if_icmp .ne 13, 3) := by decide +kernel
theorem dX11_eye_31 : decode cX11_eye 31 = .ok (.iload_n 3, 1) := by decide +kernel
theorem dX11_eye_32 : decode cX11_eye 32 = .ok (.iconst 0, 1) := by decide +kernel
theorem dX11_eye_33 : decode cX11_eye 33 = .ok (.bipush 20, 2) := by decide +kernel
theorem dX11_eye_35 : decode cX11_eye 35 = .ok (.invokestatic 61, 3) := by decide +kernel
theorem dX11_eye_38 : decode cX11_eye 38 = .ok (.goto 11, 3) := by decide +kernel
theorem dX11_eye_41 : decode cX11_eye 41 = .ok (.iload_n 3, 1) := by decide +kernel
theorem dX11_eye_42 : decode cX11_eye 42 = .ok (.iconst 1, 1) := by decide +kernel
theorem dX11_eye_43 : decode cX11_eye 43 = .ok (.sipush 200, 3) := by decide +kernel
theorem dX11_eye_46 : decode cX11_eye 46 = .ok (.invokestatic 61, 3) := by decide +kernel
theorem dX11_eye_49 : decode cX11_eye 49 = .ok (.istore 5, 2) := by decide +kernel
theorem dX11_eye_51 : decode cX11_eye 51 = .ok (.iload 5, 2) := by decide +kernel
theorem dX11_eye_53 : decode cX11_eye 53 = .ok (.ifCond .ne 5, 3) := by decide +kernel
theorem dX11_eye_56 : decode cX11_eye 56 = .ok (.iconst (-1), 1) := by decide +kernel
theorem dX11_eye_57 : decode cX11_eye 57 = .ok (.ireturn, 1) := by decide +kernel
theorem dX11_eye_58 : decode cX11_eye 58 = .ok (.aload 4, 2) := by decide +kernel
theorem dX11_eye_60 : decode cX11_eye 60 = .ok (.iload_n 2, 1) := by decide +kernel
theorem dX11_eye_61 : decode cX11_eye 61 = .ok (.invokevirtual 112, 3) := by decide +kernel
theorem dX11_eye_64 : decode cX11_eye 64 = .ok (.istore 6, 2) := by decide +kernel
theorem dX11_eye_66 : decode cX11_eye 66 = .ok (.aload 4, 2) := by decide +kernel
theorem dX11_eye_68 : decode cX11_eye 68 = .ok (.iload_n 2, 1) := by decide +kernel
theorem dX11_eye_69 : decode cX11_eye 69 = .ok (.iload_n 3, 1) := by decide +kernel
theorem dX11_eye_70 : decode cX11_eye 70 = .ok (.invokevirtual 115, 3) := by decide +kernel
theorem dX11_eye_73 : decode cX11_eye 73 = .ok (.iload 6, 2) := by decide +kernel
theorem dX11_eye_75 : decode cX11_eye 75 = .ok (.ireturn, 1) := by decide +kernel
theorem dX11_seen_0 : decode cX11_seen 0 = .ok (.aload_n 0, 1) := by decide +kernel
theorem dX11_seen_1 : decode cX11_seen 1 = .ok (.getfield 10, 3) := by decide +kernel
theorem dX11_seen_4 : decode cX11_seen 4 = .ok (.iload_n 1, 1) := by decide +kernel
theorem dX11_seen_5 : decode cX11_seen 5 = .ok (.invokevirtual 93, 3) := by decide +kernel
theorem dX11_seen_8 : decode cX11_seen 8 = .ok (.astore 4, 2) := by decide +kernel
theorem dX11_seen_10 : decode cX11_seen 10 = .ok (.aload_n 0, 1) := by decide +kernel
theorem dX11_seen_11 : decode cX11_seen 11 = .ok (.getfield 10, 3) := by decide +kernel
theorem dX11_seen_14 : decode cX11_seen 14 = .ok (.iload_n 2, 1) := by decide +kernel
theorem dX11_seen_15 : decode cX11_seen 15 = .ok (.invokevirtual 108, 3) := by decide +kernel
theorem dX11_seen_18 : decode cX11_seen 18 = .ok (.astore 5, 2) := by decide +kernel
theorem dX11_seen_20 : decode cX11_seen 20 = .ok (.aload 4, 2) := by decide +kernel
theorem dX11_seen_22 : decode cX11_seen 22 = .ok (.ifnull 18, 3) := by decide +kernel
theorem dX11_seen_25 : decode cX11_seen 25 = .ok (.aload 5, 2) := by decide +kernel
theorem dX11_seen_27 : decode cX11_seen 27 = .ok (.ifnull 13, 3) := by decide +kernel
theorem dX11_seen_30 : decode cX11_seen 30 = .ok (.iload_n 3, 1) := by decide +kernel
theorem dX11_seen_31 : decode cX11_seen 31 = .ok (.iconst 0, 1) := by decide +kernel
theorem dX11_seen_32 : decode cX11_seen 32 = .ok (.bipush 9, 2) := by decide +kernel
theorem dX11_seen_34 : decode cX11_seen 34 = .ok (.invokestatic 61, 3) := by decide +kernel
theorem dX11_seen_37 : decode cX11_seen 37 = .ok (.ifCond .ne 7, 3) := by decide +kernel
theorem dX11_seen_40 : decode cX11_seen 40 = .ok (.ldc2_w 119, 3) := by decide +kernel
theorem dX11_seen_43 : decode cX11_seen 43 = .ok (.lreturn, 1) := by decide +kernel
theorem dX11_seen_44 : decode cX11_seen 44 = .ok (.aload 5, 2) := by decide +kernel
theorem dX11_seen_46 : decode cX11_seen 46 = .ok (.aload 4, 2) := by decide +kernel
theorem dX11_seen_48 : decode cX11_seen 48 = .ok (.aload_n 0, 1) := by decide +kernel
theorem dX11_seen_49 : decode cX11_seen 49 = .ok (.getfield 10, 3) := by decide +kernel
theorem dX11_seen_52 : decode cX11_seen 52 = .ok (.getfield 98, 3) := by decide +kernel
theorem dX11_seen_55 : decode cX11_seen 55 = .ok (.iload_n 3, 1) := by decide +kernel
theorem dX11_seen_56 : decode cX11_seen 56 = .ok (.invokevirtual 121, 3) := by decide +kernel
theorem dX11_seen_59 : decode cX11_seen 59 = .ok (.lreturn, 1) := by decide +kernel
theorem dX11_alike_0 : decode cX11_alike 0 = .ok (.aload_n 0, 1) := by decide +kernel
theorem dX11_alike_1 : decode cX11_alike 1 = .ok (.getfield 10, 3) := by decide +kernel
theorem dX11_alike_4 : decode cX11_alike 4 = .ok (.iload_n 3, 1) := by decide +kernel
theorem dX11_alike_5 : decode cX11_alike 5 = .ok (.invokevirtual 108, 3) := by decide +kernel
theorem dX11_alike_8 : decode cX11_alike 8 = .ok (.astore 5, 2) := by decide +kernel
theorem dX11_alike_10 : decode cX11_alike 10 = .ok (.aload_n 0, 1) := by decide +kernel
theorem dX11_alike_11 : decode cX11_alike 11 = .ok (.getfield 10, 3) := by decide +kernel
theorem dX11_alike_14 : decode cX11_alike 14 = .ok (.iload_n 1, 1) := by decide +kernel
theorem dX11_alike_15 : decode cX11_alike 15 = .ok (.iload_n 2, 1) := by decide +kernel
theorem dX11_alike_16 : decode cX11_alike 16 = .ok (.invokevirtual 125, 3) := by decide +kernel
theorem dX11_alike_19 : decode cX11_alike 19 = .ok (.ifCond .eq 19, 3) := by decide +kernel
theorem dX11_alike_22 : decode cX11_alike 22 = .ok (.aload 5, 2) := by decide +kernel
theorem dX11_alike_24 : decode cX11_alike 24 = .ok (.ifnull 14, 3) := by decide +kernel
theorem dX11_alike_27 : decode cX11_alike 27 = .ok (.iload 4, 2) := by decide +kernel
theorem dX11_alike_29 : decode cX11_alike 29 = .ok (.iconst 0, 1) := by decide +kernel
theorem dX11_alike_30 : decode cX11_alike 30 = .ok (.bipush 9, 2) := by decide +kernel
theorem dX11_alike_32 : decode cX11_alike 32 = .ok (.invokestatic 61, 3) := by decide +kernel
theorem dX11_alike_35 : decode cX11_alike 35 = .ok (.ifCond .ne 5, 3) := by decide +kernel
theorem dX11_alike_38 : decode cX11_alike 38 = .ok (.iconst (-1), 1) := by decide +kernel
theorem dX11_alike_39 : decode cX11_alike 39 = .ok (.ireturn, 1) := by decide +kernel
theorem dX11_alike_40 : decode cX11_alike 40 = .ok (.aload_n 0, 1) := by decide +kernel
theorem dX11_alike_41 : decode cX11_alike 41 = .ok (.getfield 10, 3) := by decide +kernel
theorem dX11_alike_44 : decode cX11_alike 44 = .ok (.iload_n 1, 1) := by decide +kernel
theorem dX11_alike_45 : decode cX11_alike 45 = .ok (.iload_n 2, 1) := by decide +kernel
theorem dX11_alike_46 : decode cX11_alike 46 = .ok (.aload 5, 2) := by decide +kernel
theorem dX11_alike_48 : decode cX11_alike 48 = .ok (.iload 4, 2) := by decide +kernel
theorem dX11_alike_50 : decode cX11_alike 50 = .ok (.invokevirtual 129, 3) := by decide +kernel
theorem dX11_alike_53 : decode cX11_alike 53 = .ok (.ireturn, 1) := by decide +kernel
theorem dX11_match_0 : decode cX11_match 0 = .ok (.aload_n 0, 1) := by decide +kernel
theorem dX11_match_1 : decode cX11_match 1 = .ok (.getfield 10, 3) := by decide +kernel
theorem dX11_match_4 : decode cX11_match 4 = .ok (.iload_n 3, 1) := by decide +kernel
theorem dX11_match_5 : decode cX11_match 5 = .ok (.invokevirtual 108, 3) := by decide +kernel
theorem dX11_match_8 : decode cX11_match 8 = .ok (.astore 5, 2) := by decide +kernel
theorem dX11_match_10 : decode cX11_match 10 = .ok (.aload_n 0, 1) := by decide +kernel
theorem dX11_match_11 : decode cX11_match 11 = .ok (.getfield 10, 3) := by decide +kernel
theorem dX11_match_14 : decode cX11_match 14 = .ok (.iload_n 1, 1) := by decide +kernel
theorem dX11_match_15 : decode cX11_match 15 = .ok (.iload_n 2, 1) := by decide +kernel
theorem dX11_match_16 : decode cX11_match 16 = .ok (.invokevirtual 125, 3) := by decide +kernel
theorem dX11_match_19 : decode cX11_match 19 = .ok (.ifCond .eq 8, 3) := by decide +kernel
theorem dX11_match_22 : decode cX11_match 22 = .ok (.aload 5, 2) := by decide +kernel
theorem dX11_match_24 : decode cX11_match 24 = .ok (.ifnonnull 5, 3) := by decide +kernel
theorem dX11_match_27 : decode cX11_match 27 = .ok (.iconst (-1), 1) := by decide +kernel
theorem dX11_match_28 : decode cX11_match 28 = .ok (.ireturn, 1) := by decide +kernel
theorem dX11_match_29 : decode cX11_match 29 = .ok (.aload_n 0, 1) := by decide +kernel
theorem dX11_match_30 : decode cX11_match 30 = .ok (.getfield 10, 3) := by decide +kernel
theorem dX11_match_33 : decode cX11_match 33 = .ok (.iload_n 1, 1) := by decide +kernel
theorem dX11_match_34 : decode cX11_match 34 = .ok (.iload_n 2, 1) := by decide +kernel
theorem dX11_match_35 : decode cX11_match 35 = .ok (.iload_n 3, 1) := by decide +kernel
theorem dX11_match_36 : decode cX11_match 36 = .ok (.aload_n 0, 1) := by decide +kernel
theorem dX11_match_37 : decode cX11_match 37 = .ok (.getfield 10, 3) := by decide +kernel
theorem dX11_match_40 : decode cX11_match 40 = .ok (.iload_n 1, 1) := by decide +kernel
theorem dX11_match_41 : decode cX11_match 41 = .ok (.iload_n 2, 1) := by decide +kernel
theorem dX11_match_42 : decode cX11_match 42 = .ok (.aload 5, 2) := by decide +kernel
theorem dX11_match_44 : decode cX11_match 44 = .ok (.iconst 0, 1) := by decide +kernel
theorem dX11_match_45 : decode cX11_match 45 = .ok (.invokevirtual 129, 3) := by decide +kernel
theorem dX11_match_48 : decode cX11_match 48 = .ok (.iload 4, 2) := by decide +kernel
theorem dX11_match_50 : decode cX11_match 50 = .ok (.invokevirtual 133, 3) := by decide +kernel
theorem dX11_match_53 : decode cX11_match 53 = .ok (.ireturn, 1) := by decide +kernel
theorem dX11_hear_0 : decode cX11_hear 0 = .ok (.aload_n 0, 1) := by decide +kernel
theorem dX11_hear_1 : decode cX11_hear 1 = .ok (.iload_n 1, 1) := by decide +kernel
theorem dX11_hear_2 : decode cX11_hear 2 = .ok (.iconst 2, 1) := by decide +kernel
theorem dX11_hear_3 : decode cX11_hear 3 = .ok (.invokevirtual 137, 3) := by decide +kernel
theorem dX11_hear_6 : decode cX11_hear 6 = .ok (.istore_n 2, 1) := by decide +kernel
theorem dX11_hear_7 : decode cX11_hear 7 = .ok (.iload_n 2, 1) := by decide +kernel
theorem dX11_hear_8 : decode cX11_hear 8 = .ok (.ifCond .eq 5, 3) := by decide +kernel
theorem dX11_hear_11 : decode cX11_hear 11 = .ok (.iload_n 2, 1) := by decide +kernel
theorem dX11_hear_12 : decode cX11_hear 12 = .ok (.ireturn, 1) := by decide +kernel
theorem dX11_hear_13 : decode cX11_hear 13 = .ok (.aload_n 0, 1) := by decide +kernel
theorem dX11_hear_14 : decode cX11_hear 14 = .ok (.getfield 21, 3) := by decide +kernel
theorem dX11_hear_17 : decode cX11_hear 17 = .ok (.iload_n 1, 1) := by decide +kernel
theorem dX11_hear_18 : decode cX11_hear 18 = .ok (.aaload, 1) := by decide +kernel
theorem dX11_hear_19 : decode cX11_hear 19 = .ok (.getfield 141, 3) := by decide +kernel
theorem dX11_hear_22 : decode cX11_hear 22 = .ok (.astore_n 3, 1) := by decide +kernel
theorem dX11_hear_23 : decode cX11_hear 23 = .ok (.iconst 0, 1) := by decide +kernel
theorem dX11_hear_24 : decode cX11_hear 24 = .ok (.istore 4, 2) := by decide +kernel
theorem dX11_hear_26 : decode cX11_hear 26 = .ok (.iconst 0, 1) := by decide +kernel
theorem dX11_hear_27 : decode cX11_hear 27 = .ok (.istore 5, 2) := by decide +kernel
theorem dX11_hear_29 : decode cX11_hear 29 = .ok (.iload 5, 2) := by decide +kernel
theorem dX11_hear_31 : decode cX11_hear 31 = .ok (.iconst 5, 1) := by decide +kernel
theorem dX11_hear_32 : decode cX11_hear 32 = .ok (.iadd, 1) := by decide +kernel
theorem dX11_hear_33 : decode cX11_hear 33 = .ok (.aload_n 3, 1) := by decide +kernel
theorem dX11_hear_34 : decode cX11_hear 34 = .ok (.getfield 145, 3) := by decide +kernel
theorem dX11_hear_37 : decode cX11_hear 37 = .ok (.if_icmp .gt 76, 3) := by decide +kernel
theorem dX11_hear_40 : decode cX11_hear 40 = .ok (.aload_n 3, 1) := by decide +kernel
theorem dX11_hear_41 : decode cX11_hear 41 = .ok (.iload 5, 2) := by decide +kernel
theorem dX11_hear_43 : decode cX11_hear 43 = .ok (.invokevirtual 150, 3) := by decide +kernel
theorem dX11_hear_46 : decode cX11_hear 46 = .ok (.ifCond .eq 6, 3) := by decide +kernel
theorem dX11_hear_49 : decode cX11_hear 49 = .ok (.goto 58, 3) := by decide +kernel
theorem dX11_hear_52 : decode cX11_hear 52 = .ok (.aload_n 3, 1) := by decide +kernel
theorem dX11_hear_53 : decode cX11_hear 53 = .ok (.getfield 154, 3) := by decide +kernel
theorem dX11_hear_56 : decode cX11_hear 56 = .ok (.astore 6, 2) := by decide +kernel
theorem dX11_hear_58 : decode cX11_hear 58 = .ok (.aload_n 0, 1) := by decide +kernel
theorem dX11_hear_59 : decode cX11_hear 59 = .ok (.getfield 10, 3) := by decide +kernel
theorem dX11_hear_62 : decode cX11_hear 62 = .ok (.aload 6, 2) := by decide +kernel
theorem dX11_hear_64 : decode cX11_hear 64 = .ok (.iload 5, 2) := by decide +kernel
theorem dX11_hear_66 : decode cX11_hear 66 = .ok (.iaload, 1) := by decide +kernel
theorem dX11_hear_67 : decode cX11_hear 67 = .ok (.aload 6, 2) := by decide +kernel
theorem dX11_hear_69 : decode cX11_hear 69 = .ok (.iload 5, 2) := by decide +kernel
theorem dX11_hear_71 : decode cX11_hear 71 = .ok (.iconst 1, 1) := by decide +kernel
theorem dX11_hear_72 : decode cX11_hear 72 = .ok (.iadd, 1) := by decide +kernel
theorem dX11_hear_73 : decode cX11_hear 73 = .ok (.iaload, 1) := by decide +kernel
theorem dX11_hear_74 : decode cX11_hear 74 = .ok (.aload 6, 2) := by decide +kernel
theorem dX11_hear_76 : decode cX11_hear 76 = .ok (.iload 5, 2) := by decide +kernel
theorem dX11_hear_78 : decode cX11_hear 78 = .ok (.iconst 2, 1) := by decide +kernel
theorem dX11_hear_79 : decode cX11_hear 79 = .ok (.iadd, 1) := by decide +kernel
theorem dX11_hear_80 : decode cX11_hear 80 = .ok (.iaload, 1) := by decide +kernel
theorem dX11_hear_81 : decode cX11_hear 81 = .ok (.aload 6, 2) := by decide +kernel
theorem dX11_hear_83 : decode cX11_hear 83 = .ok (.iload 5, 2) := by decide +kernel
theorem dX11_hear_85 : decode cX11_hear 85 = .ok (.iconst 3, 1) := by decide +kernel
theorem dX11_hear_86 : decode cX11_hear 86 = .ok (.iadd, 1) := by decide +kernel
theorem dX11_hear_87 : decode cX11_hear 87 = .ok (.iaload, 1) := by decide +kernel
theorem dX11_hear_88 : decode cX11_hear 88 = .ok (.aload 6, 2) := by decide +kernel
theorem dX11_hear_90 : decode cX11_hear 90 = .ok (.iload 5, 2) := by decide +kernel
theorem dX11_hear_92 : decode cX11_hear 92 = .ok (.iconst 4, 1) := by decide +kernel
theorem dX11_hear_93 : decode cX11_hear 93 = .ok (.iadd, 1) := by decide +kernel
theorem dX11_hear_94 : decode cX11_hear 94 = .ok (.iaload, 1) := by decide +kernel
theorem dX11_hear_95 : decode cX11_hear 95 = .ok (.invokevirtual 133, 3) := by decide +kernel
theorem dX11_hear_98 : decode cX11_hear 98 = .ok (.ifCond .ge 6, 3) := by decide +kernel
theorem dX11_hear_101 : decode cX11_hear 101 = .ok (.goto 12, 3) := by decide +kernel
theorem dX11_hear_104 : decode cX11_hear 104 = .ok (.iinc 4 1, 3) := by decide +kernel
theorem dX11_hear_107 : decode cX11_hear 107 = .ok (.iinc 5 5, 3) := by decide +kernel
theorem dX11_hear_110 : decode cX11_hear 110 = .ok (.goto (-81), 3) := by decide +kernel
theorem dX11_hear_113 : decode cX11_hear 113 = .ok (.iload 4, 2) := by decide +kernel
theorem dX11_hear_115 : decode cX11_hear 115 = .ok (.ireturn, 1) := by decide +kernel
theorem dX11_told_0 : decode cX11_told 0 = .ok (.aload_n 0, 1) := by decide +kernel
theorem dX11_told_1 : decode cX11_told 1 = .ok (.getfield 10, 3) := by decide +kernel
theorem dX11_told_4 : decode cX11_told 4 = .ok (.iload_n 1, 1) := by decide +kernel
theorem dX11_told_5 : decode cX11_told 5 = .ok (.invokevirtual 158, 3) := by decide +kernel
theorem dX11_told_8 : decode cX11_told 8 = .ok (.astore_n 3, 1) := by decide +kernel
theorem dX11_told_9 : decode cX11_told 9 = .ok (.aload_n 3, 1) := by decide +kernel
theorem dX11_told_10 : decode cX11_told 10 = .ok (.ifnonnull 5, 3) := by decide +kernel
theorem dX11_told_13 : decode cX11_told 13 = .ok (.iconst (-1), 1) := by decide +kernel
theorem dX11_told_14 : decode cX11_told 14 = .ok (.ireturn, 1) := by decide +kernel
theorem dX11_told_15 : decode cX11_told 15 = .ok (.iload_n 2, 1) := by decide +kernel
theorem dX11_told_16 : decode cX11_told 16 = .ok (.tableswitch 78 0 5 #[40, 45, 50, 55, 60, 65], 40) := by decide +kernel
theorem dX11_told_56 : decode cX11_told 56 = .ok (.aload_n 3, 1) := by decide +kernel
theorem dX11_told_57 : decode cX11_told 57 = .ok (.getfield 162, 3) := by decide +kernel
theorem dX11_told_60 : decode cX11_told 60 = .ok (.ireturn, 1) := by decide +kernel
theorem dX11_told_61 : decode cX11_told 61 = .ok (.aload_n 3, 1) := by decide +kernel
theorem dX11_told_62 : decode cX11_told 62 = .ok (.getfield 167, 3) := by decide +kernel
theorem dX11_told_65 : decode cX11_told 65 = .ok (.ireturn, 1) := by decide +kernel
theorem dX11_told_66 : decode cX11_told 66 = .ok (.aload_n 3, 1) := by decide +kernel
theorem dX11_told_67 : decode cX11_told 67 = .ok (.getfield 170, 3) := by decide +kernel
theorem dX11_told_70 : decode cX11_told 70 = .ok (.ireturn, 1) := by decide +kernel
theorem dX11_told_71 : decode cX11_told 71 = .ok (.aload_n 3, 1) := by decide +kernel
theorem dX11_told_72 : decode cX11_told 72 = .ok (.getfield 173, 3) := by decide +kernel
theorem dX11_told_75 : decode cX11_told 75 = .ok (.ireturn, 1) := by decide +kernel
theorem dX11_told_76 : decode cX11_told 76 = .ok (.aload_n 3, 1) := by decide +kernel
theorem dX11_told_77 : decode cX11_told 77 = .ok (.getfield 176, 3) := by decide +kernel
theorem dX11_told_80 : decode cX11_told 80 = .ok (.ireturn, 1) := by decide +kernel
theorem dX11_told_81 : decode cX11_told 81 = .ok (.aload_n 3, 1) := by decide +kernel
theorem dX11_told_82 : decode cX11_told 82 = .ok (.getfield 179, 3) := by decide +kernel
theorem dX11_told_85 : decode cX11_told 85 = .ok (.ifCond .eq 7, 3) := by decide +kernel
theorem dX11_told_88 : decode cX11_told 88 = .ok (.iconst 1, 1) := by decide +kernel
theorem dX11_told_89 : decode cX11_told 89 = .ok (.goto 4, 3) := by decide +kernel
theorem dX11_told_92 : decode cX11_told 92 = .ok (.iconst 0, 1) := by decide +kernel
theorem dX11_told_93 : decode cX11_told 93 = .ok (.ireturn, 1) := by decide +kernel
theorem dX11_told_94 : decode cX11_told 94 = .ok (.iconst (-1), 1) := by decide +kernel
theorem dX11_told_95 : decode cX11_told 95 = .ok (.ireturn, 1) := by decide +kernel
theorem dX11_out_0 : decode cX11_out 0 = .ok (.aload_n 0, 1) := by decide +kernel
theorem dX11_out_1 : decode cX11_out 1 = .ok (.getfield 10, 3) := by decide +kernel
theorem dX11_out_4 : decode cX11_out 4 = .ok (.iload_n 1, 1) := by decide +kernel
theorem dX11_out_5 : decode cX11_out 5 = .ok (.invokevirtual 158, 3) := by decide +kernel
theorem dX11_out_8 : decode cX11_out 8 = .ok (.astore_n 3, 1) := by decide +kernel
theorem dX11_out_9 : decode cX11_out 9 = .ok (.aload_n 3, 1) := by decide +kernel
theorem dX11_out_10 : decode cX11_out 10 = .ok (.ifnonnull 5, 3) := by decide +kernel
theorem dX11_out_13 : decode cX11_out 13 = .ok (.iconst (-1), 1) := by decide +kernel
theorem dX11_out_14 : decode cX11_out 14 = .ok (.ireturn, 1) := by decide +kernel
theorem dX11_out_15 : decode cX11_out 15 = .ok (.aload_n 3, 1) := by decide +kernel
theorem dX11_out_16 : decode cX11_out 16 = .ok (.getfield 179, 3) := by decide +kernel
theorem dX11_out_19 : decode cX11_out 19 = .ok (.istore 4, 2) := by decide +kernel
theorem dX11_out_21 : decode cX11_out 21 = .ok (.aload_n 3, 1) := by decide +kernel
theorem dX11_out_22 : decode cX11_out 22 = .ok (.iload_n 2, 1) := by decide +kernel
theorem dX11_out_23 : decode cX11_out 23 = .ok (.putfield 179, 3) := by decide +kernel
theorem dX11_out_26 : decode cX11_out 26 = .ok (.iload 4, 2) := by decide +kernel
theorem dX11_out_28 : decode cX11_out 28 = .ok (.iload_n 2, 1) := by decide +kernel
theorem dX11_out_29 : decode cX11_out 29 = .ok (.if_icmp .ne 7, 3) := by decide +kernel
theorem dX11_out_32 : decode cX11_out 32 = .ok (.iconst 0, 1) := by decide +kernel
theorem dX11_out_33 : decode cX11_out 33 = .ok (.goto 4, 3) := by decide +kernel
theorem dX11_out_36 : decode cX11_out 36 = .ok (.iconst 1, 1) := by decide +kernel
theorem dX11_out_37 : decode cX11_out 37 = .ok (.ireturn, 1) := by decide +kernel
theorem dX11_chain_0 : decode cX11_chain 0 = .ok (.aload_n 0, 1) := by decide +kernel
theorem dX11_chain_1 : decode cX11_chain 1 = .ok (.getfield 10, 3) := by decide +kernel
theorem dX11_chain_4 : decode cX11_chain 4 = .ok (.iload_n 1, 1) := by decide +kernel
theorem dX11_chain_5 : decode cX11_chain 5 = .ok (.invokevirtual 183, 3) := by decide +kernel
theorem dX11_chain_8 : decode cX11_chain 8 = .ok (.ifCond .eq 19, 3) := by decide +kernel
theorem dX11_chain_11 : decode cX11_chain 11 = .ok (.aload_n 0, 1) := by decide +kernel
theorem dX11_chain_12 : decode cX11_chain 12 = .ok (.getfield 10, 3) := by decide +kernel
theorem dX11_chain_15 : decode cX11_chain 15 = .ok (.iload_n 2, 1) := by decide +kernel
theorem dX11_chain_16 : decode cX11_chain 16 = .ok (.invokevirtual 183, 3) := by decide +kernel
theorem dX11_chain_19 : decode cX11_chain 19 = .ok (.ifCond .eq 8, 3) := by decide +kernel
theorem dX11_chain_22 : decode cX11_chain 22 = .ok (.iload_n 3, 1) := by decide +kernel
theorem dX11_chain_23 : decode cX11_chain 23 = .ok (.iconst (-1), 1) := by decide +kernel
theorem dX11_chain_24 : decode cX11_chain 24 = .ok (.if_icmp .ge 5, 3) := by decide +kernel
theorem dX11_chain_27 : decode cX11_chain 27 = .ok (.iconst (-1), 1) := by decide +kernel
theorem dX11_chain_28 : decode cX11_chain 28 = .ok (.ireturn, 1) := by decide +kernel
theorem dX11_chain_29 : decode cX11_chain 29 = .ok (.aload_n 0, 1) := by decide +kernel
theorem dX11_chain_30 : decode cX11_chain 30 = .ok (.getfield 35, 3) := by decide +kernel
theorem dX11_chain_33 : decode cX11_chain 33 = .ok (.aload_n 0, 1) := by decide +kernel
theorem dX11_chain_34 : decode cX11_chain 34 = .ok (.getfield 10, 3) := by decide +kernel
theorem dX11_chain_37 : decode cX11_chain 37 = .ok (.iload_n 1, 1) := by decide +kernel
theorem dX11_chain_38 : decode cX11_chain 38 = .ok (.iload_n 2, 1) := by decide +kernel
theorem dX11_chain_39 : decode cX11_chain 39 = .ok (.invokevirtual 186, 3) := by decide +kernel
theorem dX11_chain_42 : decode cX11_chain 42 = .ok (.ifCond .ne 6, 3) := by decide +kernel
theorem dX11_chain_45 : decode cX11_chain 45 = .ok (.bipush (-4), 2) := by decide +kernel
theorem dX11_chain_47 : decode cX11_chain 47 = .ok (.ireturn, 1) := by decide +kernel
theorem dX11_chain_48 : decode cX11_chain 48 = .ok (.iload_n 3, 1) := by decide +kernel
theorem dX11_chain_49 : decode cX11_chain 49 = .ok (.iconst (-1), 1) := by decide +kernel
theorem dX11_chain_50 : decode cX11_chain 50 = .ok (.if_icmp .ne 11, 3) := by decide +kernel
theorem dX11_chain_53 : decode cX11_chain 53 = .ok (.aload_n 0, 1) := by decide +kernel
theorem dX11_chain_54 : decode cX11_chain 54 = .ok (.getfield 35, 3) := by decide +kernel
theorem dX11_chain_57 : decode cX11_chain 57 = .ok (.getfield 190, 3) := by decide +kernel
theorem dX11_chain_60 : decode cX11_chain 60 = .ok (.ireturn, 1) := by decide +kernel
theorem dX11_chain_61 : decode cX11_chain 61 = .ok (.iload_n 3, 1) := by decide +kernel
theorem dX11_chain_62 : decode cX11_chain 62 = .ok (.aload_n 0, 1) := by decide +kernel
theorem dX11_chain_63 : decode cX11_chain 63 = .ok (.getfield 35, 3) := by decide +kernel
theorem dX11_chain_66 : decode cX11_chain 66 = .ok (.getfield 190, 3) := by decide +kernel
theorem dX11_chain_69 : decode cX11_chain 69 = .ok (.if_icmp .ge 15, 3) := by decide +kernel
theorem dX11_chain_72 : decode cX11_chain 72 = .ok (.aload_n 0, 1) := by decide +kernel
theorem dX11_chain_73 : decode cX11_chain 73 = .ok (.getfield 35, 3) := by decide +kernel
theorem dX11_chain_76 : decode cX11_chain 76 = .ok (.getfield 193, 3) := by decide +kernel
theorem dX11_chain_79 : decode cX11_chain 79 = .ok (.iload_n 3, 1) := by decide +kernel
theorem dX11_chain_80 : decode cX11_chain 80 = .ok (.iaload, 1) := by decide +kernel
theorem dX11_chain_81 : decode cX11_chain 81 = .ok (.goto 5, 3) := by decide +kernel
theorem dX11_chain_84 : decode cX11_chain 84 = .ok (.bipush (-4), 2) := by decide +kernel
theorem dX11_chain_86 : decode cX11_chain 86 = .ok (.ireturn, 1) := by decide +kernel
theorem dX11_span_0 : decode cX11_span 0 = .ok (.aload_n 0, 1) := by decide +kernel
theorem dX11_span_1 : decode cX11_span 1 = .ok (.getfield 10, 3) := by decide +kernel
theorem dX11_span_4 : decode cX11_span 4 = .ok (.iload_n 1, 1) := by decide +kernel
theorem dX11_span_5 : decode cX11_span 5 = .ok (.invokevirtual 183, 3) := by decide +kernel
theorem dX11_span_8 : decode cX11_span 8 = .ok (.ifCond .eq 33, 3) := by decide +kernel
theorem dX11_span_11 : decode cX11_span 11 = .ok (.aload_n 0, 1) := by decide +kernel
theorem dX11_span_12 : decode cX11_span 12 = .ok (.getfield 10, 3) := by decide +kernel
theorem dX11_span_15 : decode cX11_span 15 = .ok (.iload_n 2, 1) := by decide +kernel
theorem dX11_span_16 : decode cX11_span 16 = .ok (.invokevirtual 183, 3) := by decide +kernel
theorem dX11_span_19 : decode cX11_span 19 = .ok (.ifCond .eq 22, 3) := by decide +kernel
theorem dX11_span_22 : decode cX11_span 22 = .ok (.iload_n 3, 1) := by decide +kernel
theorem dX11_span_23 : decode cX11_span 23 = .ok (.iconst 0, 1) := by decide +kernel
theorem dX11_span_24 : decode cX11_span 24 = .ok (.iconst 2, 1) := by decide +kernel
theorem dX11_span_25 : decode cX11_span 25 = .ok (.invokestatic 61, 3) := by decide +kernel
theorem dX11_span_28 : decode cX11_span 28 = .ok (.ifCond .eq 13, 3) := by decide +kernel
theorem dX11_span_31 : decode cX11_span 31 = .ok (.iload 4, 2) := by decide +kernel
theorem dX11_span_33 : decode cX11_span 33 = .ok (.iconst 0, 1) := by decide +kernel
theorem dX11_span_34 : decode cX11_span 34 = .ok (.iconst 1, 1) := by decide +kernel
theorem dX11_span_35 : decode cX11_span 35 = .ok (.invokestatic 61, 3) := by decide +kernel
theorem dX11_span_38 : decode cX11_span 38 = .ok (.ifCond .ne 7, 3) := by decide +kernel
theorem dX11_span_41 : decode cX11_span 41 = .ok (.ldc2_w 119, 3) := by decide +kernel
theorem dX11_span_44 : decode cX11_span 44 = .ok (.lreturn, 1) := by decide +kernel
theorem dX11_span_45 : decode cX11_span 45 = .ok (.aload_n 0, 1) := by decide +kernel
theorem dX11_span_46 : decode cX11_span 46 = .ok (.getfield 35, 3) := by decide +kernel
theorem dX11_span_49 : decode cX11_span 49 = .ok (.aload_n 0, 1) := by decide +kernel
theorem dX11_span_50 : decode cX11_span 50 = .ok (.getfield 10, 3) := by decide +kernel
theorem dX11_span_53 : decode cX11_span 53 = .ok (.iload_n 1, 1) := by decide +kernel
theorem dX11_span_54 : decode cX11_span 54 = .ok (.iload_n 2, 1) := by decide +kernel
theorem dX11_span_55 : decode cX11_span 55 = .ok (.invokevirtual 186, 3) := by decide +kernel
theorem dX11_span_58 : decode cX11_span 58 = .ok (.ifCond .ne 7, 3) := by decide +kernel
theorem dX11_span_61 : decode cX11_span 61 = .ok (.ldc2_w 196, 3) := by decide +kernel
theorem dX11_span_64 : decode cX11_span 64 = .ok (.lreturn, 1) := by decide +kernel
theorem dX11_span_65 : decode cX11_span 65 = .ok (.aload_n 0, 1) := by decide +kernel
theorem dX11_span_66 : decode cX11_span 66 = .ok (.getfield 35, 3) := by decide +kernel
theorem dX11_span_69 : decode cX11_span 69 = .ok (.aload_n 0, 1) := by decide +kernel
theorem dX11_span_70 : decode cX11_span 70 = .ok (.getfield 10, 3) := by decide +kernel
theorem dX11_span_73 : decode cX11_span 73 = .ok (.iload_n 1, 1) := by decide +kernel
theorem dX11_span_74 : decode cX11_span 74 = .ok (.iload_n 3, 1) := by decide +kernel
theorem dX11_span_75 : decode cX11_span 75 = .ok (.invokevirtual 198, 3) := by decide +kernel
theorem dX11_span_78 : decode cX11_span 78 = .ok (.iload 4, 2) := by decide +kernel
theorem dX11_span_80 : decode cX11_span 80 = .ok (.ifCond .ne 13, 3) := by decide +kernel
theorem dX11_span_83 : decode cX11_span 83 = .ok (.aload_n 0, 1) := by decide +kernel
theorem dX11_span_84 : decode cX11_span 84 = .ok (.getfield 35, 3) := by decide +kernel
theorem dX11_span_87 : decode cX11_span 87 = .ok (.getfield 202, 3) := by decide +kernel
theorem dX11_span_90 : decode cX11_span 90 = .ok (.goto 10, 3) := by decide +kernel
theorem dX11_span_93 : decode cX11_span 93 = .ok (.aload_n 0, 1) := by decide +kernel
theorem dX11_span_94 : decode cX11_span 94 = .ok (.getfield 35, 3) := by decide +kernel
theorem dX11_span_97 : decode cX11_span 97 = .ok (.getfield 206, 3) := by decide +kernel
theorem dX11_span_100 : decode cX11_span 100 = .ok (.lreturn, 1) := by decide +kernel
theorem dX11_placeOf_0 : decode cX11_placeOf 0 = .ok (.iconst 0, 1) := by decide +kernel
theorem dX11_placeOf_1 : decode cX11_placeOf 1 = .ok (.istore 4, 2) := by decide +kernel
theorem dX11_placeOf_3 : decode cX11_placeOf 3 = .ok (.bipush 64, 2) := by decide +kernel
theorem dX11_placeOf_5 : decode cX11_placeOf 5 = .ok (.istore 5, 2) := by decide +kernel
theorem dX11_placeOf_7 : decode cX11_placeOf 7 = .ok (.iload 5, 2) := by decide +kernel
theorem dX11_placeOf_9 : decode cX11_placeOf 9 = .ok (.ifCond .le 32, 3) := by decide +kernel
theorem dX11_placeOf_12 : decode cX11_placeOf 12 = .ok (.iload 4, 2) := by decide +kernel
theorem dX11_placeOf_14 : decode cX11_placeOf 14 = .ok (.iload 5, 2) := by decide +kernel
theorem dX11_placeOf_16 : decode cX11_placeOf 16 = .ok (.iadd, 1) := by decide +kernel
theorem dX11_placeOf_17 : decode cX11_placeOf 17 = .ok (.lload_n 0, 1) := by decide +kernel
theorem dX11_placeOf_18 : decode cX11_placeOf 18 = .ok (.lload_n 2, 1) := by decide +kernel
theorem dX11_placeOf_19 : decode cX11_placeOf 19 = .ok (.invokestatic 209, 3) := by decide +kernel
theorem dX11_placeOf_22 : decode cX11_placeOf 22 = .ok (.ifCond .ne 10, 3) := by decide +kernel
theorem dX11_placeOf_25 : decode cX11_placeOf 25 = .ok (.iload 4, 2) := by decide +kernel
theorem dX11_placeOf_27 : decode cX11_placeOf 27 = .ok (.iload 5, 2) := by decide +kernel
theorem dX11_placeOf_29 : decode cX11_placeOf 29 = .ok (.iadd, 1) := by decide +kernel
theorem dX11_placeOf_30 : decode cX11_placeOf 30 = .ok (.istore 4, 2) := by decide +kernel
theorem dX11_placeOf_32 : decode cX11_placeOf 32 = .ok (.iload 5, 2) := by decide +kernel
theorem dX11_placeOf_34 : decode cX11_placeOf 34 = .ok (.iconst 2, 1) := by decide +kernel
theorem dX11_placeOf_35 : decode cX11_placeOf 35 = .ok (.idiv, 1) := by decide +kernel
theorem dX11_placeOf_36 : decode cX11_placeOf 36 = .ok (.istore 5, 2) := by decide +kernel
theorem dX11_placeOf_38 : decode cX11_placeOf 38 = .ok (.goto (-31), 3) := by decide +kernel
theorem dX11_placeOf_41 : decode cX11_placeOf 41 = .ok (.iload 4, 2) := by decide +kernel
theorem dX11_placeOf_43 : decode cX11_placeOf 43 = .ok (.iconst 1, 1) := by decide +kernel
theorem dX11_placeOf_44 : decode cX11_placeOf 44 = .ok (.iadd, 1) := by decide +kernel
theorem dX11_placeOf_45 : decode cX11_placeOf 45 = .ok (.ireturn, 1) := by decide +kernel
theorem dX11_isPlaceUpTo_0 : decode cX11_isPlaceUpTo 0 = .ok (.iload_n 0, 1) := by decide +kernel
theorem dX11_isPlaceUpTo_1 : decode cX11_isPlaceUpTo 1 = .ok (.iconst 1, 1) := by decide +kernel
theorem dX11_isPlaceUpTo_2 : decode cX11_isPlaceUpTo 2 = .ok (.if_icmp .lt 9, 3) := by decide +kernel
theorem dX11_isPlaceUpTo_5 : decode cX11_isPlaceUpTo 5 = .ok (.iload_n 0, 1) := by decide +kernel
theorem dX11_isPlaceUpTo_6 : decode cX11_isPlaceUpTo 6 = .ok (.bipush 99, 2) := by decide +kernel
theorem dX11_isPlaceUpTo_8 : decode cX11_isPlaceUpTo 8 = .ok (.if_icmp .lt 15, 3) := by decide +kernel
theorem dX11_isPlaceUpTo_11 : decode cX11_isPlaceUpTo 11 = .ok (.iload_n 0, 1) := by decide +kernel
theorem dX11_isPlaceUpTo_12 : decode cX11_isPlaceUpTo 12 = .ok (.bipush 99, 2) := by decide +kernel
theorem dX11_isPlaceUpTo_14 : decode cX11_isPlaceUpTo 14 = .ok (.if_icmp .lt 7, 3) := by decide +kernel
theorem dX11_isPlaceUpTo_17 : decode cX11_isPlaceUpTo 17 = .ok (.iconst 1, 1) := by decide +kernel
theorem dX11_isPlaceUpTo_18 : decode cX11_isPlaceUpTo 18 = .ok (.goto 4, 3) := by decide +kernel
theorem dX11_isPlaceUpTo_21 : decode cX11_isPlaceUpTo 21 = .ok (.iconst 0, 1) := by decide +kernel
theorem dX11_isPlaceUpTo_22 : decode cX11_isPlaceUpTo 22 = .ok (.ireturn, 1) := by decide +kernel
theorem dX11_isPlaceUpTo_23 : decode cX11_isPlaceUpTo 23 = .ok (.bipush 100, 2) := by decide +kernel
theorem dX11_isPlaceUpTo_25 : decode cX11_isPlaceUpTo 25 = .ok (.iload_n 0, 1) := by decide +kernel
theorem dX11_isPlaceUpTo_26 : decode cX11_isPlaceUpTo 26 = .ok (.isub, 1) := by decide +kernel
theorem dX11_isPlaceUpTo_27 : decode cX11_isPlaceUpTo 27 = .ok (.bipush 100, 2) := by decide +kernel
theorem dX11_isPlaceUpTo_29 : decode cX11_isPlaceUpTo 29 = .ok (.iload_n 0, 1) := by decide +kernel
theorem dX11_isPlaceUpTo_30 : decode cX11_isPlaceUpTo 30 = .ok (.isub, 1) := by decide +kernel
theorem dX11_isPlaceUpTo_31 : decode cX11_isPlaceUpTo 31 = .ok (.imul, 1) := by decide +kernel
theorem dX11_isPlaceUpTo_32 : decode cX11_isPlaceUpTo 32 = .ok (.bipush 99, 2) := by decide +kernel
theorem dX11_isPlaceUpTo_34 : decode cX11_isPlaceUpTo 34 = .ok (.iload_n 0, 1) := by decide +kernel
theorem dX11_isPlaceUpTo_35 : decode cX11_isPlaceUpTo 35 = .ok (.isub, 1) := by decide +kernel
theorem dX11_isPlaceUpTo_36 : decode cX11_isPlaceUpTo 36 = .ok (.bipush 99, 2) := by decide +kernel
theorem dX11_isPlaceUpTo_38 : decode cX11_isPlaceUpTo 38 = .ok (.iload_n 0, 1) := by decide +kernel
theorem dX11_isPlaceUpTo_39 : decode cX11_isPlaceUpTo 39 = .ok (.isub, 1) := by decide +kernel
theorem dX11_isPlaceUpTo_40 : decode cX11_isPlaceUpTo 40 = .ok (.imul, 1) := by decide +kernel
theorem dX11_isPlaceUpTo_41 : decode cX11_isPlaceUpTo 41 = .ok (.iadd, 1) := by decide +kernel
theorem dX11_isPlaceUpTo_42 : decode cX11_isPlaceUpTo 42 = .ok (.istore 5, 2) := by decide +kernel
theorem dX11_isPlaceUpTo_44 : decode cX11_isPlaceUpTo 44 = .ok (.iload_n 0, 1) := by decide +kernel
theorem dX11_isPlaceUpTo_45 : decode cX11_isPlaceUpTo 45 = .ok (.iload_n 0, 1) := by decide +kernel
theorem dX11_isPlaceUpTo_46 : decode cX11_isPlaceUpTo 46 = .ok (.imul, 1) := by decide +kernel
theorem dX11_isPlaceUpTo_47 : decode cX11_isPlaceUpTo 47 = .ok (.iload_n 0, 1) := by decide +kernel
theorem dX11_isPlaceUpTo_48 : decode cX11_isPlaceUpTo 48 = .ok (.iconst 1, 1) := by decide +kernel
theorem dX11_isPlaceUpTo_49 : decode cX11_isPlaceUpTo 49 = .ok (.iadd, 1) := by decide +kernel
theorem dX11_isPlaceUpTo_50 : decode cX11_isPlaceUpTo 50 = .ok (.iload_n 0, 1) := by decide +kernel
theorem dX11_isPlaceUpTo_51 : decode cX11_isPlaceUpTo 51 = .ok (.iconst 1, 1) := by decide +kernel
theorem dX11_isPlaceUpTo_52 : decode cX11_isPlaceUpTo 52 = .ok (.iadd, 1) := by decide +kernel
theorem dX11_isPlaceUpTo_53 : decode cX11_isPlaceUpTo 53 = .ok (.imul, 1) := by decide +kernel
theorem dX11_isPlaceUpTo_54 : decode cX11_isPlaceUpTo 54 = .ok (.iadd, 1) := by decide +kernel
theorem dX11_isPlaceUpTo_55 : decode cX11_isPlaceUpTo 55 = .ok (.istore 6, 2) := by decide +kernel
theorem dX11_isPlaceUpTo_57 : decode cX11_isPlaceUpTo 57 = .ok (.lload_n 1, 1) := by decide +kernel
theorem dX11_isPlaceUpTo_58 : decode cX11_isPlaceUpTo 58 = .ok (.iload 5, 2) := by decide +kernel
theorem dX11_isPlaceUpTo_60 : decode cX11_isPlaceUpTo 60 = .ok (.i2l, 1) := by decide +kernel
theorem dX11_isPlaceUpTo_61 : decode cX11_isPlaceUpTo 61 = .ok (.lmul, 1) := by decide +kernel
theorem dX11_isPlaceUpTo_62 : decode cX11_isPlaceUpTo 62 = .ok (.lload_n 3, 1) := by decide +kernel
theorem dX11_isPlaceUpTo_63 : decode cX11_isPlaceUpTo 63 = .ok (.iload 6, 2) := by decide +kernel
theorem dX11_isPlaceUpTo_65 : decode cX11_isPlaceUpTo 65 = .ok (.i2l, 1) := by decide +kernel
theorem dX11_isPlaceUpTo_66 : decode cX11_isPlaceUpTo 66 = .ok (.lmul, 1) := by decide +kernel
theorem dX11_isPlaceUpTo_67 : decode cX11_isPlaceUpTo 67 = .ok (.lcmp, 1) := by decide +kernel
theorem dX11_isPlaceUpTo_68 : decode cX11_isPlaceUpTo 68 = .ok (.ifCond .gt 7, 3) := by decide +kernel
theorem dX11_isPlaceUpTo_71 : decode cX11_isPlaceUpTo 71 = .ok (.iconst 1, 1) := by decide +kernel
theorem dX11_isPlaceUpTo_72 : decode cX11_isPlaceUpTo 72 = .ok (.goto 4, 3) := by decide +kernel
theorem dX11_isPlaceUpTo_75 : decode cX11_isPlaceUpTo 75 = .ok (.iconst 0, 1) := by decide +kernel
theorem dX11_isPlaceUpTo_76 : decode cX11_isPlaceUpTo 76 = .ok (.ireturn, 1) := by decide +kernel
theorem dX11_laws_0 : decode cX11_laws 0 = .ok (.iload_n 1, 1) := by decide +kernel
theorem dX11_laws_1 : decode cX11_laws 1 = .ok (.iconst 0, 1) := by decide +kernel
theorem dX11_laws_2 : decode cX11_laws 2 = .ok (.bipush 7, 2) := by decide +kernel
theorem dX11_laws_4 : decode cX11_laws 4 = .ok (.invokestatic 61, 3) := by decide +kernel
theorem dX11_laws_7 : decode cX11_laws 7 = .ok (.ifCond .eq 18, 3) := by decide +kernel
theorem dX11_laws_10 : decode cX11_laws 10 = .ok (.iload_n 2, 1) := by decide +kernel
theorem dX11_laws_11 : decode cX11_laws 11 = .ok (.iconst 0, 1) := by decide +kernel
theorem dX11_laws_12 : decode cX11_laws 12 = .ok (.bipush 50, 2) := by decide +kernel
theorem dX11_laws_14 : decode cX11_laws 14 = .ok (.invokestatic 61, 3) := by decide +kernel
theorem dX11_laws_17 : decode cX11_laws 17 = .ok (.ifCond .eq 8, 3) := by decide +kernel
theorem dX11_laws_20 : decode cX11_laws 20 = .ok (.iload_n 3, 1) := by decide +kernel
theorem dX11_laws_21 : decode cX11_laws 21 = .ok (.iconst (-1), 1) := by decide +kernel
theorem dX11_laws_22 : decode cX11_laws 22 = .ok (.if_icmp .ge 5, 3) := by decide +kernel
theorem dX11_laws_25 : decode cX11_laws 25 = .ok (.iconst (-1), 1) := by decide +kernel
theorem dX11_laws_26 : decode cX11_laws 26 = .ok (.ireturn, 1) := by decide +kernel
theorem dX11_laws_27 : decode cX11_laws 27 = .ok (.aload_n 0, 1) := by decide +kernel
theorem dX11_laws_28 : decode cX11_laws 28 = .ok (.getfield 49, 3) := by decide +kernel
theorem dX11_laws_31 : decode cX11_laws 31 = .ok (.aload_n 0, 1) := by decide +kernel
theorem dX11_laws_32 : decode cX11_laws 32 = .ok (.getfield 10, 3) := by decide +kernel
theorem dX11_laws_35 : decode cX11_laws 35 = .ok (.iload_n 1, 1) := by decide +kernel
theorem dX11_laws_36 : decode cX11_laws 36 = .ok (.iload_n 2, 1) := by decide +kernel
theorem dX11_laws_37 : decode cX11_laws 37 = .ok (.invokevirtual 213, 3) := by decide +kernel
theorem dX11_laws_40 : decode cX11_laws 40 = .ok (.iload_n 3, 1) := by decide +kernel
theorem dX11_laws_41 : decode cX11_laws 41 = .ok (.iconst (-1), 1) := by decide +kernel
theorem dX11_laws_42 : decode cX11_laws 42 = .ok (.if_icmp .ne 13, 3) := by decide +kernel
theorem dX11_laws_45 : decode cX11_laws 45 = .ok (.aload_n 0, 1) := by decide +kernel
theorem dX11_laws_46 : decode cX11_laws 46 = .ok (.getfield 49, 3) := by decide +kernel
theorem dX11_laws_49 : decode cX11_laws 49 = .ok (.getfield 216, 3) := by decide +kernel
theorem dX11_laws_52 : decode cX11_laws 52 = .ok (.goto 11, 3) := by decide +kernel
theorem dX11_laws_55 : decode cX11_laws 55 = .ok (.aload_n 0, 1) := by decide +kernel
theorem dX11_laws_56 : decode cX11_laws 56 = .ok (.getfield 49, 3) := by decide +kernel
theorem dX11_laws_59 : decode cX11_laws 59 = .ok (.iload_n 3, 1) := by decide +kernel
theorem dX11_laws_60 : decode cX11_laws 60 = .ok (.invokevirtual 219, 3) := by decide +kernel
theorem dX11_laws_63 : decode cX11_laws 63 = .ok (.ireturn, 1) := by decide +kernel
theorem dX11_parts_0 : decode cX11_parts 0 = .ok (.iload_n 1, 1) := by decide +kernel
theorem dX11_parts_1 : decode cX11_parts 1 = .ok (.iconst 0, 1) := by decide +kernel
theorem dX11_parts_2 : decode cX11_parts 2 = .ok (.bipush 7, 2) := by decide +kernel
theorem dX11_parts_4 : decode cX11_parts 4 = .ok (.invokestatic 61, 3) := by decide +kernel
theorem dX11_parts_7 : decode cX11_parts 7 = .ok (.ifCond .eq 26, 3) := by decide +kernel
theorem dX11_parts_10 : decode cX11_parts 10 = .ok (.iload_n 2, 1) := by decide +kernel
theorem dX11_parts_11 : decode cX11_parts 11 = .ok (.iconst 0, 1) := by decide +kernel
theorem dX11_parts_12 : decode cX11_parts 12 = .ok (.bipush 50, 2) := by decide +kernel
theorem dX11_parts_14 : decode cX11_parts 14 = .ok (.invokestatic 61, 3) := by decide +kernel
theorem dX11_parts_17 : decode cX11_parts 17 = .ok (.ifCond .eq 16, 3) := by decide +kernel
theorem dX11_parts_20 : decode cX11_parts 20 = .ok (.aload_n 0, 1) := by decide +kernel
theorem dX11_parts_21 : decode cX11_parts 21 = .ok (.getfield 10, 3) := by decide +kernel
theorem dX11_parts_24 : decode cX11_parts 24 = .ok (.iload_n 3, 1) := by decide +kernel
theorem dX11_parts_25 : decode cX11_parts 25 = .ok (.iload 4, 2) := by decide +kernel
theorem dX11_parts_27 : decode cX11_parts 27 = .ok (.invokevirtual 125, 3) := by decide +kernel
theorem dX11_parts_30 : decode cX11_parts 30 = .ok (.ifCond .ne 5, 3) := by decide +kernel
theorem dX11_parts_33 : decode cX11_parts 33 = .ok (.iconst (-1), 1) := by decide +kernel
theorem dX11_parts_34 : decode cX11_parts 34 = .ok (.ireturn, 1) := by decide +kernel
theorem dX11_parts_35 : decode cX11_parts 35 = .ok (.aload_n 0, 1) := by decide +kernel
theorem dX11_parts_36 : decode cX11_parts 36 = .ok (.getfield 49, 3) := by decide +kernel
theorem dX11_parts_39 : decode cX11_parts 39 = .ok (.aload_n 0, 1) := by decide +kernel
theorem dX11_parts_40 : decode cX11_parts 40 = .ok (.getfield 10, 3) := by decide +kernel
theorem dX11_parts_43 : decode cX11_parts 43 = .ok (.iload_n 1, 1) := by decide +kernel
theorem dX11_parts_44 : decode cX11_parts 44 = .ok (.iload_n 2, 1) := by decide +kernel
theorem dX11_parts_45 : decode cX11_parts 45 = .ok (.invokevirtual 213, 3) := by decide +kernel
theorem dX11_parts_48 : decode cX11_parts 48 = .ok (.aload_n 0, 1) := by decide +kernel
theorem dX11_parts_49 : decode cX11_parts 49 = .ok (.getfield 49, 3) := by decide +kernel
theorem dX11_parts_52 : decode cX11_parts 52 = .ok (.getfield 216, 3) := by decide +kernel
theorem dX11_parts_55 : decode cX11_parts 55 = .ok (.ifCond .ne 8, 3) := by decide +kernel
theorem dX11_parts_58 : decode cX11_parts 58 = .ok (.bipush (-4), 2) := by decide +kernel
theorem dX11_parts_60 : decode cX11_parts 60 = .ok (.goto 17, 3) := by decide +kernel
theorem dX11_parts_63 : decode cX11_parts 63 = .ok (.aload_n 0, 1) := by decide +kernel
theorem dX11_parts_64 : decode cX11_parts 64 = .ok (.getfield 49, 3) := by decide +kernel
theorem dX11_parts_67 : decode cX11_parts 67 = .ok (.aload_n 0, 1) := by decide +kernel
theorem dX11_parts_68 : decode cX11_parts 68 = .ok (.getfield 10, 3) := by decide +kernel
theorem dX11_parts_71 : decode cX11_parts 71 = .ok (.iload_n 3, 1) := by decide +kernel
theorem dX11_parts_72 : decode cX11_parts 72 = .ok (.iload 4, 2) := by decide +kernel
theorem dX11_parts_74 : decode cX11_parts 74 = .ok (.invokevirtual 222, 3) := by decide +kernel
theorem dX11_parts_77 : decode cX11_parts 77 = .ok (.ireturn, 1) := by decide +kernel
theorem dX11_show_0 : decode cX11_show 0 = .ok (.iload_n 1, 1) := by decide +kernel
theorem dX11_show_1 : decode cX11_show 1 = .ok (.iconst 0, 1) := by decide +kernel
theorem dX11_show_2 : decode cX11_show 2 = .ok (.bipush 7, 2) := by decide +kernel
theorem dX11_show_4 : decode cX11_show 4 = .ok (.invokestatic 61, 3) := by decide +kernel
theorem dX11_show_7 : decode cX11_show 7 = .ok (.ifCond .eq 13, 3) := by decide +kernel
theorem dX11_show_10 : decode cX11_show 10 = .ok (.iload_n 2, 1) := by decide +kernel
theorem dX11_show_11 : decode cX11_show 11 = .ok (.iconst 0, 1) := by decide +kernel
theorem dX11_show_12 : decode cX11_show 12 = .ok (.bipush 50, 2) := by decide +kernel
theorem dX11_show_14 : decode cX11_show 14 = .ok (.invokestatic 61, 3) := by decide +kernel
theorem dX11_show_17 : decode cX11_show 17 = .ok (.ifCond .ne 5, 3) := by decide +kernel
theorem dX11_show_20 : decode cX11_show 20 = .ok (.iconst (-1), 1) := by decide +kernel
theorem dX11_show_21 : decode cX11_show 21 = .ok (.ireturn, 1) := by decide +kernel
theorem dX11_show_22 : decode cX11_show 22 = .ok (.aload_n 0, 1) := by decide +kernel
theorem dX11_show_23 : decode cX11_show 23 = .ok (.getfield 49, 3) := by decide +kernel
theorem dX11_show_26 : decode cX11_show 26 = .ok (.aload_n 0, 1) := by decide +kernel
theorem dX11_show_27 : decode cX11_show 27 = .ok (.getfield 10, 3) := by decide +kernel
theorem dX11_show_30 : decode cX11_show 30 = .ok (.iload_n 1, 1) := by decide +kernel
theorem dX11_show_31 : decode cX11_show 31 = .ok (.iload_n 2, 1) := by decide +kernel
theorem dX11_show_32 : decode cX11_show 32 = .ok (.invokevirtual 213, 3) := by decide +kernel
theorem dX11_show_35 : decode cX11_show 35 = .ok (.aload_n 0, 1) := by decide +kernel
theorem dX11_show_36 : decode cX11_show 36 = .ok (.getfield 49, 3) := by decide +kernel
theorem dX11_show_39 : decode cX11_show 39 = .ok (.getfield 216, 3) := by decide +kernel
theorem dX11_show_42 : decode cX11_show 42 = .ok (.ifCond .ne 6, 3) := by decide +kernel
theorem dX11_show_45 : decode cX11_show 45 = .ok (.bipush (-4), 2) := by decide +kernel
theorem dX11_show_47 : decode cX11_show 47 = .ok (.ireturn, 1) := by decide +kernel
theorem dX11_show_48 : decode cX11_show 48 = .ok (.bipush (-4), 2) := by decide +kernel
theorem dX11_show_50 : decode cX11_show 50 = .ok (.istore_n 3, 1) := by decide +kernel
theorem dX11_show_51 : decode cX11_show 51 = .ok (.iconst (-1), 1) := by decide +kernel
theorem dX11_show_52 : decode cX11_show 52 = .ok (.istore 4, 2) := by decide +kernel
theorem dX11_show_54 : decode cX11_show 54 = .ok (.iconst 0, 1) := by decide +kernel
theorem dX11_show_55 : decode cX11_show 55 = .ok (.istore 5, 2) := by decide +kernel
theorem dX11_show_57 : decode cX11_show 57 = .ok (.iload 5, 2) := by decide +kernel
theorem dX11_show_59 : decode cX11_show 59 = .ok (.aload_n 0, 1) := by decide +kernel
theorem dX11_show_60 : decode cX11_show 60 = .ok (.getfield 10, 3) := by decide +kernel
theorem dX11_show_63 : decode cX11_show 63 = .ok (.getfield 65, 3) := by decide +kernel
theorem dX11_show_66 : decode cX11_show 66 = .ok (.if_icmp .ge 70, 3) := by decide +kernel
theorem dX11_show_69 : decode cX11_show 69 = .ok (.iload 5, 2) := by decide +kernel
theorem dX11_show_71 : decode cX11_show 71 = .ok (.iconst 1, 1) := by decide +kernel
theorem dX11_show_72 : decode cX11_show 72 = .ok (.iadd, 1) := by decide +kernel
theorem dX11_show_73 : decode cX11_show 73 = .ok (.istore 6, 2) := by decide +kernel
theorem dX11_show_75 : decode cX11_show 75 = .ok (.iload 6, 2) := by decide +kernel
theorem dX11_show_77 : decode cX11_show 77 = .ok (.aload_n 0, 1) := by decide +kernel
theorem dX11_show_78 : decode cX11_show 78 = .ok (.getfield 10, 3) := by decide +kernel
theorem dX11_show_81 : decode cX11_show 81 = .ok (.getfield 65, 3) := by decide +kernel
theorem dX11_show_84 : decode cX11_show 84 = .ok (.if_icmp .ge 46, 3) := by decide +kernel
theorem dX11_show_87 : decode cX11_show 87 = .ok (.aload_n 0, 1) := by decide +kernel
theorem dX11_show_88 : decode cX11_show 88 = .ok (.getfield 49, 3) := by decide +kernel
theorem dX11_show_91 : decode cX11_show 91 = .ok (.aload_n 0, 1) := by decide +kernel
theorem dX11_show_92 : decode cX11_show 92 = .ok (.getfield 10, 3) := by decide +kernel
theorem dX11_show_95 : decode cX11_show 95 = .ok (.iload 5, 2) := by decide +kernel
theorem dX11_show_97 : decode cX11_show 97 = .ok (.iload 6, 2) := by decide +kernel
theorem dX11_show_99 : decode cX11_show 99 = .ok (.invokevirtual 222, 3) := by decide +kernel
theorem dX11_show_102 : decode cX11_show 102 = .ok (.istore 7, 2) := by decide +kernel
theorem dX11_show_104 : decode cX11_show 104 = .ok (.iload 7, 2) := by decide +kernel
theorem dX11_show_106 : decode cX11_show 106 = .ok (.iload 4, 2) := by decide +kernel
theorem dX11_show_108 : decode cX11_show 108 = .ok (.if_icmp .le 16, 3) := by decide +kernel
theorem dX11_show_111 : decode cX11_show 111 = .ok (.iload 7, 2) := by decide +kernel
theorem dX11_show_113 : decode cX11_show 113 = .ok (.istore 4, 2) := by decide +kernel
theorem dX11_show_115 : decode cX11_show 115 = .ok (.bipush 100, 2) := by decide +kernel
theorem dX11_show_117 : decode cX11_show 117 = .ok (.iload 5, 2) := by decide +kernel
theorem dX11_show_119 : decode cX11_show 119 = .ok (.imul, 1) := by decide +kernel
theorem dX11_show_120 : decode cX11_show 120 = .ok (.iload 6, 2) := by decide +kernel
theorem dX11_show_122 : decode cX11_show 122 = .ok (.iadd, 1) := by decide +kernel
theorem dX11_show_123 : decode cX11_show 123 = .ok (.istore_n 3, 1) := by decide +kernel
theorem dX11_show_124 : decode cX11_show 124 = .ok (.iinc 6 1, 3) := by decide +kernel
theorem dX11_show_127 : decode cX11_show 127 = .ok (.goto (-52), 3) := by decide +kernel
theorem dX11_show_130 : decode cX11_show 130 = .ok (.iinc 5 1, 3) := by decide +kernel
theorem dX11_show_133 : decode cX11_show 133 = .ok (.goto (-76), 3) := by decide +kernel
theorem dX11_show_136 : decode cX11_show 136 = .ok (.iload_n 3, 1) := by decide +kernel
theorem dX11_show_137 : decode cX11_show 137 = .ok (.ireturn, 1) := by decide +kernel
theorem dX11_disagree_0 : decode cX11_disagree 0 = .ok (.aload_n 0, 1) := by decide +kernel
theorem dX11_disagree_1 : decode cX11_disagree 1 = .ok (.getfield 10, 3) := by decide +kernel
theorem dX11_disagree_4 : decode cX11_disagree 4 = .ok (.iload_n 1, 1) := by decide +kernel
theorem dX11_disagree_5 : decode cX11_disagree 5 = .ok (.invokevirtual 108, 3) := by decide +kernel
theorem dX11_disagree_8 : decode cX11_disagree 8 = .ok (.astore 6, 2) := by decide +kernel
theorem dX11_disagree_10 : decode cX11_disagree 10 = .ok (.aload_n 0, 1) := by decide +kernel
theorem dX11_disagree_11 : decode cX11_disagree 11 = .ok (.getfield 10, 3) := by decide +kernel
theorem dX11_disagree_14 : decode cX11_disagree 14 = .ok (.iload_n 2, 1) := by decide +kernel
theorem dX11_disagree_15 : decode cX11_disagree 15 = .ok (.invokevirtual 108, 3) := by decide +kernel
theorem dX11_disagree_18 : decode cX11_disagree 18 = .ok (.astore 7, 2) := by decide +kernel
theorem dX11_disagree_20 : decode cX11_disagree 20 = .ok (.aload 6, 2) := by decide +kernel
theorem dX11_disagree_22 : decode cX11_disagree 22 = .ok (.ifnull 32, 3) := by decide +kernel
theorem dX11_disagree_25 : decode cX11_disagree 25 = .ok (.aload 7, 2) := by decide +kernel
theorem dX11_disagree_27 : decode cX11_disagree 27 = .ok (.ifnull 27, 3) := by decide +kernel
theorem dX11_disagree_30 : decode cX11_disagree 30 = .ok (.aload_n 0, 1) := by decide +kernel
theorem dX11_disagree_31 : decode cX11_disagree 31 = .ok (.getfield 10, 3) := by decide +kernel
theorem dX11_disagree_34 : decode cX11_disagree 34 = .ok (.iload_n 3, 1) := by decide +kernel
theorem dX11_disagree_35 : decode cX11_disagree 35 = .ok (.iload 4, 2) := by decide +kernel
theorem dX11_disagree_37 : decode cX11_disagree 37 = .ok (.invokevirtual 125, 3) := by decide +kernel
theorem dX11_disagree_40 : decode cX11_disagree 40 = .ok (.ifCond .eq 14, 3) := by decide +kernel
theorem dX11_disagree_43 : decode cX11_disagree 43 = .ok (.iload 5, 2) := by decide +kernel
theorem dX11_disagree_45 : decode cX11_disagree 45 = .ok (.iconst 0, 1) := by decide +kernel
theorem dX11_disagree_46 : decode cX11_disagree 46 = .ok (.bipush 9, 2) := by decide +kernel
theorem dX11_disagree_48 : decode cX11_disagree 48 = .ok (.invokestatic 61, 3) := by decide +kernel
theorem dX11_disagree_51 : decode cX11_disagree 51 = .ok (.ifCond .ne 6, 3) := by decide +kernel
theorem dX11_disagree_54 : decode cX11_disagree 54 = .ok (.ldc 226, 2) := by decide +kernel
theorem dX11_disagree_56 : decode cX11_disagree 56 = .ok (.ireturn, 1) := by decide +kernel
theorem dX11_disagree_57 : decode cX11_disagree 57 = .ok (.aload_n 0, 1) := by decide +kernel
theorem dX11_disagree_58 : decode cX11_disagree 58 = .ok (.getfield 10, 3) := by decide +kernel
theorem dX11_disagree_61 : decode cX11_disagree 61 = .ok (.iload_n 3, 1) := by decide +kernel
theorem dX11_disagree_62 : decode cX11_disagree 62 = .ok (.iload 4, 2) := by decide +kernel
theorem dX11_disagree_64 : decode cX11_disagree 64 = .ok (.aload 6, 2) := by decide +kernel
theorem dX11_disagree_66 : decode cX11_disagree 66 = .ok (.iload 5, 2) := by decide +kernel
theorem dX11_disagree_68 : decode cX11_disagree 68 = .ok (.invokevirtual 129, 3) := by decide +kernel
theorem dX11_disagree_71 : decode cX11_disagree 71 = .ok (.aload_n 0, 1) := by decide +kernel
theorem dX11_disagree_72 : decode cX11_disagree 72 = .ok (.getfield 10, 3) := by decide +kernel
theorem dX11_disagree_75 : decode cX11_disagree 75 = .ok (.iload_n 3, 1) := by decide +kernel
theorem dX11_disagree_76 : decode cX11_disagree 76 = .ok (.iload 4, 2) := by decide +kernel
theorem dX11_disagree_78 : decode cX11_disagree 78 = .ok (.aload 7, 2) := by decide +kernel
theorem dX11_disagree_80 : decode cX11_disagree 80 = .ok (.iload 5, 2) := by decide +kernel
theorem dX11_disagree_82 : decode cX11_disagree 82 = .ok (.invokevirtual 129, 3) := by decide +kernel
theorem dX11_disagree_85 : decode cX11_disagree 85 = .ok (.isub, 1) := by decide +kernel
theorem dX11_disagree_86 : decode cX11_disagree 86 = .ok (.ireturn, 1) := by decide +kernel
theorem dX11_mean_0 : decode cX11_mean 0 = .ok (.iload_n 1, 1) := by decide +kernel
theorem dX11_mean_1 : decode cX11_mean 1 = .ok (.iconst 1, 1) := by decide +kernel
theorem dX11_mean_2 : decode cX11_mean 2 = .ok (.sipush 255, 3) := by decide +kernel
theorem dX11_mean_5 : decode cX11_mean 5 = .ok (.invokestatic 61, 3) := by decide +kernel
theorem dX11_mean_8 : decode cX11_mean 8 = .ok (.ifCond .eq 12, 3) := by decide +kernel
theorem dX11_mean_11 : decode cX11_mean 11 = .ok (.iload_n 2, 1) := by decide +kernel
theorem dX11_mean_12 : decode cX11_mean 12 = .ok (.iconst 0, 1) := by decide +kernel
theorem dX11_mean_13 : decode cX11_mean 13 = .ok (.iconst 2, 1) := by decide +kernel
theorem dX11_mean_14 : decode cX11_mean 14 = .ok (.invokestatic 61, 3) := by decide +kernel
theorem dX11_mean_17 : decode cX11_mean 17 = .ok (.ifCond .ne 5, 3) := by decide +kernel
theorem dX11_mean_20 : decode cX11_mean 20 = .ok (.iconst (-1), 1) := by decide +kernel
theorem dX11_mean_21 : decode cX11_mean 21 = .ok (.ireturn, 1) := by decide +kernel
theorem dX11_mean_22 : decode cX11_mean 22 = .ok (.aload_n 0, 1) := by decide +kernel
theorem dX11_mean_23 : decode cX11_mean 23 = .ok (.iload_n 1, 1) := by decide +kernel
theorem dX11_mean_24 : decode cX11_mean 24 = .ok (.invokevirtual 227, 3) := by decide +kernel
theorem dX11_mean_27 : decode cX11_mean 27 = .ok (.aload_n 0, 1) := by decide +kernel
theorem dX11_mean_28 : decode cX11_mean 28 = .ok (.getfield 56, 3) := by decide +kernel
theorem dX11_mean_31 : decode cX11_mean 31 = .ok (.iload_n 2, 1) := by decide +kernel
theorem dX11_mean_32 : decode cX11_mean 32 = .ok (.invokevirtual 112, 3) := by decide +kernel
theorem dX11_mean_35 : decode cX11_mean 35 = .ok (.ireturn, 1) := by decide +kernel
theorem dX11_stands_0 : decode cX11_stands 0 = .ok (.iload_n 1, 1) := by decide +kernel
theorem dX11_stands_1 : decode cX11_stands 1 = .ok (.iconst 1, 1) := by decide +kernel
theorem dX11_stands_2 : decode cX11_stands 2 = .ok (.sipush 255, 3) := by decide +kernel
theorem dX11_stands_5 : decode cX11_stands 5 = .ok (.invokestatic 61, 3) := by decide +kernel
theorem dX11_stands_8 : decode cX11_stands 8 = .ok (.ifCond .eq 15, 3) := by decide +kernel
theorem dX11_stands_11 : decode cX11_stands 11 = .ok (.aload_n 0, 1) := by decide +kernel
theorem dX11_stands_12 : decode cX11_stands 12 = .ok (.getfield 10, 3) := by decide +kernel
theorem dX11_stands_15 : decode cX11_stands 15 = .ok (.iload_n 2, 1) := by decide +kernel
theorem dX11_stands_16 : decode cX11_stands 16 = .ok (.iload_n 3, 1) := by decide +kernel
theorem dX11_stands_17 : decode cX11_stands 17 = .ok (.invokevirtual 125, 3) := by decide +kernel
theorem dX11_stands_20 : decode cX11_stands 20 = .ok (.ifCond .ne 5, 3) := by decide +kernel
theorem dX11_stands_23 : decode cX11_stands 23 = .ok (.iconst (-1), 1) := by decide +kernel
theorem dX11_stands_24 : decode cX11_stands 24 = .ok (.ireturn, 1) := by decide +kernel
theorem dX11_stands_25 : decode cX11_stands 25 = .ok (.aload_n 0, 1) := by decide +kernel
theorem dX11_stands_26 : decode cX11_stands 26 = .ok (.iload_n 1, 1) := by decide +kernel
theorem dX11_stands_27 : decode cX11_stands 27 = .ok (.invokevirtual 227, 3) := by decide +kernel
theorem dX11_stands_30 : decode cX11_stands 30 = .ok (.aload_n 0, 1) := by decide +kernel
theorem dX11_stands_31 : decode cX11_stands 31 = .ok (.getfield 10, 3) := by decide +kernel
theorem dX11_stands_34 : decode cX11_stands 34 = .ok (.iload_n 2, 1) := by decide +kernel
theorem dX11_stands_35 : decode cX11_stands 35 = .ok (.iload_n 3, 1) := by decide +kernel
theorem dX11_stands_36 : decode cX11_stands 36 = .ok (.aload_n 0, 1) := by decide +kernel
theorem dX11_stands_37 : decode cX11_stands 37 = .ok (.getfield 56, 3) := by decide +kernel
theorem dX11_stands_40 : decode cX11_stands 40 = .ok (.iconst 0, 1) := by decide +kernel
theorem dX11_stands_41 : decode cX11_stands 41 = .ok (.invokevirtual 129, 3) := by decide +kernel
theorem dX11_stands_44 : decode cX11_stands 44 = .ok (.istore 4, 2) := by decide +kernel
theorem dX11_stands_46 : decode cX11_stands 46 = .ok (.iconst 0, 1) := by decide +kernel
theorem dX11_stands_47 : decode cX11_stands 47 = .ok (.istore 5, 2) := by decide +kernel
theorem dX11_stands_49 : decode cX11_stands 49 = .ok (.iconst 0, 1) := by decide +kernel
theorem dX11_stands_50 : decode cX11_stands 50 = .ok (.istore 6, 2) := by decide +kernel
theorem dX11_stands_52 : decode cX11_stands 52 = .ok (.iload 6, 2) := by decide +kernel
theorem dX11_stands_54 : decode cX11_stands 54 = .ok (.bipush 8, 2) := by decide +kernel
theorem dX11_stands_56 : decode cX11_stands 56 = .ok (.if_icmp .ge 57, 3) := by decide +kernel
theorem dX11_stands_59 : decode cX11_stands 59 = .ok (.iload_n 1, 1) := by decide +kernel
theorem dX11_stands_60 : decode cX11_stands 60 = .ok (.iload 6, 2) := by decide +kernel
theorem dX11_stands_62 : decode cX11_stands 62 = .ok (.invokestatic 231, 3) := by decide +kernel
theorem dX11_stands_65 : decode cX11_stands 65 = .ok (.ifCond .eq 42, 3) := by decide +kernel
theorem dX11_stands_68 : decode cX11_stands 68 = .ok (.aload_n 0, 1) := by decide +kernel
theorem dX11_stands_69 : decode cX11_stands 69 = .ok (.getfield 10, 3) := by decide +kernel
theorem dX11_stands_72 : decode cX11_stands 72 = .ok (.iload_n 2, 1) := by decide +kernel
theorem dX11_stands_73 : decode cX11_stands 73 = .ok (.iload_n 3, 1) := by decide +kernel
theorem dX11_stands_74 : decode cX11_stands 74 = .ok (.aload_n 0, 1) := by decide +kernel
theorem dX11_stands_75 : decode cX11_stands 75 = .ok (.getfield 10, 3) := by decide +kernel
theorem dX11_stands_78 : decode cX11_stands 78 = .ok (.getfield 234, 3) := by decide +kernel
theorem dX11_stands_81 : decode cX11_stands 81 = .ok (.iload 6, 2) := by decide +kernel
theorem dX11_stands_83 : decode cX11_stands 83 = .ok (.aaload, 1) := by decide +kernel
theorem dX11_stands_84 : decode cX11_stands 84 = .ok (.iconst 0, 1) := by decide +kernel
theorem dX11_stands_85 : decode cX11_stands 85 = .ok (.invokevirtual 129, 3) := by decide +kernel
theorem dX11_stands_88 : decode cX11_stands 88 = .ok (.iload 4, 2) := by decide +kernel
theorem dX11_stands_90 : decode cX11_stands 90 = .ok (.isub, 1) := by decide +kernel
theorem dX11_stands_91 : decode cX11_stands 91 = .ok (.invokestatic 238, 3) := by decide +kernel
theorem dX11_stands_94 : decode cX11_stands 94 = .ok (.iconst 1, 1) := by decide +kernel
theorem dX11_stands_95 : decode cX11_stands 95 = .ok (.if_icmp .gt 12, 3) := by decide +kernel
theorem dX11_stands_98 : decode cX11_stands 98 = .ok (.iload 5, 2) := by decide +kernel
theorem dX11_stands_100 : decode cX11_stands 100 = .ok (.iconst 1, 1) := by decide +kernel
theorem dX11_stands_101 : decode cX11_stands 101 = .ok (.iload 6, 2) := by decide +kernel
theorem dX11_stands_103 : decode cX11_stands 103 = .ok (.ishl, 1) := by decide +kernel
theorem dX11_stands_104 : decode cX11_stands 104 = .ok (.ior, 1) := by decide +kernel
theorem dX11_stands_105 : decode cX11_stands 105 = .ok (.istore 5, 2) := by decide +kernel
theorem dX11_stands_107 : decode cX11_stands 107 = .ok (.iinc 6 1, 3) := by decide +kernel
theorem dX11_stands_110 : decode cX11_stands 110 = .ok (.goto (-58), 3) := by decide +kernel
theorem dX11_stands_113 : decode cX11_stands 113 = .ok (.iload 5, 2) := by decide +kernel
theorem dX11_stands_115 : decode cX11_stands 115 = .ok (.ireturn, 1) := by decide +kernel
theorem dX11_makeMeanEye_0 : decode cX11_makeMeanEye 0 = .ok (.iload_n 1, 1) := by decide +kernel
theorem dX11_makeMeanEye_1 : decode cX11_makeMeanEye 1 = .ok (.sipush 255, 3) := by decide +kernel
theorem dX11_makeMeanEye_4 : decode cX11_makeMeanEye 4 = .ok (.iand, 1) := by decide +kernel
theorem dX11_makeMeanEye_5 : decode cX11_makeMeanEye 5 = .ok (.invokestatic 243, 3) := by decide +kernel
theorem dX11_makeMeanEye_8 : decode cX11_makeMeanEye 8 = .ok (.istore_n 2, 1) := by decide +kernel
theorem dX11_makeMeanEye_9 : decode cX11_makeMeanEye 9 = .ok (.iconst 0, 1) := by decide +kernel
theorem dX11_makeMeanEye_10 : decode cX11_makeMeanEye 10 = .ok (.istore_n 3, 1) := by decide +kernel
theorem dX11_makeMeanEye_11 : decode cX11_makeMeanEye 11 = .ok (.iload_n 3, 1) := by decide +kernel
theorem dX11_makeMeanEye_12 : decode cX11_makeMeanEye 12 = .ok (.iconst 2, 1) := by decide +kernel
theorem dX11_makeMeanEye_13 : decode cX11_makeMeanEye 13 = .ok (.if_icmp .gt 80, 3) := by decide +kernel
theorem dX11_makeMeanEye_16 : decode cX11_makeMeanEye 16 = .ok (.iconst 0, 1) := by decide +kernel
theorem dX11_makeMeanEye_17 : decode cX11_makeMeanEye 17 = .ok (.istore 4, 2) := by decide +kernel
theorem dX11_makeMeanEye_19 : decode cX11_makeMeanEye 19 = .ok (.iconst 0, 1) := by decide +kernel
theorem dX11_makeMeanEye_20 : decode cX11_makeMeanEye 20 = .ok (.istore 5, 2) := by decide +kernel
theorem dX11_makeMeanEye_22 : decode cX11_makeMeanEye 22 = .ok (.iload 5, 2) := by decide +kernel
theorem dX11_makeMeanEye_24 : decode cX11_makeMeanEye 24 = .ok (.bipush 8, 2) := by decide +kernel
theorem dX11_makeMeanEye_26 : decode cX11_makeMeanEye 26 = .ok (.if_icmp .ge 41, 3) := by decide +kernel
theorem dX11_makeMeanEye_29 : decode cX11_makeMeanEye 29 = .ok (.iload 4, 2) := by decide +kernel
theorem dX11_makeMeanEye_31 : decode cX11_makeMeanEye 31 = .ok (.iload_n 1, 1) := by decide +kernel
theorem dX11_makeMeanEye_32 : decode cX11_makeMeanEye 32 = .ok (.iload 5, 2) := by decide +kernel
theorem dX11_makeMeanEye_34 : decode cX11_makeMeanEye 34 = .ok (.invokestatic 231, 3) := by decide +kernel
theorem dX11_makeMeanEye_37 : decode cX11_makeMeanEye 37 = .ok (.ifCond .eq 20, 3) := by decide +kernel
theorem dX11_makeMeanEye_40 : decode cX11_makeMeanEye 40 = .ok (.aload_n 0, 1) := by decide +kernel
theorem dX11_makeMeanEye_41 : decode cX11_makeMeanEye 41 = .ok (.getfield 10, 3) := by decide +kernel
theorem dX11_makeMeanEye_44 : decode cX11_makeMeanEye 44 = .ok (.getfield 234, 3) := by decide +kernel
theorem dX11_makeMeanEye_47 : decode cX11_makeMeanEye 47 = .ok (.iload 5, 2) := by decide +kernel
theorem dX11_makeMeanEye_49 : decode cX11_makeMeanEye 49 = .ok (.aaload, 1) := by decide +kernel
theorem dX11_makeMeanEye_50 : decode cX11_makeMeanEye 50 = .ok (.iload_n 3, 1) := by decide +kernel
theorem dX11_makeMeanEye_51 : decode cX11_makeMeanEye 51 = .ok (.invokevirtual 112, 3) := by decide +kernel
theorem dX11_makeMeanEye_54 : decode cX11_makeMeanEye 54 = .ok (.goto 4, 3) := by decide +kernel
theorem dX11_makeMeanEye_57 : decode cX11_makeMeanEye 57 = .ok (.iconst 0, 1) := by decide +kernel
theorem dX11_makeMeanEye_58 : decode cX11_makeMeanEye 58 = .ok (.iadd, 1) := by decide +kernel
theorem dX11_makeMeanEye_59 : decode cX11_makeMeanEye 59 = .ok (.istore 4, 2) := by decide +kernel
theorem dX11_makeMeanEye_61 : decode cX11_makeMeanEye 61 = .ok (.iinc 5 1, 3) := by decide +kernel
theorem dX11_makeMeanEye_64 : decode cX11_makeMeanEye 64 = .ok (.goto (-42), 3) := by decide +kernel
theorem dX11_makeMeanEye_67 : decode cX11_makeMeanEye 67 = .ok (.aload_n 0, 1) := by decide +kernel
theorem dX11_makeMeanEye_68 : decode cX11_makeMeanEye 68 = .ok (.getfield 56, 3) := by decide +kernel
theorem dX11_makeMeanEye_71 : decode cX11_makeMeanEye 71 = .ok (.iload_n 3, 1) := by decide +kernel
theorem dX11_makeMeanEye_72 : decode cX11_makeMeanEye 72 = .ok (.iload_n 2, 1) := by decide +kernel
theorem dX11_makeMeanEye_73 : decode cX11_makeMeanEye 73 = .ok (.ifCond .ne 7, 3) := by decide +kernel
theorem dX11_makeMeanEye_76 : decode cX11_makeMeanEye 76 = .ok (.iconst 0, 1) := by decide +kernel
theorem dX11_makeMeanEye_77 : decode cX11_makeMeanEye 77 = .ok (.goto 7, 3) := by decide +kernel
theorem dX11_makeMeanEye_80 : decode cX11_makeMeanEye 80 = .ok (.iload 4, 2) := by decide +kernel
theorem dX11_makeMeanEye_82 : decode cX11_makeMeanEye 82 = .ok (.iload_n 2, 1) := by decide +kernel
theorem dX11_makeMeanEye_83 : decode cX11_makeMeanEye 83 = .ok (.idiv, 1) := by decide +kernel
theorem dX11_makeMeanEye_84 : decode cX11_makeMeanEye 84 = .ok (.invokevirtual 115, 3) := by decide +kernel
theorem dX11_makeMeanEye_87 : decode cX11_makeMeanEye 87 = .ok (.iinc 3 1, 3) := by decide +kernel
theorem dX11_makeMeanEye_90 : decode cX11_makeMeanEye 90 = .ok (.goto (-79), 3) := by decide +kernel
theorem dX11_makeMeanEye_93 : decode cX11_makeMeanEye 93 = .ok (.return_, 1) := by decide +kernel
theorem dX11_fault_0 : decode cX11_fault 0 = .ok (.aload_n 0, 1) := by decide +kernel
theorem dX11_fault_1 : decode cX11_fault 1 = .ok (.iload_n 1, 1) := by decide +kernel
theorem dX11_fault_2 : decode cX11_fault 2 = .ok (.invokevirtual 248, 3) := by decide +kernel
theorem dX11_fault_5 : decode cX11_fault 5 = .ok (.istore_n 2, 1) := by decide +kernel
theorem dX11_fault_6 : decode cX11_fault 6 = .ok (.iload_n 2, 1) := by decide +kernel
theorem dX11_fault_7 : decode cX11_fault 7 = .ok (.ifCond .eq 5, 3) := by decide +kernel
theorem dX11_fault_10 : decode cX11_fault 10 = .ok (.iload_n 2, 1) := by decide +kernel
theorem dX11_fault_11 : decode cX11_fault 11 = .ok (.ireturn, 1) := by decide +kernel
theorem dX11_fault_12 : decode cX11_fault 12 = .ok (.aload_n 0, 1) := by decide +kernel
theorem dX11_fault_13 : decode cX11_fault 13 = .ok (.getfield 28, 3) := by decide +kernel
theorem dX11_fault_16 : decode cX11_fault 16 = .ok (.aload_n 0, 1) := by decide +kernel
theorem dX11_fault_17 : decode cX11_fault 17 = .ok (.getfield 21, 3) := by decide +kernel
theorem dX11_fault_20 : decode cX11_fault 20 = .ok (.iload_n 1, 1) := by decide +kernel
theorem dX11_fault_21 : decode cX11_fault 21 = .ok (.aaload, 1) := by decide +kernel
theorem dX11_fault_22 : decode cX11_fault 22 = .ok (.getfield 141, 3) := by decide +kernel
theorem dX11_fault_25 : decode cX11_fault 25 = .ok (.getfield 154, 3) := by decide +kernel
theorem dX11_fault_28 : decode cX11_fault 28 = .ok (.aload_n 0, 1) := by decide +kernel
theorem dX11_fault_29 : decode cX11_fault 29 = .ok (.getfield 21, 3) := by decide +kernel
theorem dX11_fault_32 : decode cX11_fault 32 = .ok (.iload_n 1, 1) := by decide +kernel
theorem dX11_fault_33 : decode cX11_fault 33 = .ok (.aaload, 1) := by decide +kernel
theorem dX11_fault_34 : decode cX11_fault 34 = .ok (.getfield 141, 3) := by decide +kernel
theorem dX11_fault_37 : decode cX11_fault 37 = .ok (.getfield 145, 3) := by decide +kernel
theorem dX11_fault_40 : decode cX11_fault 40 = .ok (.invokevirtual 251, 3) := by decide +kernel
theorem dX11_fault_43 : decode cX11_fault 43 = .ok (.ireturn, 1) := by decide +kernel
theorem dX11_rule_0 : decode cX11_rule 0 = .ok (.aload_n 0, 1) := by decide +kernel
theorem dX11_rule_1 : decode cX11_rule 1 = .ok (.iload_n 1, 1) := by decide +kernel
theorem dX11_rule_2 : decode cX11_rule 2 = .ok (.invokevirtual 248, 3) := by decide +kernel
theorem dX11_rule_5 : decode cX11_rule 5 = .ok (.istore_n 2, 1) := by decide +kernel
theorem dX11_rule_6 : decode cX11_rule 6 = .ok (.iload_n 2, 1) := by decide +kernel
theorem dX11_rule_7 : decode cX11_rule 7 = .ok (.ifCond .eq 5, 3) := by decide +kernel
theorem dX11_rule_10 : decode cX11_rule 10 = .ok (.iload_n 2, 1) := by decide +kernel
theorem dX11_rule_11 : decode cX11_rule 11 = .ok (.ireturn, 1) := by decide +kernel
theorem dX11_rule_12 : decode cX11_rule 12 = .ok (.aload_n 0, 1) := by decide +kernel
theorem dX11_rule_13 : decode cX11_rule 13 = .ok (.getfield 21, 3) := by decide +kernel
theorem dX11_rule_16 : decode cX11_rule 16 = .ok (.iload_n 1, 1) := by decide +kernel
theorem dX11_rule_17 : decode cX11_rule 17 = .ok (.aaload, 1) := by decide +kernel
theorem dX11_rule_18 : decode cX11_rule 18 = .ok (.getfield 141, 3) := by decide +kernel
theorem dX11_rule_21 : decode cX11_rule 21 = .ok (.astore_n 3, 1) := by decide +kernel
theorem dX11_rule_22 : decode cX11_rule 22 = .ok (.aload_n 0, 1) := by decide +kernel
theorem dX11_rule_23 : decode cX11_rule 23 = .ok (.getfield 28, 3) := by decide +kernel
theorem dX11_rule_26 : decode cX11_rule 26 = .ok (.aload_n 3, 1) := by decide +kernel
theorem dX11_rule_27 : decode cX11_rule 27 = .ok (.getfield 154, 3) := by decide +kernel
theorem dX11_rule_30 : decode cX11_rule 30 = .ok (.aload_n 3, 1) := by decide +kernel
theorem dX11_rule_31 : decode cX11_rule 31 = .ok (.getfield 145, 3) := by decide +kernel
theorem dX11_rule_34 : decode cX11_rule 34 = .ok (.invokevirtual 251, 3) := by decide +kernel
theorem dX11_rule_37 : decode cX11_rule 37 = .ok (.istore 4, 2) := by decide +kernel
theorem dX11_rule_39 : decode cX11_rule 39 = .ok (.iload 4, 2) := by decide +kernel
theorem dX11_rule_41 : decode cX11_rule 41 = .ok (.bipush (-4), 2) := by decide +kernel
theorem dX11_rule_43 : decode cX11_rule 43 = .ok (.if_icmp .eq 9, 3) := by decide +kernel
theorem dX11_rule_46 : decode cX11_rule 46 = .ok (.bipush (-100), 2) := by decide +kernel
theorem dX11_rule_48 : decode cX11_rule 48 = .ok (.iload 4, 2) := by decide +kernel
theorem dX11_rule_50 : decode cX11_rule 50 = .ok (.isub, 1) := by decide +kernel
theorem dX11_rule_51 : decode cX11_rule 51 = .ok (.ireturn, 1) := by decide +kernel
theorem dX11_rule_52 : decode cX11_rule 52 = .ok (.aload_n 0, 1) := by decide +kernel
theorem dX11_rule_53 : decode cX11_rule 53 = .ok (.getfield 10, 3) := by decide +kernel
theorem dX11_rule_56 : decode cX11_rule 56 = .ok (.aload_n 3, 1) := by decide +kernel
theorem dX11_rule_57 : decode cX11_rule 57 = .ok (.getfield 154, 3) := by decide +kernel
theorem dX11_rule_60 : decode cX11_rule 60 = .ok (.aload_n 3, 1) := by decide +kernel
theorem dX11_rule_61 : decode cX11_rule 61 = .ok (.getfield 145, 3) := by decide +kernel
theorem dX11_rule_64 : decode cX11_rule 64 = .ok (.invokevirtual 255, 3) := by decide +kernel
theorem dX11_rule_67 : decode cX11_rule 67 = .ok (.iconst 1, 1) := by decide +kernel
theorem dX11_rule_68 : decode cX11_rule 68 = .ok (.ireturn, 1) := by decide +kernel
theorem dX11_right_0 : decode cX11_right 0 = .ok (.aload_n 0, 1) := by decide +kernel
theorem dX11_right_1 : decode cX11_right 1 = .ok (.getfield 10, 3) := by decide +kernel
theorem dX11_right_4 : decode cX11_right 4 = .ok (.iload_n 1, 1) := by decide +kernel
theorem dX11_right_5 : decode cX11_right 5 = .ok (.invokevirtual 93, 3) := by decide +kernel
theorem dX11_right_8 : decode cX11_right 8 = .ok (.astore_n 2, 1) := by decide +kernel
theorem dX11_right_9 : decode cX11_right 9 = .ok (.aload_n 2, 1) := by decide +kernel
theorem dX11_right_10 : decode cX11_right 10 = .ok (.ifnonnull 8, 3) := by decide +kernel
theorem dX11_right_13 : decode cX11_right 13 = .ok (.ldc 226, 2) := by decide +kernel
theorem dX11_right_15 : decode cX11_right 15 = .ok (.goto 15, 3) := by decide +kernel
theorem dX11_right_18 : decode cX11_right 18 = .ok (.aload_n 0, 1) := by decide +kernel
theorem dX11_right_19 : decode cX11_right 19 = .ok (.getfield 28, 3) := by decide +kernel
theorem dX11_right_22 : decode cX11_right 22 = .ok (.aload_n 0, 1) := by decide +kernel
theorem dX11_right_23 : decode cX11_right 23 = .ok (.getfield 10, 3) := by decide +kernel
theorem dX11_right_26 : decode cX11_right 26 = .ok (.aload_n 2, 1) := by decide +kernel
theorem dX11_right_27 : decode cX11_right 27 = .ok (.invokevirtual 259, 3) := by decide +kernel
theorem dX11_right_30 : decode cX11_right 30 = .ok (.ireturn, 1) := by decide +kernel
theorem dX11_standard_0 : decode cX11_standard 0 = .ok (.aload_n 0, 1) := by decide +kernel
theorem dX11_standard_1 : decode cX11_standard 1 = .ok (.getfield 10, 3) := by decide +kernel
theorem dX11_standard_4 : decode cX11_standard 4 = .ok (.iload_n 1, 1) := by decide +kernel
theorem dX11_standard_5 : decode cX11_standard 5 = .ok (.invokevirtual 183, 3) := by decide +kernel
theorem dX11_standard_8 : decode cX11_standard 8 = .ok (.ifCond .ne 5, 3) := by decide +kernel
theorem dX11_standard_11 : decode cX11_standard 11 = .ok (.iconst (-1), 1) := by decide +kernel
theorem dX11_standard_12 : decode cX11_standard 12 = .ok (.ireturn, 1) := by decide +kernel
theorem dX11_standard_13 : decode cX11_standard 13 = .ok (.aload_n 0, 1) := by decide +kernel
theorem dX11_standard_14 : decode cX11_standard 14 = .ok (.getfield 10, 3) := by decide +kernel
theorem dX11_standard_17 : decode cX11_standard 17 = .ok (.getfield 263, 3) := by decide +kernel
theorem dX11_standard_20 : decode cX11_standard 20 = .ok (.istore_n 2, 1) := by decide +kernel
theorem dX11_standard_21 : decode cX11_standard 21 = .ok (.aload_n 0, 1) := by decide +kernel
theorem dX11_standard_22 : decode cX11_standard 22 = .ok (.getfield 10, 3) := by decide +kernel
theorem dX11_standard_25 : decode cX11_standard 25 = .ok (.iload_n 1, 1) := by decide +kernel
theorem dX11_standard_26 : decode cX11_standard 26 = .ok (.putfield 263, 3) := by decide +kernel
theorem dX11_standard_29 : decode cX11_standard 29 = .ok (.iload_n 2, 1) := by decide +kernel
theorem dX11_standard_30 : decode cX11_standard 30 = .ok (.ireturn, 1) := by decide +kernel
theorem dX11_worth_0 : decode cX11_worth 0 = .ok (.aload_n 0, 1) := by decide +kernel
theorem dX11_worth_1 : decode cX11_worth 1 = .ok (.getfield 10, 3) := by decide +kernel
theorem dX11_worth_4 : decode cX11_worth 4 = .ok (.iload_n 1, 1) := by decide +kernel
theorem dX11_worth_5 : decode cX11_worth 5 = .ok (.invokevirtual 93, 3) := by decide +kernel
theorem dX11_worth_8 : decode cX11_worth 8 = .ok (.astore_n 2, 1) := by decide +kernel
theorem dX11_worth_9 : decode cX11_worth 9 = .ok (.aload_n 2, 1) := by decide +kernel
theorem dX11_worth_10 : decode cX11_worth 10 = .ok (.ifnonnull 7, 3) := by decide +kernel
theorem dX11_worth_13 : decode cX11_worth 13 = .ok (.ldc2_w 119, 3) := by decide +kernel
theorem dX11_worth_16 : decode cX11_worth 16 = .ok (.lreturn, 1) := by decide +kernel
theorem dX11_worth_17 : decode cX11_worth 17 = .ok (.aload_n 0, 1) := by decide +kernel
theorem dX11_worth_18 : decode cX11_worth 18 = .ok (.getfield 10, 3) := by decide +kernel
theorem dX11_worth_21 : decode cX11_worth 21 = .ok (.getfield 263, 3) := by decide +kernel
theorem dX11_worth_24 : decode cX11_worth 24 = .ok (.bipush (-4), 2) := by decide +kernel
theorem dX11_worth_26 : decode cX11_worth 26 = .ok (.if_icmp .ne 7, 3) := by decide +kernel
theorem dX11_worth_29 : decode cX11_worth 29 = .ok (.ldc2_w 266, 3) := by decide +kernel
theorem dX11_worth_32 : decode cX11_worth 32 = .ok (.lreturn, 1) := by decide +kernel
theorem dX11_worth_33 : decode cX11_worth 33 = .ok (.aload_n 0, 1) := by decide +kernel
theorem dX11_worth_34 : decode cX11_worth 34 = .ok (.aload_n 2, 1) := by decide +kernel
theorem dX11_worth_35 : decode cX11_worth 35 = .ok (.invokevirtual 268, 3) := by decide +kernel
theorem dX11_worth_38 : decode cX11_worth 38 = .ok (.lreturn, 1) := by decide +kernel
theorem dX11_steady_0 : decode cX11_steady 0 = .ok (.iload_n 1, 1) := by decide +kernel
theorem dX11_steady_1 : decode cX11_steady 1 = .ok (.ifCond .le 16, 3) := by decide +kernel
theorem dX11_steady_4 : decode cX11_steady 4 = .ok (.iload_n 1, 1) := by decide +kernel
theorem dX11_steady_5 : decode cX11_steady 5 = .ok (.iconst 1, 1) := by decide +kernel
theorem dX11_steady_6 : decode cX11_steady 6 = .ok (.aload_n 0, 1) := by decide +kernel
theorem dX11_steady_7 : decode cX11_steady 7 = .ok (.getfield 10, 3) := by decide +kernel
theorem dX11_steady_10 : decode cX11_steady 10 = .ok (.getfield 65, 3) := by decide +kernel
theorem dX11_steady_13 : decode cX11_steady 13 = .ok (.ishl, 1) := by decide +kernel
theorem dX11_steady_14 : decode cX11_steady 14 = .ok (.if_icmp .lt 5, 3) := by decide +kernel
theorem dX11_steady_17 : decode cX11_steady 17 = .ok (.iconst (-1), 1) := by decide +kernel
theorem dX11_steady_18 : decode cX11_steady 18 = .ok (.ireturn, 1) := by decide +kernel
theorem dX11_steady_19 : decode cX11_steady 19 = .ok (.iconst (-1), 1) := by decide +kernel
theorem dX11_steady_20 : decode cX11_steady 20 = .ok (.istore_n 2, 1) := by decide +kernel
theorem dX11_steady_21 : decode cX11_steady 21 = .ok (.iconst 0, 1) := by decide +kernel
theorem dX11_steady_22 : decode cX11_steady 22 = .ok (.istore_n 3, 1) := by decide +kernel
theorem dX11_steady_23 : decode cX11_steady 23 = .ok (.iload_n 3, 1) := by decide +kernel
theorem dX11_steady_24 : decode cX11_steady 24 = .ok (.aload_n 0, 1) := by decide +kernel
theorem dX11_steady_25 : decode cX11_steady 25 = .ok (.getfield 10, 3) := by decide +kernel
theorem dX11_steady_28 : decode cX11_steady 28 = .ok (.getfield 65, 3) := by decide +kernel
theorem dX11_steady_31 : decode cX11_steady 31 = .ok (.if_icmp .ge 48, 3) := by decide +kernel
theorem dX11_steady_34 : decode cX11_steady 34 = .ok (.iload_n 1, 1) := by decide +kernel
theorem dX11_steady_35 : decode cX11_steady 35 = .ok (.iload_n 3, 1) := by decide +kernel
theorem dX11_steady_36 : decode cX11_steady 36 = .ok (.invokestatic 231, 3) := by decide +kernel
theorem dX11_steady_39 : decode cX11_steady 39 = .ok (.ifCond .eq 34, 3) := by decide +kernel
theorem dX11_steady_42 : decode cX11_steady 42 = .ok (.iload_n 2, 1) := by decide +kernel
theorem dX11_steady_43 : decode cX11_steady 43 = .ok (.ifCond .lt 28, 3) := by decide +kernel
theorem dX11_steady_46 : decode cX11_steady 46 = .ok (.aload_n 0, 1) := by decide +kernel
theorem dX11_steady_47 : decode cX11_steady 47 = .ok (.aload_n 0, 1) := by decide +kernel
theorem dX11_steady_48 : decode cX11_steady 48 = .ok (.getfield 10, 3) := by decide +kernel
theorem dX11_steady_51 : decode cX11_steady 51 = .ok (.getfield 69, 3) := by decide +kernel
theorem dX11_steady_54 : decode cX11_steady 54 = .ok (.iload_n 3, 1) := by decide +kernel
theorem dX11_steady_55 : decode cX11_steady 55 = .ok (.aaload, 1) := by decide +kernel
theorem dX11_steady_56 : decode cX11_steady 56 = .ok (.aload_n 0, 1) := by decide +kernel
theorem dX11_steady_57 : decode cX11_steady 57 = .ok (.getfield 10, 3) := by decide +kernel
theorem dX11_steady_60 : decode cX11_steady 60 = .ok (.getfield 69, 3) := by decide +kernel
theorem dX11_steady_63 : decode cX11_steady 63 = .ok (.iload_n 2, 1) := by decide +kernel
theorem dX11_steady_64 : decode cX11_steady 64 = .ok (.aaload, 1) := by decide +kernel
theorem dX11_steady_65 : decode cX11_steady 65 = .ok (.invokevirtual 272, 3) := by decide +kernel
theorem dX11_steady_68 : decode cX11_steady 68 = .ok (.ifCond .eq 5, 3) := by decide +kernel
theorem dX11_steady_71 : decode cX11_steady 71 = .ok (.iload_n 3, 1) := by decide +kernel
theorem dX11_steady_72 : decode cX11_steady 72 = .ok (.istore_n 2, 1) := by decide +kernel
theorem dX11_steady_73 : decode cX11_steady 73 = .ok (.iinc 3 1, 3) := by decide +kernel
theorem dX11_steady_76 : decode cX11_steady 76 = .ok (.goto (-53), 3) := by decide +kernel
theorem dX11_steady_79 : decode cX11_steady 79 = .ok (.iload_n 2, 1) := by decide +kernel
theorem dX11_steady_80 : decode cX11_steady 80 = .ok (.ireturn, 1) := by decide +kernel
theorem dX11_aged_0 : decode cX11_aged 0 = .ok (.iload_n 1, 1) := by decide +kernel
theorem dX11_aged_1 : decode cX11_aged 1 = .ok (.iconst 1, 1) := by decide +kernel
theorem dX11_aged_2 : decode cX11_aged 2 = .ok (.bipush 100, 2) := by decide +kernel
theorem dX11_aged_4 : decode cX11_aged 4 = .ok (.invokestatic 61, 3) := by decide +kernel
theorem dX11_aged_7 : decode cX11_aged 7 = .ok (.ifCond .ne 5, 3) := by decide +kernel
theorem dX11_aged_10 : decode cX11_aged 10 = .ok (.iconst (-1), 1) := by decide +kernel
theorem dX11_aged_11 : decode cX11_aged 11 = .ok (.ireturn, 1) := by decide +kernel
theorem dX11_aged_12 : decode cX11_aged 12 = .ok (.iconst 0, 1) := by decide +kernel
theorem dX11_aged_13 : decode cX11_aged 13 = .ok (.istore_n 2, 1) := by decide +kernel
theorem dX11_aged_14 : decode cX11_aged 14 = .ok (.iconst 0, 1) := by decide +kernel
theorem dX11_aged_15 : decode cX11_aged 15 = .ok (.istore_n 3, 1) := by decide +kernel
theorem dX11_aged_16 : decode cX11_aged 16 = .ok (.iload_n 3, 1) := by decide +kernel
theorem dX11_aged_17 : decode cX11_aged 17 = .ok (.aload_n 0, 1) := by decide +kernel
theorem dX11_aged_18 : decode cX11_aged 18 = .ok (.getfield 10, 3) := by decide +kernel
theorem dX11_aged_21 : decode cX11_aged 21 = .ok (.getfield 65, 3) := by decide +kernel
theorem dX11_aged_24 : decode cX11_aged 24 = .ok (.if_icmp .ge 38, 3) := by decide +kernel
theorem dX11_aged_27 : decode cX11_aged 27 = .ok (.aload_n 0, 1) := by decide +kernel
theorem dX11_aged_28 : decode cX11_aged 28 = .ok (.getfield 10, 3) := by decide +kernel
theorem dX11_aged_31 : decode cX11_aged 31 = .ok (.getfield 69, 3) := by decide +kernel
theorem dX11_aged_34 : decode cX11_aged 34 = .ok (.iload_n 3, 1) := by decide +kernel
theorem dX11_aged_35 : decode cX11_aged 35 = .ok (.aaload, 1) := by decide +kernel
theorem dX11_aged_36 : decode cX11_aged 36 = .ok (.iload_n 1, 1) := by decide +kernel
theorem dX11_aged_37 : decode cX11_aged 37 = .ok (.aload_n 0, 1) := by decide +kernel
theorem dX11_aged_38 : decode cX11_aged 38 = .ok (.getfield 10, 3) := by decide +kernel
theorem dX11_aged_41 : decode cX11_aged 41 = .ok (.getfield 98, 3) := by decide +kernel
theorem dX11_aged_44 : decode cX11_aged 44 = .ok (.invokevirtual 276, 3) := by decide +kernel
theorem dX11_aged_47 : decode cX11_aged 47 = .ok (.ifCond .eq 9, 3) := by decide +kernel
theorem dX11_aged_50 : decode cX11_aged 50 = .ok (.iload_n 2, 1) := by decide +kernel
theorem dX11_aged_51 : decode cX11_aged 51 = .ok (.iconst 1, 1) := by decide +kernel
theorem dX11_aged_52 : decode cX11_aged 52 = .ok (.iload_n 3, 1) := by decide +kernel
theorem dX11_aged_53 : decode cX11_aged 53 = .ok (.ishl, 1) := by decide +kernel
theorem dX11_aged_54 : decode cX11_aged 54 = .ok (.ior, 1) := by decide +kernel
theorem dX11_aged_55 : decode cX11_aged 55 = .ok (.istore_n 2, 1) := by decide +kernel
theorem dX11_aged_56 : decode cX11_aged 56 = .ok (.iinc 3 1, 3) := by decide +kernel
theorem dX11_aged_59 : decode cX11_aged 59 = .ok (.goto (-43), 3) := by decide +kernel
theorem dX11_aged_62 : decode cX11_aged 62 = .ok (.iload_n 2, 1) := by decide +kernel
theorem dX11_aged_63 : decode cX11_aged 63 = .ok (.ireturn, 1) := by decide +kernel
theorem dX11_bill_0 : decode cX11_bill 0 = .ok (.aload_n 0, 1) := by decide +kernel
theorem dX11_bill_1 : decode cX11_bill 1 = .ok (.getfield 10, 3) := by decide +kernel
theorem dX11_bill_4 : decode cX11_bill 4 = .ok (.iload_n 2, 1) := by decide +kernel
theorem dX11_bill_5 : decode cX11_bill 5 = .ok (.invokevirtual 93, 3) := by decide +kernel
theorem dX11_bill_8 : decode cX11_bill 8 = .ok (.astore 4, 2) := by decide +kernel
theorem dX11_bill_10 : decode cX11_bill 10 = .ok (.aload 4, 2) := by decide +kernel
theorem dX11_bill_12 : decode cX11_bill 12 = .ok (.ifnull 23, 3) := by decide +kernel
theorem dX11_bill_15 : decode cX11_bill 15 = .ok (.iload_n 1, 1) := by decide +kernel
theorem dX11_bill_16 : decode cX11_bill 16 = .ok (.iconst 0, 1) := by decide +kernel
theorem dX11_bill_17 : decode cX11_bill 17 = .ok (.iconst 3, 1) := by decide +kernel
theorem dX11_bill_18 : decode cX11_bill 18 = .ok (.invokestatic 61, 3) := by decide +kernel
theorem dX11_bill_21 : decode cX11_bill 21 = .ok (.ifCond .eq 14, 3) := by decide +kernel
theorem dX11_bill_24 : decode cX11_bill 24 = .ok (.iload_n 3, 1) := by decide +kernel
theorem dX11_bill_25 : decode cX11_bill 25 = .ok (.iconst 1, 1) := by decide +kernel
theorem dX11_bill_26 : decode cX11_bill 26 = .ok (.sipush 999, 3) := by decide +kernel
theorem dX11_bill_29 : decode cX11_bill 29 = .ok (.invokestatic 61, 3) := by decide +kernel
theorem dX11_bill_32 : decode cX11_bill 32 = .ok (.ifCond .ne 5, 3) := by decide +kernel
theorem dX11_bill_35 : decode cX11_bill 35 = .ok (.iconst (-1), 1) := by decide +kernel
theorem dX11_bill_36 : decode cX11_bill 36 = .ok (.ireturn, 1) := by decide +kernel
theorem dX11_bill_37 : decode cX11_bill 37 = .ok (.aload_n 0, 1) := by decide +kernel
theorem dX11_bill_38 : decode cX11_bill 38 = .ok (.getfield 10, 3) := by decide +kernel
theorem dX11_bill_41 : decode cX11_bill 41 = .ok (.getfield 279, 3) := by decide +kernel
theorem dX11_bill_44 : decode cX11_bill 44 = .ok (.bipush 20, 2) := by decide +kernel
theorem dX11_bill_46 : decode cX11_bill 46 = .ok (.if_icmp .lt 6, 3) := by decide +kernel
theorem dX11_bill_49 : decode cX11_bill 49 = .ok (.bipush (-2), 2) := by decide +kernel
theorem dX11_bill_51 : decode cX11_bill 51 = .ok (.ireturn, 1) := by decide +kernel
theorem dX11_bill_52 : decode cX11_bill 52 = .ok (.aload_n 0, 1) := by decide +kernel
theorem dX11_bill_53 : decode cX11_bill 53 = .ok (.getfield 10, 3) := by decide +kernel
theorem dX11_bill_56 : decode cX11_bill 56 = .ok (.getfield 263, 3) := by decide +kernel
theorem dX11_bill_59 : decode cX11_bill 59 = .ok (.bipush (-4), 2) := by decide +kernel
theorem dX11_bill_61 : decode cX11_bill 61 = .ok (.if_icmp .ne 6, 3) := by decide +kernel
theorem dX11_bill_64 : decode cX11_bill 64 = .ok (.bipush (-3), 2) := by decide +kernel
theorem dX11_bill_66 : decode cX11_bill 66 = .ok (.ireturn, 1) := by decide +kernel
theorem dX11_bill_67 : decode cX11_bill 67 = .ok (.aload_n 0, 1) := by decide +kernel
theorem dX11_bill_68 : decode cX11_bill 68 = .ok (.getfield 10, 3) := by decide +kernel
theorem dX11_bill_71 : decode cX11_bill 71 = .ok (.getfield 279, 3) := by decide +kernel
theorem dX11_bill_74 : decode cX11_bill 74 = .ok (.istore 5, 2) := by decide +kernel
theorem dX11_bill_76 : decode cX11_bill 76 = .ok (.aload_n 0, 1) := by decide +kernel
theorem dX11_bill_77 : decode cX11_bill 77 = .ok (.getfield 10, 3) := by decide +kernel
theorem dX11_bill_80 : decode cX11_bill 80 = .ok (.getfield 282, 3) := by decide +kernel
theorem dX11_bill_83 : decode cX11_bill 83 = .ok (.iload 5, 2) := by decide +kernel
theorem dX11_bill_85 : decode cX11_bill 85 = .ok (.aaload, 1) := by decide +kernel
theorem dX11_bill_86 : decode cX11_bill 86 = .ok (.astore 6, 2) := by decide +kernel
theorem dX11_bill_88 : decode cX11_bill 88 = .ok (.aload 6, 2) := by decide +kernel
theorem dX11_bill_90 : decode cX11_bill 90 = .ok (.iload_n 1, 1) := by decide +kernel
theorem dX11_bill_91 : decode cX11_bill 91 = .ok (.putfield 286, 3) := by decide +kernel
theorem dX11_bill_94 : decode cX11_bill 94 = .ok (.aload 6, 2) := by decide +kernel
theorem dX11_bill_96 : decode cX11_bill 96 = .ok (.iload_n 2, 1) := by decide +kernel
theorem dX11_bill_97 : decode cX11_bill 97 = .ok (.putfield 291, 3) := by decide +kernel
theorem dX11_bill_100 : decode cX11_bill 100 = .ok (.aload 6, 2) := by decide +kernel
theorem dX11_bill_102 : decode cX11_bill 102 = .ok (.iload_n 3, 1) := by decide +kernel
theorem dX11_bill_103 : decode cX11_bill 103 = .ok (.putfield 294, 3) := by decide +kernel
theorem dX11_bill_106 : decode cX11_bill 106 = .ok (.aload 6, 2) := by decide +kernel
theorem dX11_bill_108 : decode cX11_bill 108 = .ok (.iload_n 3, 1) := by decide +kernel
theorem dX11_bill_109 : decode cX11_bill 109 = .ok (.i2l, 1) := by decide +kernel
theorem dX11_bill_110 : decode cX11_bill 110 = .ok (.aload_n 0, 1) := by decide +kernel
theorem dX11_bill_111 : decode cX11_bill 111 = .ok (.aload 4, 2) := by decide +kernel
theorem dX11_bill_113 : decode cX11_bill 113 = .ok (.invokevirtual 268, 3) := by decide +kernel
theorem dX11_bill_116 : decode cX11_bill 116 = .ok (.lmul, 1) := by decide +kernel
theorem dX11_bill_117 : decode cX11_bill 117 = .ok (.ldc2_w 297, 3) := by decide +kernel
theorem dX11_bill_120 : decode cX11_bill 120 = .ok (.ldiv, 1) := by decide +kernel
theorem dX11_bill_121 : decode cX11_bill 121 = .ok (.putfield 299, 3) := by decide +kernel
theorem dX11_bill_124 : decode cX11_bill 124 = .ok (.aload_n 0, 1) := by decide +kernel
theorem dX11_bill_125 : decode cX11_bill 125 = .ok (.getfield 10, 3) := by decide +kernel
theorem dX11_bill_128 : decode cX11_bill 128 = .ok (.dup, 1) := by decide +kernel
theorem dX11_bill_129 : decode cX11_bill 129 = .ok (.getfield 279, 3) := by decide +kernel
theorem dX11_bill_132 : decode cX11_bill 132 = .ok (.iconst 1, 1) := by decide +kernel
theorem dX11_bill_133 : decode cX11_bill 133 = .ok (.iadd, 1) := by decide +kernel
theorem dX11_bill_134 : decode cX11_bill 134 = .ok (.putfield 279, 3) := by decide +kernel
theorem dX11_bill_137 : decode cX11_bill 137 = .ok (.iload 5, 2) := by decide +kernel
theorem dX11_bill_139 : decode cX11_bill 139 = .ok (.ireturn, 1) := by decide +kernel
theorem dX11_paid_0 : decode cX11_paid 0 = .ok (.iload_n 1, 1) := by decide +kernel
theorem dX11_paid_1 : decode cX11_paid 1 = .ok (.iconst 0, 1) := by decide +kernel
theorem dX11_paid_2 : decode cX11_paid 2 = .ok (.aload_n 0, 1) := by decide +kernel
theorem dX11_paid_3 : decode cX11_paid 3 = .ok (.getfield 10, 3) := by decide +kernel
theorem dX11_paid_6 : decode cX11_paid 6 = .ok (.getfield 279, 3) := by decide +kernel
theorem dX11_paid_9 : decode cX11_paid 9 = .ok (.iconst 1, 1) := by decide +kernel
theorem dX11_paid_10 : decode cX11_paid 10 = .ok (.isub, 1) := by decide +kernel
theorem dX11_paid_11 : decode cX11_paid 11 = .ok (.invokestatic 61, 3) := by decide +kernel
theorem dX11_paid_14 : decode cX11_paid 14 = .ok (.ifCond .eq 18, 3) := by decide +kernel
theorem dX11_paid_17 : decode cX11_paid 17 = .ok (.aload_n 0, 1) := by decide +kernel
theorem dX11_paid_18 : decode cX11_paid 18 = .ok (.getfield 10, 3) := by decide +kernel
theorem dX11_paid_21 : decode cX11_paid 21 = .ok (.getfield 282, 3) := by decide +kernel
theorem dX11_paid_24 : decode cX11_paid 24 = .ok (.iload_n 1, 1) := by decide +kernel
theorem dX11_paid_25 : decode cX11_paid 25 = .ok (.aaload, 1) := by decide +kernel
theorem dX11_paid_26 : decode cX11_paid 26 = .ok (.getfield 299, 3) := by decide +kernel
theorem dX11_paid_29 : decode cX11_paid 29 = .ok (.goto 6, 3) := by decide +kernel
theorem dX11_paid_32 : decode cX11_paid 32 = .ok (.ldc2_w 119, 3) := by decide +kernel
theorem dX11_paid_35 : decode cX11_paid 35 = .ok (.lreturn, 1) := by decide +kernel
theorem dX11_owed_0 : decode cX11_owed 0 = .ok (.iload_n 1, 1) := by decide +kernel
theorem dX11_owed_1 : decode cX11_owed 1 = .ok (.iconst 0, 1) := by decide +kernel
theorem dX11_owed_2 : decode cX11_owed 2 = .ok (.iconst 3, 1) := by decide +kernel
theorem dX11_owed_3 : decode cX11_owed 3 = .ok (.invokestatic 61, 3) := by decide +kernel
theorem dX11_owed_6 : decode cX11_owed 6 = .ok (.ifCond .ne 7, 3) := by decide +kernel
theorem dX11_owed_9 : decode cX11_owed 9 = .ok (.ldc2_w 119, 3) := by decide +kernel
theorem dX11_owed_12 : decode cX11_owed 12 = .ok (.lreturn, 1) := by decide +kernel
theorem dX11_owed_13 : decode cX11_owed 13 = .ok (.aload_n 0, 1) := by decide +kernel
theorem dX11_owed_14 : decode cX11_owed 14 = .ok (.getfield 10, 3) := by decide +kernel
theorem dX11_owed_17 : decode cX11_owed 17 = .ok (.getfield 263, 3) := by decide +kernel
theorem dX11_owed_20 : decode cX11_owed 20 = .ok (.bipush (-4), 2) := by decide +kernel
theorem dX11_owed_22 : decode cX11_owed 22 = .ok (.if_icmp .ne 7, 3) := by decide +kernel
theorem dX11_owed_25 : decode cX11_owed 25 = .ok (.ldc2_w 266, 3) := by decide +kernel
theorem dX11_owed_28 : decode cX11_owed 28 = .ok (.lreturn, 1) := by decide +kernel
theorem dX11_owed_29 : decode cX11_owed 29 = .ok (.lconst 0, 1) := by decide +kernel
theorem dX11_owed_30 : decode cX11_owed 30 = .ok (.lstore_n 2, 1) := by decide +kernel
theorem dX11_owed_31 : decode cX11_owed 31 = .ok (.iconst 0, 1) := by decide +kernel
theorem dX11_owed_32 : decode cX11_owed 32 = .ok (.istore 4, 2) := by decide +kernel
theorem dX11_owed_34 : decode cX11_owed 34 = .ok (.iload 4, 2) := by decide +kernel
theorem dX11_owed_36 : decode cX11_owed 36 = .ok (.aload_n 0, 1) := by decide +kernel
theorem dX11_owed_37 : decode cX11_owed 37 = .ok (.getfield 10, 3) := by decide +kernel
theorem dX11_owed_40 : decode cX11_owed 40 = .ok (.getfield 279, 3) := by decide +kernel
theorem dX11_owed_43 : decode cX11_owed 43 = .ok (.if_icmp .ge 67, 3) := by decide +kernel
theorem dX11_owed_46 : decode cX11_owed 46 = .ok (.aload_n 0, 1) := by decide +kernel
theorem dX11_owed_47 : decode cX11_owed 47 = .ok (.getfield 10, 3) := by decide +kernel
theorem dX11_owed_50 : decode cX11_owed 50 = .ok (.getfield 282, 3) := by decide +kernel
theorem dX11_owed_53 : decode cX11_owed 53 = .ok (.iload 4, 2) := by decide +kernel
theorem dX11_owed_55 : decode cX11_owed 55 = .ok (.aaload, 1) := by decide +kernel
theorem dX11_owed_56 : decode cX11_owed 56 = .ok (.astore 5, 2) := by decide +kernel
theorem dX11_owed_58 : decode cX11_owed 58 = .ok (.aload 5, 2) := by decide +kernel
theorem dX11_owed_60 : decode cX11_owed 60 = .ok (.getfield 286, 3) := by decide +kernel
theorem dX11_owed_63 : decode cX11_owed 63 = .ok (.iload_n 1, 1) := by decide +kernel
theorem dX11_owed_64 : decode cX11_owed 64 = .ok (.if_icmp .ne 40, 3) := by decide +kernel
theorem dX11_owed_67 : decode cX11_owed 67 = .ok (.lload_n 2, 1) := by decide +kernel
theorem dX11_owed_68 : decode cX11_owed 68 = .ok (.aload 5, 2) := by decide +kernel
theorem dX11_owed_70 : decode cX11_owed 70 = .ok (.getfield 294, 3) := by decide +kernel
theorem dX11_owed_73 : decode cX11_owed 73 = .ok (.i2l, 1) := by decide +kernel
theorem dX11_owed_74 : decode cX11_owed 74 = .ok (.aload_n 0, 1) := by decide +kernel
theorem dX11_owed_75 : decode cX11_owed 75 = .ok (.aload_n 0, 1) := by decide +kernel
theorem dX11_owed_76 : decode cX11_owed 76 = .ok (.getfield 10, 3) := by decide +kernel
theorem dX11_owed_79 : decode cX11_owed 79 = .ok (.getfield 69, 3) := by decide +kernel
theorem dX11_owed_82 : decode cX11_owed 82 = .ok (.aload 5, 2) := by decide +kernel
theorem dX11_owed_84 : decode cX11_owed 84 = .ok (.getfield 291, 3) := by decide +kernel
theorem dX11_owed_87 : decode cX11_owed 87 = .ok (.aaload, 1) := by decide +kernel
theorem dX11_owed_88 : decode cX11_owed 88 = .ok (.invokevirtual 268, 3) := by decide +kernel
theorem dX11_owed_91 : decode cX11_owed 91 = .ok (.lmul, 1) := by decide +kernel
theorem dX11_owed_92 : decode cX11_owed 92 = .ok (.ldc2_w 297, 3) := by decide +kernel
theorem dX11_owed_95 : decode cX11_owed 95 = .ok (.ldiv, 1) := by decide +kernel
theorem dX11_owed_96 : decode cX11_owed 96 = .ok (.aload 5, 2) := by decide +kernel
theorem dX11_owed_98 : decode cX11_owed 98 = .ok (.getfield 299, 3) := by decide +kernel
theorem dX11_owed_101 : decode cX11_owed 101 = .ok (.lsub, 1) := by decide +kernel
theorem dX11_owed_102 : decode cX11_owed 102 = .ok (.ladd, 1) := by decide +kernel
theorem dX11_owed_103 : decode cX11_owed 103 = .ok (.lstore_n 2, 1) := by decide +kernel
theorem dX11_owed_104 : decode cX11_owed 104 = .ok (.iinc 4 1, 3) := by decide +kernel
theorem dX11_owed_107 : decode cX11_owed 107 = .ok (.goto (-73), 3) := by decide +kernel
theorem dX11_owed_110 : decode cX11_owed 110 = .ok (.lload_n 2, 1) := by decide +kernel
theorem dX11_owed_111 : decode cX11_owed 111 = .ok (.lreturn, 1) := by decide +kernel
theorem dX11_worthOf_0 : decode cX11_worthOf 0 = .ok (.aload_n 0, 1) := by decide +kernel
theorem dX11_worthOf_1 : decode cX11_worthOf 1 = .ok (.getfield 10, 3) := by decide +kernel
theorem dX11_worthOf_4 : decode cX11_worthOf 4 = .ok (.aload_n 0, 1) := by decide +kernel
theorem dX11_worthOf_5 : decode cX11_worthOf 5 = .ok (.getfield 10, 3) := by decide +kernel
theorem dX11_worthOf_8 : decode cX11_worthOf 8 = .ok (.getfield 263, 3) := by decide +kernel
theorem dX11_worthOf_11 : decode cX11_worthOf 11 = .ok (.invokevirtual 93, 3) := by decide +kernel
theorem dX11_worthOf_14 : decode cX11_worthOf 14 = .ok (.astore_n 2, 1) := by decide +kernel
theorem dX11_worthOf_15 : decode cX11_worthOf 15 = .ok (.aload_n 2, 1) := by decide +kernel
theorem dX11_worthOf_16 : decode cX11_worthOf 16 = .ok (.ifnonnull 5, 3) := by decide +kernel
theorem dX11_worthOf_19 : decode cX11_worthOf 19 = .ok (.lconst 0, 1) := by decide +kernel
theorem dX11_worthOf_20 : decode cX11_worthOf 20 = .ok (.lreturn, 1) := by decide +kernel
theorem dX11_worthOf_21 : decode cX11_worthOf 21 = .ok (.aload_n 0, 1) := by decide +kernel
theorem dX11_worthOf_22 : decode cX11_worthOf 22 = .ok (.getfield 28, 3) := by decide +kernel
theorem dX11_worthOf_25 : decode cX11_worthOf 25 = .ok (.aload_n 0, 1) := by decide +kernel
theorem dX11_worthOf_26 : decode cX11_worthOf 26 = .ok (.getfield 10, 3) := by decide +kernel
theorem dX11_worthOf_29 : decode cX11_worthOf 29 = .ok (.aload_n 2, 1) := by decide +kernel
theorem dX11_worthOf_30 : decode cX11_worthOf 30 = .ok (.invokevirtual 259, 3) := by decide +kernel
theorem dX11_worthOf_33 : decode cX11_worthOf 33 = .ok (.i2l, 1) := by decide +kernel
theorem dX11_worthOf_34 : decode cX11_worthOf 34 = .ok (.lstore_n 3, 1) := by decide +kernel
theorem dX11_worthOf_35 : decode cX11_worthOf 35 = .ok (.lload_n 3, 1) := by decide +kernel
theorem dX11_worthOf_36 : decode cX11_worthOf 36 = .ok (.lconst 0, 1) := by decide +kernel
theorem dX11_worthOf_37 : decode cX11_worthOf 37 = .ok (.lcmp, 1) := by decide +kernel
theorem dX11_worthOf_38 : decode cX11_worthOf 38 = .ok (.ifCond .ne 7, 3) := by decide +kernel
theorem dX11_worthOf_41 : decode cX11_worthOf 41 = .ok (.lconst 0, 1) := by decide +kernel
theorem dX11_worthOf_42 : decode cX11_worthOf 42 = .ok (.goto 22, 3) := by decide +kernel
theorem dX11_worthOf_45 : decode cX11_worthOf 45 = .ok (.aload_n 0, 1) := by decide +kernel
theorem dX11_worthOf_46 : decode cX11_worthOf 46 = .ok (.getfield 28, 3) := by decide +kernel
theorem dX11_worthOf_49 : decode cX11_worthOf 49 = .ok (.aload_n 0, 1) := by decide +kernel
theorem dX11_worthOf_50 : decode cX11_worthOf 50 = .ok (.getfield 10, 3) := by decide +kernel
theorem dX11_worthOf_53 : decode cX11_worthOf 53 = .ok (.aload_n 1, 1) := by decide +kernel
theorem dX11_worthOf_54 : decode cX11_worthOf 54 = .ok (.invokevirtual 259, 3) := by decide +kernel
theorem dX11_worthOf_57 : decode cX11_worthOf 57 = .ok (.i2l, 1) := by decide +kernel
theorem dX11_worthOf_58 : decode cX11_worthOf 58 = .ok (.ldc2_w 297, 3) := by decide +kernel
theorem dX11_worthOf_61 : decode cX11_worthOf 61 = .ok (.lmul, 1) := by decide +kernel
theorem dX11_worthOf_62 : decode cX11_worthOf 62 = .ok (.lload_n 3, 1) := by decide +kernel
theorem dX11_worthOf_63 : decode cX11_worthOf 63 = .ok (.ldiv, 1) := by decide +kernel
theorem dX11_worthOf_64 : decode cX11_worthOf 64 = .ok (.lreturn, 1) := by decide +kernel
theorem dX11_isSteadier_0 : decode cX11_isSteadier 0 = .ok (.aload_n 1, 1) := by decide +kernel
theorem dX11_isSteadier_1 : decode cX11_isSteadier 1 = .ok (.aload_n 0, 1) := by decide +kernel
theorem dX11_isSteadier_2 : decode cX11_isSteadier 2 = .ok (.getfield 10, 3) := by decide +kernel
theorem dX11_isSteadier_5 : decode cX11_isSteadier 5 = .ok (.getfield 98, 3) := by decide +kernel
theorem dX11_isSteadier_8 : decode cX11_isSteadier 8 = .ok (.invokevirtual 105, 3) := by decide +kernel
theorem dX11_isSteadier_11 : decode cX11_isSteadier 11 = .ok (.i2l, 1) := by decide +kernel
theorem dX11_isSteadier_12 : decode cX11_isSteadier 12 = .ok (.aload_n 2, 1) := by decide +kernel
theorem dX11_isSteadier_13 : decode cX11_isSteadier 13 = .ok (.aload_n 0, 1) := by decide +kernel
theorem dX11_isSteadier_14 : decode cX11_isSteadier 14 = .ok (.getfield 10, 3) := by decide +kernel
theorem dX11_isSteadier_17 : decode cX11_isSteadier 17 = .ok (.getfield 98, 3) := by decide +kernel
theorem dX11_isSteadier_20 : decode cX11_isSteadier 20 = .ok (.invokevirtual 101, 3) := by decide +kernel
theorem dX11_isSteadier_23 : decode cX11_isSteadier 23 = .ok (.i2l, 1) := by decide +kernel
theorem dX11_isSteadier_24 : decode cX11_isSteadier 24 = .ok (.lmul, 1) := by decide +kernel
theorem dX11_isSteadier_25 : decode cX11_isSteadier 25 = .ok (.lstore_n 3, 1) := by decide +kernel
theorem dX11_isSteadier_26 : decode cX11_isSteadier 26 = .ok (.aload_n 2, 1) := by decide +kernel
theorem dX11_isSteadier_27 : decode cX11_isSteadier 27 = .ok (.aload_n 0, 1) := by decide +kernel
theorem dX11_isSteadier_28 : decode cX11_isSteadier 28 = .ok (.getfield 10, 3) := by decide +kernel
theorem dX11_isSteadier_31 : decode cX11_isSteadier 31 = .ok (.getfield 98, 3) := by decide +kernel
theorem dX11_isSteadier_34 : decode cX11_isSteadier 34 = .ok (.invokevirtual 105, 3) := by decide +kernel
theorem dX11_isSteadier_37 : decode cX11_isSteadier 37 = .ok (.i2l, 1) := by decide +kernel
theorem dX11_isSteadier_38 : decode cX11_isSteadier 38 = .ok (.aload_n 1, 1) := by decide +kernel
theorem dX11_isSteadier_39 : decode cX11_isSteadier 39 = .ok (.aload_n 0, 1) := by decide +kernel
theorem dX11_isSteadier_40 : decode cX11_isSteadier 40 = .ok (.getfield 10, 3) := by decide +kernel
theorem dX11_isSteadier_43 : decode cX11_isSteadier 43 = .ok (.getfield 98, 3) := by decide +kernel
theorem dX11_isSteadier_46 : decode cX11_isSteadier 46 = .ok (.invokevirtual 101, 3) := by decide +kernel
theorem dX11_isSteadier_49 : decode cX11_isSteadier 49 = .ok (.i2l, 1) := by decide +kernel
theorem dX11_isSteadier_50 : decode cX11_isSteadier 50 = .ok (.lmul, 1) := by decide +kernel
theorem dX11_isSteadier_51 : decode cX11_isSteadier 51 = .ok (.lstore 5, 2) := by decide +kernel
theorem dX11_isSteadier_53 : decode cX11_isSteadier 53 = .ok (.lload_n 3, 1) := by decide +kernel
theorem dX11_isSteadier_54 : decode cX11_isSteadier 54 = .ok (.lload 5, 2) := by decide +kernel
theorem dX11_isSteadier_56 : decode cX11_isSteadier 56 = .ok (.lcmp, 1) := by decide +kernel
theorem dX11_isSteadier_57 : decode cX11_isSteadier 57 = .ok (.ifCond .ge 7, 3) := by decide +kernel
theorem dX11_isSteadier_60 : decode cX11_isSteadier 60 = .ok (.iconst 1, 1) := by decide +kernel
theorem dX11_isSteadier_61 : decode cX11_isSteadier 61 = .ok (.goto 4, 3) := by decide +kernel
theorem dX11_isSteadier_64 : decode cX11_isSteadier 64 = .ok (.iconst 0, 1) := by decide +kernel
theorem dX11_isSteadier_65 : decode cX11_isSteadier 65 = .ok (.ireturn, 1) := by decide +kernel
theorem dX11_gain_0 : decode cX11_gain 0 = .ok (.iload_n 1, 1) := by decide +kernel
theorem dX11_gain_1 : decode cX11_gain 1 = .ok (.iconst 0, 1) := by decide +kernel
theorem dX11_gain_2 : decode cX11_gain 2 = .ok (.bipush 127, 2) := by decide +kernel
theorem dX11_gain_4 : decode cX11_gain 4 = .ok (.invokestatic 61, 3) := by decide +kernel
theorem dX11_gain_7 : decode cX11_gain 7 = .ok (.ifCond .eq 32, 3) := by decide +kernel
theorem dX11_gain_10 : decode cX11_gain 10 = .ok (.iload_n 2, 1) := by decide +kernel
theorem dX11_gain_11 : decode cX11_gain 11 = .ok (.iload_n 3, 1) := by decide +kernel
theorem dX11_gain_12 : decode cX11_gain 12 = .ok (.invokestatic 302, 3) := by decide +kernel
theorem dX11_gain_15 : decode cX11_gain 15 = .ok (.ifCond .eq 24, 3) := by decide +kernel
theorem dX11_gain_18 : decode cX11_gain 18 = .ok (.iload 4, 2) := by decide +kernel
theorem dX11_gain_20 : decode cX11_gain 20 = .ok (.iconst 0, 1) := by decide +kernel
theorem dX11_gain_21 : decode cX11_gain 21 = .ok (.iload 5, 2) := by decide +kernel
theorem dX11_gain_23 : decode cX11_gain 23 = .ok (.ifCond .eq 8, 3) := by decide +kernel
theorem dX11_gain_26 : decode cX11_gain 26 = .ok (.bipush 7, 2) := by decide +kernel
theorem dX11_gain_28 : decode cX11_gain 28 = .ok (.goto 5, 3) := by decide +kernel
theorem dX11_gain_31 : decode cX11_gain 31 = .ok (.bipush 127, 2) := by decide +kernel
theorem dX11_gain_33 : decode cX11_gain 33 = .ok (.invokestatic 61, 3) := by decide +kernel
theorem dX11_gain_36 : decode cX11_gain 36 = .ok (.ifCond .ne 6, 3) := by decide +kernel
theorem dX11_gain_39 : decode cX11_gain 39 = .ok (.ldc 226, 2) := by decide +kernel
theorem dX11_gain_41 : decode cX11_gain 41 = .ok (.ireturn, 1) := by decide +kernel
theorem dX11_gain_42 : decode cX11_gain 42 = .ok (.bipush 127, 2) := by decide +kernel
theorem dX11_gain_44 : decode cX11_gain 44 = .ok (.iload_n 1, 1) := by decide +kernel
theorem dX11_gain_45 : decode cX11_gain 45 = .ok (.iconst (-1), 1) := by decide +kernel
theorem dX11_gain_46 : decode cX11_gain 46 = .ok (.ixor, 1) := by decide +kernel
theorem dX11_gain_47 : decode cX11_gain 47 = .ok (.iand, 1) := by decide +kernel
theorem dX11_gain_48 : decode cX11_gain 48 = .ok (.istore 6, 2) := by decide +kernel
theorem dX11_gain_50 : decode cX11_gain 50 = .ok (.iload 5, 2) := by decide +kernel
theorem dX11_gain_52 : decode cX11_gain 52 = .ok (.ifCond .eq 20, 3) := by decide +kernel
theorem dX11_gain_55 : decode cX11_gain 55 = .ok (.iload 6, 2) := by decide +kernel
theorem dX11_gain_57 : decode cX11_gain 57 = .ok (.invokestatic 243, 3) := by decide +kernel
theorem dX11_gain_60 : decode cX11_gain 60 = .ok (.iload_n 2, 1) := by decide +kernel
theorem dX11_gain_61 : decode cX11_gain 61 = .ok (.invokestatic 305, 3) := by decide +kernel
theorem dX11_gain_64 : decode cX11_gain 64 = .ok (.iload_n 3, 1) := by decide +kernel
theorem dX11_gain_65 : decode cX11_gain 65 = .ok (.iload 4, 2) := by decide +kernel
theorem dX11_gain_67 : decode cX11_gain 67 = .ok (.invokestatic 308, 3) := by decide +kernel
theorem dX11_gain_70 : decode cX11_gain 70 = .ok (.imul, 1) := by decide +kernel
theorem dX11_gain_71 : decode cX11_gain 71 = .ok (.ireturn, 1) := by decide +kernel
theorem dX11_gain_72 : decode cX11_gain 72 = .ok (.iload 6, 2) := by decide +kernel
theorem dX11_gain_74 : decode cX11_gain 74 = .ok (.invokestatic 243, 3) := by decide +kernel
theorem dX11_gain_77 : decode cX11_gain 77 = .ok (.iload_n 2, 1) := by decide +kernel
theorem dX11_gain_78 : decode cX11_gain 78 = .ok (.invokestatic 305, 3) := by decide +kernel
theorem dX11_gain_81 : decode cX11_gain 81 = .ok (.imul, 1) := by decide +kernel
theorem dX11_gain_82 : decode cX11_gain 82 = .ok (.iload 6, 2) := by decide +kernel
theorem dX11_gain_84 : decode cX11_gain 84 = .ok (.iload 4, 2) := by decide +kernel
theorem dX11_gain_86 : decode cX11_gain 86 = .ok (.iand, 1) := by decide +kernel
theorem dX11_gain_87 : decode cX11_gain 87 = .ok (.invokestatic 243, 3) := by decide +kernel
theorem dX11_gain_90 : decode cX11_gain 90 = .ok (.iload_n 3, 1) := by decide +kernel
theorem dX11_gain_91 : decode cX11_gain 91 = .ok (.imul, 1) := by decide +kernel
theorem dX11_gain_92 : decode cX11_gain 92 = .ok (.isub, 1) := by decide +kernel
theorem dX11_gain_93 : decode cX11_gain 93 = .ok (.ireturn, 1) := by decide +kernel
theorem dX11_best_0 : decode cX11_best 0 = .ok (.iload_n 1, 1) := by decide +kernel
theorem dX11_best_1 : decode cX11_best 1 = .ok (.iload_n 2, 1) := by decide +kernel
theorem dX11_best_2 : decode cX11_best 2 = .ok (.invokestatic 302, 3) := by decide +kernel
theorem dX11_best_5 : decode cX11_best 5 = .ok (.ifCond .eq 32, 3) := by decide +kernel
theorem dX11_best_8 : decode cX11_best 8 = .ok (.iload 4, 2) := by decide +kernel
theorem dX11_best_10 : decode cX11_best 10 = .ok (.iconst 0, 1) := by decide +kernel
theorem dX11_best_11 : decode cX11_best 11 = .ok (.iconst 1, 1) := by decide +kernel
theorem dX11_best_12 : decode cX11_best 12 = .ok (.invokestatic 61, 3) := by decide +kernel
theorem dX11_best_15 : decode cX11_best 15 = .ok (.ifCond .eq 22, 3) := by decide +kernel
theorem dX11_best_18 : decode cX11_best 18 = .ok (.iload_n 3, 1) := by decide +kernel
theorem dX11_best_19 : decode cX11_best 19 = .ok (.iconst 0, 1) := by decide +kernel
theorem dX11_best_20 : decode cX11_best 20 = .ok (.iload 4, 2) := by decide +kernel
theorem dX11_best_22 : decode cX11_best 22 = .ok (.ifCond .ne 8, 3) := by decide +kernel
theorem dX11_best_25 : decode cX11_best 25 = .ok (.bipush 127, 2) := by decide +kernel
theorem dX11_best_27 : decode cX11_best 27 = .ok (.goto 4, 3) := by decide +kernel
theorem dX11_best_30 : decode cX11_best 30 = .ok (.iconst 0, 1) := by decide +kernel
theorem dX11_best_31 : decode cX11_best 31 = .ok (.invokestatic 61, 3) := by decide +kernel
theorem dX11_best_34 : decode cX11_best 34 = .ok (.ifCond .ne 5, 3) := by decide +kernel
theorem dX11_best_37 : decode cX11_best 37 = .ok (.iconst (-1), 1) := by decide +kernel
theorem dX11_best_38 : decode cX11_best 38 = .ok (.ireturn, 1) := by decide +kernel
theorem dX11_best_39 : decode cX11_best 39 = .ok (.iload_n 1, 1) := by decide +kernel
theorem dX11_best_40 : decode cX11_best 40 = .ok (.invokestatic 305, 3) := by decide +kernel
theorem dX11_best_43 : decode cX11_best 43 = .ok (.istore 5, 2) := by decide +kernel
theorem dX11_best_45 : decode cX11_best 45 = .ok (.iload 4, 2) := by decide +kernel
theorem dX11_best_47 : decode cX11_best 47 = .ok (.ifCond .ne 15, 3) := by decide +kernel
theorem dX11_best_50 : decode cX11_best 50 = .ok (.iload_n 2, 1) := by decide +kernel
theorem dX11_best_51 : decode cX11_best 51 = .ok (.iload 5, 2) := by decide +kernel
theorem dX11_best_53 : decode cX11_best 53 = .ok (.if_icmp .le 7, 3) := by decide +kernel
theorem dX11_best_56 : decode cX11_best 56 = .ok (.iload_n 3, 1) := by decide +kernel
theorem dX11_best_57 : decode cX11_best 57 = .ok (.goto 4, 3) := by decide +kernel
theorem dX11_best_60 : decode cX11_best 60 = .ok (.iconst 0, 1) := by decide +kernel
theorem dX11_best_61 : decode cX11_best 61 = .ok (.ireturn, 1) := by decide +kernel
theorem dX11_best_62 : decode cX11_best 62 = .ok (.iconst 0, 1) := by decide +kernel
theorem dX11_best_63 : decode cX11_best 63 = .ok (.istore 6, 2) := by decide +kernel
theorem dX11_best_65 : decode cX11_best 65 = .ok (.iload 6, 2) := by decide +kernel
theorem dX11_best_67 : decode cX11_best 67 = .ok (.bipush 7, 2) := by decide +kernel
theorem dX11_best_69 : decode cX11_best 69 = .ok (.if_icmp .gt 23, 3) := by decide +kernel
theorem dX11_best_72 : decode cX11_best 72 = .ok (.iload 5, 2) := by decide +kernel
theorem dX11_best_74 : decode cX11_best 74 = .ok (.iload_n 2, 1) := by decide +kernel
theorem dX11_best_75 : decode cX11_best 75 = .ok (.iload 6, 2) := by decide +kernel
theorem dX11_best_77 : decode cX11_best 77 = .ok (.invokestatic 308, 3) := by decide +kernel
theorem dX11_best_80 : decode cX11_best 80 = .ok (.ifCond .gt 6, 3) := by decide +kernel
theorem dX11_best_83 : decode cX11_best 83 = .ok (.iload 6, 2) := by decide +kernel
theorem dX11_best_85 : decode cX11_best 85 = .ok (.ireturn, 1) := by decide +kernel
theorem dX11_best_86 : decode cX11_best 86 = .ok (.iinc 6 1, 3) := by decide +kernel
theorem dX11_best_89 : decode cX11_best 89 = .ok (.goto (-24), 3) := by decide +kernel
theorem dX11_best_92 : decode cX11_best 92 = .ok (.bipush (-4), 2) := by decide +kernel
theorem dX11_best_94 : decode cX11_best 94 = .ok (.ireturn, 1) := by decide +kernel
theorem dX11_narrows_0 : decode cX11_narrows 0 = .ok (.aload_n 0, 1) := by decide +kernel
theorem dX11_narrows_1 : decode cX11_narrows 1 = .ok (.getfield 42, 3) := by decide +kernel
theorem dX11_narrows_4 : decode cX11_narrows 4 = .ok (.aload_n 0, 1) := by decide +kernel
theorem dX11_narrows_5 : decode cX11_narrows 5 = .ok (.getfield 10, 3) := by decide +kernel
theorem dX11_narrows_8 : decode cX11_narrows 8 = .ok (.invokevirtual 312, 3) := by decide +kernel
theorem dX11_narrows_11 : decode cX11_narrows 11 = .ok (.bipush (-4), 2) := by decide +kernel
theorem dX11_narrows_13 : decode cX11_narrows 13 = .ok (.istore_n 1, 1) := by decide +kernel
theorem dX11_narrows_14 : decode cX11_narrows 14 = .ok (.iconst 0, 1) := by decide +kernel
theorem dX11_narrows_15 : decode cX11_narrows 15 = .ok (.istore_n 2, 1) := by decide +kernel
theorem dX11_narrows_16 : decode cX11_narrows 16 = .ok (.iconst 0, 1) := by decide +kernel
theorem dX11_narrows_17 : decode cX11_narrows 17 = .ok (.istore_n 3, 1) := by decide +kernel
theorem dX11_narrows_18 : decode cX11_narrows 18 = .ok (.iload_n 3, 1) := by decide +kernel
theorem dX11_narrows_19 : decode cX11_narrows 19 = .ok (.aload_n 0, 1) := by decide +kernel
theorem dX11_narrows_20 : decode cX11_narrows 20 = .ok (.getfield 10, 3) := by decide +kernel
theorem dX11_narrows_23 : decode cX11_narrows 23 = .ok (.getfield 65, 3) := by decide +kernel
theorem dX11_narrows_26 : decode cX11_narrows 26 = .ok (.if_icmp .ge 86, 3) := by decide +kernel
theorem dX11_narrows_29 : decode cX11_narrows 29 = .ok (.iload_n 3, 1) := by decide +kernel
theorem dX11_narrows_30 : decode cX11_narrows 30 = .ok (.iconst 1, 1) := by decide +kernel
theorem dX11_narrows_31 : decode cX11_narrows 31 = .ok (.iadd, 1) := by decide +kernel
theorem dX11_narrows_32 : decode cX11_narrows 32 = .ok (.istore 4, 2) := by decide +kernel
theorem dX11_narrows_34 : decode cX11_narrows 34 = .ok (.iload 4, 2) := by decide +kernel
theorem dX11_narrows_36 : decode cX11_narrows 36 = .ok (.aload_n 0, 1) := by decide +kernel
theorem dX11_narrows_37 : decode cX11_narrows 37 = .ok (.getfield 10, 3) := by decide +kernel
theorem dX11_narrows_40 : decode cX11_narrows 40 = .ok (.getfield 65, 3) := by decide +kernel
theorem dX11_narrows_43 : decode cX11_narrows 43 = .ok (.if_icmp .ge 63, 3) := by decide +kernel
theorem dX11_narrows_46 : decode cX11_narrows 46 = .ok (.aload_n 0, 1) := by decide +kernel
theorem dX11_narrows_47 : decode cX11_narrows 47 = .ok (.getfield 42, 3) := by decide +kernel
theorem dX11_narrows_50 : decode cX11_narrows 50 = .ok (.iload_n 3, 1) := by decide +kernel
theorem dX11_narrows_51 : decode cX11_narrows 51 = .ok (.iload 4, 2) := by decide +kernel
theorem dX11_narrows_53 : decode cX11_narrows 53 = .ok (.invokevirtual 316, 3) := by decide +kernel
theorem dX11_narrows_56 : decode cX11_narrows 56 = .ok (.ifCond .eq 7, 3) := by decide +kernel
theorem dX11_narrows_59 : decode cX11_narrows 59 = .ok (.iconst 0, 1) := by decide +kernel
theorem dX11_narrows_60 : decode cX11_narrows 60 = .ok (.goto 21, 3) := by decide +kernel
theorem dX11_narrows_63 : decode cX11_narrows 63 = .ok (.aload_n 0, 1) := by decide +kernel
theorem dX11_narrows_64 : decode cX11_narrows 64 = .ok (.getfield 42, 3) := by decide +kernel
theorem dX11_narrows_67 : decode cX11_narrows 67 = .ok (.iload_n 3, 1) := by decide +kernel
theorem dX11_narrows_68 : decode cX11_narrows 68 = .ok (.invokevirtual 319, 3) := by decide +kernel
theorem dX11_narrows_71 : decode cX11_narrows 71 = .ok (.aload_n 0, 1) := by decide +kernel
theorem dX11_narrows_72 : decode cX11_narrows 72 = .ok (.getfield 42, 3) := by decide +kernel
theorem dX11_narrows_75 : decode cX11_narrows 75 = .ok (.iload 4, 2) := by decide +kernel
theorem dX11_narrows_77 : decode cX11_narrows 77 = .ok (.invokevirtual 319, 3) := by decide +kernel
theorem dX11_narrows_80 : decode cX11_narrows 80 = .ok (.imul, 1) := by decide +kernel
theorem dX11_narrows_81 : decode cX11_narrows 81 = .ok (.istore 5, 2) := by decide +kernel
theorem dX11_narrows_83 : decode cX11_narrows 83 = .ok (.iload 5, 2) := by decide +kernel
theorem dX11_narrows_85 : decode cX11_narrows 85 = .ok (.iload_n 2, 1) := by decide +kernel
theorem dX11_narrows_86 : decode cX11_narrows 86 = .ok (.if_icmp .le 14, 3) := by decide +kernel
theorem dX11_narrows_89 : decode cX11_narrows 89 = .ok (.iload 5, 2) := by decide +kernel
theorem dX11_narrows_91 : decode cX11_narrows 91 = .ok (.istore_n 2, 1) := by decide +kernel
theorem dX11_narrows_92 : decode cX11_narrows 92 = .ok (.bipush 100, 2) := by decide +kernel
theorem dX11_narrows_94 : decode cX11_narrows 94 = .ok (.iload_n 3, 1) := by decide +kernel
theorem dX11_narrows_95 : decode cX11_narrows 95 = .ok (.imul, 1) := by decide +kernel
theorem dX11_narrows_96 : decode cX11_narrows 96 = .ok (.iload 4, 2) := by decide +kernel
theorem dX11_narrows_98 : decode cX11_narrows 98 = .ok (.iadd, 1) := by decide +kernel
theorem dX11_narrows_99 : decode cX11_narrows 99 = .ok (.istore_n 1, 1) := by decide +kernel
theorem dX11_narrows_100 : decode cX11_narrows 100 = .ok (.iinc 4 1, 3) := by decide +kernel
theorem dX11_narrows_103 : decode cX11_narrows 103 = .ok (.goto (-69), 3) := by decide +kernel
theorem dX11_narrows_106 : decode cX11_narrows 106 = .ok (.iinc 3 1, 3) := by decide +kernel
theorem dX11_narrows_109 : decode cX11_narrows 109 = .ok (.goto (-91), 3) := by decide +kernel
theorem dX11_narrows_112 : decode cX11_narrows 112 = .ok (.iload_n 1, 1) := by decide +kernel
theorem dX11_narrows_113 : decode cX11_narrows 113 = .ok (.ireturn, 1) := by decide +kernel
theorem dX11_areTerms_0 : decode cX11_areTerms 0 = .ok (.iload_n 0, 1) := by decide +kernel
theorem dX11_areTerms_1 : decode cX11_areTerms 1 = .ok (.iconst 0, 1) := by decide +kernel
theorem dX11_areTerms_2 : decode cX11_areTerms 2 = .ok (.ldc_w 322, 3) := by decide +kernel
theorem dX11_areTerms_5 : decode cX11_areTerms 5 = .ok (.invokestatic 61, 3) := by decide +kernel
theorem dX11_areTerms_8 : decode cX11_areTerms 8 = .ok (.ifCond .eq 25, 3) := by decide +kernel
theorem dX11_areTerms_11 : decode cX11_areTerms 11 = .ok (.iload_n 0, 1) := by decide +kernel
theorem dX11_areTerms_12 : decode cX11_areTerms 12 = .ok (.invokestatic 305, 3) := by decide +kernel
theorem dX11_areTerms_15 : decode cX11_areTerms 15 = .ok (.ifCond .le 18, 3) := by decide +kernel
theorem dX11_areTerms_18 : decode cX11_areTerms 18 = .ok (.iload_n 1, 1) := by decide +kernel
theorem dX11_areTerms_19 : decode cX11_areTerms 19 = .ok (.iconst 0, 1) := by decide +kernel
theorem dX11_areTerms_20 : decode cX11_areTerms 20 = .ok (.sipush 9999, 3) := by decide +kernel
theorem dX11_areTerms_23 : decode cX11_areTerms 23 = .ok (.invokestatic 61, 3) := by decide +kernel
theorem dX11_areTerms_26 : decode cX11_areTerms 26 = .ok (.ifCond .eq 7, 3) := by decide +kernel
theorem dX11_areTerms_29 : decode cX11_areTerms 29 = .ok (.iconst 1, 1) := by decide +kernel
theorem dX11_areTerms_30 : decode cX11_areTerms 30 = .ok (.goto 4, 3) := by decide +kernel
theorem dX11_areTerms_33 : decode cX11_areTerms 33 = .ok (.iconst 0, 1) := by decide +kernel
theorem dX11_areTerms_34 : decode cX11_areTerms 34 = .ok (.ireturn, 1) := by decide +kernel
theorem dX11_savedBy_0 : decode cX11_savedBy 0 = .ok (.iload_n 0, 1) := by decide +kernel
theorem dX11_savedBy_1 : decode cX11_savedBy 1 = .ok (.sipush 1000, 3) := by decide +kernel
theorem dX11_savedBy_4 : decode cX11_savedBy 4 = .ok (.idiv, 1) := by decide +kernel
theorem dX11_savedBy_5 : decode cX11_savedBy 5 = .ok (.iload_n 0, 1) := by decide +kernel
theorem dX11_savedBy_6 : decode cX11_savedBy 6 = .ok (.sipush 1000, 3) := by decide +kernel
theorem dX11_savedBy_9 : decode cX11_savedBy 9 = .ok (.irem, 1) := by decide +kernel
theorem dX11_savedBy_10 : decode cX11_savedBy 10 = .ok (.isub, 1) := by decide +kernel
theorem dX11_savedBy_11 : decode cX11_savedBy 11 = .ok (.ireturn, 1) := by decide +kernel
theorem dX11_gainOfAnIllDay_0 : decode cX11_gainOfAnIllDay 0 = .ok (.iload_n 2, 1) := by decide +kernel
theorem dX11_gainOfAnIllDay_1 : decode cX11_gainOfAnIllDay 1 = .ok (.iconst 0, 1) := by decide +kernel
theorem dX11_gainOfAnIllDay_2 : decode cX11_gainOfAnIllDay 2 = .ok (.bipush 7, 2) := by decide +kernel
theorem dX11_gainOfAnIllDay_4 : decode cX11_gainOfAnIllDay 4 = .ok (.invokestatic 61, 3) := by decide +kernel
theorem dX11_gainOfAnIllDay_7 : decode cX11_gainOfAnIllDay 7 = .ok (.ifCond .ne 5, 3) := by decide +kernel
theorem dX11_gainOfAnIllDay_10 : decode cX11_gainOfAnIllDay 10 = .ok (.iconst 0, 1) := by decide +kernel
theorem dX11_gainOfAnIllDay_11 : decode cX11_gainOfAnIllDay 11 = .ok (.ireturn, 1) := by decide +kernel
theorem dX11_gainOfAnIllDay_12 : decode cX11_gainOfAnIllDay 12 = .ok (.getstatic 323, 3) := by decide +kernel
theorem dX11_gainOfAnIllDay_15 : decode cX11_gainOfAnIllDay 15 = .ok (.iload_n 2, 1) := by decide +kernel
theorem dX11_gainOfAnIllDay_16 : decode cX11_gainOfAnIllDay 16 = .ok (.iaload, 1) := by decide +kernel
theorem dX11_gainOfAnIllDay_17 : decode cX11_gainOfAnIllDay 17 = .ok (.iload_n 0, 1) := by decide +kernel
theorem dX11_gainOfAnIllDay_18 : decode cX11_gainOfAnIllDay 18 = .ok (.imul, 1) := by decide +kernel
theorem dX11_gainOfAnIllDay_19 : decode cX11_gainOfAnIllDay 19 = .ok (.getstatic 326, 3) := by decide +kernel
theorem dX11_gainOfAnIllDay_22 : decode cX11_gainOfAnIllDay 22 = .ok (.iload_n 2, 1) := by decide +kernel
theorem dX11_gainOfAnIllDay_23 : decode cX11_gainOfAnIllDay 23 = .ok (.iaload, 1) := by decide +kernel
theorem dX11_gainOfAnIllDay_24 : decode cX11_gainOfAnIllDay 24 = .ok (.iload_n 1, 1) := by decide +kernel
theorem dX11_gainOfAnIllDay_25 : decode cX11_gainOfAnIllDay 25 = .ok (.imul, 1) := by decide +kernel
theorem dX11_gainOfAnIllDay_26 : decode cX11_gainOfAnIllDay 26 = .ok (.isub, 1) := by decide +kernel
theorem dX11_gainOfAnIllDay_27 : decode cX11_gainOfAnIllDay 27 = .ok (.ireturn, 1) := by decide +kernel
theorem dX11_image_0 : decode cX11_image 0 = .ok (.aload_n 0, 1) := by decide +kernel
theorem dX11_image_1 : decode cX11_image 1 = .ok (.getfield 16, 3) := by decide +kernel
theorem dX11_image_4 : decode cX11_image 4 = .ok (.aload_n 0, 1) := by decide +kernel
theorem dX11_image_5 : decode cX11_image 5 = .ok (.getfield 10, 3) := by decide +kernel
theorem dX11_image_8 : decode cX11_image 8 = .ok (.invokevirtual 329, 3) := by decide +kernel
theorem dX11_image_11 : decode cX11_image 11 = .ok (.aload_n 0, 1) := by decide +kernel
theorem dX11_image_12 : decode cX11_image 12 = .ok (.iconst 1, 1) := by decide +kernel
theorem dX11_image_13 : decode cX11_image 13 = .ok (.putfield 332, 3) := by decide +kernel
theorem dX11_image_16 : decode cX11_image 16 = .ok (.aload_n 0, 1) := by decide +kernel
theorem dX11_image_17 : decode cX11_image 17 = .ok (.getfield 10, 3) := by decide +kernel
theorem dX11_image_20 : decode cX11_image 20 = .ok (.getfield 65, 3) := by decide +kernel
theorem dX11_image_23 : decode cX11_image 23 = .ok (.ireturn, 1) := by decide +kernel
theorem dX11_restore_0 : decode cX11_restore 0 = .ok (.aload_n 0, 1) := by decide +kernel
theorem dX11_restore_1 : decode cX11_restore 1 = .ok (.getfield 332, 3) := by decide +kernel
theorem dX11_restore_4 : decode cX11_restore 4 = .ok (.ifCond .ne 6, 3) := by decide +kernel
theorem dX11_restore_7 : decode cX11_restore 7 = .ok (.bipush (-3), 2) := by decide +kernel
theorem dX11_restore_9 : decode cX11_restore 9 = .ok (.ireturn, 1) := by decide +kernel
theorem dX11_restore_10 : decode cX11_restore 10 = .ok (.aload_n 0, 1) := by decide +kernel
theorem dX11_restore_11 : decode cX11_restore 11 = .ok (.getfield 10, 3) := by decide +kernel
theorem dX11_restore_14 : decode cX11_restore 14 = .ok (.aload_n 0, 1) := by decide +kernel
theorem dX11_restore_15 : decode cX11_restore 15 = .ok (.getfield 16, 3) := by decide +kernel
theorem dX11_restore_18 : decode cX11_restore 18 = .ok (.invokevirtual 329, 3) := by decide +kernel
theorem dX11_restore_21 : decode cX11_restore 21 = .ok (.aload_n 0, 1) := by decide +kernel
theorem dX11_restore_22 : decode cX11_restore 22 = .ok (.getfield 10, 3) := by decide +kernel
theorem dX11_restore_25 : decode cX11_restore 25 = .ok (.getfield 65, 3) := by decide +kernel
theorem dX11_restore_28 : decode cX11_restore 28 = .ok (.ireturn, 1) := by decide +kernel
theorem dX11_count_0 : decode cX11_count 0 = .ok (.iload_n 1, 1) := by decide +kernel
theorem dX11_count_1 : decode cX11_count 1 = .ok (.tableswitch 98 0 5 #[39, 47, 55, 63, 71, 79], 39) := by decide +kernel
theorem dX11_count_40 : decode cX11_count 40 = .ok (.aload_n 0, 1) := by decide +kernel
theorem dX11_count_41 : decode cX11_count 41 = .ok (.getfield 10, 3) := by decide +kernel
theorem dX11_count_44 : decode cX11_count 44 = .ok (.getfield 65, 3) := by decide +kernel
theorem dX11_count_47 : decode cX11_count 47 = .ok (.ireturn, 1) := by decide +kernel
theorem dX11_count_48 : decode cX11_count 48 = .ok (.aload_n 0, 1) := by decide +kernel
theorem dX11_count_49 : decode cX11_count 49 = .ok (.getfield 10, 3) := by decide +kernel
theorem dX11_count_52 : decode cX11_count 52 = .ok (.getfield 335, 3) := by decide +kernel
theorem dX11_count_55 : decode cX11_count 55 = .ok (.ireturn, 1) := by decide +kernel
theorem dX11_count_56 : decode cX11_count 56 = .ok (.aload_n 0, 1) := by decide +kernel
theorem dX11_count_57 : decode cX11_count 57 = .ok (.getfield 10, 3) := by decide +kernel
theorem dX11_count_60 : decode cX11_count 60 = .ok (.invokevirtual 338, 3) := by decide +kernel
theorem dX11_count_63 : decode cX11_count 63 = .ok (.ireturn, 1) := by decide +kernel
theorem dX11_count_64 : decode cX11_count 64 = .ok (.aload_n 0, 1) := by decide +kernel
theorem dX11_count_65 : decode cX11_count 65 = .ok (.getfield 10, 3) := by decide +kernel
theorem dX11_count_68 : decode cX11_count 68 = .ok (.getfield 279, 3) := by decide +kernel
theorem dX11_count_71 : decode cX11_count 71 = .ok (.ireturn, 1) := by decide +kernel
theorem dX11_count_72 : decode cX11_count 72 = .ok (.aload_n 0, 1) := by decide +kernel
theorem dX11_count_73 : decode cX11_count 73 = .ok (.getfield 10, 3) := by decide +kernel
theorem dX11_count_76 : decode cX11_count 76 = .ok (.invokevirtual 342, 3) := by decide +kernel
theorem dX11_count_79 : decode cX11_count 79 = .ok (.ireturn, 1) := by decide +kernel
theorem dX11_count_80 : decode cX11_count 80 = .ok (.aload_n 0, 1) := by decide +kernel
theorem dX11_count_81 : decode cX11_count 81 = .ok (.getfield 42, 3) := by decide +kernel
theorem dX11_count_84 : decode cX11_count 84 = .ok (.aload_n 0, 1) := by decide +kernel
theorem dX11_count_85 : decode cX11_count 85 = .ok (.getfield 10, 3) := by decide +kernel
theorem dX11_count_88 : decode cX11_count 88 = .ok (.invokevirtual 312, 3) := by decide +kernel
theorem dX11_count_91 : decode cX11_count 91 = .ok (.aload_n 0, 1) := by decide +kernel
theorem dX11_count_92 : decode cX11_count 92 = .ok (.getfield 42, 3) := by decide +kernel
theorem dX11_count_95 : decode cX11_count 95 = .ok (.invokevirtual 345, 3) := by decide +kernel
theorem dX11_count_98 : decode cX11_count 98 = .ok (.ireturn, 1) := by decide +kernel
theorem dX11_count_99 : decode cX11_count 99 = .ok (.iconst (-1), 1) := by decide +kernel
theorem dX11_count_100 : decode cX11_count 100 = .ok (.ireturn, 1) := by decide +kernel
theorem dX11_keep_0 : decode cX11_keep 0 = .ok (.iload_n 1, 1) := by decide +kernel
theorem dX11_keep_1 : decode cX11_keep 1 = .ok (.iconst 0, 1) := by decide +kernel
theorem dX11_keep_2 : decode cX11_keep 2 = .ok (.bipush 7, 2) := by decide +kernel
theorem dX11_keep_4 : decode cX11_keep 4 = .ok (.invokestatic 61, 3) := by decide +kernel
theorem dX11_keep_7 : decode cX11_keep 7 = .ok (.ifCond .eq 12, 3) := by decide +kernel
theorem dX11_keep_10 : decode cX11_keep 10 = .ok (.iload_n 2, 1) := by decide +kernel
theorem dX11_keep_11 : decode cX11_keep 11 = .ok (.iconst 0, 1) := by decide +kernel
theorem dX11_keep_12 : decode cX11_keep 12 = .ok (.iconst 1, 1) := by decide +kernel
theorem dX11_keep_13 : decode cX11_keep 13 = .ok (.invokestatic 61, 3) := by decide +kernel
theorem dX11_keep_16 : decode cX11_keep 16 = .ok (.ifCond .ne 5, 3) := by decide +kernel
theorem dX11_keep_19 : decode cX11_keep 19 = .ok (.iconst (-1), 1) := by decide +kernel
theorem dX11_keep_20 : decode cX11_keep 20 = .ok (.ireturn, 1) := by decide +kernel
theorem dX11_keep_21 : decode cX11_keep 21 = .ok (.iload_n 2, 1) := by decide +kernel
theorem dX11_keep_22 : decode cX11_keep 22 = .ok (.ifCond .ne 15, 3) := by decide +kernel
theorem dX11_keep_25 : decode cX11_keep 25 = .ok (.aload_n 0, 1) := by decide +kernel
theorem dX11_keep_26 : decode cX11_keep 26 = .ok (.getfield 21, 3) := by decide +kernel
theorem dX11_keep_29 : decode cX11_keep 29 = .ok (.iload_n 1, 1) := by decide +kernel
theorem dX11_keep_30 : decode cX11_keep 30 = .ok (.aaload, 1) := by decide +kernel
theorem dX11_keep_31 : decode cX11_keep 31 = .ok (.iconst 0, 1) := by decide +kernel
theorem dX11_keep_32 : decode cX11_keep 32 = .ok (.putfield 348, 3) := by decide +kernel
theorem dX11_keep_35 : decode cX11_keep 35 = .ok (.iconst 0, 1) := by decide +kernel
theorem dX11_keep_36 : decode cX11_keep 36 = .ok (.ireturn, 1) := by decide +kernel
theorem dX11_keep_37 : decode cX11_keep 37 = .ok (.aload_n 0, 1) := by decide +kernel
theorem dX11_keep_38 : decode cX11_keep 38 = .ok (.getfield 10, 3) := by decide +kernel
theorem dX11_keep_41 : decode cX11_keep 41 = .ok (.iload_n 3, 1) := by decide +kernel
theorem dX11_keep_42 : decode cX11_keep 42 = .ok (.invokevirtual 93, 3) := by decide +kernel
theorem dX11_keep_45 : decode cX11_keep 45 = .ok (.astore 4, 2) := by decide +kernel
theorem dX11_keep_47 : decode cX11_keep 47 = .ok (.aload 4, 2) := by decide +kernel
theorem dX11_keep_49 : decode cX11_keep 49 = .ok (.ifnonnull 5, 3) := by decide +kernel
theorem dX11_keep_52 : decode cX11_keep 52 = .ok (.iconst (-1), 1) := by decide +kernel
theorem dX11_keep_53 : decode cX11_keep 53 = .ok (.ireturn, 1) := by decide +kernel
theorem dX11_keep_54 : decode cX11_keep 54 = .ok (.aload_n 0, 1) := by decide +kernel
theorem dX11_keep_55 : decode cX11_keep 55 = .ok (.getfield 21, 3) := by decide +kernel
theorem dX11_keep_58 : decode cX11_keep 58 = .ok (.iload_n 1, 1) := by decide +kernel
theorem dX11_keep_59 : decode cX11_keep 59 = .ok (.aaload, 1) := by decide +kernel
theorem dX11_keep_60 : decode cX11_keep 60 = .ok (.getfield 351, 3) := by decide +kernel
theorem dX11_keep_63 : decode cX11_keep 63 = .ok (.aload 4, 2) := by decide +kernel
theorem dX11_keep_65 : decode cX11_keep 65 = .ok (.invokevirtual 354, 3) := by decide +kernel
theorem dX11_keep_68 : decode cX11_keep 68 = .ok (.aload_n 0, 1) := by decide +kernel
theorem dX11_keep_69 : decode cX11_keep 69 = .ok (.getfield 21, 3) := by decide +kernel
theorem dX11_keep_72 : decode cX11_keep 72 = .ok (.iload_n 1, 1) := by decide +kernel
theorem dX11_keep_73 : decode cX11_keep 73 = .ok (.aaload, 1) := by decide +kernel
theorem dX11_keep_74 : decode cX11_keep 74 = .ok (.iconst 1, 1) := by decide +kernel
theorem dX11_keep_75 : decode cX11_keep 75 = .ok (.putfield 348, 3) := by decide +kernel
theorem dX11_keep_78 : decode cX11_keep 78 = .ok (.iconst 0, 1) := by decide +kernel
theorem dX11_keep_79 : decode cX11_keep 79 = .ok (.ireturn, 1) := by decide +kernel
theorem dX11_row_0 : decode cX11_row 0 = .ok (.iload_n 1, 1) := by decide +kernel
theorem dX11_row_1 : decode cX11_row 1 = .ok (.iconst 0, 1) := by decide +kernel
theorem dX11_row_2 : decode cX11_row 2 = .ok (.bipush 7, 2) := by decide +kernel
theorem dX11_row_4 : decode cX11_row 4 = .ok (.invokestatic 61, 3) := by decide +kernel
theorem dX11_row_7 : decode cX11_row 7 = .ok (.ifCond .eq 18, 3) := by decide +kernel
theorem dX11_row_10 : decode cX11_row 10 = .ok (.iload_n 2, 1) := by decide +kernel
theorem dX11_row_11 : decode cX11_row 11 = .ok (.iconst 0, 1) := by decide +kernel
theorem dX11_row_12 : decode cX11_row 12 = .ok (.iconst 2, 1) := by decide +kernel
theorem dX11_row_13 : decode cX11_row 13 = .ok (.invokestatic 61, 3) := by decide +kernel
theorem dX11_row_16 : decode cX11_row 16 = .ok (.ifCond .eq 9, 3) := by decide +kernel
theorem dX11_row_19 : decode cX11_row 19 = .ok (.iload_n 3, 1) := by decide +kernel
theorem dX11_row_20 : decode cX11_row 20 = .ok (.bipush 100, 2) := by decide +kernel
theorem dX11_row_22 : decode cX11_row 22 = .ok (.if_icmp .le 5, 3) := by decide +kernel
theorem dX11_row_25 : decode cX11_row 25 = .ok (.iconst (-1), 1) := by decide +kernel
theorem dX11_row_26 : decode cX11_row 26 = .ok (.ireturn, 1) := by decide +kernel
theorem dX11_row_27 : decode cX11_row 27 = .ok (.iload_n 3, 1) := by decide +kernel
theorem dX11_row_28 : decode cX11_row 28 = .ok (.ifCond .ge 6, 3) := by decide +kernel
theorem dX11_row_31 : decode cX11_row 31 = .ok (.bipush (-14), 2) := by decide +kernel
theorem dX11_row_33 : decode cX11_row 33 = .ok (.ireturn, 1) := by decide +kernel
theorem dX11_row_34 : decode cX11_row 34 = .ok (.aload_n 0, 1) := by decide +kernel
theorem dX11_row_35 : decode cX11_row 35 = .ok (.getfield 21, 3) := by decide +kernel
theorem dX11_row_38 : decode cX11_row 38 = .ok (.iload_n 1, 1) := by decide +kernel
theorem dX11_row_39 : decode cX11_row 39 = .ok (.aaload, 1) := by decide +kernel
theorem dX11_row_40 : decode cX11_row 40 = .ok (.getfield 141, 3) := by decide +kernel
theorem dX11_row_43 : decode cX11_row 43 = .ok (.iload_n 2, 1) := by decide +kernel
theorem dX11_row_44 : decode cX11_row 44 = .ok (.iload_n 3, 1) := by decide +kernel
theorem dX11_row_45 : decode cX11_row 45 = .ok (.invokevirtual 357, 3) := by decide +kernel
theorem dX11_row_48 : decode cX11_row 48 = .ok (.aload_n 0, 1) := by decide +kernel
theorem dX11_row_49 : decode cX11_row 49 = .ok (.getfield 21, 3) := by decide +kernel
theorem dX11_row_52 : decode cX11_row 52 = .ok (.iload_n 1, 1) := by decide +kernel
theorem dX11_row_53 : decode cX11_row 53 = .ok (.aaload, 1) := by decide +kernel
theorem dX11_row_54 : decode cX11_row 54 = .ok (.iconst 2, 1) := by decide +kernel
theorem dX11_row_55 : decode cX11_row 55 = .ok (.putfield 348, 3) := by decide +kernel
theorem dX11_row_58 : decode cX11_row 58 = .ok (.iconst 0, 1) := by decide +kernel
theorem dX11_row_59 : decode cX11_row 59 = .ok (.ireturn, 1) := by decide +kernel
theorem dX11_put_0 : decode cX11_put 0 = .ok (.aload_n 0, 1) := by decide +kernel
theorem dX11_put_1 : decode cX11_put 1 = .ok (.iload_n 1, 1) := by decide +kernel
theorem dX11_put_2 : decode cX11_put 2 = .ok (.iconst 2, 1) := by decide +kernel
theorem dX11_put_3 : decode cX11_put 3 = .ok (.invokevirtual 137, 3) := by decide +kernel
theorem dX11_put_6 : decode cX11_put 6 = .ok (.istore 4, 2) := by decide +kernel
theorem dX11_put_8 : decode cX11_put 8 = .ok (.iload 4, 2) := by decide +kernel
theorem dX11_put_10 : decode cX11_put 10 = .ok (.ifCond .eq 6, 3) := by decide +kernel
theorem dX11_put_13 : decode cX11_put 13 = .ok (.iload 4, 2) := by decide +kernel
theorem dX11_put_15 : decode cX11_put 15 = .ok (.ireturn, 1) := by decide +kernel
theorem dX11_put_16 : decode cX11_put 16 = .ok (.aload_n 0, 1) := by decide +kernel
theorem dX11_put_17 : decode cX11_put 17 = .ok (.getfield 21, 3) := by decide +kernel
theorem dX11_put_20 : decode cX11_put 20 = .ok (.iload_n 1, 1) := by decide +kernel
theorem dX11_put_21 : decode cX11_put 21 = .ok (.aaload, 1) := by decide +kernel
theorem dX11_put_22 : decode cX11_put 22 = .ok (.getfield 141, 3) := by decide +kernel
theorem dX11_put_25 : decode cX11_put 25 = .ok (.astore 5, 2) := by decide +kernel
theorem dX11_put_27 : decode cX11_put 27 = .ok (.iload_n 2, 1) := by decide +kernel
theorem dX11_put_28 : decode cX11_put 28 = .ok (.iconst 0, 1) := by decide +kernel
theorem dX11_put_29 : decode cX11_put 29 = .ok (.aload 5, 2) := by decide +kernel
theorem dX11_put_31 : decode cX11_put 31 = .ok (.getfield 145, 3) := by decide +kernel
theorem dX11_put_34 : decode cX11_put 34 = .ok (.iconst 1, 1) := by decide +kernel
theorem dX11_put_35 : decode cX11_put 35 = .ok (.isub, 1) := by decide +kernel
theorem dX11_put_36 : decode cX11_put 36 = .ok (.invokestatic 61, 3) := by decide +kernel
theorem dX11_put_39 : decode cX11_put 39 = .ok (.ifCond .ne 6, 3) := by decide +kernel
theorem dX11_put_42 : decode cX11_put 42 = .ok (.bipush (-13), 2) := by decide +kernel
theorem dX11_put_44 : decode cX11_put 44 = .ok (.ireturn, 1) := by decide +kernel
theorem dX11_put_45 : decode cX11_put 45 = .ok (.aload 5, 2) := by decide +kernel
theorem dX11_put_47 : decode cX11_put 47 = .ok (.getfield 154, 3) := by decide +kernel
theorem dX11_put_50 : decode cX11_put 50 = .ok (.iload_n 2, 1) := by decide +kernel
theorem dX11_put_51 : decode cX11_put 51 = .ok (.aload 5, 2) := by decide +kernel
theorem dX11_put_53 : decode cX11_put 53 = .ok (.iload_n 3, 1) := by decide +kernel
theorem dX11_put_54 : decode cX11_put 54 = .ok (.invokevirtual 360, 3) := by decide +kernel
theorem dX11_put_57 : decode cX11_put 57 = .ok (.iastore, 1) := by decide +kernel
theorem dX11_put_58 : decode cX11_put 58 = .ok (.iconst 0, 1) := by decide +kernel
theorem dX11_put_59 : decode cX11_put 59 = .ok (.ireturn, 1) := by decide +kernel
theorem dX11_element_0 : decode cX11_element 0 = .ok (.iload_n 1, 1) := by decide +kernel
theorem dX11_element_1 : decode cX11_element 1 = .ok (.iconst 0, 1) := by decide +kernel
theorem dX11_element_2 : decode cX11_element 2 = .ok (.bipush 7, 2) := by decide +kernel
theorem dX11_element_4 : decode cX11_element 4 = .ok (.invokestatic 61, 3) := by decide +kernel
theorem dX11_element_7 : decode cX11_element 7 = .ok (.ifCond .ne 14, 3) := by decide +kernel
theorem dX11_element_10 : decode cX11_element 10 = .ok (.new 363, 3) := by decide +kernel
theorem dX11_element_13 : decode cX11_element 13 = .ok (.dup, 1) := by decide +kernel
theorem dX11_element_14 : decode cX11_element 14 = .ok (.ldc_w 365, 3) := by decide +kernel
theorem dX11_element_17 : decode cX11_element 17 = .ok (.invokespecial 367, 3) := by decide +kernel
theorem dX11_element_20 : decode cX11_element 20 = .ok (.athrow, 1) := by decide +kernel
theorem dX11_element_21 : decode cX11_element 21 = .ok (.aload_n 0, 1) := by decide +kernel
theorem dX11_element_22 : decode cX11_element 22 = .ok (.getfield 21, 3) := by decide +kernel
theorem dX11_element_25 : decode cX11_element 25 = .ok (.iload_n 1, 1) := by decide +kernel
theorem dX11_element_26 : decode cX11_element 26 = .ok (.aaload, 1) := by decide +kernel
theorem dX11_element_27 : decode cX11_element 27 = .ok (.getfield 348, 3) := by decide +kernel
theorem dX11_element_30 : decode cX11_element 30 = .ok (.iconst 2, 1) := by decide +kernel
theorem dX11_element_31 : decode cX11_element 31 = .ok (.if_icmp .eq 14, 3) := by decide +kernel
theorem dX11_element_34 : decode cX11_element 34 = .ok (.new 370, 3) := by decide +kernel
theorem dX11_element_37 : decode cX11_element 37 = .ok (.dup, 1) := by decide +kernel
theorem dX11_element_38 : decode cX11_element 38 = .ok (.ldc_w 372, 3) := by decide +kernel
theorem dX11_element_41 : decode cX11_element 41 = .ok (.invokespecial 374, 3) := by decide +kernel
theorem dX11_element_44 : decode cX11_element 44 = .ok (.athrow, 1) := by decide +kernel
theorem dX11_element_45 : decode cX11_element 45 = .ok (.aload_n 0, 1) := by decide +kernel
theorem dX11_element_46 : decode cX11_element 46 = .ok (.getfield 21, 3) := by decide +kernel
theorem dX11_element_49 : decode cX11_element 49 = .ok (.iload_n 1, 1) := by decide +kernel
theorem dX11_element_50 : decode cX11_element 50 = .ok (.aaload, 1) := by decide +kernel
theorem dX11_element_51 : decode cX11_element 51 = .ok (.getfield 141, 3) := by decide +kernel
theorem dX11_element_54 : decode cX11_element 54 = .ok (.astore_n 3, 1) := by decide +kernel
theorem dX11_element_55 : decode cX11_element 55 = .ok (.iload_n 2, 1) := by decide +kernel
theorem dX11_element_56 : decode cX11_element 56 = .ok (.iconst 0, 1) := by decide +kernel
theorem dX11_element_57 : decode cX11_element 57 = .ok (.aload_n 3, 1) := by decide +kernel
theorem dX11_element_58 : decode cX11_element 58 = .ok (.getfield 145, 3) := by decide +kernel
theorem dX11_element_61 : decode cX11_element 61 = .ok (.iconst 1, 1) := by decide +kernel
theorem dX11_element_62 : decode cX11_element 62 = .ok (.isub, 1) := by decide +kernel
theorem dX11_element_63 : decode cX11_element 63 = .ok (.invokestatic 61, 3) := by decide +kernel
theorem dX11_element_66 : decode cX11_element 66 = .ok (.ifCond .ne 14, 3) := by decide +kernel
theorem dX11_element_69 : decode cX11_element 69 = .ok (.new 370, 3) := by decide +kernel
theorem dX11_element_72 : decode cX11_element 72 = .ok (.dup, 1) := by decide +kernel
theorem dX11_element_73 : decode cX11_element 73 = .ok (.ldc_w 375, 3) := by decide +kernel
theorem dX11_element_76 : decode cX11_element 76 = .ok (.invokespecial 374, 3) := by decide +kernel
theorem dX11_element_79 : decode cX11_element 79 = .ok (.athrow, 1) := by decide +kernel
theorem dX11_element_80 : decode cX11_element 80 = .ok (.aload_n 3, 1) := by decide +kernel
theorem dX11_element_81 : decode cX11_element 81 = .ok (.getfield 154, 3) := by decide +kernel
theorem dX11_element_84 : decode cX11_element 84 = .ok (.iload_n 2, 1) := by decide +kernel
theorem dX11_element_85 : decode cX11_element 85 = .ok (.iaload, 1) := by decide +kernel
theorem dX11_element_86 : decode cX11_element 86 = .ok (.i2l, 1) := by decide +kernel
theorem dX11_element_87 : decode cX11_element 87 = .ok (.lreturn, 1) := by decide +kernel
theorem dX11_copy_0 : decode cX11_copy 0 = .ok (.iload_n 1, 1) := by decide +kernel
theorem dX11_copy_1 : decode cX11_copy 1 = .ok (.iconst 0, 1) := by decide +kernel
theorem dX11_copy_2 : decode cX11_copy 2 = .ok (.bipush 7, 2) := by decide +kernel
theorem dX11_copy_4 : decode cX11_copy 4 = .ok (.invokestatic 61, 3) := by decide +kernel
theorem dX11_copy_7 : decode cX11_copy 7 = .ok (.ifCond .eq 13, 3) := by decide +kernel
theorem dX11_copy_10 : decode cX11_copy 10 = .ok (.iload_n 3, 1) := by decide +kernel
theorem dX11_copy_11 : decode cX11_copy 11 = .ok (.iconst 0, 1) := by decide +kernel
theorem dX11_copy_12 : decode cX11_copy 12 = .ok (.bipush 7, 2) := by decide +kernel
theorem dX11_copy_14 : decode cX11_copy 14 = .ok (.invokestatic 61, 3) := by decide +kernel
theorem dX11_copy_17 : decode cX11_copy 17 = .ok (.ifCond .ne 5, 3) := by decide +kernel
theorem dX11_copy_20 : decode cX11_copy 20 = .ok (.iconst (-1), 1) := by decide +kernel
theorem dX11_copy_21 : decode cX11_copy 21 = .ok (.ireturn, 1) := by decide +kernel
theorem dX11_copy_22 : decode cX11_copy 22 = .ok (.aload_n 0, 1) := by decide +kernel
theorem dX11_copy_23 : decode cX11_copy 23 = .ok (.getfield 21, 3) := by decide +kernel
theorem dX11_copy_26 : decode cX11_copy 26 = .ok (.iload_n 1, 1) := by decide +kernel
theorem dX11_copy_27 : decode cX11_copy 27 = .ok (.aaload, 1) := by decide +kernel
theorem dX11_copy_28 : decode cX11_copy 28 = .ok (.getfield 348, 3) := by decide +kernel
theorem dX11_copy_31 : decode cX11_copy 31 = .ok (.ifCond .eq 15, 3) := by decide +kernel
theorem dX11_copy_34 : decode cX11_copy 34 = .ok (.aload_n 0, 1) := by decide +kernel
theorem dX11_copy_35 : decode cX11_copy 35 = .ok (.getfield 21, 3) := by decide +kernel
theorem dX11_copy_38 : decode cX11_copy 38 = .ok (.iload_n 3, 1) := by decide +kernel
theorem dX11_copy_39 : decode cX11_copy 39 = .ok (.aaload, 1) := by decide +kernel
theorem dX11_copy_40 : decode cX11_copy 40 = .ok (.getfield 348, 3) := by decide +kernel
theorem dX11_copy_43 : decode cX11_copy 43 = .ok (.ifCond .ne 6, 3) := by decide +kernel
theorem dX11_copy_46 : decode cX11_copy 46 = .ok (.bipush (-11), 2) := by decide +kernel
theorem dX11_copy_48 : decode cX11_copy 48 = .ok (.ireturn, 1) := by decide +kernel
theorem dX11_copy_49 : decode cX11_copy 49 = .ok (.aload_n 0, 1) := by decide +kernel
theorem dX11_copy_50 : decode cX11_copy 50 = .ok (.getfield 21, 3) := by decide +kernel
theorem dX11_copy_53 : decode cX11_copy 53 = .ok (.iload_n 1, 1) := by decide +kernel
theorem dX11_copy_54 : decode cX11_copy 54 = .ok (.aaload, 1) := by decide +kernel
theorem dX11_copy_55 : decode cX11_copy 55 = .ok (.getfield 348, 3) := by decide +kernel
theorem dX11_copy_58 : decode cX11_copy 58 = .ok (.iconst 2, 1) := by decide +kernel
theorem dX11_copy_59 : decode cX11_copy 59 = .ok (.if_icmp .ne 16, 3) := by decide +kernel
theorem dX11_copy_62 : decode cX11_copy 62 = .ok (.aload_n 0, 1) := by decide +kernel
theorem dX11_copy_63 : decode cX11_copy 63 = .ok (.getfield 21, 3) := by decide +kernel
theorem dX11_copy_66 : decode cX11_copy 66 = .ok (.iload_n 3, 1) := by decide +kernel
theorem dX11_copy_67 : decode cX11_copy 67 = .ok (.aaload, 1) := by decide +kernel
theorem dX11_copy_68 : decode cX11_copy 68 = .ok (.getfield 348, 3) := by decide +kernel
theorem dX11_copy_71 : decode cX11_copy 71 = .ok (.iconst 2, 1) := by decide +kernel
theorem dX11_copy_72 : decode cX11_copy 72 = .ok (.if_icmp .eq 6, 3) := by decide +kernel
theorem dX11_copy_75 : decode cX11_copy 75 = .ok (.bipush (-12), 2) := by decide +kernel
theorem dX11_copy_77 : decode cX11_copy 77 = .ok (.ireturn, 1) := by decide +kernel
theorem dX11_copy_78 : decode cX11_copy 78 = .ok (.aload_n 0, 1) := by decide +kernel
theorem dX11_copy_79 : decode cX11_copy 79 = .ok (.getfield 21, 3) := by decide +kernel
theorem dX11_copy_82 : decode cX11_copy 82 = .ok (.iload_n 1, 1) := by decide +kernel
theorem dX11_copy_83 : decode cX11_copy 83 = .ok (.aaload, 1) := by decide +kernel
theorem dX11_copy_84 : decode cX11_copy 84 = .ok (.getfield 141, 3) := by decide +kernel
theorem dX11_copy_87 : decode cX11_copy 87 = .ok (.astore 6, 2) := by decide +kernel
theorem dX11_copy_89 : decode cX11_copy 89 = .ok (.aload_n 0, 1) := by decide +kernel
theorem dX11_copy_90 : decode cX11_copy 90 = .ok (.getfield 21, 3) := by decide +kernel
theorem dX11_copy_93 : decode cX11_copy 93 = .ok (.iload_n 3, 1) := by decide +kernel
theorem dX11_copy_94 : decode cX11_copy 94 = .ok (.aaload, 1) := by decide +kernel
theorem dX11_copy_95 : decode cX11_copy 95 = .ok (.getfield 141, 3) := by decide +kernel
theorem dX11_copy_98 : decode cX11_copy 98 = .ok (.astore 7, 2) := by decide +kernel
theorem dX11_copy_100 : decode cX11_copy 100 = .ok (.aload 6, 2) := by decide +kernel
theorem dX11_copy_102 : decode cX11_copy 102 = .ok (.getfield 377, 3) := by decide +kernel
theorem dX11_copy_105 : decode cX11_copy 105 = .ok (.aload 7, 2) := by decide +kernel
theorem dX11_copy_107 : decode cX11_copy 107 = .ok (.getfield 377, 3) := by decide +kernel
theorem dX11_copy_110 : decode cX11_copy 110 = .ok (.if_icmp .eq 6, 3) := by decide +kernel
theorem dX11_copy_113 : decode cX11_copy 113 = .ok (.bipush (-12), 2) := by decide +kernel
theorem dX11_copy_115 : decode cX11_copy 115 = .ok (.ireturn, 1) := by decide +kernel
theorem dX11_copy_116 : decode cX11_copy 116 = .ok (.iload 5, 2) := by decide +kernel
theorem dX11_copy_118 : decode cX11_copy 118 = .ok (.ifCond .lt 36, 3) := by decide +kernel
theorem dX11_copy_121 : decode cX11_copy 121 = .ok (.iload_n 2, 1) := by decide +kernel
theorem dX11_copy_122 : decode cX11_copy 122 = .ok (.iconst 0, 1) := by decide +kernel
theorem dX11_copy_123 : decode cX11_copy 123 = .ok (.aload 6, 2) := by decide +kernel
theorem dX11_copy_125 : decode cX11_copy 125 = .ok (.getfield 145, 3) := by decide +kernel
theorem dX11_copy_128 : decode cX11_copy 128 = .ok (.iload 5, 2) := by decide +kernel
theorem dX11_copy_130 : decode cX11_copy 130 = .ok (.isub, 1) := by decide +kernel
theorem dX11_copy_131 : decode cX11_copy 131 = .ok (.invokestatic 61, 3) := by decide +kernel
theorem dX11_copy_134 : decode cX11_copy 134 = .ok (.ifCond .eq 20, 3) := by decide +kernel
theorem dX11_copy_137 : decode cX11_copy 137 = .ok (.iload 4, 2) := by decide +kernel
theorem dX11_copy_139 : decode cX11_copy 139 = .ok (.iconst 0, 1) := by decide +kernel
theorem dX11_copy_140 : decode cX11_copy 140 = .ok (.aload 7, 2) := by decide +kernel
theorem dX11_copy_142 : decode cX11_copy 142 = .ok (.getfield 145, 3) := by decide +kernel
theorem dX11_copy_145 : decode cX11_copy 145 = .ok (.iload 5, 2) := by decide +kernel
theorem dX11_copy_147 : decode cX11_copy 147 = .ok (.isub, 1) := by decide +kernel
theorem dX11_copy_148 : decode cX11_copy 148 = .ok (.invokestatic 61, 3) := by decide +kernel
theorem dX11_copy_151 : decode cX11_copy 151 = .ok (.ifCond .ne 6, 3) := by decide +kernel
theorem dX11_copy_154 : decode cX11_copy 154 = .ok (.bipush (-13), 2) := by decide +kernel
theorem dX11_copy_156 : decode cX11_copy 156 = .ok (.ireturn, 1) := by decide +kernel
theorem dX11_copy_157 : decode cX11_copy 157 = .ok (.aload 6, 2) := by decide +kernel
theorem dX11_copy_159 : decode cX11_copy 159 = .ok (.getfield 154, 3) := by decide +kernel
theorem dX11_copy_162 : decode cX11_copy 162 = .ok (.iload_n 2, 1) := by decide +kernel
theorem dX11_copy_163 : decode cX11_copy 163 = .ok (.aload 7, 2) := by decide +kernel
theorem dX11_copy_165 : decode cX11_copy 165 = .ok (.getfield 154, 3) := by decide +kernel
theorem dX11_copy_168 : decode cX11_copy 168 = .ok (.iload 4, 2) := by decide +kernel
theorem dX11_copy_170 : decode cX11_copy 170 = .ok (.iload 5, 2) := by decide +kernel
theorem dX11_copy_172 : decode cX11_copy 172 = .ok (.invokestatic 380, 3) := by decide +kernel
theorem dX11_copy_175 : decode cX11_copy 175 = .ok (.iload 5, 2) := by decide +kernel
theorem dX11_copy_177 : decode cX11_copy 177 = .ok (.ireturn, 1) := by decide +kernel
theorem dX11_gives_0 : decode cX11_gives 0 = .ok (.aload_n 0, 1) := by decide +kernel
theorem dX11_gives_1 : decode cX11_gives 1 = .ok (.iload_n 1, 1) := by decide +kernel
theorem dX11_gives_2 : decode cX11_gives 2 = .ok (.iconst 1, 1) := by decide +kernel
theorem dX11_gives_3 : decode cX11_gives 3 = .ok (.invokevirtual 137, 3) := by decide +kernel
theorem dX11_gives_6 : decode cX11_gives 6 = .ok (.istore_n 2, 1) := by decide +kernel
theorem dX11_gives_7 : decode cX11_gives 7 = .ok (.iload_n 2, 1) := by decide +kernel
theorem dX11_gives_8 : decode cX11_gives 8 = .ok (.ifCond .eq 7, 3) := by decide +kernel
theorem dX11_gives_11 : decode cX11_gives 11 = .ok (.iload_n 2, 1) := by decide +kernel
theorem dX11_gives_12 : decode cX11_gives 12 = .ok (.goto 22, 3) := by decide +kernel
theorem dX11_gives_15 : decode cX11_gives 15 = .ok (.aload_n 0, 1) := by decide +kernel
theorem dX11_gives_16 : decode cX11_gives 16 = .ok (.getfield 21, 3) := by decide +kernel
theorem dX11_gives_19 : decode cX11_gives 19 = .ok (.iload_n 1, 1) := by decide +kernel
theorem dX11_gives_20 : decode cX11_gives 20 = .ok (.aaload, 1) := by decide +kernel
theorem dX11_gives_21 : decode cX11_gives 21 = .ok (.getfield 351, 3) := by decide +kernel
theorem dX11_gives_24 : decode cX11_gives 24 = .ok (.aload_n 0, 1) := by decide +kernel
theorem dX11_gives_25 : decode cX11_gives 25 = .ok (.getfield 10, 3) := by decide +kernel
theorem dX11_gives_28 : decode cX11_gives 28 = .ok (.getfield 98, 3) := by decide +kernel
theorem dX11_gives_31 : decode cX11_gives 31 = .ok (.invokevirtual 101, 3) := by decide +kernel
theorem dX11_gives_34 : decode cX11_gives 34 = .ok (.ireturn, 1) := by decide +kernel
theorem dX11_toss_0 : decode cX11_toss 0 = .ok (.aload_n 0, 1) := by decide +kernel
theorem dX11_toss_1 : decode cX11_toss 1 = .ok (.iload_n 1, 1) := by decide +kernel
theorem dX11_toss_2 : decode cX11_toss 2 = .ok (.iconst 1, 1) := by decide +kernel
theorem dX11_toss_3 : decode cX11_toss 3 = .ok (.invokevirtual 137, 3) := by decide +kernel
theorem dX11_toss_6 : decode cX11_toss 6 = .ok (.istore_n 2, 1) := by decide +kernel
theorem dX11_toss_7 : decode cX11_toss 7 = .ok (.iload_n 2, 1) := by decide +kernel
theorem dX11_toss_8 : decode cX11_toss 8 = .ok (.ifCond .eq 5, 3) := by decide +kernel
theorem dX11_toss_11 : decode cX11_toss 11 = .ok (.iload_n 2, 1) := by decide +kernel
theorem dX11_toss_12 : decode cX11_toss 12 = .ok (.ireturn, 1) := by decide +kernel
theorem dX11_toss_13 : decode cX11_toss 13 = .ok (.aload_n 0, 1) := by decide +kernel
theorem dX11_toss_14 : decode cX11_toss 14 = .ok (.getfield 21, 3) := by decide +kernel
theorem dX11_toss_17 : decode cX11_toss 17 = .ok (.iload_n 1, 1) := by decide +kernel
theorem dX11_toss_18 : decode cX11_toss 18 = .ok (.aaload, 1) := by decide +kernel
theorem dX11_toss_19 : decode cX11_toss 19 = .ok (.getfield 351, 3) := by decide +kernel
theorem dX11_toss_22 : decode cX11_toss 22 = .ok (.astore_n 3, 1) := by decide +kernel
theorem dX11_toss_23 : decode cX11_toss 23 = .ok (.aload_n 3, 1) := by decide +kernel
theorem dX11_toss_24 : decode cX11_toss 24 = .ok (.invokevirtual 386, 3) := by decide +kernel
theorem dX11_toss_27 : decode cX11_toss 27 = .ok (.goto 31, 3) := by decide +kernel
theorem dX11_toss_30 : decode cX11_toss 30 = .ok (.astore 4, 2) := by decide +kernel
theorem dX11_toss_32 : decode cX11_toss 32 = .ok (.sipush 200, 3) := by decide +kernel
theorem dX11_toss_35 : decode cX11_toss 35 = .ok (.aload_n 3, 1) := by decide +kernel
theorem dX11_toss_36 : decode cX11_toss 36 = .ok (.getfield 87, 3) := by decide +kernel
theorem dX11_toss_39 : decode cX11_toss 39 = .ok (.iadd, 1) := by decide +kernel
theorem dX11_toss_40 : decode cX11_toss 40 = .ok (.ireturn, 1) := by decide +kernel
theorem dX11_toss_41 : decode cX11_toss 41 = .ok (.astore 4, 2) := by decide +kernel
theorem dX11_toss_43 : decode cX11_toss 43 = .ok (.bipush 100, 2) := by decide +kernel
theorem dX11_toss_45 : decode cX11_toss 45 = .ok (.aload_n 3, 1) := by decide +kernel
theorem dX11_toss_46 : decode cX11_toss 46 = .ok (.getfield 73, 3) := by decide +kernel
theorem dX11_toss_49 : decode cX11_toss 49 = .ok (.iadd, 1) := by decide +kernel
theorem dX11_toss_50 : decode cX11_toss 50 = .ok (.ireturn, 1) := by decide +kernel
theorem dX11_toss_51 : decode cX11_toss 51 = .ok (.astore 4, 2) := by decide +kernel
theorem dX11_toss_53 : decode cX11_toss 53 = .ok (.aload_n 3, 1) := by decide +kernel
theorem dX11_toss_54 : decode cX11_toss 54 = .ok (.getfield 73, 3) := by decide +kernel
theorem dX11_toss_57 : decode cX11_toss 57 = .ok (.ireturn, 1) := by decide +kernel
theorem dX11_toss_58 : decode cX11_toss 58 = .ok (.bipush (-15), 2) := by decide +kernel
theorem dX11_toss_60 : decode cX11_toss 60 = .ok (.ireturn, 1) := by decide +kernel
theorem dX11_shelfRefusal_0 : decode cX11_shelfRefusal 0 = .ok (.iload_n 1, 1) := by decide +kernel
theorem dX11_shelfRefusal_1 : decode cX11_shelfRefusal 1 = .ok (.iconst 0, 1) := by decide +kernel
theorem dX11_shelfRefusal_2 : decode cX11_shelfRefusal 2 = .ok (.bipush 7, 2) := by decide +kernel
theorem dX11_shelfRefusal_4 : decode cX11_shelfRefusal 4 = .ok (.invokestatic 61, 3) := by decide +kernel
theorem dX11_shelfRefusal_7 : decode cX11_shelfRefusal 7 = .ok (.ifCond .ne 5, 3) := by decide +kernel
theorem dX11_shelfRefusal_10 : decode cX11_shelfRefusal 10 = .ok (.iconst (-1), 1) := by decide +kernel
theorem dX11_shelfRefusal_11 : decode cX11_shelfRefusal 11 = .ok (.ireturn, 1) := by decide +kernel
theorem dX11_shelfRefusal_12 : decode cX11_shelfRefusal 12 = .ok (.aload_n 0, 1) := by decide +kernel
theorem dX11_shelfRefusal_13 : decode cX11_shelfRefusal 13 = .ok (.getfield 21, 3) := by decide +kernel
theorem dX11_shelfRefusal_16 : decode cX11_shelfRefusal 16 = .ok (.iload_n 1, 1) := by decide +kernel
theorem dX11_shelfRefusal_17 : decode cX11_shelfRefusal 17 = .ok (.aaload, 1) := by decide +kernel
theorem dX11_shelfRefusal_18 : decode cX11_shelfRefusal 18 = .ok (.getfield 348, 3) := by decide +kernel
theorem dX11_shelfRefusal_21 : decode cX11_shelfRefusal 21 = .ok (.ifCond .ne 6, 3) := by decide +kernel
theorem dX11_shelfRefusal_24 : decode cX11_shelfRefusal 24 = .ok (.bipush (-11), 2) := by decide +kernel
theorem dX11_shelfRefusal_26 : decode cX11_shelfRefusal 26 = .ok (.ireturn, 1) := by decide +kernel
theorem dX11_shelfRefusal_27 : decode cX11_shelfRefusal 27 = .ok (.aload_n 0, 1) := by decide +kernel
theorem dX11_shelfRefusal_28 : decode cX11_shelfRefusal 28 = .ok (.getfield 21, 3) := by decide +kernel
theorem dX11_shelfRefusal_31 : decode cX11_shelfRefusal 31 = .ok (.iload_n 1, 1) := by decide +kernel
theorem dX11_shelfRefusal_32 : decode cX11_shelfRefusal 32 = .ok (.aaload, 1) := by decide +kernel
theorem dX11_shelfRefusal_33 : decode cX11_shelfRefusal 33 = .ok (.getfield 348, 3) := by decide +kernel
theorem dX11_shelfRefusal_36 : decode cX11_shelfRefusal 36 = .ok (.iload_n 2, 1) := by decide +kernel
theorem dX11_shelfRefusal_37 : decode cX11_shelfRefusal 37 = .ok (.if_icmp .ne 7, 3) := by decide +kernel
theorem dX11_shelfRefusal_40 : decode cX11_shelfRefusal 40 = .ok (.iconst 0, 1) := by decide +kernel
theorem dX11_shelfRefusal_41 : decode cX11_shelfRefusal 41 = .ok (.goto 5, 3) := by decide +kernel
theorem dX11_shelfRefusal_44 : decode cX11_shelfRefusal 44 = .ok (.bipush (-12), 2) := by decide +kernel
theorem dX11_shelfRefusal_46 : decode cX11_shelfRefusal 46 = .ok (.ireturn, 1) := by decide +kernel
theorem dX11_textRefusal_0 : decode cX11_textRefusal 0 = .ok (.aload_n 0, 1) := by decide +kernel
theorem dX11_textRefusal_1 : decode cX11_textRefusal 1 = .ok (.iload_n 1, 1) := by decide +kernel
theorem dX11_textRefusal_2 : decode cX11_textRefusal 2 = .ok (.iconst 2, 1) := by decide +kernel
theorem dX11_textRefusal_3 : decode cX11_textRefusal 3 = .ok (.invokevirtual 137, 3) := by decide +kernel
theorem dX11_textRefusal_6 : decode cX11_textRefusal 6 = .ok (.istore_n 2, 1) := by decide +kernel
theorem dX11_textRefusal_7 : decode cX11_textRefusal 7 = .ok (.iload_n 2, 1) := by decide +kernel
theorem dX11_textRefusal_8 : decode cX11_textRefusal 8 = .ok (.ifCond .eq 5, 3) := by decide +kernel
theorem dX11_textRefusal_11 : decode cX11_textRefusal 11 = .ok (.iload_n 2, 1) := by decide +kernel
theorem dX11_textRefusal_12 : decode cX11_textRefusal 12 = .ok (.ireturn, 1) := by decide +kernel
theorem dX11_textRefusal_13 : decode cX11_textRefusal 13 = .ok (.aload_n 0, 1) := by decide +kernel
theorem dX11_textRefusal_14 : decode cX11_textRefusal 14 = .ok (.getfield 21, 3) := by decide +kernel
theorem dX11_textRefusal_17 : decode cX11_textRefusal 17 = .ok (.iload_n 1, 1) := by decide +kernel
theorem dX11_textRefusal_18 : decode cX11_textRefusal 18 = .ok (.aaload, 1) := by decide +kernel
theorem dX11_textRefusal_19 : decode cX11_textRefusal 19 = .ok (.getfield 141, 3) := by decide +kernel
theorem dX11_textRefusal_22 : decode cX11_textRefusal 22 = .ok (.getfield 377, 3) := by decide +kernel
theorem dX11_textRefusal_25 : decode cX11_textRefusal 25 = .ok (.ifCond .ne 7, 3) := by decide +kernel
theorem dX11_textRefusal_28 : decode cX11_textRefusal 28 = .ok (.iconst 0, 1) := by decide +kernel
theorem dX11_textRefusal_29 : decode cX11_textRefusal 29 = .ok (.goto 5, 3) := by decide +kernel
theorem dX11_textRefusal_32 : decode cX11_textRefusal 32 = .ok (.bipush (-12), 2) := by decide +kernel
theorem dX11_textRefusal_34 : decode cX11_textRefusal 34 = .ok (.ireturn, 1) := by decide +kernel
theorem dX11_within_0 : decode cX11_within 0 = .ok (.iload_n 0, 1) := by decide +kernel
theorem dX11_within_1 : decode cX11_within 1 = .ok (.iload_n 1, 1) := by decide +kernel
theorem dX11_within_2 : decode cX11_within 2 = .ok (.if_icmp .lt 12, 3) := by decide +kernel
theorem dX11_within_5 : decode cX11_within 5 = .ok (.iload_n 0, 1) := by decide +kernel
theorem dX11_within_6 : decode cX11_within 6 = .ok (.iload_n 2, 1) := by decide +kernel
theorem dX11_within_7 : decode cX11_within 7 = .ok (.if_icmp .gt 7, 3) := by decide +kernel
theorem dX11_within_10 : decode cX11_within 10 = .ok (.iconst 1, 1) := by decide +kernel
theorem dX11_within_11 : decode cX11_within 11 = .ok (.goto 4, 3) := by decide +kernel
theorem dX11_within_14 : decode cX11_within 14 = .ok (.iconst 0, 1) := by decide +kernel
theorem dX11_within_15 : decode cX11_within 15 = .ok (.ireturn, 1) := by decide +kernel
theorem dX11_isIn_0 : decode cX11_isIn 0 = .ok (.iload_n 0, 1) := by decide +kernel
theorem dX11_isIn_1 : decode cX11_isIn 1 = .ok (.iload_n 1, 1) := by decide +kernel
theorem dX11_isIn_2 : decode cX11_isIn 2 = .ok (.ishr, 1) := by decide +kernel
theorem dX11_isIn_3 : decode cX11_isIn 3 = .ok (.iconst 1, 1) := by decide +kernel
theorem dX11_isIn_4 : decode cX11_isIn 4 = .ok (.iand, 1) := by decide +kernel
theorem dX11_isIn_5 : decode cX11_isIn 5 = .ok (.ifCond .eq 7, 3) := by decide +kernel
theorem dX11_isIn_8 : decode cX11_isIn 8 = .ok (.iconst 1, 1) := by decide +kernel
theorem dX11_isIn_9 : decode cX11_isIn 9 = .ok (.goto 4, 3) := by decide +kernel
theorem dX11_isIn_12 : decode cX11_isIn 12 = .ok (.iconst 0, 1) := by decide +kernel
theorem dX11_isIn_13 : decode cX11_isIn 13 = .ok (.ireturn, 1) := by decide +kernel
