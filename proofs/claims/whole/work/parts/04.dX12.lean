theorem dX12_init_0 : decode cX12_init 0 = .ok (.aload_n 0, 1) := by decide +kernel
theorem dX12_init_1 : decode cX12_init 1 = .ok (.invokespecial 1, 3) := by decide +kernel
theorem dX12_init_4 : decode cX12_init 4 = .ok (.aload_n 0, 1) := by decide +kernel
theorem dX12_init_5 : decode cX12_init 5 = .ok (.sipush 434, 3) := by decide +kernel
theorem dX12_init_8 : decode cX12_init 8 = .ok (.newarray .int, 2) := by decide +kernel
theorem dX12_init_10 : decode cX12_init 10 = .ok (.putfield 9, 3) := by decide +kernel
theorem dX12_init_13 : decode cX12_init 13 = .ok (.aload_n 0, 1) := by decide +kernel
theorem dX12_init_14 : decode cX12_init 14 = .ok (.sipush 434, 3) := by decide +kernel
theorem dX12_init_17 : decode cX12_init 17 = .ok (.newarray .int, 2) := by decide +kernel
theorem dX12_init_19 : decode cX12_init 19 = .ok (.putfield 13, 3) := by decide +kernel
theorem dX12_init_22 : decode cX12_init 22 = .ok (.aload_n 0, 1) := by decide +kernel
theorem dX12_init_23 : decode cX12_init 23 = .ok (.bipush 20, 2) := by decide +kernel
theorem dX12_init_25 : decode cX12_init 25 = .ok (.newarray .long, 2) := by decide +kernel
theorem dX12_init_27 : decode cX12_init 27 = .ok (.putfield 16, 3) := by decide +kernel
theorem dX12_init_30 : decode cX12_init 30 = .ok (.aload_n 0, 1) := by decide +kernel
theorem dX12_init_31 : decode cX12_init 31 = .ok (.bipush 20, 2) := by decide +kernel
theorem dX12_init_33 : decode cX12_init 33 = .ok (.newarray .long, 2) := by decide +kernel
theorem dX12_init_35 : decode cX12_init 35 = .ok (.putfield 20, 3) := by decide +kernel
theorem dX12_init_38 : decode cX12_init 38 = .ok (.aload_n 0, 1) := by decide +kernel
theorem dX12_init_39 : decode cX12_init 39 = .ok (.bipush 8, 2) := by decide +kernel
theorem dX12_init_41 : decode cX12_init 41 = .ok (.newarray .int, 2) := by decide +kernel
theorem dX12_init_43 : decode cX12_init 43 = .ok (.putfield 23, 3) := by decide +kernel
theorem dX12_init_46 : decode cX12_init 46 = .ok (.aload_n 0, 1) := by decide +kernel
theorem dX12_init_47 : decode cX12_init 47 = .ok (.bipush 8, 2) := by decide +kernel
theorem dX12_init_49 : decode cX12_init 49 = .ok (.newarray .int, 2) := by decide +kernel
theorem dX12_init_51 : decode cX12_init 51 = .ok (.putfield 26, 3) := by decide +kernel
theorem dX12_init_54 : decode cX12_init 54 = .ok (.aload_n 0, 1) := by decide +kernel
theorem dX12_init_55 : decode cX12_init 55 = .ok (.bipush 8, 2) := by decide +kernel
theorem dX12_init_57 : decode cX12_init 57 = .ok (.newarray .int, 2) := by decide +kernel
theorem dX12_init_59 : decode cX12_init 59 = .ok (.putfield 29, 3) := by decide +kernel
theorem dX12_init_62 : decode cX12_init 62 = .ok (.aload_n 0, 1) := by decide +kernel
theorem dX12_init_63 : decode cX12_init 63 = .ok (.sipush 800, 3) := by decide +kernel
theorem dX12_init_66 : decode cX12_init 66 = .ok (.newarray .int, 2) := by decide +kernel
theorem dX12_init_68 : decode cX12_init 68 = .ok (.putfield 32, 3) := by decide +kernel
theorem dX12_init_71 : decode cX12_init 71 = .ok (.aload_n 0, 1) := by decide +kernel
theorem dX12_init_72 : decode cX12_init 72 = .ok (.bipush 40, 2) := by decide +kernel
theorem dX12_init_74 : decode cX12_init 74 = .ok (.newarray .int, 2) := by decide +kernel
theorem dX12_init_76 : decode cX12_init 76 = .ok (.putfield 35, 3) := by decide +kernel
theorem dX12_init_79 : decode cX12_init 79 = .ok (.aload_n 0, 1) := by decide +kernel
theorem dX12_init_80 : decode cX12_init 80 = .ok (.bipush 8, 2) := by decide +kernel
theorem dX12_init_82 : decode cX12_init 82 = .ok (.newarray .int, 2) := by decide +kernel
theorem dX12_init_84 : decode cX12_init 84 = .ok (.putfield 38, 3) := by decide +kernel
theorem dX12_init_87 : decode cX12_init 87 = .ok (.aload_n 0, 1) := by decide +kernel
theorem dX12_init_88 : decode cX12_init 88 = .ok (.iconst 4, 1) := by decide +kernel
theorem dX12_init_89 : decode cX12_init 89 = .ok (.newarray .int, 2) := by decide +kernel
theorem dX12_init_91 : decode cX12_init 91 = .ok (.putfield 41, 3) := by decide +kernel
theorem dX12_init_94 : decode cX12_init 94 = .ok (.aload_n 0, 1) := by decide +kernel
theorem dX12_init_95 : decode cX12_init 95 = .ok (.sipush 400, 3) := by decide +kernel
theorem dX12_init_98 : decode cX12_init 98 = .ok (.newarray .int, 2) := by decide +kernel
theorem dX12_init_100 : decode cX12_init 100 = .ok (.putfield 44, 3) := by decide +kernel
theorem dX12_init_103 : decode cX12_init 103 = .ok (.aload_n 0, 1) := by decide +kernel
theorem dX12_init_104 : decode cX12_init 104 = .ok (.aload_n 0, 1) := by decide +kernel
theorem dX12_init_105 : decode cX12_init 105 = .ok (.getfield 32, 3) := by decide +kernel
theorem dX12_init_108 : decode cX12_init 108 = .ok (.putfield 47, 3) := by decide +kernel
theorem dX12_init_111 : decode cX12_init 111 = .ok (.aload_n 0, 1) := by decide +kernel
theorem dX12_init_112 : decode cX12_init 112 = .ok (.bipush 12, 2) := by decide +kernel
theorem dX12_init_114 : decode cX12_init 114 = .ok (.newarray .int, 2) := by decide +kernel
theorem dX12_init_116 : decode cX12_init 116 = .ok (.putfield 50, 3) := by decide +kernel
theorem dX12_init_119 : decode cX12_init 119 = .ok (.iconst 0, 1) := by decide +kernel
theorem dX12_init_120 : decode cX12_init 120 = .ok (.istore_n 1, 1) := by decide +kernel
theorem dX12_init_121 : decode cX12_init 121 = .ok (.iload_n 1, 1) := by decide +kernel
theorem dX12_init_122 : decode cX12_init 122 = .ok (.bipush 8, 2) := by decide +kernel
theorem dX12_init_124 : decode cX12_init 124 = .ok (.if_icmp .ge 37, 3) := by decide +kernel
theorem dX12_init_127 : decode cX12_init 127 = .ok (.aload_n 0, 1) := by decide +kernel
theorem dX12_init_128 : decode cX12_init 128 = .ok (.getfield 9, 3) := by decide +kernel
theorem dX12_init_131 : decode cX12_init 131 = .ok (.bipush 70, 2) := by decide +kernel
theorem dX12_init_133 : decode cX12_init 133 = .ok (.iconst 3, 1) := by decide +kernel
theorem dX12_init_134 : decode cX12_init 134 = .ok (.iload_n 1, 1) := by decide +kernel
theorem dX12_init_135 : decode cX12_init 135 = .ok (.imul, 1) := by decide +kernel
theorem dX12_init_136 : decode cX12_init 136 = .ok (.iadd, 1) := by decide +kernel
theorem dX12_init_137 : decode cX12_init 137 = .ok (.bipush 100, 2) := by decide +kernel
theorem dX12_init_139 : decode cX12_init 139 = .ok (.iastore, 1) := by decide +kernel
theorem dX12_init_140 : decode cX12_init 140 = .ok (.aload_n 0, 1) := by decide +kernel
theorem dX12_init_141 : decode cX12_init 141 = .ok (.getfield 9, 3) := by decide +kernel
theorem dX12_init_144 : decode cX12_init 144 = .ok (.bipush 70, 2) := by decide +kernel
theorem dX12_init_146 : decode cX12_init 146 = .ok (.iconst 3, 1) := by decide +kernel
theorem dX12_init_147 : decode cX12_init 147 = .ok (.iload_n 1, 1) := by decide +kernel
theorem dX12_init_148 : decode cX12_init 148 = .ok (.imul, 1) := by decide +kernel
theorem dX12_init_149 : decode cX12_init 149 = .ok (.iadd, 1) := by decide +kernel
theorem dX12_init_150 : decode cX12_init 150 = .ok (.iconst 1, 1) := by decide +kernel
theorem dX12_init_151 : decode cX12_init 151 = .ok (.iadd, 1) := by decide +kernel
theorem dX12_init_152 : decode cX12_init 152 = .ok (.bipush 100, 2) := by decide +kernel
theorem dX12_init_154 : decode cX12_init 154 = .ok (.iastore, 1) := by decide +kernel
theorem dX12_init_155 : decode cX12_init 155 = .ok (.iinc 1 1, 3) := by decide +kernel
theorem dX12_init_158 : decode cX12_init 158 = .ok (.goto (-37), 3) := by decide +kernel
theorem dX12_init_161 : decode cX12_init 161 = .ok (.aload_n 0, 1) := by decide +kernel
theorem dX12_init_162 : decode cX12_init 162 = .ok (.getfield 9, 3) := by decide +kernel
theorem dX12_init_165 : decode cX12_init 165 = .ok (.iconst 5, 1) := by decide +kernel
theorem dX12_init_166 : decode cX12_init 166 = .ok (.iconst 1, 1) := by decide +kernel
theorem dX12_init_167 : decode cX12_init 167 = .ok (.iastore, 1) := by decide +kernel
theorem dX12_init_168 : decode cX12_init 168 = .ok (.aload_n 0, 1) := by decide +kernel
theorem dX12_init_169 : decode cX12_init 169 = .ok (.getfield 9, 3) := by decide +kernel
theorem dX12_init_172 : decode cX12_init 172 = .ok (.sipush 334, 3) := by decide +kernel
theorem dX12_init_175 : decode cX12_init 175 = .ok (.bipush 103, 2) := by decide +kernel
theorem dX12_init_177 : decode cX12_init 177 = .ok (.iastore, 1) := by decide +kernel
theorem dX12_init_178 : decode cX12_init 178 = .ok (.return_, 1) := by decide +kernel
theorem dX12_thrown_0 : decode cX12_thrown 0 = .ok (.aload_n 0, 1) := by decide +kernel
theorem dX12_thrown_1 : decode cX12_thrown 1 = .ok (.getfield 53, 3) := by decide +kernel
theorem dX12_thrown_4 : decode cX12_thrown 4 = .ok (.ireturn, 1) := by decide +kernel
theorem dX12_isIn_0 : decode cX12_isIn 0 = .ok (.lload_n 0, 1) := by decide +kernel
theorem dX12_isIn_1 : decode cX12_isIn 1 = .ok (.lload_n 2, 1) := by decide +kernel
theorem dX12_isIn_2 : decode cX12_isIn 2 = .ok (.lcmp, 1) := by decide +kernel
theorem dX12_isIn_3 : decode cX12_isIn 3 = .ok (.ifCond .lt 14, 3) := by decide +kernel
theorem dX12_isIn_6 : decode cX12_isIn 6 = .ok (.lload_n 0, 1) := by decide +kernel
theorem dX12_isIn_7 : decode cX12_isIn 7 = .ok (.lload 4, 2) := by decide +kernel
theorem dX12_isIn_9 : decode cX12_isIn 9 = .ok (.lcmp, 1) := by decide +kernel
theorem dX12_isIn_10 : decode cX12_isIn 10 = .ok (.ifCond .gt 7, 3) := by decide +kernel
theorem dX12_isIn_13 : decode cX12_isIn 13 = .ok (.iconst 1, 1) := by decide +kernel
theorem dX12_isIn_14 : decode cX12_isIn 14 = .ok (.goto 4, 3) := by decide +kernel
theorem dX12_isIn_17 : decode cX12_isIn 17 = .ok (.iconst 0, 1) := by decide +kernel
theorem dX12_isIn_18 : decode cX12_isIn 18 = .ok (.ireturn, 1) := by decide +kernel
theorem dX12_isLight_0 : decode cX12_isLight 0 = .ok (.iload_n 1, 1) := by decide +kernel
theorem dX12_isLight_1 : decode cX12_isLight 1 = .ok (.i2l, 1) := by decide +kernel
theorem dX12_isLight_2 : decode cX12_isLight 2 = .ok (.lconst 0, 1) := by decide +kernel
theorem dX12_isLight_3 : decode cX12_isLight 3 = .ok (.aload_n 0, 1) := by decide +kernel
theorem dX12_isLight_4 : decode cX12_isLight 4 = .ok (.getfield 9, 3) := by decide +kernel
theorem dX12_isLight_7 : decode cX12_isLight 7 = .ok (.iconst 1, 1) := by decide +kernel
theorem dX12_isLight_8 : decode cX12_isLight 8 = .ok (.iaload, 1) := by decide +kernel
theorem dX12_isLight_9 : decode cX12_isLight 9 = .ok (.iconst 1, 1) := by decide +kernel
theorem dX12_isLight_10 : decode cX12_isLight 10 = .ok (.isub, 1) := by decide +kernel
theorem dX12_isLight_11 : decode cX12_isLight 11 = .ok (.i2l, 1) := by decide +kernel
theorem dX12_isLight_12 : decode cX12_isLight 12 = .ok (.invokestatic 57, 3) := by decide +kernel
theorem dX12_isLight_15 : decode cX12_isLight 15 = .ok (.ireturn, 1) := by decide +kernel
theorem dX12_isPair_0 : decode cX12_isPair 0 = .ok (.aload_n 0, 1) := by decide +kernel
theorem dX12_isPair_1 : decode cX12_isPair 1 = .ok (.iload_n 1, 1) := by decide +kernel
theorem dX12_isPair_2 : decode cX12_isPair 2 = .ok (.invokevirtual 61, 3) := by decide +kernel
theorem dX12_isPair_5 : decode cX12_isPair 5 = .ok (.ifCond .eq 20, 3) := by decide +kernel
theorem dX12_isPair_8 : decode cX12_isPair 8 = .ok (.aload_n 0, 1) := by decide +kernel
theorem dX12_isPair_9 : decode cX12_isPair 9 = .ok (.iload_n 2, 1) := by decide +kernel
theorem dX12_isPair_10 : decode cX12_isPair 10 = .ok (.invokevirtual 61, 3) := by decide +kernel
theorem dX12_isPair_13 : decode cX12_isPair 13 = .ok (.ifCond .eq 12, 3) := by decide +kernel
theorem dX12_isPair_16 : decode cX12_isPair 16 = .ok (.iload_n 1, 1) := by decide +kernel
theorem dX12_isPair_17 : decode cX12_isPair 17 = .ok (.iload_n 2, 1) := by decide +kernel
theorem dX12_isPair_18 : decode cX12_isPair 18 = .ok (.if_icmp .eq 7, 3) := by decide +kernel
theorem dX12_isPair_21 : decode cX12_isPair 21 = .ok (.iconst 1, 1) := by decide +kernel
theorem dX12_isPair_22 : decode cX12_isPair 22 = .ok (.goto 4, 3) := by decide +kernel
theorem dX12_isPair_25 : decode cX12_isPair 25 = .ok (.iconst 0, 1) := by decide +kernel
theorem dX12_isPair_26 : decode cX12_isPair 26 = .ok (.ireturn, 1) := by decide +kernel
theorem dX12_isEye_0 : decode cX12_isEye 0 = .ok (.iload_n 0, 1) := by decide +kernel
theorem dX12_isEye_1 : decode cX12_isEye 1 = .ok (.i2l, 1) := by decide +kernel
theorem dX12_isEye_2 : decode cX12_isEye 2 = .ok (.lconst 0, 1) := by decide +kernel
theorem dX12_isEye_3 : decode cX12_isEye 3 = .ok (.ldc2_w 65, 3) := by decide +kernel
theorem dX12_isEye_6 : decode cX12_isEye 6 = .ok (.invokestatic 57, 3) := by decide +kernel
theorem dX12_isEye_9 : decode cX12_isEye 9 = .ok (.ireturn, 1) := by decide +kernel
theorem dX12_isDim_0 : decode cX12_isDim 0 = .ok (.iload_n 0, 1) := by decide +kernel
theorem dX12_isDim_1 : decode cX12_isDim 1 = .ok (.i2l, 1) := by decide +kernel
theorem dX12_isDim_2 : decode cX12_isDim 2 = .ok (.lconst 0, 1) := by decide +kernel
theorem dX12_isDim_3 : decode cX12_isDim 3 = .ok (.ldc2_w 67, 3) := by decide +kernel
theorem dX12_isDim_6 : decode cX12_isDim 6 = .ok (.invokestatic 57, 3) := by decide +kernel
theorem dX12_isDim_9 : decode cX12_isDim 9 = .ok (.ireturn, 1) := by decide +kernel
theorem dX12_isShelf_0 : decode cX12_isShelf 0 = .ok (.iload_n 0, 1) := by decide +kernel
theorem dX12_isShelf_1 : decode cX12_isShelf 1 = .ok (.i2l, 1) := by decide +kernel
theorem dX12_isShelf_2 : decode cX12_isShelf 2 = .ok (.lconst 0, 1) := by decide +kernel
theorem dX12_isShelf_3 : decode cX12_isShelf 3 = .ok (.ldc2_w 65, 3) := by decide +kernel
theorem dX12_isShelf_6 : decode cX12_isShelf 6 = .ok (.invokestatic 57, 3) := by decide +kernel
theorem dX12_isShelf_9 : decode cX12_isShelf 9 = .ok (.ireturn, 1) := by decide +kernel
theorem dX12_get_0 : decode cX12_get 0 = .ok (.aload_n 0, 1) := by decide +kernel
theorem dX12_get_1 : decode cX12_get 1 = .ok (.getfield 9, 3) := by decide +kernel
theorem dX12_get_4 : decode cX12_get 4 = .ok (.bipush 10, 2) := by decide +kernel
theorem dX12_get_6 : decode cX12_get 6 = .ok (.iconst 5, 1) := by decide +kernel
theorem dX12_get_7 : decode cX12_get 7 = .ok (.iload_n 1, 1) := by decide +kernel
theorem dX12_get_8 : decode cX12_get 8 = .ok (.imul, 1) := by decide +kernel
theorem dX12_get_9 : decode cX12_get 9 = .ok (.iadd, 1) := by decide +kernel
theorem dX12_get_10 : decode cX12_get 10 = .ok (.iload_n 2, 1) := by decide +kernel
theorem dX12_get_11 : decode cX12_get 11 = .ok (.iadd, 1) := by decide +kernel
theorem dX12_get_12 : decode cX12_get 12 = .ok (.iaload, 1) := by decide +kernel
theorem dX12_get_13 : decode cX12_get 13 = .ok (.ireturn, 1) := by decide +kernel
theorem dX12_becomes_0 : decode cX12_becomes 0 = .ok (.aload_n 0, 1) := by decide +kernel
theorem dX12_becomes_1 : decode cX12_becomes 1 = .ok (.getfield 9, 3) := by decide +kernel
theorem dX12_becomes_4 : decode cX12_becomes 4 = .ok (.iload_n 1, 1) := by decide +kernel
theorem dX12_becomes_5 : decode cX12_becomes 5 = .ok (.iaload, 1) := by decide +kernel
theorem dX12_becomes_6 : decode cX12_becomes 6 = .ok (.istore_n 3, 1) := by decide +kernel
theorem dX12_becomes_7 : decode cX12_becomes 7 = .ok (.aload_n 0, 1) := by decide +kernel
theorem dX12_becomes_8 : decode cX12_becomes 8 = .ok (.getfield 9, 3) := by decide +kernel
theorem dX12_becomes_11 : decode cX12_becomes 11 = .ok (.iload_n 1, 1) := by decide +kernel
theorem dX12_becomes_12 : decode cX12_becomes 12 = .ok (.iload_n 2, 1) := by decide +kernel
theorem dX12_becomes_13 : decode cX12_becomes 13 = .ok (.iastore, 1) := by decide +kernel
theorem dX12_becomes_14 : decode cX12_becomes 14 = .ok (.iload_n 3, 1) := by decide +kernel
theorem dX12_becomes_15 : decode cX12_becomes 15 = .ok (.ireturn, 1) := by decide +kernel
theorem dX12_light_0 : decode cX12_light 0 = .ok (.iload_n 1, 1) := by decide +kernel
theorem dX12_light_1 : decode cX12_light 1 = .ok (.i2l, 1) := by decide +kernel
theorem dX12_light_2 : decode cX12_light 2 = .ok (.lconst 0, 1) := by decide +kernel
theorem dX12_light_3 : decode cX12_light 3 = .ok (.ldc2_w 65, 3) := by decide +kernel
theorem dX12_light_6 : decode cX12_light 6 = .ok (.invokestatic 57, 3) := by decide +kernel
theorem dX12_light_9 : decode cX12_light 9 = .ok (.ifCond .eq 40, 3) := by decide +kernel
theorem dX12_light_12 : decode cX12_light 12 = .ok (.iload_n 2, 1) := by decide +kernel
theorem dX12_light_13 : decode cX12_light 13 = .ok (.i2l, 1) := by decide +kernel
theorem dX12_light_14 : decode cX12_light 14 = .ok (.lconst 1, 1) := by decide +kernel
theorem dX12_light_15 : decode cX12_light 15 = .ok (.ldc2_w 69, 3) := by decide +kernel
theorem dX12_light_18 : decode cX12_light 18 = .ok (.invokestatic 57, 3) := by decide +kernel
theorem dX12_light_21 : decode cX12_light 21 = .ok (.ifCond .eq 28, 3) := by decide +kernel
theorem dX12_light_24 : decode cX12_light 24 = .ok (.iload_n 3, 1) := by decide +kernel
theorem dX12_light_25 : decode cX12_light 25 = .ok (.i2l, 1) := by decide +kernel
theorem dX12_light_26 : decode cX12_light 26 = .ok (.lconst 0, 1) := by decide +kernel
theorem dX12_light_27 : decode cX12_light 27 = .ok (.ldc2_w 71, 3) := by decide +kernel
theorem dX12_light_30 : decode cX12_light 30 = .ok (.invokestatic 57, 3) := by decide +kernel
theorem dX12_light_33 : decode cX12_light 33 = .ok (.ifCond .eq 16, 3) := by decide +kernel
theorem dX12_light_36 : decode cX12_light 36 = .ok (.iload 4, 2) := by decide +kernel
theorem dX12_light_38 : decode cX12_light 38 = .ok (.i2l, 1) := by decide +kernel
theorem dX12_light_39 : decode cX12_light 39 = .ok (.lconst 0, 1) := by decide +kernel
theorem dX12_light_40 : decode cX12_light 40 = .ok (.ldc2_w 73, 3) := by decide +kernel
theorem dX12_light_43 : decode cX12_light 43 = .ok (.invokestatic 57, 3) := by decide +kernel
theorem dX12_light_46 : decode cX12_light 46 = .ok (.ifCond .ne 5, 3) := by decide +kernel
theorem dX12_light_49 : decode cX12_light 49 = .ok (.iconst (-1), 1) := by decide +kernel
theorem dX12_light_50 : decode cX12_light 50 = .ok (.ireturn, 1) := by decide +kernel
theorem dX12_light_51 : decode cX12_light 51 = .ok (.aload_n 0, 1) := by decide +kernel
theorem dX12_light_52 : decode cX12_light 52 = .ok (.getfield 9, 3) := by decide +kernel
theorem dX12_light_55 : decode cX12_light 55 = .ok (.iconst 1, 1) := by decide +kernel
theorem dX12_light_56 : decode cX12_light 56 = .ok (.iaload, 1) := by decide +kernel
theorem dX12_light_57 : decode cX12_light 57 = .ok (.bipush 12, 2) := by decide +kernel
theorem dX12_light_59 : decode cX12_light 59 = .ok (.if_icmp .ne 6, 3) := by decide +kernel
theorem dX12_light_62 : decode cX12_light 62 = .ok (.bipush (-2), 2) := by decide +kernel
theorem dX12_light_64 : decode cX12_light 64 = .ok (.ireturn, 1) := by decide +kernel
theorem dX12_light_65 : decode cX12_light 65 = .ok (.bipush 10, 2) := by decide +kernel
theorem dX12_light_67 : decode cX12_light 67 = .ok (.iconst 5, 1) := by decide +kernel
theorem dX12_light_68 : decode cX12_light 68 = .ok (.aload_n 0, 1) := by decide +kernel
theorem dX12_light_69 : decode cX12_light 69 = .ok (.getfield 9, 3) := by decide +kernel
theorem dX12_light_72 : decode cX12_light 72 = .ok (.iconst 1, 1) := by decide +kernel
theorem dX12_light_73 : decode cX12_light 73 = .ok (.iaload, 1) := by decide +kernel
theorem dX12_light_74 : decode cX12_light 74 = .ok (.imul, 1) := by decide +kernel
theorem dX12_light_75 : decode cX12_light 75 = .ok (.iadd, 1) := by decide +kernel
theorem dX12_light_76 : decode cX12_light 76 = .ok (.istore 5, 2) := by decide +kernel
theorem dX12_light_78 : decode cX12_light 78 = .ok (.aload_n 0, 1) := by decide +kernel
theorem dX12_light_79 : decode cX12_light 79 = .ok (.getfield 9, 3) := by decide +kernel
theorem dX12_light_82 : decode cX12_light 82 = .ok (.iload 5, 2) := by decide +kernel
theorem dX12_light_84 : decode cX12_light 84 = .ok (.iload_n 1, 1) := by decide +kernel
theorem dX12_light_85 : decode cX12_light 85 = .ok (.iastore, 1) := by decide +kernel
theorem dX12_light_86 : decode cX12_light 86 = .ok (.aload_n 0, 1) := by decide +kernel
theorem dX12_light_87 : decode cX12_light 87 = .ok (.getfield 9, 3) := by decide +kernel
theorem dX12_light_90 : decode cX12_light 90 = .ok (.iload 5, 2) := by decide +kernel
theorem dX12_light_92 : decode cX12_light 92 = .ok (.iconst 1, 1) := by decide +kernel
theorem dX12_light_93 : decode cX12_light 93 = .ok (.iadd, 1) := by decide +kernel
theorem dX12_light_94 : decode cX12_light 94 = .ok (.iload_n 2, 1) := by decide +kernel
theorem dX12_light_95 : decode cX12_light 95 = .ok (.iastore, 1) := by decide +kernel
theorem dX12_light_96 : decode cX12_light 96 = .ok (.aload_n 0, 1) := by decide +kernel
theorem dX12_light_97 : decode cX12_light 97 = .ok (.getfield 9, 3) := by decide +kernel
theorem dX12_light_100 : decode cX12_light 100 = .ok (.iload 5, 2) := by decide +kernel
theorem dX12_light_102 : decode cX12_light 102 = .ok (.iconst 2, 1) := by decide +kernel
theorem dX12_light_103 : decode cX12_light 103 = .ok (.iadd, 1) := by decide +kernel
theorem dX12_light_104 : decode cX12_light 104 = .ok (.iload_n 3, 1) := by decide +kernel
theorem dX12_light_105 : decode cX12_light 105 = .ok (.iastore, 1) := by decide +kernel
theorem dX12_light_106 : decode cX12_light 106 = .ok (.aload_n 0, 1) := by decide +kernel
theorem dX12_light_107 : decode cX12_light 107 = .ok (.getfield 9, 3) := by decide +kernel
theorem dX12_light_110 : decode cX12_light 110 = .ok (.iload 5, 2) := by decide +kernel
theorem dX12_light_112 : decode cX12_light 112 = .ok (.iconst 3, 1) := by decide +kernel
theorem dX12_light_113 : decode cX12_light 113 = .ok (.iadd, 1) := by decide +kernel
theorem dX12_light_114 : decode cX12_light 114 = .ok (.iload 4, 2) := by decide +kernel
theorem dX12_light_116 : decode cX12_light 116 = .ok (.iastore, 1) := by decide +kernel
theorem dX12_light_117 : decode cX12_light 117 = .ok (.aload_n 0, 1) := by decide +kernel
theorem dX12_light_118 : decode cX12_light 118 = .ok (.getfield 9, 3) := by decide +kernel
theorem dX12_light_121 : decode cX12_light 121 = .ok (.iload 5, 2) := by decide +kernel
theorem dX12_light_123 : decode cX12_light 123 = .ok (.iconst 4, 1) := by decide +kernel
theorem dX12_light_124 : decode cX12_light 124 = .ok (.iadd, 1) := by decide +kernel
theorem dX12_light_125 : decode cX12_light 125 = .ok (.iconst 0, 1) := by decide +kernel
theorem dX12_light_126 : decode cX12_light 126 = .ok (.iastore, 1) := by decide +kernel
theorem dX12_light_127 : decode cX12_light 127 = .ok (.aload_n 0, 1) := by decide +kernel
theorem dX12_light_128 : decode cX12_light 128 = .ok (.getfield 9, 3) := by decide +kernel
theorem dX12_light_131 : decode cX12_light 131 = .ok (.iconst 1, 1) := by decide +kernel
theorem dX12_light_132 : decode cX12_light 132 = .ok (.dup2, 1) := by decide +kernel
theorem dX12_light_133 : decode cX12_light 133 = .ok (.iaload, 1) := by decide +kernel
theorem dX12_light_134 : decode cX12_light 134 = .ok (.iconst 1, 1) := by decide +kernel
theorem dX12_light_135 : decode cX12_light 135 = .ok (.iadd, 1) := by decide +kernel
theorem dX12_light_136 : decode cX12_light 136 = .ok (.iastore, 1) := by decide +kernel
theorem dX12_light_137 : decode cX12_light 137 = .ok (.aload_n 0, 1) := by decide +kernel
theorem dX12_light_138 : decode cX12_light 138 = .ok (.getfield 9, 3) := by decide +kernel
theorem dX12_light_141 : decode cX12_light 141 = .ok (.iconst 1, 1) := by decide +kernel
theorem dX12_light_142 : decode cX12_light 142 = .ok (.iaload, 1) := by decide +kernel
theorem dX12_light_143 : decode cX12_light 143 = .ok (.iconst 1, 1) := by decide +kernel
theorem dX12_light_144 : decode cX12_light 144 = .ok (.isub, 1) := by decide +kernel
theorem dX12_light_145 : decode cX12_light 145 = .ok (.ireturn, 1) := by decide +kernel
theorem dX12_setting_0 : decode cX12_setting 0 = .ok (.aload_n 0, 1) := by decide +kernel
theorem dX12_setting_1 : decode cX12_setting 1 = .ok (.iload_n 1, 1) := by decide +kernel
theorem dX12_setting_2 : decode cX12_setting 2 = .ok (.invokevirtual 61, 3) := by decide +kernel
theorem dX12_setting_5 : decode cX12_setting 5 = .ok (.ifCond .eq 31, 3) := by decide +kernel
theorem dX12_setting_8 : decode cX12_setting 8 = .ok (.iload_n 2, 1) := by decide +kernel
theorem dX12_setting_9 : decode cX12_setting 9 = .ok (.i2l, 1) := by decide +kernel
theorem dX12_setting_10 : decode cX12_setting 10 = .ok (.lconst 0, 1) := by decide +kernel
theorem dX12_setting_11 : decode cX12_setting 11 = .ok (.ldc2_w 73, 3) := by decide +kernel
theorem dX12_setting_14 : decode cX12_setting 14 = .ok (.invokestatic 57, 3) := by decide +kernel
theorem dX12_setting_17 : decode cX12_setting 17 = .ok (.ifCond .eq 19, 3) := by decide +kernel
theorem dX12_setting_20 : decode cX12_setting 20 = .ok (.aload_n 0, 1) := by decide +kernel
theorem dX12_setting_21 : decode cX12_setting 21 = .ok (.bipush 10, 2) := by decide +kernel
theorem dX12_setting_23 : decode cX12_setting 23 = .ok (.iconst 5, 1) := by decide +kernel
theorem dX12_setting_24 : decode cX12_setting 24 = .ok (.iload_n 1, 1) := by decide +kernel
theorem dX12_setting_25 : decode cX12_setting 25 = .ok (.imul, 1) := by decide +kernel
theorem dX12_setting_26 : decode cX12_setting 26 = .ok (.iadd, 1) := by decide +kernel
theorem dX12_setting_27 : decode cX12_setting 27 = .ok (.iconst 3, 1) := by decide +kernel
theorem dX12_setting_28 : decode cX12_setting 28 = .ok (.iadd, 1) := by decide +kernel
theorem dX12_setting_29 : decode cX12_setting 29 = .ok (.iload_n 2, 1) := by decide +kernel
theorem dX12_setting_30 : decode cX12_setting 30 = .ok (.invokevirtual 75, 3) := by decide +kernel
theorem dX12_setting_33 : decode cX12_setting 33 = .ok (.goto 4, 3) := by decide +kernel
theorem dX12_setting_36 : decode cX12_setting 36 = .ok (.iconst (-1), 1) := by decide +kernel
theorem dX12_setting_37 : decode cX12_setting 37 = .ok (.ireturn, 1) := by decide +kernel
theorem dX12_burn_0 : decode cX12_burn 0 = .ok (.aload_n 0, 1) := by decide +kernel
theorem dX12_burn_1 : decode cX12_burn 1 = .ok (.iload_n 1, 1) := by decide +kernel
theorem dX12_burn_2 : decode cX12_burn 2 = .ok (.invokevirtual 61, 3) := by decide +kernel
theorem dX12_burn_5 : decode cX12_burn 5 = .ok (.ifCond .eq 15, 3) := by decide +kernel
theorem dX12_burn_8 : decode cX12_burn 8 = .ok (.iload_n 2, 1) := by decide +kernel
theorem dX12_burn_9 : decode cX12_burn 9 = .ok (.i2l, 1) := by decide +kernel
theorem dX12_burn_10 : decode cX12_burn 10 = .ok (.lconst 1, 1) := by decide +kernel
theorem dX12_burn_11 : decode cX12_burn 11 = .ok (.ldc2_w 79, 3) := by decide +kernel
theorem dX12_burn_14 : decode cX12_burn 14 = .ok (.invokestatic 57, 3) := by decide +kernel
theorem dX12_burn_17 : decode cX12_burn 17 = .ok (.ifCond .ne 5, 3) := by decide +kernel
theorem dX12_burn_20 : decode cX12_burn 20 = .ok (.iconst (-1), 1) := by decide +kernel
theorem dX12_burn_21 : decode cX12_burn 21 = .ok (.ireturn, 1) := by decide +kernel
theorem dX12_burn_22 : decode cX12_burn 22 = .ok (.aload_n 0, 1) := by decide +kernel
theorem dX12_burn_23 : decode cX12_burn 23 = .ok (.iload_n 1, 1) := by decide +kernel
theorem dX12_burn_24 : decode cX12_burn 24 = .ok (.iconst 4, 1) := by decide +kernel
theorem dX12_burn_25 : decode cX12_burn 25 = .ok (.invokevirtual 81, 3) := by decide +kernel
theorem dX12_burn_28 : decode cX12_burn 28 = .ok (.iload_n 2, 1) := by decide +kernel
theorem dX12_burn_29 : decode cX12_burn 29 = .ok (.iadd, 1) := by decide +kernel
theorem dX12_burn_30 : decode cX12_burn 30 = .ok (.ldc 84, 2) := by decide +kernel
theorem dX12_burn_32 : decode cX12_burn 32 = .ok (.if_icmp .le 6, 3) := by decide +kernel
theorem dX12_burn_35 : decode cX12_burn 35 = .ok (.bipush (-2), 2) := by decide +kernel
theorem dX12_burn_37 : decode cX12_burn 37 = .ok (.ireturn, 1) := by decide +kernel
theorem dX12_burn_38 : decode cX12_burn 38 = .ok (.aload_n 0, 1) := by decide +kernel
theorem dX12_burn_39 : decode cX12_burn 39 = .ok (.getfield 9, 3) := by decide +kernel
theorem dX12_burn_42 : decode cX12_burn 42 = .ok (.bipush 10, 2) := by decide +kernel
theorem dX12_burn_44 : decode cX12_burn 44 = .ok (.iconst 5, 1) := by decide +kernel
theorem dX12_burn_45 : decode cX12_burn 45 = .ok (.iload_n 1, 1) := by decide +kernel
theorem dX12_burn_46 : decode cX12_burn 46 = .ok (.imul, 1) := by decide +kernel
theorem dX12_burn_47 : decode cX12_burn 47 = .ok (.iadd, 1) := by decide +kernel
theorem dX12_burn_48 : decode cX12_burn 48 = .ok (.iconst 4, 1) := by decide +kernel
theorem dX12_burn_49 : decode cX12_burn 49 = .ok (.iadd, 1) := by decide +kernel
theorem dX12_burn_50 : decode cX12_burn 50 = .ok (.dup2, 1) := by decide +kernel
theorem dX12_burn_51 : decode cX12_burn 51 = .ok (.iaload, 1) := by decide +kernel
theorem dX12_burn_52 : decode cX12_burn 52 = .ok (.iload_n 2, 1) := by decide +kernel
theorem dX12_burn_53 : decode cX12_burn 53 = .ok (.iadd, 1) := by decide +kernel
theorem dX12_burn_54 : decode cX12_burn 54 = .ok (.iastore, 1) := by decide +kernel
theorem dX12_burn_55 : decode cX12_burn 55 = .ok (.aload_n 0, 1) := by decide +kernel
theorem dX12_burn_56 : decode cX12_burn 56 = .ok (.iload_n 1, 1) := by decide +kernel
theorem dX12_burn_57 : decode cX12_burn 57 = .ok (.iconst 4, 1) := by decide +kernel
theorem dX12_burn_58 : decode cX12_burn 58 = .ok (.invokevirtual 81, 3) := by decide +kernel
theorem dX12_burn_61 : decode cX12_burn 61 = .ok (.ireturn, 1) := by decide +kernel
theorem dX12_damp_0 : decode cX12_damp 0 = .ok (.iload_n 1, 1) := by decide +kernel
theorem dX12_damp_1 : decode cX12_damp 1 = .ok (.i2l, 1) := by decide +kernel
theorem dX12_damp_2 : decode cX12_damp 2 = .ok (.lconst 0, 1) := by decide +kernel
theorem dX12_damp_3 : decode cX12_damp 3 = .ok (.ldc2_w 85, 3) := by decide +kernel
theorem dX12_damp_6 : decode cX12_damp 6 = .ok (.invokestatic 57, 3) := by decide +kernel
theorem dX12_damp_9 : decode cX12_damp 9 = .ok (.ifCond .eq 12, 3) := by decide +kernel
theorem dX12_damp_12 : decode cX12_damp 12 = .ok (.aload_n 0, 1) := by decide +kernel
theorem dX12_damp_13 : decode cX12_damp 13 = .ok (.iconst 0, 1) := by decide +kernel
theorem dX12_damp_14 : decode cX12_damp 14 = .ok (.iload_n 1, 1) := by decide +kernel
theorem dX12_damp_15 : decode cX12_damp 15 = .ok (.invokevirtual 75, 3) := by decide +kernel
theorem dX12_damp_18 : decode cX12_damp 18 = .ok (.goto 4, 3) := by decide +kernel
theorem dX12_damp_21 : decode cX12_damp 21 = .ok (.iconst (-1), 1) := by decide +kernel
theorem dX12_damp_22 : decode cX12_damp 22 = .ok (.ireturn, 1) := by decide +kernel
theorem dX12_givesBy_0 : decode cX12_givesBy 0 = .ok (.aload_n 1, 1) := by decide +kernel
theorem dX12_givesBy_1 : decode cX12_givesBy 1 = .ok (.iload_n 2, 1) := by decide +kernel
theorem dX12_givesBy_2 : decode cX12_givesBy 2 = .ok (.iconst 1, 1) := by decide +kernel
theorem dX12_givesBy_3 : decode cX12_givesBy 3 = .ok (.iadd, 1) := by decide +kernel
theorem dX12_givesBy_4 : decode cX12_givesBy 4 = .ok (.iaload, 1) := by decide +kernel
theorem dX12_givesBy_5 : decode cX12_givesBy 5 = .ok (.istore 4, 2) := by decide +kernel
theorem dX12_givesBy_7 : decode cX12_givesBy 7 = .ok (.aload_n 1, 1) := by decide +kernel
theorem dX12_givesBy_8 : decode cX12_givesBy 8 = .ok (.iload_n 2, 1) := by decide +kernel
theorem dX12_givesBy_9 : decode cX12_givesBy 9 = .ok (.iconst 3, 1) := by decide +kernel
theorem dX12_givesBy_10 : decode cX12_givesBy 10 = .ok (.iadd, 1) := by decide +kernel
theorem dX12_givesBy_11 : decode cX12_givesBy 11 = .ok (.iaload, 1) := by decide +kernel
theorem dX12_givesBy_12 : decode cX12_givesBy 12 = .ok (.istore 5, 2) := by decide +kernel
theorem dX12_givesBy_14 : decode cX12_givesBy 14 = .ok (.aload_n 1, 1) := by decide +kernel
theorem dX12_givesBy_15 : decode cX12_givesBy 15 = .ok (.iload_n 2, 1) := by decide +kernel
theorem dX12_givesBy_16 : decode cX12_givesBy 16 = .ok (.iaload, 1) := by decide +kernel
theorem dX12_givesBy_17 : decode cX12_givesBy 17 = .ok (.tableswitch 149 1 7 #[43, 56, 71, 94, 112, 149, 126], 43) := by decide +kernel
theorem dX12_givesBy_60 : decode cX12_givesBy 60 = .ok (.iload 4, 2) := by decide +kernel
theorem dX12_givesBy_62 : decode cX12_givesBy 62 = .ok (.iload 5, 2) := by decide +kernel
theorem dX12_givesBy_64 : decode cX12_givesBy 64 = .ok (.imul, 1) := by decide +kernel
theorem dX12_givesBy_65 : decode cX12_givesBy 65 = .ok (.bipush 120, 2) := by decide +kernel
theorem dX12_givesBy_67 : decode cX12_givesBy 67 = .ok (.idiv, 1) := by decide +kernel
theorem dX12_givesBy_68 : decode cX12_givesBy 68 = .ok (.istore 4, 2) := by decide +kernel
theorem dX12_givesBy_70 : decode cX12_givesBy 70 = .ok (.goto 96, 3) := by decide +kernel
theorem dX12_givesBy_73 : decode cX12_givesBy 73 = .ok (.iload 4, 2) := by decide +kernel
theorem dX12_givesBy_75 : decode cX12_givesBy 75 = .ok (.iconst 5, 1) := by decide +kernel
theorem dX12_givesBy_76 : decode cX12_givesBy 76 = .ok (.iload 5, 2) := by decide +kernel
theorem dX12_givesBy_78 : decode cX12_givesBy 78 = .ok (.bipush 40, 2) := by decide +kernel
theorem dX12_givesBy_80 : decode cX12_givesBy 80 = .ok (.isub, 1) := by decide +kernel
theorem dX12_givesBy_81 : decode cX12_givesBy 81 = .ok (.imul, 1) := by decide +kernel
theorem dX12_givesBy_82 : decode cX12_givesBy 82 = .ok (.iadd, 1) := by decide +kernel
theorem dX12_givesBy_83 : decode cX12_givesBy 83 = .ok (.istore 4, 2) := by decide +kernel
theorem dX12_givesBy_85 : decode cX12_givesBy 85 = .ok (.goto 81, 3) := by decide +kernel
theorem dX12_givesBy_88 : decode cX12_givesBy 88 = .ok (.iload 4, 2) := by decide +kernel
theorem dX12_givesBy_90 : decode cX12_givesBy 90 = .ok (.bipush 100, 2) := by decide +kernel
theorem dX12_givesBy_92 : decode cX12_givesBy 92 = .ok (.iload 5, 2) := by decide +kernel
theorem dX12_givesBy_94 : decode cX12_givesBy 94 = .ok (.iadd, 1) := by decide +kernel
theorem dX12_givesBy_95 : decode cX12_givesBy 95 = .ok (.imul, 1) := by decide +kernel
theorem dX12_givesBy_96 : decode cX12_givesBy 96 = .ok (.bipush 100, 2) := by decide +kernel
theorem dX12_givesBy_98 : decode cX12_givesBy 98 = .ok (.idiv, 1) := by decide +kernel
theorem dX12_givesBy_99 : decode cX12_givesBy 99 = .ok (.aload_n 0, 1) := by decide +kernel
theorem dX12_givesBy_100 : decode cX12_givesBy 100 = .ok (.getfield 9, 3) := by decide +kernel
theorem dX12_givesBy_103 : decode cX12_givesBy 103 = .ok (.iconst 0, 1) := by decide +kernel
theorem dX12_givesBy_104 : decode cX12_givesBy 104 = .ok (.iaload, 1) := by decide +kernel
theorem dX12_givesBy_105 : decode cX12_givesBy 105 = .ok (.isub, 1) := by decide +kernel
theorem dX12_givesBy_106 : decode cX12_givesBy 106 = .ok (.istore 4, 2) := by decide +kernel
theorem dX12_givesBy_108 : decode cX12_givesBy 108 = .ok (.goto 58, 3) := by decide +kernel
theorem dX12_givesBy_111 : decode cX12_givesBy 111 = .ok (.iload 4, 2) := by decide +kernel
theorem dX12_givesBy_113 : decode cX12_givesBy 113 = .ok (.iload 5, 2) := by decide +kernel
theorem dX12_givesBy_115 : decode cX12_givesBy 115 = .ok (.imul, 1) := by decide +kernel
theorem dX12_givesBy_116 : decode cX12_givesBy 116 = .ok (.bipush 100, 2) := by decide +kernel
theorem dX12_givesBy_118 : decode cX12_givesBy 118 = .ok (.idiv, 1) := by decide +kernel
theorem dX12_givesBy_119 : decode cX12_givesBy 119 = .ok (.iload_n 3, 1) := by decide +kernel
theorem dX12_givesBy_120 : decode cX12_givesBy 120 = .ok (.bipush 10, 2) := by decide +kernel
theorem dX12_givesBy_122 : decode cX12_givesBy 122 = .ok (.idiv, 1) := by decide +kernel
theorem dX12_givesBy_123 : decode cX12_givesBy 123 = .ok (.isub, 1) := by decide +kernel
theorem dX12_givesBy_124 : decode cX12_givesBy 124 = .ok (.istore 4, 2) := by decide +kernel
theorem dX12_givesBy_126 : decode cX12_givesBy 126 = .ok (.goto 40, 3) := by decide +kernel
theorem dX12_givesBy_129 : decode cX12_givesBy 129 = .ok (.iload 4, 2) := by decide +kernel
theorem dX12_givesBy_131 : decode cX12_givesBy 131 = .ok (.aload_n 0, 1) := by decide +kernel
theorem dX12_givesBy_132 : decode cX12_givesBy 132 = .ok (.getfield 9, 3) := by decide +kernel
theorem dX12_givesBy_135 : decode cX12_givesBy 135 = .ok (.iconst 0, 1) := by decide +kernel
theorem dX12_givesBy_136 : decode cX12_givesBy 136 = .ok (.iaload, 1) := by decide +kernel
theorem dX12_givesBy_137 : decode cX12_givesBy 137 = .ok (.isub, 1) := by decide +kernel
theorem dX12_givesBy_138 : decode cX12_givesBy 138 = .ok (.istore 4, 2) := by decide +kernel
theorem dX12_givesBy_140 : decode cX12_givesBy 140 = .ok (.goto 26, 3) := by decide +kernel
theorem dX12_givesBy_143 : decode cX12_givesBy 143 = .ok (.iload 4, 2) := by decide +kernel
theorem dX12_givesBy_145 : decode cX12_givesBy 145 = .ok (.iload 5, 2) := by decide +kernel
theorem dX12_givesBy_147 : decode cX12_givesBy 147 = .ok (.imul, 1) := by decide +kernel
theorem dX12_givesBy_148 : decode cX12_givesBy 148 = .ok (.bipush 100, 2) := by decide +kernel
theorem dX12_givesBy_150 : decode cX12_givesBy 150 = .ok (.idiv, 1) := by decide +kernel
theorem dX12_givesBy_151 : decode cX12_givesBy 151 = .ok (.iload_n 3, 1) := by decide +kernel
theorem dX12_givesBy_152 : decode cX12_givesBy 152 = .ok (.bipush 10, 2) := by decide +kernel
theorem dX12_givesBy_154 : decode cX12_givesBy 154 = .ok (.idiv, 1) := by decide +kernel
theorem dX12_givesBy_155 : decode cX12_givesBy 155 = .ok (.isub, 1) := by decide +kernel
theorem dX12_givesBy_156 : decode cX12_givesBy 156 = .ok (.iload_n 3, 1) := by decide +kernel
theorem dX12_givesBy_157 : decode cX12_givesBy 157 = .ok (.bipush 20, 2) := by decide +kernel
theorem dX12_givesBy_159 : decode cX12_givesBy 159 = .ok (.idiv, 1) := by decide +kernel
theorem dX12_givesBy_160 : decode cX12_givesBy 160 = .ok (.isub, 1) := by decide +kernel
theorem dX12_givesBy_161 : decode cX12_givesBy 161 = .ok (.istore 4, 2) := by decide +kernel
theorem dX12_givesBy_163 : decode cX12_givesBy 163 = .ok (.goto 3, 3) := by decide +kernel
theorem dX12_givesBy_166 : decode cX12_givesBy 166 = .ok (.iload 4, 2) := by decide +kernel
theorem dX12_givesBy_168 : decode cX12_givesBy 168 = .ok (.iconst 1, 1) := by decide +kernel
theorem dX12_givesBy_169 : decode cX12_givesBy 169 = .ok (.if_icmp .ge 7, 3) := by decide +kernel
theorem dX12_givesBy_172 : decode cX12_givesBy 172 = .ok (.iconst 1, 1) := by decide +kernel
theorem dX12_givesBy_173 : decode cX12_givesBy 173 = .ok (.goto 17, 3) := by decide +kernel
theorem dX12_givesBy_176 : decode cX12_givesBy 176 = .ok (.iload 4, 2) := by decide +kernel
theorem dX12_givesBy_178 : decode cX12_givesBy 178 = .ok (.ldc 84, 2) := by decide +kernel
theorem dX12_givesBy_180 : decode cX12_givesBy 180 = .ok (.if_icmp .le 8, 3) := by decide +kernel
theorem dX12_givesBy_183 : decode cX12_givesBy 183 = .ok (.ldc 84, 2) := by decide +kernel
theorem dX12_givesBy_185 : decode cX12_givesBy 185 = .ok (.goto 5, 3) := by decide +kernel
theorem dX12_givesBy_188 : decode cX12_givesBy 188 = .ok (.iload 4, 2) := by decide +kernel
theorem dX12_givesBy_190 : decode cX12_givesBy 190 = .ok (.ireturn, 1) := by decide +kernel
theorem dX12_givesNow_0 : decode cX12_givesNow 0 = .ok (.aload_n 0, 1) := by decide +kernel
theorem dX12_givesNow_1 : decode cX12_givesNow 1 = .ok (.aload_n 0, 1) := by decide +kernel
theorem dX12_givesNow_2 : decode cX12_givesNow 2 = .ok (.getfield 9, 3) := by decide +kernel
theorem dX12_givesNow_5 : decode cX12_givesNow 5 = .ok (.bipush 10, 2) := by decide +kernel
theorem dX12_givesNow_7 : decode cX12_givesNow 7 = .ok (.iconst 5, 1) := by decide +kernel
theorem dX12_givesNow_8 : decode cX12_givesNow 8 = .ok (.iload_n 1, 1) := by decide +kernel
theorem dX12_givesNow_9 : decode cX12_givesNow 9 = .ok (.imul, 1) := by decide +kernel
theorem dX12_givesNow_10 : decode cX12_givesNow 10 = .ok (.iadd, 1) := by decide +kernel
theorem dX12_givesNow_11 : decode cX12_givesNow 11 = .ok (.aload_n 0, 1) := by decide +kernel
theorem dX12_givesNow_12 : decode cX12_givesNow 12 = .ok (.iload_n 1, 1) := by decide +kernel
theorem dX12_givesNow_13 : decode cX12_givesNow 13 = .ok (.iconst 4, 1) := by decide +kernel
theorem dX12_givesNow_14 : decode cX12_givesNow 14 = .ok (.invokevirtual 81, 3) := by decide +kernel
theorem dX12_givesNow_17 : decode cX12_givesNow 17 = .ok (.invokevirtual 87, 3) := by decide +kernel
theorem dX12_givesNow_20 : decode cX12_givesNow 20 = .ok (.ireturn, 1) := by decide +kernel
theorem dX12_wanders_0 : decode cX12_wanders 0 = .ok (.aload_n 0, 1) := by decide +kernel
theorem dX12_wanders_1 : decode cX12_wanders 1 = .ok (.iload_n 1, 1) := by decide +kernel
theorem dX12_wanders_2 : decode cX12_wanders 2 = .ok (.iconst 3, 1) := by decide +kernel
theorem dX12_wanders_3 : decode cX12_wanders 3 = .ok (.invokevirtual 81, 3) := by decide +kernel
theorem dX12_wanders_6 : decode cX12_wanders 6 = .ok (.istore_n 2, 1) := by decide +kernel
theorem dX12_wanders_7 : decode cX12_wanders 7 = .ok (.aload_n 0, 1) := by decide +kernel
theorem dX12_wanders_8 : decode cX12_wanders 8 = .ok (.iload_n 1, 1) := by decide +kernel
theorem dX12_wanders_9 : decode cX12_wanders 9 = .ok (.iconst 0, 1) := by decide +kernel
theorem dX12_wanders_10 : decode cX12_wanders 10 = .ok (.invokevirtual 81, 3) := by decide +kernel
theorem dX12_wanders_13 : decode cX12_wanders 13 = .ok (.tableswitch 94 1 7 #[43, 52, 72, 75, 77, 80, 82], 43) := by decide +kernel
theorem dX12_wanders_56 : decode cX12_wanders 56 = .ok (.iconst 3, 1) := by decide +kernel
theorem dX12_wanders_57 : decode cX12_wanders 57 = .ok (.aload_n 0, 1) := by decide +kernel
theorem dX12_wanders_58 : decode cX12_wanders 58 = .ok (.getfield 9, 3) := by decide +kernel
theorem dX12_wanders_61 : decode cX12_wanders 61 = .ok (.iconst 0, 1) := by decide +kernel
theorem dX12_wanders_62 : decode cX12_wanders 62 = .ok (.iaload, 1) := by decide +kernel
theorem dX12_wanders_63 : decode cX12_wanders 63 = .ok (.iadd, 1) := by decide +kernel
theorem dX12_wanders_64 : decode cX12_wanders 64 = .ok (.ireturn, 1) := by decide +kernel
theorem dX12_wanders_65 : decode cX12_wanders 65 = .ok (.iconst 3, 1) := by decide +kernel
theorem dX12_wanders_66 : decode cX12_wanders 66 = .ok (.iload_n 2, 1) := by decide +kernel
theorem dX12_wanders_67 : decode cX12_wanders 67 = .ok (.bipush 40, 2) := by decide +kernel
theorem dX12_wanders_69 : decode cX12_wanders 69 = .ok (.if_icmp .ge 10, 3) := by decide +kernel
theorem dX12_wanders_72 : decode cX12_wanders 72 = .ok (.bipush 40, 2) := by decide +kernel
theorem dX12_wanders_74 : decode cX12_wanders 74 = .ok (.iload_n 2, 1) := by decide +kernel
theorem dX12_wanders_75 : decode cX12_wanders 75 = .ok (.isub, 1) := by decide +kernel
theorem dX12_wanders_76 : decode cX12_wanders 76 = .ok (.goto 7, 3) := by decide +kernel
theorem dX12_wanders_79 : decode cX12_wanders 79 = .ok (.iload_n 2, 1) := by decide +kernel
theorem dX12_wanders_80 : decode cX12_wanders 80 = .ok (.bipush 40, 2) := by decide +kernel
theorem dX12_wanders_82 : decode cX12_wanders 82 = .ok (.isub, 1) := by decide +kernel
theorem dX12_wanders_83 : decode cX12_wanders 83 = .ok (.iadd, 1) := by decide +kernel
theorem dX12_wanders_84 : decode cX12_wanders 84 = .ok (.ireturn, 1) := by decide +kernel
theorem dX12_wanders_85 : decode cX12_wanders 85 = .ok (.bipush 6, 2) := by decide +kernel
theorem dX12_wanders_87 : decode cX12_wanders 87 = .ok (.ireturn, 1) := by decide +kernel
theorem dX12_wanders_88 : decode cX12_wanders 88 = .ok (.iconst 1, 1) := by decide +kernel
theorem dX12_wanders_89 : decode cX12_wanders 89 = .ok (.ireturn, 1) := by decide +kernel
theorem dX12_wanders_90 : decode cX12_wanders 90 = .ok (.bipush 7, 2) := by decide +kernel
theorem dX12_wanders_92 : decode cX12_wanders 92 = .ok (.ireturn, 1) := by decide +kernel
theorem dX12_wanders_93 : decode cX12_wanders 93 = .ok (.iconst 0, 1) := by decide +kernel
theorem dX12_wanders_94 : decode cX12_wanders 94 = .ok (.ireturn, 1) := by decide +kernel
theorem dX12_wanders_95 : decode cX12_wanders 95 = .ok (.iconst 1, 1) := by decide +kernel
theorem dX12_wanders_96 : decode cX12_wanders 96 = .ok (.aload_n 0, 1) := by decide +kernel
theorem dX12_wanders_97 : decode cX12_wanders 97 = .ok (.iload_n 1, 1) := by decide +kernel
theorem dX12_wanders_98 : decode cX12_wanders 98 = .ok (.iconst 4, 1) := by decide +kernel
theorem dX12_wanders_99 : decode cX12_wanders 99 = .ok (.invokevirtual 81, 3) := by decide +kernel
theorem dX12_wanders_102 : decode cX12_wanders 102 = .ok (.bipush 100, 2) := by decide +kernel
theorem dX12_wanders_104 : decode cX12_wanders 104 = .ok (.idiv, 1) := by decide +kernel
theorem dX12_wanders_105 : decode cX12_wanders 105 = .ok (.iadd, 1) := by decide +kernel
theorem dX12_wanders_106 : decode cX12_wanders 106 = .ok (.ireturn, 1) := by decide +kernel
theorem dX12_wanders_107 : decode cX12_wanders 107 = .ok (.iconst 3, 1) := by decide +kernel
theorem dX12_wanders_108 : decode cX12_wanders 108 = .ok (.ireturn, 1) := by decide +kernel
theorem dX12_of_0 : decode cX12_of 0 = .ok (.aload_n 0, 1) := by decide +kernel
theorem dX12_of_1 : decode cX12_of 1 = .ok (.iload_n 1, 1) := by decide +kernel
theorem dX12_of_2 : decode cX12_of 2 = .ok (.invokevirtual 61, 3) := by decide +kernel
theorem dX12_of_5 : decode cX12_of 5 = .ok (.ifCond .eq 15, 3) := by decide +kernel
theorem dX12_of_8 : decode cX12_of 8 = .ok (.iload_n 2, 1) := by decide +kernel
theorem dX12_of_9 : decode cX12_of 9 = .ok (.i2l, 1) := by decide +kernel
theorem dX12_of_10 : decode cX12_of 10 = .ok (.lconst 0, 1) := by decide +kernel
theorem dX12_of_11 : decode cX12_of 11 = .ok (.ldc2_w 91, 3) := by decide +kernel
theorem dX12_of_14 : decode cX12_of 14 = .ok (.invokestatic 57, 3) := by decide +kernel
theorem dX12_of_17 : decode cX12_of 17 = .ok (.ifCond .ne 7, 3) := by decide +kernel
theorem dX12_of_20 : decode cX12_of 20 = .ok (.iconst (-1), 1) := by decide +kernel
theorem dX12_of_21 : decode cX12_of 21 = .ok (.goto 35, 3) := by decide +kernel
theorem dX12_of_24 : decode cX12_of 24 = .ok (.iload_n 2, 1) := by decide +kernel
theorem dX12_of_25 : decode cX12_of 25 = .ok (.iconst 5, 1) := by decide +kernel
theorem dX12_of_26 : decode cX12_of 26 = .ok (.if_icmp .ge 12, 3) := by decide +kernel
theorem dX12_of_29 : decode cX12_of 29 = .ok (.aload_n 0, 1) := by decide +kernel
theorem dX12_of_30 : decode cX12_of 30 = .ok (.iload_n 1, 1) := by decide +kernel
theorem dX12_of_31 : decode cX12_of 31 = .ok (.iload_n 2, 1) := by decide +kernel
theorem dX12_of_32 : decode cX12_of 32 = .ok (.invokevirtual 81, 3) := by decide +kernel
theorem dX12_of_35 : decode cX12_of 35 = .ok (.goto 21, 3) := by decide +kernel
theorem dX12_of_38 : decode cX12_of 38 = .ok (.iload_n 2, 1) := by decide +kernel
theorem dX12_of_39 : decode cX12_of 39 = .ok (.iconst 5, 1) := by decide +kernel
theorem dX12_of_40 : decode cX12_of 40 = .ok (.if_icmp .ne 11, 3) := by decide +kernel
theorem dX12_of_43 : decode cX12_of 43 = .ok (.aload_n 0, 1) := by decide +kernel
theorem dX12_of_44 : decode cX12_of 44 = .ok (.iload_n 1, 1) := by decide +kernel
theorem dX12_of_45 : decode cX12_of 45 = .ok (.invokevirtual 93, 3) := by decide +kernel
theorem dX12_of_48 : decode cX12_of 48 = .ok (.goto 8, 3) := by decide +kernel
theorem dX12_of_51 : decode cX12_of 51 = .ok (.aload_n 0, 1) := by decide +kernel
theorem dX12_of_52 : decode cX12_of 52 = .ok (.iload_n 1, 1) := by decide +kernel
theorem dX12_of_53 : decode cX12_of 53 = .ok (.invokevirtual 97, 3) := by decide +kernel
theorem dX12_of_56 : decode cX12_of 56 = .ok (.ireturn, 1) := by decide +kernel
theorem dX12_eye_0 : decode cX12_eye 0 = .ok (.iload_n 1, 1) := by decide +kernel
theorem dX12_eye_1 : decode cX12_eye 1 = .ok (.invokestatic 100, 3) := by decide +kernel
theorem dX12_eye_4 : decode cX12_eye 4 = .ok (.ifCond .eq 47, 3) := by decide +kernel
theorem dX12_eye_7 : decode cX12_eye 7 = .ok (.iload_n 2, 1) := by decide +kernel
theorem dX12_eye_8 : decode cX12_eye 8 = .ok (.i2l, 1) := by decide +kernel
theorem dX12_eye_9 : decode cX12_eye 9 = .ok (.lconst 0, 1) := by decide +kernel
theorem dX12_eye_10 : decode cX12_eye 10 = .ok (.ldc2_w 103, 3) := by decide +kernel
theorem dX12_eye_13 : decode cX12_eye 13 = .ok (.invokestatic 57, 3) := by decide +kernel
theorem dX12_eye_16 : decode cX12_eye 16 = .ok (.ifCond .eq 35, 3) := by decide +kernel
theorem dX12_eye_19 : decode cX12_eye 19 = .ok (.iload_n 3, 1) := by decide +kernel
theorem dX12_eye_20 : decode cX12_eye 20 = .ok (.i2l, 1) := by decide +kernel
theorem dX12_eye_21 : decode cX12_eye 21 = .ok (.iload_n 2, 1) := by decide +kernel
theorem dX12_eye_22 : decode cX12_eye 22 = .ok (.iconst 2, 1) := by decide +kernel
theorem dX12_eye_23 : decode cX12_eye 23 = .ok (.if_icmp .ne 7, 3) := by decide +kernel
theorem dX12_eye_26 : decode cX12_eye 26 = .ok (.lconst 0, 1) := by decide +kernel
theorem dX12_eye_27 : decode cX12_eye 27 = .ok (.goto 4, 3) := by decide +kernel
theorem dX12_eye_30 : decode cX12_eye 30 = .ok (.lconst 1, 1) := by decide +kernel
theorem dX12_eye_31 : decode cX12_eye 31 = .ok (.iload_n 2, 1) := by decide +kernel
theorem dX12_eye_32 : decode cX12_eye 32 = .ok (.iconst 2, 1) := by decide +kernel
theorem dX12_eye_33 : decode cX12_eye 33 = .ok (.if_icmp .ne 9, 3) := by decide +kernel
theorem dX12_eye_36 : decode cX12_eye 36 = .ok (.ldc2_w 105, 3) := by decide +kernel
theorem dX12_eye_39 : decode cX12_eye 39 = .ok (.goto 6, 3) := by decide +kernel
theorem dX12_eye_42 : decode cX12_eye 42 = .ok (.ldc2_w 73, 3) := by decide +kernel
theorem dX12_eye_45 : decode cX12_eye 45 = .ok (.invokestatic 57, 3) := by decide +kernel
theorem dX12_eye_48 : decode cX12_eye 48 = .ok (.ifCond .ne 5, 3) := by decide +kernel
theorem dX12_eye_51 : decode cX12_eye 51 = .ok (.iconst (-1), 1) := by decide +kernel
theorem dX12_eye_52 : decode cX12_eye 52 = .ok (.ireturn, 1) := by decide +kernel
theorem dX12_eye_53 : decode cX12_eye 53 = .ok (.aload_n 0, 1) := by decide +kernel
theorem dX12_eye_54 : decode cX12_eye 54 = .ok (.bipush 70, 2) := by decide +kernel
theorem dX12_eye_56 : decode cX12_eye 56 = .ok (.iconst 3, 1) := by decide +kernel
theorem dX12_eye_57 : decode cX12_eye 57 = .ok (.iload_n 1, 1) := by decide +kernel
theorem dX12_eye_58 : decode cX12_eye 58 = .ok (.imul, 1) := by decide +kernel
theorem dX12_eye_59 : decode cX12_eye 59 = .ok (.iadd, 1) := by decide +kernel
theorem dX12_eye_60 : decode cX12_eye 60 = .ok (.iload_n 2, 1) := by decide +kernel
theorem dX12_eye_61 : decode cX12_eye 61 = .ok (.iadd, 1) := by decide +kernel
theorem dX12_eye_62 : decode cX12_eye 62 = .ok (.iload_n 3, 1) := by decide +kernel
theorem dX12_eye_63 : decode cX12_eye 63 = .ok (.invokevirtual 75, 3) := by decide +kernel
theorem dX12_eye_66 : decode cX12_eye 66 = .ok (.ireturn, 1) := by decide +kernel
theorem dX12_seenBy_0 : decode cX12_seenBy 0 = .ok (.aload_n 0, 1) := by decide +kernel
theorem dX12_seenBy_1 : decode cX12_seenBy 1 = .ok (.iload_n 1, 1) := by decide +kernel
theorem dX12_seenBy_2 : decode cX12_seenBy 2 = .ok (.invokevirtual 93, 3) := by decide +kernel
theorem dX12_seenBy_5 : decode cX12_seenBy 5 = .ok (.i2l, 1) := by decide +kernel
theorem dX12_seenBy_6 : decode cX12_seenBy 6 = .ok (.aload_n 0, 1) := by decide +kernel
theorem dX12_seenBy_7 : decode cX12_seenBy 7 = .ok (.iload_n 1, 1) := by decide +kernel
theorem dX12_seenBy_8 : decode cX12_seenBy 8 = .ok (.iconst 2, 1) := by decide +kernel
theorem dX12_seenBy_9 : decode cX12_seenBy 9 = .ok (.invokevirtual 81, 3) := by decide +kernel
theorem dX12_seenBy_12 : decode cX12_seenBy 12 = .ok (.iload_n 2, 1) := by decide +kernel
theorem dX12_seenBy_13 : decode cX12_seenBy 13 = .ok (.imul, 1) := by decide +kernel
theorem dX12_seenBy_14 : decode cX12_seenBy 14 = .ok (.bipush 100, 2) := by decide +kernel
theorem dX12_seenBy_16 : decode cX12_seenBy 16 = .ok (.aload_n 0, 1) := by decide +kernel
theorem dX12_seenBy_17 : decode cX12_seenBy 17 = .ok (.iload_n 1, 1) := by decide +kernel
theorem dX12_seenBy_18 : decode cX12_seenBy 18 = .ok (.iconst 2, 1) := by decide +kernel
theorem dX12_seenBy_19 : decode cX12_seenBy 19 = .ok (.invokevirtual 81, 3) := by decide +kernel
theorem dX12_seenBy_22 : decode cX12_seenBy 22 = .ok (.isub, 1) := by decide +kernel
theorem dX12_seenBy_23 : decode cX12_seenBy 23 = .ok (.iload_n 3, 1) := by decide +kernel
theorem dX12_seenBy_24 : decode cX12_seenBy 24 = .ok (.imul, 1) := by decide +kernel
theorem dX12_seenBy_25 : decode cX12_seenBy 25 = .ok (.iadd, 1) := by decide +kernel
theorem dX12_seenBy_26 : decode cX12_seenBy 26 = .ok (.i2l, 1) := by decide +kernel
theorem dX12_seenBy_27 : decode cX12_seenBy 27 = .ok (.lmul, 1) := by decide +kernel
theorem dX12_seenBy_28 : decode cX12_seenBy 28 = .ok (.lreturn, 1) := by decide +kernel
theorem dX12_yellowOf_0 : decode cX12_yellowOf 0 = .ok (.aload_n 0, 1) := by decide +kernel
theorem dX12_yellowOf_1 : decode cX12_yellowOf 1 = .ok (.getfield 9, 3) := by decide +kernel
theorem dX12_yellowOf_4 : decode cX12_yellowOf 4 = .ok (.bipush 70, 2) := by decide +kernel
theorem dX12_yellowOf_6 : decode cX12_yellowOf 6 = .ok (.iconst 3, 1) := by decide +kernel
theorem dX12_yellowOf_7 : decode cX12_yellowOf 7 = .ok (.iload_n 1, 1) := by decide +kernel
theorem dX12_yellowOf_8 : decode cX12_yellowOf 8 = .ok (.imul, 1) := by decide +kernel
theorem dX12_yellowOf_9 : decode cX12_yellowOf 9 = .ok (.iadd, 1) := by decide +kernel
theorem dX12_yellowOf_10 : decode cX12_yellowOf 10 = .ok (.iaload, 1) := by decide +kernel
theorem dX12_yellowOf_11 : decode cX12_yellowOf 11 = .ok (.iload_n 2, 1) := by decide +kernel
theorem dX12_yellowOf_12 : decode cX12_yellowOf 12 = .ok (.aload_n 0, 1) := by decide +kernel
theorem dX12_yellowOf_13 : decode cX12_yellowOf 13 = .ok (.getfield 9, 3) := by decide +kernel
theorem dX12_yellowOf_16 : decode cX12_yellowOf 16 = .ok (.bipush 70, 2) := by decide +kernel
theorem dX12_yellowOf_18 : decode cX12_yellowOf 18 = .ok (.iconst 3, 1) := by decide +kernel
theorem dX12_yellowOf_19 : decode cX12_yellowOf 19 = .ok (.iload_n 1, 1) := by decide +kernel
theorem dX12_yellowOf_20 : decode cX12_yellowOf 20 = .ok (.imul, 1) := by decide +kernel
theorem dX12_yellowOf_21 : decode cX12_yellowOf 21 = .ok (.iadd, 1) := by decide +kernel
theorem dX12_yellowOf_22 : decode cX12_yellowOf 22 = .ok (.iconst 2, 1) := by decide +kernel
theorem dX12_yellowOf_23 : decode cX12_yellowOf 23 = .ok (.iadd, 1) := by decide +kernel
theorem dX12_yellowOf_24 : decode cX12_yellowOf 24 = .ok (.iaload, 1) := by decide +kernel
theorem dX12_yellowOf_25 : decode cX12_yellowOf 25 = .ok (.imul, 1) := by decide +kernel
theorem dX12_yellowOf_26 : decode cX12_yellowOf 26 = .ok (.isub, 1) := by decide +kernel
theorem dX12_yellowOf_27 : decode cX12_yellowOf 27 = .ok (.istore_n 3, 1) := by decide +kernel
theorem dX12_yellowOf_28 : decode cX12_yellowOf 28 = .ok (.iload_n 3, 1) := by decide +kernel
theorem dX12_yellowOf_29 : decode cX12_yellowOf 29 = .ok (.iconst 1, 1) := by decide +kernel
theorem dX12_yellowOf_30 : decode cX12_yellowOf 30 = .ok (.if_icmp .ge 7, 3) := by decide +kernel
theorem dX12_yellowOf_33 : decode cX12_yellowOf 33 = .ok (.iconst 1, 1) := by decide +kernel
theorem dX12_yellowOf_34 : decode cX12_yellowOf 34 = .ok (.goto 4, 3) := by decide +kernel
theorem dX12_yellowOf_37 : decode cX12_yellowOf 37 = .ok (.iload_n 3, 1) := by decide +kernel
theorem dX12_yellowOf_38 : decode cX12_yellowOf 38 = .ok (.ireturn, 1) := by decide +kernel
theorem dX12_blueOf_0 : decode cX12_blueOf 0 = .ok (.aload_n 0, 1) := by decide +kernel
theorem dX12_blueOf_1 : decode cX12_blueOf 1 = .ok (.getfield 9, 3) := by decide +kernel
theorem dX12_blueOf_4 : decode cX12_blueOf 4 = .ok (.bipush 70, 2) := by decide +kernel
theorem dX12_blueOf_6 : decode cX12_blueOf 6 = .ok (.iconst 3, 1) := by decide +kernel
theorem dX12_blueOf_7 : decode cX12_blueOf 7 = .ok (.iload_n 1, 1) := by decide +kernel
theorem dX12_blueOf_8 : decode cX12_blueOf 8 = .ok (.imul, 1) := by decide +kernel
theorem dX12_blueOf_9 : decode cX12_blueOf 9 = .ok (.iadd, 1) := by decide +kernel
theorem dX12_blueOf_10 : decode cX12_blueOf 10 = .ok (.iconst 1, 1) := by decide +kernel
theorem dX12_blueOf_11 : decode cX12_blueOf 11 = .ok (.iadd, 1) := by decide +kernel
theorem dX12_blueOf_12 : decode cX12_blueOf 12 = .ok (.iaload, 1) := by decide +kernel
theorem dX12_blueOf_13 : decode cX12_blueOf 13 = .ok (.iload_n 2, 1) := by decide +kernel
theorem dX12_blueOf_14 : decode cX12_blueOf 14 = .ok (.aload_n 0, 1) := by decide +kernel
theorem dX12_blueOf_15 : decode cX12_blueOf 15 = .ok (.getfield 9, 3) := by decide +kernel
theorem dX12_blueOf_18 : decode cX12_blueOf 18 = .ok (.bipush 70, 2) := by decide +kernel
theorem dX12_blueOf_20 : decode cX12_blueOf 20 = .ok (.iconst 3, 1) := by decide +kernel
theorem dX12_blueOf_21 : decode cX12_blueOf 21 = .ok (.iload_n 1, 1) := by decide +kernel
theorem dX12_blueOf_22 : decode cX12_blueOf 22 = .ok (.imul, 1) := by decide +kernel
theorem dX12_blueOf_23 : decode cX12_blueOf 23 = .ok (.iadd, 1) := by decide +kernel
theorem dX12_blueOf_24 : decode cX12_blueOf 24 = .ok (.iconst 2, 1) := by decide +kernel
theorem dX12_blueOf_25 : decode cX12_blueOf 25 = .ok (.iadd, 1) := by decide +kernel
theorem dX12_blueOf_26 : decode cX12_blueOf 26 = .ok (.iaload, 1) := by decide +kernel
theorem dX12_blueOf_27 : decode cX12_blueOf 27 = .ok (.imul, 1) := by decide +kernel
theorem dX12_blueOf_28 : decode cX12_blueOf 28 = .ok (.iadd, 1) := by decide +kernel
theorem dX12_blueOf_29 : decode cX12_blueOf 29 = .ok (.ireturn, 1) := by decide +kernel
theorem dX12_seen_0 : decode cX12_seen 0 = .ok (.aload_n 0, 1) := by decide +kernel
theorem dX12_seen_1 : decode cX12_seen 1 = .ok (.iload_n 1, 1) := by decide +kernel
theorem dX12_seen_2 : decode cX12_seen 2 = .ok (.invokevirtual 61, 3) := by decide +kernel
theorem dX12_seen_5 : decode cX12_seen 5 = .ok (.ifCond .eq 37, 3) := by decide +kernel
theorem dX12_seen_8 : decode cX12_seen 8 = .ok (.iload_n 2, 1) := by decide +kernel
theorem dX12_seen_9 : decode cX12_seen 9 = .ok (.invokestatic 100, 3) := by decide +kernel
theorem dX12_seen_12 : decode cX12_seen 12 = .ok (.ifCond .eq 30, 3) := by decide +kernel
theorem dX12_seen_15 : decode cX12_seen 15 = .ok (.iload_n 3, 1) := by decide +kernel
theorem dX12_seen_16 : decode cX12_seen 16 = .ok (.invokestatic 107, 3) := by decide +kernel
theorem dX12_seen_19 : decode cX12_seen 19 = .ok (.ifCond .eq 23, 3) := by decide +kernel
theorem dX12_seen_22 : decode cX12_seen 22 = .ok (.aload_n 0, 1) := by decide +kernel
theorem dX12_seen_23 : decode cX12_seen 23 = .ok (.iload_n 1, 1) := by decide +kernel
theorem dX12_seen_24 : decode cX12_seen 24 = .ok (.aload_n 0, 1) := by decide +kernel
theorem dX12_seen_25 : decode cX12_seen 25 = .ok (.iload_n 2, 1) := by decide +kernel
theorem dX12_seen_26 : decode cX12_seen 26 = .ok (.iload_n 3, 1) := by decide +kernel
theorem dX12_seen_27 : decode cX12_seen 27 = .ok (.invokevirtual 110, 3) := by decide +kernel
theorem dX12_seen_30 : decode cX12_seen 30 = .ok (.aload_n 0, 1) := by decide +kernel
theorem dX12_seen_31 : decode cX12_seen 31 = .ok (.iload_n 2, 1) := by decide +kernel
theorem dX12_seen_32 : decode cX12_seen 32 = .ok (.iload_n 3, 1) := by decide +kernel
theorem dX12_seen_33 : decode cX12_seen 33 = .ok (.invokevirtual 113, 3) := by decide +kernel
theorem dX12_seen_36 : decode cX12_seen 36 = .ok (.invokevirtual 116, 3) := by decide +kernel
theorem dX12_seen_39 : decode cX12_seen 39 = .ok (.goto 6, 3) := by decide +kernel
theorem dX12_seen_42 : decode cX12_seen 42 = .ok (.ldc2_w 120, 3) := by decide +kernel
theorem dX12_seen_45 : decode cX12_seen 45 = .ok (.lreturn, 1) := by decide +kernel
theorem dX12_placeOf_0 : decode cX12_placeOf 0 = .ok (.iconst 0, 1) := by decide +kernel
theorem dX12_placeOf_1 : decode cX12_placeOf 1 = .ok (.istore 4, 2) := by decide +kernel
theorem dX12_placeOf_3 : decode cX12_placeOf 3 = .ok (.lconst 0, 1) := by decide +kernel
theorem dX12_placeOf_4 : decode cX12_placeOf 4 = .ok (.lstore 5, 2) := by decide +kernel
theorem dX12_placeOf_6 : decode cX12_placeOf 6 = .ok (.iconst 1, 1) := by decide +kernel
theorem dX12_placeOf_7 : decode cX12_placeOf 7 = .ok (.istore 7, 2) := by decide +kernel
theorem dX12_placeOf_9 : decode cX12_placeOf 9 = .ok (.iload 7, 2) := by decide +kernel
theorem dX12_placeOf_11 : decode cX12_placeOf 11 = .ok (.bipush 100, 2) := by decide +kernel
theorem dX12_placeOf_13 : decode cX12_placeOf 13 = .ok (.if_icmp .ge 77, 3) := by decide +kernel
theorem dX12_placeOf_16 : decode cX12_placeOf 16 = .ok (.lload_n 0, 1) := by decide +kernel
theorem dX12_placeOf_17 : decode cX12_placeOf 17 = .ok (.bipush 100, 2) := by decide +kernel
theorem dX12_placeOf_19 : decode cX12_placeOf 19 = .ok (.iload 7, 2) := by decide +kernel
theorem dX12_placeOf_21 : decode cX12_placeOf 21 = .ok (.isub, 1) := by decide +kernel
theorem dX12_placeOf_22 : decode cX12_placeOf 22 = .ok (.i2l, 1) := by decide +kernel
theorem dX12_placeOf_23 : decode cX12_placeOf 23 = .ok (.lmul, 1) := by decide +kernel
theorem dX12_placeOf_24 : decode cX12_placeOf 24 = .ok (.bipush 100, 2) := by decide +kernel
theorem dX12_placeOf_26 : decode cX12_placeOf 26 = .ok (.iload 7, 2) := by decide +kernel
theorem dX12_placeOf_28 : decode cX12_placeOf 28 = .ok (.isub, 1) := by decide +kernel
theorem dX12_placeOf_29 : decode cX12_placeOf 29 = .ok (.i2l, 1) := by decide +kernel
theorem dX12_placeOf_30 : decode cX12_placeOf 30 = .ok (.lmul, 1) := by decide +kernel
theorem dX12_placeOf_31 : decode cX12_placeOf 31 = .ok (.lload_n 2, 1) := by decide +kernel
theorem dX12_placeOf_32 : decode cX12_placeOf 32 = .ok (.iload 7, 2) := by decide +kernel
theorem dX12_placeOf_34 : decode cX12_placeOf 34 = .ok (.i2l, 1) := by decide +kernel
theorem dX12_placeOf_35 : decode cX12_placeOf 35 = .ok (.lmul, 1) := by decide +kernel
theorem dX12_placeOf_36 : decode cX12_placeOf 36 = .ok (.iload 7, 2) := by decide +kernel
theorem dX12_placeOf_38 : decode cX12_placeOf 38 = .ok (.i2l, 1) := by decide +kernel
theorem dX12_placeOf_39 : decode cX12_placeOf 39 = .ok (.lmul, 1) := by decide +kernel
theorem dX12_placeOf_40 : decode cX12_placeOf 40 = .ok (.lsub, 1) := by decide +kernel
theorem dX12_placeOf_41 : decode cX12_placeOf 41 = .ok (.lstore 8, 2) := by decide +kernel
theorem dX12_placeOf_43 : decode cX12_placeOf 43 = .ok (.lload 8, 2) := by decide +kernel
theorem dX12_placeOf_45 : decode cX12_placeOf 45 = .ok (.lconst 0, 1) := by decide +kernel
theorem dX12_placeOf_46 : decode cX12_placeOf 46 = .ok (.lcmp, 1) := by decide +kernel
theorem dX12_placeOf_47 : decode cX12_placeOf 47 = .ok (.ifCond .ge 9, 3) := by decide +kernel
theorem dX12_placeOf_50 : decode cX12_placeOf 50 = .ok (.lload 8, 2) := by decide +kernel
theorem dX12_placeOf_52 : decode cX12_placeOf 52 = .ok (.lneg, 1) := by decide +kernel
theorem dX12_placeOf_53 : decode cX12_placeOf 53 = .ok (.goto 5, 3) := by decide +kernel
theorem dX12_placeOf_56 : decode cX12_placeOf 56 = .ok (.lload 8, 2) := by decide +kernel
theorem dX12_placeOf_58 : decode cX12_placeOf 58 = .ok (.lstore 8, 2) := by decide +kernel
theorem dX12_placeOf_60 : decode cX12_placeOf 60 = .ok (.iload 4, 2) := by decide +kernel
theorem dX12_placeOf_62 : decode cX12_placeOf 62 = .ok (.ifCond .le 14, 3) := by decide +kernel
theorem dX12_placeOf_65 : decode cX12_placeOf 65 = .ok (.lload 8, 2) := by decide +kernel
theorem dX12_placeOf_67 : decode cX12_placeOf 67 = .ok (.lload 5, 2) := by decide +kernel
theorem dX12_placeOf_69 : decode cX12_placeOf 69 = .ok (.lcmp, 1) := by decide +kernel
theorem dX12_placeOf_70 : decode cX12_placeOf 70 = .ok (.ifCond .lt 6, 3) := by decide +kernel
theorem dX12_placeOf_73 : decode cX12_placeOf 73 = .ok (.goto 11, 3) := by decide +kernel
theorem dX12_placeOf_76 : decode cX12_placeOf 76 = .ok (.iload 7, 2) := by decide +kernel
theorem dX12_placeOf_78 : decode cX12_placeOf 78 = .ok (.istore 4, 2) := by decide +kernel
theorem dX12_placeOf_80 : decode cX12_placeOf 80 = .ok (.lload 8, 2) := by decide +kernel
theorem dX12_placeOf_82 : decode cX12_placeOf 82 = .ok (.lstore 5, 2) := by decide +kernel
theorem dX12_placeOf_84 : decode cX12_placeOf 84 = .ok (.iinc 7 1, 3) := by decide +kernel
theorem dX12_placeOf_87 : decode cX12_placeOf 87 = .ok (.goto (-78), 3) := by decide +kernel
theorem dX12_placeOf_90 : decode cX12_placeOf 90 = .ok (.iload 4, 2) := by decide +kernel
theorem dX12_placeOf_92 : decode cX12_placeOf 92 = .ok (.ireturn, 1) := by decide +kernel
theorem dX12_placeBy_0 : decode cX12_placeBy 0 = .ok (.aload_n 0, 1) := by decide +kernel
theorem dX12_placeBy_1 : decode cX12_placeBy 1 = .ok (.iload_n 1, 1) := by decide +kernel
theorem dX12_placeBy_2 : decode cX12_placeBy 2 = .ok (.iload_n 3, 1) := by decide +kernel
theorem dX12_placeBy_3 : decode cX12_placeBy 3 = .ok (.iload 4, 2) := by decide +kernel
theorem dX12_placeBy_5 : decode cX12_placeBy 5 = .ok (.invokevirtual 116, 3) := by decide +kernel
theorem dX12_placeBy_8 : decode cX12_placeBy 8 = .ok (.aload_n 0, 1) := by decide +kernel
theorem dX12_placeBy_9 : decode cX12_placeBy 9 = .ok (.iload_n 2, 1) := by decide +kernel
theorem dX12_placeBy_10 : decode cX12_placeBy 10 = .ok (.iload_n 3, 1) := by decide +kernel
theorem dX12_placeBy_11 : decode cX12_placeBy 11 = .ok (.iload 4, 2) := by decide +kernel
theorem dX12_placeBy_13 : decode cX12_placeBy 13 = .ok (.invokevirtual 116, 3) := by decide +kernel
theorem dX12_placeBy_16 : decode cX12_placeBy 16 = .ok (.invokestatic 122, 3) := by decide +kernel
theorem dX12_placeBy_19 : decode cX12_placeBy 19 = .ok (.ireturn, 1) := by decide +kernel
theorem dX12_alikeOf_0 : decode cX12_alikeOf 0 = .ok (.aload_n 0, 1) := by decide +kernel
theorem dX12_alikeOf_1 : decode cX12_alikeOf 1 = .ok (.iload_n 1, 1) := by decide +kernel
theorem dX12_alikeOf_2 : decode cX12_alikeOf 2 = .ok (.iload_n 2, 1) := by decide +kernel
theorem dX12_alikeOf_3 : decode cX12_alikeOf 3 = .ok (.aload_n 0, 1) := by decide +kernel
theorem dX12_alikeOf_4 : decode cX12_alikeOf 4 = .ok (.iload_n 3, 1) := by decide +kernel
theorem dX12_alikeOf_5 : decode cX12_alikeOf 5 = .ok (.iload 4, 2) := by decide +kernel
theorem dX12_alikeOf_7 : decode cX12_alikeOf 7 = .ok (.invokevirtual 110, 3) := by decide +kernel
theorem dX12_alikeOf_10 : decode cX12_alikeOf 10 = .ok (.aload_n 0, 1) := by decide +kernel
theorem dX12_alikeOf_11 : decode cX12_alikeOf 11 = .ok (.iload_n 3, 1) := by decide +kernel
theorem dX12_alikeOf_12 : decode cX12_alikeOf 12 = .ok (.iload 4, 2) := by decide +kernel
theorem dX12_alikeOf_14 : decode cX12_alikeOf 14 = .ok (.invokevirtual 113, 3) := by decide +kernel
theorem dX12_alikeOf_17 : decode cX12_alikeOf 17 = .ok (.invokevirtual 126, 3) := by decide +kernel
theorem dX12_alikeOf_20 : decode cX12_alikeOf 20 = .ok (.ireturn, 1) := by decide +kernel
theorem dX12_alike_0 : decode cX12_alike 0 = .ok (.aload_n 0, 1) := by decide +kernel
theorem dX12_alike_1 : decode cX12_alike 1 = .ok (.iload_n 1, 1) := by decide +kernel
theorem dX12_alike_2 : decode cX12_alike 2 = .ok (.iload_n 2, 1) := by decide +kernel
theorem dX12_alike_3 : decode cX12_alike 3 = .ok (.invokevirtual 130, 3) := by decide +kernel
theorem dX12_alike_6 : decode cX12_alike 6 = .ok (.ifCond .eq 30, 3) := by decide +kernel
theorem dX12_alike_9 : decode cX12_alike 9 = .ok (.iload_n 3, 1) := by decide +kernel
theorem dX12_alike_10 : decode cX12_alike 10 = .ok (.invokestatic 100, 3) := by decide +kernel
theorem dX12_alike_13 : decode cX12_alike 13 = .ok (.ifCond .eq 23, 3) := by decide +kernel
theorem dX12_alike_16 : decode cX12_alike 16 = .ok (.iload 4, 2) := by decide +kernel
theorem dX12_alike_18 : decode cX12_alike 18 = .ok (.invokestatic 107, 3) := by decide +kernel
theorem dX12_alike_21 : decode cX12_alike 21 = .ok (.ifCond .eq 15, 3) := by decide +kernel
theorem dX12_alike_24 : decode cX12_alike 24 = .ok (.aload_n 0, 1) := by decide +kernel
theorem dX12_alike_25 : decode cX12_alike 25 = .ok (.iload_n 1, 1) := by decide +kernel
theorem dX12_alike_26 : decode cX12_alike 26 = .ok (.iload_n 2, 1) := by decide +kernel
theorem dX12_alike_27 : decode cX12_alike 27 = .ok (.iload_n 3, 1) := by decide +kernel
theorem dX12_alike_28 : decode cX12_alike 28 = .ok (.iload 4, 2) := by decide +kernel
theorem dX12_alike_30 : decode cX12_alike 30 = .ok (.invokevirtual 134, 3) := by decide +kernel
theorem dX12_alike_33 : decode cX12_alike 33 = .ok (.goto 4, 3) := by decide +kernel
theorem dX12_alike_36 : decode cX12_alike 36 = .ok (.iconst (-1), 1) := by decide +kernel
theorem dX12_alike_37 : decode cX12_alike 37 = .ok (.ireturn, 1) := by decide +kernel
theorem dX12_tells_0 : decode cX12_tells 0 = .ok (.bipush 94, 2) := by decide +kernel
theorem dX12_tells_2 : decode cX12_tells 2 = .ok (.bipush 6, 2) := by decide +kernel
theorem dX12_tells_4 : decode cX12_tells 4 = .ok (.aload_n 0, 1) := by decide +kernel
theorem dX12_tells_5 : decode cX12_tells 5 = .ok (.getfield 9, 3) := by decide +kernel
theorem dX12_tells_8 : decode cX12_tells 8 = .ok (.iconst 2, 1) := by decide +kernel
theorem dX12_tells_9 : decode cX12_tells 9 = .ok (.iaload, 1) := by decide +kernel
theorem dX12_tells_10 : decode cX12_tells 10 = .ok (.imul, 1) := by decide +kernel
theorem dX12_tells_11 : decode cX12_tells 11 = .ok (.iadd, 1) := by decide +kernel
theorem dX12_tells_12 : decode cX12_tells 12 = .ok (.istore 6, 2) := by decide +kernel
theorem dX12_tells_14 : decode cX12_tells 14 = .ok (.aload_n 0, 1) := by decide +kernel
theorem dX12_tells_15 : decode cX12_tells 15 = .ok (.getfield 9, 3) := by decide +kernel
theorem dX12_tells_18 : decode cX12_tells 18 = .ok (.iload 6, 2) := by decide +kernel
theorem dX12_tells_20 : decode cX12_tells 20 = .ok (.iload_n 1, 1) := by decide +kernel
theorem dX12_tells_21 : decode cX12_tells 21 = .ok (.iastore, 1) := by decide +kernel
theorem dX12_tells_22 : decode cX12_tells 22 = .ok (.aload_n 0, 1) := by decide +kernel
theorem dX12_tells_23 : decode cX12_tells 23 = .ok (.getfield 9, 3) := by decide +kernel
theorem dX12_tells_26 : decode cX12_tells 26 = .ok (.iload 6, 2) := by decide +kernel
theorem dX12_tells_28 : decode cX12_tells 28 = .ok (.iconst 1, 1) := by decide +kernel
theorem dX12_tells_29 : decode cX12_tells 29 = .ok (.iadd, 1) := by decide +kernel
theorem dX12_tells_30 : decode cX12_tells 30 = .ok (.iload_n 2, 1) := by decide +kernel
theorem dX12_tells_31 : decode cX12_tells 31 = .ok (.iastore, 1) := by decide +kernel
theorem dX12_tells_32 : decode cX12_tells 32 = .ok (.aload_n 0, 1) := by decide +kernel
theorem dX12_tells_33 : decode cX12_tells 33 = .ok (.getfield 9, 3) := by decide +kernel
theorem dX12_tells_36 : decode cX12_tells 36 = .ok (.iload 6, 2) := by decide +kernel
theorem dX12_tells_38 : decode cX12_tells 38 = .ok (.iconst 2, 1) := by decide +kernel
theorem dX12_tells_39 : decode cX12_tells 39 = .ok (.iadd, 1) := by decide +kernel
theorem dX12_tells_40 : decode cX12_tells 40 = .ok (.iload_n 3, 1) := by decide +kernel
theorem dX12_tells_41 : decode cX12_tells 41 = .ok (.iastore, 1) := by decide +kernel
theorem dX12_tells_42 : decode cX12_tells 42 = .ok (.aload_n 0, 1) := by decide +kernel
theorem dX12_tells_43 : decode cX12_tells 43 = .ok (.getfield 9, 3) := by decide +kernel
theorem dX12_tells_46 : decode cX12_tells 46 = .ok (.iload 6, 2) := by decide +kernel
theorem dX12_tells_48 : decode cX12_tells 48 = .ok (.iconst 3, 1) := by decide +kernel
theorem dX12_tells_49 : decode cX12_tells 49 = .ok (.iadd, 1) := by decide +kernel
theorem dX12_tells_50 : decode cX12_tells 50 = .ok (.iload 4, 2) := by decide +kernel
theorem dX12_tells_52 : decode cX12_tells 52 = .ok (.iastore, 1) := by decide +kernel
theorem dX12_tells_53 : decode cX12_tells 53 = .ok (.aload_n 0, 1) := by decide +kernel
theorem dX12_tells_54 : decode cX12_tells 54 = .ok (.getfield 9, 3) := by decide +kernel
theorem dX12_tells_57 : decode cX12_tells 57 = .ok (.iload 6, 2) := by decide +kernel
theorem dX12_tells_59 : decode cX12_tells 59 = .ok (.iconst 4, 1) := by decide +kernel
theorem dX12_tells_60 : decode cX12_tells 60 = .ok (.iadd, 1) := by decide +kernel
theorem dX12_tells_61 : decode cX12_tells 61 = .ok (.iload 5, 2) := by decide +kernel
theorem dX12_tells_63 : decode cX12_tells 63 = .ok (.iastore, 1) := by decide +kernel
theorem dX12_tells_64 : decode cX12_tells 64 = .ok (.aload_n 0, 1) := by decide +kernel
theorem dX12_tells_65 : decode cX12_tells 65 = .ok (.getfield 9, 3) := by decide +kernel
theorem dX12_tells_68 : decode cX12_tells 68 = .ok (.iload 6, 2) := by decide +kernel
theorem dX12_tells_70 : decode cX12_tells 70 = .ok (.iconst 5, 1) := by decide +kernel
theorem dX12_tells_71 : decode cX12_tells 71 = .ok (.iadd, 1) := by decide +kernel
theorem dX12_tells_72 : decode cX12_tells 72 = .ok (.iconst 0, 1) := by decide +kernel
theorem dX12_tells_73 : decode cX12_tells 73 = .ok (.iastore, 1) := by decide +kernel
theorem dX12_tells_74 : decode cX12_tells 74 = .ok (.aload_n 0, 1) := by decide +kernel
theorem dX12_tells_75 : decode cX12_tells 75 = .ok (.getfield 9, 3) := by decide +kernel
theorem dX12_tells_78 : decode cX12_tells 78 = .ok (.iconst 2, 1) := by decide +kernel
theorem dX12_tells_79 : decode cX12_tells 79 = .ok (.dup2, 1) := by decide +kernel
theorem dX12_tells_80 : decode cX12_tells 80 = .ok (.iaload, 1) := by decide +kernel
theorem dX12_tells_81 : decode cX12_tells 81 = .ok (.iconst 1, 1) := by decide +kernel
theorem dX12_tells_82 : decode cX12_tells 82 = .ok (.iadd, 1) := by decide +kernel
theorem dX12_tells_83 : decode cX12_tells 83 = .ok (.iastore, 1) := by decide +kernel
theorem dX12_tells_84 : decode cX12_tells 84 = .ok (.return_, 1) := by decide +kernel
theorem dX12_match_0 : decode cX12_match 0 = .ok (.aload_n 0, 1) := by decide +kernel
theorem dX12_match_1 : decode cX12_match 1 = .ok (.iload_n 1, 1) := by decide +kernel
theorem dX12_match_2 : decode cX12_match 2 = .ok (.iload_n 2, 1) := by decide +kernel
theorem dX12_match_3 : decode cX12_match 3 = .ok (.invokevirtual 130, 3) := by decide +kernel
theorem dX12_match_6 : decode cX12_match 6 = .ok (.ifCond .eq 23, 3) := by decide +kernel
theorem dX12_match_9 : decode cX12_match 9 = .ok (.iload_n 3, 1) := by decide +kernel
theorem dX12_match_10 : decode cX12_match 10 = .ok (.invokestatic 100, 3) := by decide +kernel
theorem dX12_match_13 : decode cX12_match 13 = .ok (.ifCond .eq 16, 3) := by decide +kernel
theorem dX12_match_16 : decode cX12_match 16 = .ok (.iload 4, 2) := by decide +kernel
theorem dX12_match_18 : decode cX12_match 18 = .ok (.i2l, 1) := by decide +kernel
theorem dX12_match_19 : decode cX12_match 19 = .ok (.lconst 0, 1) := by decide +kernel
theorem dX12_match_20 : decode cX12_match 20 = .ok (.ldc2_w 79, 3) := by decide +kernel
theorem dX12_match_23 : decode cX12_match 23 = .ok (.invokestatic 57, 3) := by decide +kernel
theorem dX12_match_26 : decode cX12_match 26 = .ok (.ifCond .ne 5, 3) := by decide +kernel
theorem dX12_match_29 : decode cX12_match 29 = .ok (.iconst (-1), 1) := by decide +kernel
theorem dX12_match_30 : decode cX12_match 30 = .ok (.ireturn, 1) := by decide +kernel
theorem dX12_match_31 : decode cX12_match 31 = .ok (.aload_n 0, 1) := by decide +kernel
theorem dX12_match_32 : decode cX12_match 32 = .ok (.getfield 9, 3) := by decide +kernel
theorem dX12_match_35 : decode cX12_match 35 = .ok (.iconst 2, 1) := by decide +kernel
theorem dX12_match_36 : decode cX12_match 36 = .ok (.iaload, 1) := by decide +kernel
theorem dX12_match_37 : decode cX12_match 37 = .ok (.bipush 30, 2) := by decide +kernel
theorem dX12_match_39 : decode cX12_match 39 = .ok (.if_icmp .ne 6, 3) := by decide +kernel
theorem dX12_match_42 : decode cX12_match 42 = .ok (.bipush (-2), 2) := by decide +kernel
theorem dX12_match_44 : decode cX12_match 44 = .ok (.ireturn, 1) := by decide +kernel
theorem dX12_match_45 : decode cX12_match 45 = .ok (.aload_n 0, 1) := by decide +kernel
theorem dX12_match_46 : decode cX12_match 46 = .ok (.iload_n 1, 1) := by decide +kernel
theorem dX12_match_47 : decode cX12_match 47 = .ok (.iload_n 2, 1) := by decide +kernel
theorem dX12_match_48 : decode cX12_match 48 = .ok (.iload_n 3, 1) := by decide +kernel
theorem dX12_match_49 : decode cX12_match 49 = .ok (.aload_n 0, 1) := by decide +kernel
theorem dX12_match_50 : decode cX12_match 50 = .ok (.iload_n 1, 1) := by decide +kernel
theorem dX12_match_51 : decode cX12_match 51 = .ok (.iload_n 2, 1) := by decide +kernel
theorem dX12_match_52 : decode cX12_match 52 = .ok (.iload_n 3, 1) := by decide +kernel
theorem dX12_match_53 : decode cX12_match 53 = .ok (.iconst 0, 1) := by decide +kernel
theorem dX12_match_54 : decode cX12_match 54 = .ok (.invokevirtual 134, 3) := by decide +kernel
theorem dX12_match_57 : decode cX12_match 57 = .ok (.iload 4, 2) := by decide +kernel
theorem dX12_match_59 : decode cX12_match 59 = .ok (.invokevirtual 137, 3) := by decide +kernel
theorem dX12_match_62 : decode cX12_match 62 = .ok (.aload_n 0, 1) := by decide +kernel
theorem dX12_match_63 : decode cX12_match 63 = .ok (.getfield 9, 3) := by decide +kernel
theorem dX12_match_66 : decode cX12_match 66 = .ok (.iconst 2, 1) := by decide +kernel
theorem dX12_match_67 : decode cX12_match 67 = .ok (.iaload, 1) := by decide +kernel
theorem dX12_match_68 : decode cX12_match 68 = .ok (.iconst 1, 1) := by decide +kernel
theorem dX12_match_69 : decode cX12_match 69 = .ok (.isub, 1) := by decide +kernel
theorem dX12_match_70 : decode cX12_match 70 = .ok (.ireturn, 1) := by decide +kernel
theorem dX12_wrongRow_0 : decode cX12_wrongRow 0 = .ok (.iload_n 1, 1) := by decide +kernel
theorem dX12_wrongRow_1 : decode cX12_wrongRow 1 = .ok (.invokestatic 141, 3) := by decide +kernel
theorem dX12_wrongRow_4 : decode cX12_wrongRow 4 = .ok (.ifCond .ne 7, 3) := by decide +kernel
theorem dX12_wrongRow_7 : decode cX12_wrongRow 7 = .ok (.iconst (-1), 1) := by decide +kernel
theorem dX12_wrongRow_8 : decode cX12_wrongRow 8 = .ok (.goto 47, 3) := by decide +kernel
theorem dX12_wrongRow_11 : decode cX12_wrongRow 11 = .ok (.aload_n 0, 1) := by decide +kernel
theorem dX12_wrongRow_12 : decode cX12_wrongRow 12 = .ok (.getfield 23, 3) := by decide +kernel
theorem dX12_wrongRow_15 : decode cX12_wrongRow 15 = .ok (.iload_n 1, 1) := by decide +kernel
theorem dX12_wrongRow_16 : decode cX12_wrongRow 16 = .ok (.iaload, 1) := by decide +kernel
theorem dX12_wrongRow_17 : decode cX12_wrongRow 17 = .ok (.ifCond .ne 8, 3) := by decide +kernel
theorem dX12_wrongRow_20 : decode cX12_wrongRow 20 = .ok (.bipush (-11), 2) := by decide +kernel
theorem dX12_wrongRow_22 : decode cX12_wrongRow 22 = .ok (.goto 33, 3) := by decide +kernel
theorem dX12_wrongRow_25 : decode cX12_wrongRow 25 = .ok (.aload_n 0, 1) := by decide +kernel
theorem dX12_wrongRow_26 : decode cX12_wrongRow 26 = .ok (.getfield 23, 3) := by decide +kernel
theorem dX12_wrongRow_29 : decode cX12_wrongRow 29 = .ok (.iload_n 1, 1) := by decide +kernel
theorem dX12_wrongRow_30 : decode cX12_wrongRow 30 = .ok (.iaload, 1) := by decide +kernel
theorem dX12_wrongRow_31 : decode cX12_wrongRow 31 = .ok (.iconst 2, 1) := by decide +kernel
theorem dX12_wrongRow_32 : decode cX12_wrongRow 32 = .ok (.if_icmp .ne 17, 3) := by decide +kernel
theorem dX12_wrongRow_35 : decode cX12_wrongRow 35 = .ok (.iload_n 2, 1) := by decide +kernel
theorem dX12_wrongRow_36 : decode cX12_wrongRow 36 = .ok (.ifCond .lt 18, 3) := by decide +kernel
theorem dX12_wrongRow_39 : decode cX12_wrongRow 39 = .ok (.aload_n 0, 1) := by decide +kernel
theorem dX12_wrongRow_40 : decode cX12_wrongRow 40 = .ok (.getfield 26, 3) := by decide +kernel
theorem dX12_wrongRow_43 : decode cX12_wrongRow 43 = .ok (.iload_n 1, 1) := by decide +kernel
theorem dX12_wrongRow_44 : decode cX12_wrongRow 44 = .ok (.iaload, 1) := by decide +kernel
theorem dX12_wrongRow_45 : decode cX12_wrongRow 45 = .ok (.iload_n 2, 1) := by decide +kernel
theorem dX12_wrongRow_46 : decode cX12_wrongRow 46 = .ok (.if_icmp .eq 8, 3) := by decide +kernel
theorem dX12_wrongRow_49 : decode cX12_wrongRow 49 = .ok (.bipush (-12), 2) := by decide +kernel
theorem dX12_wrongRow_51 : decode cX12_wrongRow 51 = .ok (.goto 4, 3) := by decide +kernel
theorem dX12_wrongRow_54 : decode cX12_wrongRow 54 = .ok (.iconst 0, 1) := by decide +kernel
theorem dX12_wrongRow_55 : decode cX12_wrongRow 55 = .ok (.ireturn, 1) := by decide +kernel
theorem dX12_isTired_0 : decode cX12_isTired 0 = .ok (.aload_n 0, 1) := by decide +kernel
theorem dX12_isTired_1 : decode cX12_isTired 1 = .ok (.getfield 26, 3) := by decide +kernel
theorem dX12_isTired_4 : decode cX12_isTired 4 = .ok (.iload_n 1, 1) := by decide +kernel
theorem dX12_isTired_5 : decode cX12_isTired 5 = .ok (.iaload, 1) := by decide +kernel
theorem dX12_isTired_6 : decode cX12_isTired 6 = .ok (.ifCond .ne 8, 3) := by decide +kernel
theorem dX12_isTired_9 : decode cX12_isTired 9 = .ok (.bipush (-128), 2) := by decide +kernel
theorem dX12_isTired_11 : decode cX12_isTired 11 = .ok (.goto 21, 3) := by decide +kernel
theorem dX12_isTired_14 : decode cX12_isTired 14 = .ok (.aload_n 0, 1) := by decide +kernel
theorem dX12_isTired_15 : decode cX12_isTired 15 = .ok (.getfield 26, 3) := by decide +kernel
theorem dX12_isTired_18 : decode cX12_isTired 18 = .ok (.iload_n 1, 1) := by decide +kernel
theorem dX12_isTired_19 : decode cX12_isTired 19 = .ok (.iaload, 1) := by decide +kernel
theorem dX12_isTired_20 : decode cX12_isTired 20 = .ok (.iconst 1, 1) := by decide +kernel
theorem dX12_isTired_21 : decode cX12_isTired 21 = .ok (.if_icmp .ne 9, 3) := by decide +kernel
theorem dX12_isTired_24 : decode cX12_isTired 24 = .ok (.sipush (-32768), 3) := by decide +kernel
theorem dX12_isTired_27 : decode cX12_isTired 27 = .ok (.goto 5, 3) := by decide +kernel
theorem dX12_isTired_30 : decode cX12_isTired 30 = .ok (.ldc 144, 2) := by decide +kernel
theorem dX12_isTired_32 : decode cX12_isTired 32 = .ok (.istore_n 3, 1) := by decide +kernel
theorem dX12_isTired_33 : decode cX12_isTired 33 = .ok (.iconst 0, 1) := by decide +kernel
theorem dX12_isTired_34 : decode cX12_isTired 34 = .ok (.istore 4, 2) := by decide +kernel
theorem dX12_isTired_36 : decode cX12_isTired 36 = .ok (.iload 4, 2) := by decide +kernel
theorem dX12_isTired_38 : decode cX12_isTired 38 = .ok (.iconst 5, 1) := by decide +kernel
theorem dX12_isTired_39 : decode cX12_isTired 39 = .ok (.if_icmp .ge 24, 3) := by decide +kernel
theorem dX12_isTired_42 : decode cX12_isTired 42 = .ok (.aload_n 0, 1) := by decide +kernel
theorem dX12_isTired_43 : decode cX12_isTired 43 = .ok (.getfield 32, 3) := by decide +kernel
theorem dX12_isTired_46 : decode cX12_isTired 46 = .ok (.iload_n 2, 1) := by decide +kernel
theorem dX12_isTired_47 : decode cX12_isTired 47 = .ok (.iload 4, 2) := by decide +kernel
theorem dX12_isTired_49 : decode cX12_isTired 49 = .ok (.iadd, 1) := by decide +kernel
theorem dX12_isTired_50 : decode cX12_isTired 50 = .ok (.iaload, 1) := by decide +kernel
theorem dX12_isTired_51 : decode cX12_isTired 51 = .ok (.iload_n 3, 1) := by decide +kernel
theorem dX12_isTired_52 : decode cX12_isTired 52 = .ok (.if_icmp .ne 5, 3) := by decide +kernel
theorem dX12_isTired_55 : decode cX12_isTired 55 = .ok (.iconst 1, 1) := by decide +kernel
theorem dX12_isTired_56 : decode cX12_isTired 56 = .ok (.ireturn, 1) := by decide +kernel
theorem dX12_isTired_57 : decode cX12_isTired 57 = .ok (.iinc 4 1, 3) := by decide +kernel
theorem dX12_isTired_60 : decode cX12_isTired 60 = .ok (.goto (-24), 3) := by decide +kernel
theorem dX12_isTired_63 : decode cX12_isTired 63 = .ok (.iconst 0, 1) := by decide +kernel
theorem dX12_isTired_64 : decode cX12_isTired 64 = .ok (.ireturn, 1) := by decide +kernel
theorem dX12_hear_0 : decode cX12_hear 0 = .ok (.aload_n 0, 1) := by decide +kernel
theorem dX12_hear_1 : decode cX12_hear 1 = .ok (.iload_n 1, 1) := by decide +kernel
theorem dX12_hear_2 : decode cX12_hear 2 = .ok (.iconst (-1), 1) := by decide +kernel
theorem dX12_hear_3 : decode cX12_hear 3 = .ok (.invokevirtual 145, 3) := by decide +kernel
theorem dX12_hear_6 : decode cX12_hear 6 = .ok (.istore_n 2, 1) := by decide +kernel
theorem dX12_hear_7 : decode cX12_hear 7 = .ok (.iload_n 2, 1) := by decide +kernel
theorem dX12_hear_8 : decode cX12_hear 8 = .ok (.ifCond .eq 5, 3) := by decide +kernel
theorem dX12_hear_11 : decode cX12_hear 11 = .ok (.iload_n 2, 1) := by decide +kernel
theorem dX12_hear_12 : decode cX12_hear 12 = .ok (.ireturn, 1) := by decide +kernel
theorem dX12_hear_13 : decode cX12_hear 13 = .ok (.iconst 0, 1) := by decide +kernel
theorem dX12_hear_14 : decode cX12_hear 14 = .ok (.istore_n 3, 1) := by decide +kernel
theorem dX12_hear_15 : decode cX12_hear 15 = .ok (.iconst 0, 1) := by decide +kernel
theorem dX12_hear_16 : decode cX12_hear 16 = .ok (.istore 4, 2) := by decide +kernel
theorem dX12_hear_18 : decode cX12_hear 18 = .ok (.iload 4, 2) := by decide +kernel
theorem dX12_hear_20 : decode cX12_hear 20 = .ok (.iconst 5, 1) := by decide +kernel
theorem dX12_hear_21 : decode cX12_hear 21 = .ok (.iadd, 1) := by decide +kernel
theorem dX12_hear_22 : decode cX12_hear 22 = .ok (.aload_n 0, 1) := by decide +kernel
theorem dX12_hear_23 : decode cX12_hear 23 = .ok (.getfield 29, 3) := by decide +kernel
theorem dX12_hear_26 : decode cX12_hear 26 = .ok (.iload_n 1, 1) := by decide +kernel
theorem dX12_hear_27 : decode cX12_hear 27 = .ok (.iaload, 1) := by decide +kernel
theorem dX12_hear_28 : decode cX12_hear 28 = .ok (.if_icmp .gt 172, 3) := by decide +kernel
theorem dX12_hear_31 : decode cX12_hear 31 = .ok (.bipush 100, 2) := by decide +kernel
theorem dX12_hear_33 : decode cX12_hear 33 = .ok (.iload_n 1, 1) := by decide +kernel
theorem dX12_hear_34 : decode cX12_hear 34 = .ok (.imul, 1) := by decide +kernel
theorem dX12_hear_35 : decode cX12_hear 35 = .ok (.iload 4, 2) := by decide +kernel
theorem dX12_hear_37 : decode cX12_hear 37 = .ok (.iadd, 1) := by decide +kernel
theorem dX12_hear_38 : decode cX12_hear 38 = .ok (.istore 5, 2) := by decide +kernel
theorem dX12_hear_40 : decode cX12_hear 40 = .ok (.aload_n 0, 1) := by decide +kernel
theorem dX12_hear_41 : decode cX12_hear 41 = .ok (.iload_n 1, 1) := by decide +kernel
theorem dX12_hear_42 : decode cX12_hear 42 = .ok (.iload 5, 2) := by decide +kernel
theorem dX12_hear_44 : decode cX12_hear 44 = .ok (.invokevirtual 148, 3) := by decide +kernel
theorem dX12_hear_47 : decode cX12_hear 47 = .ok (.ifCond .eq 6, 3) := by decide +kernel
theorem dX12_hear_50 : decode cX12_hear 50 = .ok (.goto 144, 3) := by decide +kernel
theorem dX12_hear_53 : decode cX12_hear 53 = .ok (.aload_n 0, 1) := by decide +kernel
theorem dX12_hear_54 : decode cX12_hear 54 = .ok (.aload_n 0, 1) := by decide +kernel
theorem dX12_hear_55 : decode cX12_hear 55 = .ok (.getfield 32, 3) := by decide +kernel
theorem dX12_hear_58 : decode cX12_hear 58 = .ok (.iload 5, 2) := by decide +kernel
theorem dX12_hear_60 : decode cX12_hear 60 = .ok (.iaload, 1) := by decide +kernel
theorem dX12_hear_61 : decode cX12_hear 61 = .ok (.aload_n 0, 1) := by decide +kernel
theorem dX12_hear_62 : decode cX12_hear 62 = .ok (.getfield 32, 3) := by decide +kernel
theorem dX12_hear_65 : decode cX12_hear 65 = .ok (.iload 5, 2) := by decide +kernel
theorem dX12_hear_67 : decode cX12_hear 67 = .ok (.iconst 1, 1) := by decide +kernel
theorem dX12_hear_68 : decode cX12_hear 68 = .ok (.iadd, 1) := by decide +kernel
theorem dX12_hear_69 : decode cX12_hear 69 = .ok (.iaload, 1) := by decide +kernel
theorem dX12_hear_70 : decode cX12_hear 70 = .ok (.invokevirtual 130, 3) := by decide +kernel
theorem dX12_hear_73 : decode cX12_hear 73 = .ok (.ifCond .eq 69, 3) := by decide +kernel
theorem dX12_hear_76 : decode cX12_hear 76 = .ok (.aload_n 0, 1) := by decide +kernel
theorem dX12_hear_77 : decode cX12_hear 77 = .ok (.getfield 32, 3) := by decide +kernel
theorem dX12_hear_80 : decode cX12_hear 80 = .ok (.iload 5, 2) := by decide +kernel
theorem dX12_hear_82 : decode cX12_hear 82 = .ok (.iconst 2, 1) := by decide +kernel
theorem dX12_hear_83 : decode cX12_hear 83 = .ok (.iadd, 1) := by decide +kernel
theorem dX12_hear_84 : decode cX12_hear 84 = .ok (.iaload, 1) := by decide +kernel
theorem dX12_hear_85 : decode cX12_hear 85 = .ok (.invokestatic 100, 3) := by decide +kernel
theorem dX12_hear_88 : decode cX12_hear 88 = .ok (.ifCond .eq 54, 3) := by decide +kernel
theorem dX12_hear_91 : decode cX12_hear 91 = .ok (.aload_n 0, 1) := by decide +kernel
theorem dX12_hear_92 : decode cX12_hear 92 = .ok (.getfield 32, 3) := by decide +kernel
theorem dX12_hear_95 : decode cX12_hear 95 = .ok (.iload 5, 2) := by decide +kernel
theorem dX12_hear_97 : decode cX12_hear 97 = .ok (.iconst 3, 1) := by decide +kernel
theorem dX12_hear_98 : decode cX12_hear 98 = .ok (.iadd, 1) := by decide +kernel
theorem dX12_hear_99 : decode cX12_hear 99 = .ok (.iaload, 1) := by decide +kernel
theorem dX12_hear_100 : decode cX12_hear 100 = .ok (.i2l, 1) := by decide +kernel
theorem dX12_hear_101 : decode cX12_hear 101 = .ok (.lconst 1, 1) := by decide +kernel
theorem dX12_hear_102 : decode cX12_hear 102 = .ok (.ldc2_w 151, 3) := by decide +kernel
theorem dX12_hear_105 : decode cX12_hear 105 = .ok (.invokestatic 57, 3) := by decide +kernel
theorem dX12_hear_108 : decode cX12_hear 108 = .ok (.ifCond .eq 34, 3) := by decide +kernel
theorem dX12_hear_111 : decode cX12_hear 111 = .ok (.aload_n 0, 1) := by decide +kernel
theorem dX12_hear_112 : decode cX12_hear 112 = .ok (.getfield 32, 3) := by decide +kernel
theorem dX12_hear_115 : decode cX12_hear 115 = .ok (.iload 5, 2) := by decide +kernel
theorem dX12_hear_117 : decode cX12_hear 117 = .ok (.iconst 4, 1) := by decide +kernel
theorem dX12_hear_118 : decode cX12_hear 118 = .ok (.iadd, 1) := by decide +kernel
theorem dX12_hear_119 : decode cX12_hear 119 = .ok (.iaload, 1) := by decide +kernel
theorem dX12_hear_120 : decode cX12_hear 120 = .ok (.i2l, 1) := by decide +kernel
theorem dX12_hear_121 : decode cX12_hear 121 = .ok (.lconst 0, 1) := by decide +kernel
theorem dX12_hear_122 : decode cX12_hear 122 = .ok (.ldc2_w 79, 3) := by decide +kernel
theorem dX12_hear_125 : decode cX12_hear 125 = .ok (.invokestatic 57, 3) := by decide +kernel
theorem dX12_hear_128 : decode cX12_hear 128 = .ok (.ifCond .eq 14, 3) := by decide +kernel
theorem dX12_hear_131 : decode cX12_hear 131 = .ok (.aload_n 0, 1) := by decide +kernel
theorem dX12_hear_132 : decode cX12_hear 132 = .ok (.getfield 9, 3) := by decide +kernel
theorem dX12_hear_135 : decode cX12_hear 135 = .ok (.iconst 2, 1) := by decide +kernel
theorem dX12_hear_136 : decode cX12_hear 136 = .ok (.iaload, 1) := by decide +kernel
theorem dX12_hear_137 : decode cX12_hear 137 = .ok (.bipush 30, 2) := by decide +kernel
theorem dX12_hear_139 : decode cX12_hear 139 = .ok (.if_icmp .ne 5, 3) := by decide +kernel
theorem dX12_hear_142 : decode cX12_hear 142 = .ok (.iload_n 3, 1) := by decide +kernel
theorem dX12_hear_143 : decode cX12_hear 143 = .ok (.ireturn, 1) := by decide +kernel
theorem dX12_hear_144 : decode cX12_hear 144 = .ok (.aload_n 0, 1) := by decide +kernel
theorem dX12_hear_145 : decode cX12_hear 145 = .ok (.aload_n 0, 1) := by decide +kernel
theorem dX12_hear_146 : decode cX12_hear 146 = .ok (.getfield 32, 3) := by decide +kernel
theorem dX12_hear_149 : decode cX12_hear 149 = .ok (.iload 5, 2) := by decide +kernel
theorem dX12_hear_151 : decode cX12_hear 151 = .ok (.iaload, 1) := by decide +kernel
theorem dX12_hear_152 : decode cX12_hear 152 = .ok (.aload_n 0, 1) := by decide +kernel
theorem dX12_hear_153 : decode cX12_hear 153 = .ok (.getfield 32, 3) := by decide +kernel
theorem dX12_hear_156 : decode cX12_hear 156 = .ok (.iload 5, 2) := by decide +kernel
theorem dX12_hear_158 : decode cX12_hear 158 = .ok (.iconst 1, 1) := by decide +kernel
theorem dX12_hear_159 : decode cX12_hear 159 = .ok (.iadd, 1) := by decide +kernel
theorem dX12_hear_160 : decode cX12_hear 160 = .ok (.iaload, 1) := by decide +kernel
theorem dX12_hear_161 : decode cX12_hear 161 = .ok (.aload_n 0, 1) := by decide +kernel
theorem dX12_hear_162 : decode cX12_hear 162 = .ok (.getfield 32, 3) := by decide +kernel
theorem dX12_hear_165 : decode cX12_hear 165 = .ok (.iload 5, 2) := by decide +kernel
theorem dX12_hear_167 : decode cX12_hear 167 = .ok (.iconst 2, 1) := by decide +kernel
theorem dX12_hear_168 : decode cX12_hear 168 = .ok (.iadd, 1) := by decide +kernel
theorem dX12_hear_169 : decode cX12_hear 169 = .ok (.iaload, 1) := by decide +kernel
theorem dX12_hear_170 : decode cX12_hear 170 = .ok (.aload_n 0, 1) := by decide +kernel
theorem dX12_hear_171 : decode cX12_hear 171 = .ok (.getfield 32, 3) := by decide +kernel
theorem dX12_hear_174 : decode cX12_hear 174 = .ok (.iload 5, 2) := by decide +kernel
theorem dX12_hear_176 : decode cX12_hear 176 = .ok (.iconst 3, 1) := by decide +kernel
theorem dX12_hear_177 : decode cX12_hear 177 = .ok (.iadd, 1) := by decide +kernel
theorem dX12_hear_178 : decode cX12_hear 178 = .ok (.iaload, 1) := by decide +kernel
theorem dX12_hear_179 : decode cX12_hear 179 = .ok (.aload_n 0, 1) := by decide +kernel
theorem dX12_hear_180 : decode cX12_hear 180 = .ok (.getfield 32, 3) := by decide +kernel
theorem dX12_hear_183 : decode cX12_hear 183 = .ok (.iload 5, 2) := by decide +kernel
theorem dX12_hear_185 : decode cX12_hear 185 = .ok (.iconst 4, 1) := by decide +kernel
theorem dX12_hear_186 : decode cX12_hear 186 = .ok (.iadd, 1) := by decide +kernel
theorem dX12_hear_187 : decode cX12_hear 187 = .ok (.iaload, 1) := by decide +kernel
theorem dX12_hear_188 : decode cX12_hear 188 = .ok (.invokevirtual 137, 3) := by decide +kernel
theorem dX12_hear_191 : decode cX12_hear 191 = .ok (.iinc 3 1, 3) := by decide +kernel
theorem dX12_hear_194 : decode cX12_hear 194 = .ok (.iinc 4 5, 3) := by decide +kernel
theorem dX12_hear_197 : decode cX12_hear 197 = .ok (.goto (-179), 3) := by decide +kernel
theorem dX12_hear_200 : decode cX12_hear 200 = .ok (.iload_n 3, 1) := by decide +kernel
theorem dX12_hear_201 : decode cX12_hear 201 = .ok (.ireturn, 1) := by decide +kernel
theorem dX12_isMatch_0 : decode cX12_isMatch 0 = .ok (.iload_n 1, 1) := by decide +kernel
theorem dX12_isMatch_1 : decode cX12_isMatch 1 = .ok (.i2l, 1) := by decide +kernel
theorem dX12_isMatch_2 : decode cX12_isMatch 2 = .ok (.lconst 0, 1) := by decide +kernel
theorem dX12_isMatch_3 : decode cX12_isMatch 3 = .ok (.aload_n 0, 1) := by decide +kernel
theorem dX12_isMatch_4 : decode cX12_isMatch 4 = .ok (.getfield 9, 3) := by decide +kernel
theorem dX12_isMatch_7 : decode cX12_isMatch 7 = .ok (.iconst 2, 1) := by decide +kernel
theorem dX12_isMatch_8 : decode cX12_isMatch 8 = .ok (.iaload, 1) := by decide +kernel
theorem dX12_isMatch_9 : decode cX12_isMatch 9 = .ok (.iconst 1, 1) := by decide +kernel
theorem dX12_isMatch_10 : decode cX12_isMatch 10 = .ok (.isub, 1) := by decide +kernel
theorem dX12_isMatch_11 : decode cX12_isMatch 11 = .ok (.i2l, 1) := by decide +kernel
theorem dX12_isMatch_12 : decode cX12_isMatch 12 = .ok (.invokestatic 57, 3) := by decide +kernel
theorem dX12_isMatch_15 : decode cX12_isMatch 15 = .ok (.ireturn, 1) := by decide +kernel
theorem dX12_say_0 : decode cX12_say 0 = .ok (.aload_n 0, 1) := by decide +kernel
theorem dX12_say_1 : decode cX12_say 1 = .ok (.getfield 9, 3) := by decide +kernel
theorem dX12_say_4 : decode cX12_say 4 = .ok (.bipush 94, 2) := by decide +kernel
theorem dX12_say_6 : decode cX12_say 6 = .ok (.bipush 6, 2) := by decide +kernel
theorem dX12_say_8 : decode cX12_say 8 = .ok (.iload_n 1, 1) := by decide +kernel
theorem dX12_say_9 : decode cX12_say 9 = .ok (.imul, 1) := by decide +kernel
theorem dX12_say_10 : decode cX12_say 10 = .ok (.iadd, 1) := by decide +kernel
theorem dX12_say_11 : decode cX12_say 11 = .ok (.iload_n 2, 1) := by decide +kernel
theorem dX12_say_12 : decode cX12_say 12 = .ok (.iadd, 1) := by decide +kernel
theorem dX12_say_13 : decode cX12_say 13 = .ok (.iaload, 1) := by decide +kernel
theorem dX12_say_14 : decode cX12_say 14 = .ok (.ireturn, 1) := by decide +kernel
theorem dX12_told_0 : decode cX12_told 0 = .ok (.aload_n 0, 1) := by decide +kernel
theorem dX12_told_1 : decode cX12_told 1 = .ok (.iload_n 1, 1) := by decide +kernel
theorem dX12_told_2 : decode cX12_told 2 = .ok (.invokevirtual 153, 3) := by decide +kernel
theorem dX12_told_5 : decode cX12_told 5 = .ok (.ifCond .eq 24, 3) := by decide +kernel
theorem dX12_told_8 : decode cX12_told 8 = .ok (.iload_n 2, 1) := by decide +kernel
theorem dX12_told_9 : decode cX12_told 9 = .ok (.i2l, 1) := by decide +kernel
theorem dX12_told_10 : decode cX12_told 10 = .ok (.lconst 0, 1) := by decide +kernel
theorem dX12_told_11 : decode cX12_told 11 = .ok (.ldc2_w 156, 3) := by decide +kernel
theorem dX12_told_14 : decode cX12_told 14 = .ok (.invokestatic 57, 3) := by decide +kernel
theorem dX12_told_17 : decode cX12_told 17 = .ok (.ifCond .eq 12, 3) := by decide +kernel
theorem dX12_told_20 : decode cX12_told 20 = .ok (.aload_n 0, 1) := by decide +kernel
theorem dX12_told_21 : decode cX12_told 21 = .ok (.iload_n 1, 1) := by decide +kernel
theorem dX12_told_22 : decode cX12_told 22 = .ok (.iload_n 2, 1) := by decide +kernel
theorem dX12_told_23 : decode cX12_told 23 = .ok (.invokevirtual 158, 3) := by decide +kernel
theorem dX12_told_26 : decode cX12_told 26 = .ok (.goto 4, 3) := by decide +kernel
theorem dX12_told_29 : decode cX12_told 29 = .ok (.iconst (-1), 1) := by decide +kernel
theorem dX12_told_30 : decode cX12_told 30 = .ok (.ireturn, 1) := by decide +kernel
theorem dX12_out_0 : decode cX12_out 0 = .ok (.aload_n 0, 1) := by decide +kernel
theorem dX12_out_1 : decode cX12_out 1 = .ok (.iload_n 1, 1) := by decide +kernel
theorem dX12_out_2 : decode cX12_out 2 = .ok (.invokevirtual 153, 3) := by decide +kernel
theorem dX12_out_5 : decode cX12_out 5 = .ok (.ifCond .ne 5, 3) := by decide +kernel
theorem dX12_out_8 : decode cX12_out 8 = .ok (.iconst (-1), 1) := by decide +kernel
theorem dX12_out_9 : decode cX12_out 9 = .ok (.ireturn, 1) := by decide +kernel
theorem dX12_out_10 : decode cX12_out 10 = .ok (.aload_n 0, 1) := by decide +kernel
theorem dX12_out_11 : decode cX12_out 11 = .ok (.bipush 94, 2) := by decide +kernel
theorem dX12_out_13 : decode cX12_out 13 = .ok (.bipush 6, 2) := by decide +kernel
theorem dX12_out_15 : decode cX12_out 15 = .ok (.iload_n 1, 1) := by decide +kernel
theorem dX12_out_16 : decode cX12_out 16 = .ok (.imul, 1) := by decide +kernel
theorem dX12_out_17 : decode cX12_out 17 = .ok (.iadd, 1) := by decide +kernel
theorem dX12_out_18 : decode cX12_out 18 = .ok (.iconst 5, 1) := by decide +kernel
theorem dX12_out_19 : decode cX12_out 19 = .ok (.iadd, 1) := by decide +kernel
theorem dX12_out_20 : decode cX12_out 20 = .ok (.iload_n 2, 1) := by decide +kernel
theorem dX12_out_21 : decode cX12_out 21 = .ok (.ifCond .eq 7, 3) := by decide +kernel
theorem dX12_out_24 : decode cX12_out 24 = .ok (.iconst 1, 1) := by decide +kernel
theorem dX12_out_25 : decode cX12_out 25 = .ok (.goto 4, 3) := by decide +kernel
theorem dX12_out_28 : decode cX12_out 28 = .ok (.iconst 0, 1) := by decide +kernel
theorem dX12_out_29 : decode cX12_out 29 = .ok (.invokevirtual 75, 3) := by decide +kernel
theorem dX12_out_32 : decode cX12_out 32 = .ok (.iload_n 2, 1) := by decide +kernel
theorem dX12_out_33 : decode cX12_out 33 = .ok (.ifCond .eq 7, 3) := by decide +kernel
theorem dX12_out_36 : decode cX12_out 36 = .ok (.iconst 1, 1) := by decide +kernel
theorem dX12_out_37 : decode cX12_out 37 = .ok (.goto 4, 3) := by decide +kernel
theorem dX12_out_40 : decode cX12_out 40 = .ok (.iconst 0, 1) := by decide +kernel
theorem dX12_out_41 : decode cX12_out 41 = .ok (.if_icmp .ne 7, 3) := by decide +kernel
theorem dX12_out_44 : decode cX12_out 44 = .ok (.iconst 0, 1) := by decide +kernel
theorem dX12_out_45 : decode cX12_out 45 = .ok (.goto 4, 3) := by decide +kernel
theorem dX12_out_48 : decode cX12_out 48 = .ok (.iconst 1, 1) := by decide +kernel
theorem dX12_out_49 : decode cX12_out 49 = .ok (.ireturn, 1) := by decide +kernel
theorem dX12_goesOn_0 : decode cX12_goesOn 0 = .ok (.iload_n 3, 1) := by decide +kernel
theorem dX12_goesOn_1 : decode cX12_goesOn 1 = .ok (.aload_n 0, 1) := by decide +kernel
theorem dX12_goesOn_2 : decode cX12_goesOn 2 = .ok (.getfield 161, 3) := by decide +kernel
theorem dX12_goesOn_5 : decode cX12_goesOn 5 = .ok (.if_icmp .ne 14, 3) := by decide +kernel
theorem dX12_goesOn_8 : decode cX12_goesOn 8 = .ok (.iload_n 1, 1) := by decide +kernel
theorem dX12_goesOn_9 : decode cX12_goesOn 9 = .ok (.iload_n 2, 1) := by decide +kernel
theorem dX12_goesOn_10 : decode cX12_goesOn 10 = .ok (.if_icmp .ne 7, 3) := by decide +kernel
theorem dX12_goesOn_13 : decode cX12_goesOn 13 = .ok (.iconst 1, 1) := by decide +kernel
theorem dX12_goesOn_14 : decode cX12_goesOn 14 = .ok (.goto 4, 3) := by decide +kernel
theorem dX12_goesOn_17 : decode cX12_goesOn 17 = .ok (.iconst 0, 1) := by decide +kernel
theorem dX12_goesOn_18 : decode cX12_goesOn 18 = .ok (.ireturn, 1) := by decide +kernel
theorem dX12_goesOn_19 : decode cX12_goesOn 19 = .ok (.iconst 0, 1) := by decide +kernel
theorem dX12_goesOn_20 : decode cX12_goesOn 20 = .ok (.istore 4, 2) := by decide +kernel
theorem dX12_goesOn_22 : decode cX12_goesOn 22 = .ok (.iload 4, 2) := by decide +kernel
theorem dX12_goesOn_24 : decode cX12_goesOn 24 = .ok (.aload_n 0, 1) := by decide +kernel
theorem dX12_goesOn_25 : decode cX12_goesOn 25 = .ok (.getfield 9, 3) := by decide +kernel
theorem dX12_goesOn_28 : decode cX12_goesOn 28 = .ok (.iconst 2, 1) := by decide +kernel
theorem dX12_goesOn_29 : decode cX12_goesOn 29 = .ok (.iaload, 1) := by decide +kernel
theorem dX12_goesOn_30 : decode cX12_goesOn 30 = .ok (.if_icmp .ge 94, 3) := by decide +kernel
theorem dX12_goesOn_33 : decode cX12_goesOn 33 = .ok (.aload_n 0, 1) := by decide +kernel
theorem dX12_goesOn_34 : decode cX12_goesOn 34 = .ok (.iload 4, 2) := by decide +kernel
theorem dX12_goesOn_36 : decode cX12_goesOn 36 = .ok (.iconst 5, 1) := by decide +kernel
theorem dX12_goesOn_37 : decode cX12_goesOn 37 = .ok (.invokevirtual 158, 3) := by decide +kernel
theorem dX12_goesOn_40 : decode cX12_goesOn 40 = .ok (.iconst 1, 1) := by decide +kernel
theorem dX12_goesOn_41 : decode cX12_goesOn 41 = .ok (.if_icmp .eq 77, 3) := by decide +kernel
theorem dX12_goesOn_44 : decode cX12_goesOn 44 = .ok (.aload_n 0, 1) := by decide +kernel
theorem dX12_goesOn_45 : decode cX12_goesOn 45 = .ok (.iload 4, 2) := by decide +kernel
theorem dX12_goesOn_47 : decode cX12_goesOn 47 = .ok (.iconst 0, 1) := by decide +kernel
theorem dX12_goesOn_48 : decode cX12_goesOn 48 = .ok (.invokevirtual 158, 3) := by decide +kernel
theorem dX12_goesOn_51 : decode cX12_goesOn 51 = .ok (.iload_n 1, 1) := by decide +kernel
theorem dX12_goesOn_52 : decode cX12_goesOn 52 = .ok (.if_icmp .eq 17, 3) := by decide +kernel
theorem dX12_goesOn_55 : decode cX12_goesOn 55 = .ok (.aload_n 0, 1) := by decide +kernel
theorem dX12_goesOn_56 : decode cX12_goesOn 56 = .ok (.iload 4, 2) := by decide +kernel
theorem dX12_goesOn_58 : decode cX12_goesOn 58 = .ok (.iconst 1, 1) := by decide +kernel
theorem dX12_goesOn_59 : decode cX12_goesOn 59 = .ok (.invokevirtual 158, 3) := by decide +kernel
theorem dX12_goesOn_62 : decode cX12_goesOn 62 = .ok (.iload_n 1, 1) := by decide +kernel
theorem dX12_goesOn_63 : decode cX12_goesOn 63 = .ok (.if_icmp .eq 6, 3) := by decide +kernel
theorem dX12_goesOn_66 : decode cX12_goesOn 66 = .ok (.goto 52, 3) := by decide +kernel
theorem dX12_goesOn_69 : decode cX12_goesOn 69 = .ok (.aload_n 0, 1) := by decide +kernel
theorem dX12_goesOn_70 : decode cX12_goesOn 70 = .ok (.getfield 41, 3) := by decide +kernel
theorem dX12_goesOn_73 : decode cX12_goesOn 73 = .ok (.iload_n 3, 1) := by decide +kernel
theorem dX12_goesOn_74 : decode cX12_goesOn 74 = .ok (.iload 4, 2) := by decide +kernel
theorem dX12_goesOn_76 : decode cX12_goesOn 76 = .ok (.iastore, 1) := by decide +kernel
theorem dX12_goesOn_77 : decode cX12_goesOn 77 = .ok (.aload_n 0, 1) := by decide +kernel
theorem dX12_goesOn_78 : decode cX12_goesOn 78 = .ok (.aload_n 0, 1) := by decide +kernel
theorem dX12_goesOn_79 : decode cX12_goesOn 79 = .ok (.iload 4, 2) := by decide +kernel
theorem dX12_goesOn_81 : decode cX12_goesOn 81 = .ok (.iconst 0, 1) := by decide +kernel
theorem dX12_goesOn_82 : decode cX12_goesOn 82 = .ok (.invokevirtual 158, 3) := by decide +kernel
theorem dX12_goesOn_85 : decode cX12_goesOn 85 = .ok (.iload_n 1, 1) := by decide +kernel
theorem dX12_goesOn_86 : decode cX12_goesOn 86 = .ok (.if_icmp .ne 13, 3) := by decide +kernel
theorem dX12_goesOn_89 : decode cX12_goesOn 89 = .ok (.aload_n 0, 1) := by decide +kernel
theorem dX12_goesOn_90 : decode cX12_goesOn 90 = .ok (.iload 4, 2) := by decide +kernel
theorem dX12_goesOn_92 : decode cX12_goesOn 92 = .ok (.iconst 1, 1) := by decide +kernel
theorem dX12_goesOn_93 : decode cX12_goesOn 93 = .ok (.invokevirtual 158, 3) := by decide +kernel
theorem dX12_goesOn_96 : decode cX12_goesOn 96 = .ok (.goto 10, 3) := by decide +kernel
theorem dX12_goesOn_99 : decode cX12_goesOn 99 = .ok (.aload_n 0, 1) := by decide +kernel
theorem dX12_goesOn_100 : decode cX12_goesOn 100 = .ok (.iload 4, 2) := by decide +kernel
theorem dX12_goesOn_102 : decode cX12_goesOn 102 = .ok (.iconst 0, 1) := by decide +kernel
theorem dX12_goesOn_103 : decode cX12_goesOn 103 = .ok (.invokevirtual 158, 3) := by decide +kernel
theorem dX12_goesOn_106 : decode cX12_goesOn 106 = .ok (.iload_n 2, 1) := by decide +kernel
theorem dX12_goesOn_107 : decode cX12_goesOn 107 = .ok (.iload_n 3, 1) := by decide +kernel
theorem dX12_goesOn_108 : decode cX12_goesOn 108 = .ok (.iconst 1, 1) := by decide +kernel
theorem dX12_goesOn_109 : decode cX12_goesOn 109 = .ok (.iadd, 1) := by decide +kernel
theorem dX12_goesOn_110 : decode cX12_goesOn 110 = .ok (.invokevirtual 164, 3) := by decide +kernel
theorem dX12_goesOn_113 : decode cX12_goesOn 113 = .ok (.ifCond .eq 5, 3) := by decide +kernel
theorem dX12_goesOn_116 : decode cX12_goesOn 116 = .ok (.iconst 1, 1) := by decide +kernel
theorem dX12_goesOn_117 : decode cX12_goesOn 117 = .ok (.ireturn, 1) := by decide +kernel
theorem dX12_goesOn_118 : decode cX12_goesOn 118 = .ok (.iinc 4 1, 3) := by decide +kernel
theorem dX12_goesOn_121 : decode cX12_goesOn 121 = .ok (.goto (-99), 3) := by decide +kernel
theorem dX12_goesOn_124 : decode cX12_goesOn 124 = .ok (.iconst 0, 1) := by decide +kernel
theorem dX12_goesOn_125 : decode cX12_goesOn 125 = .ok (.ireturn, 1) := by decide +kernel
theorem dX12_findChain_0 : decode cX12_findChain 0 = .ok (.aload_n 0, 1) := by decide +kernel
theorem dX12_findChain_1 : decode cX12_findChain 1 = .ok (.iconst 0, 1) := by decide +kernel
theorem dX12_findChain_2 : decode cX12_findChain 2 = .ok (.putfield 161, 3) := by decide +kernel
theorem dX12_findChain_5 : decode cX12_findChain 5 = .ok (.aload_n 0, 1) := by decide +kernel
theorem dX12_findChain_6 : decode cX12_findChain 6 = .ok (.getfield 161, 3) := by decide +kernel
theorem dX12_findChain_9 : decode cX12_findChain 9 = .ok (.iconst 5, 1) := by decide +kernel
theorem dX12_findChain_10 : decode cX12_findChain 10 = .ok (.if_icmp .ge 28, 3) := by decide +kernel
theorem dX12_findChain_13 : decode cX12_findChain 13 = .ok (.aload_n 0, 1) := by decide +kernel
theorem dX12_findChain_14 : decode cX12_findChain 14 = .ok (.iload_n 1, 1) := by decide +kernel
theorem dX12_findChain_15 : decode cX12_findChain 15 = .ok (.iload_n 2, 1) := by decide +kernel
theorem dX12_findChain_16 : decode cX12_findChain 16 = .ok (.iconst 0, 1) := by decide +kernel
theorem dX12_findChain_17 : decode cX12_findChain 17 = .ok (.invokevirtual 164, 3) := by decide +kernel
theorem dX12_findChain_20 : decode cX12_findChain 20 = .ok (.ifCond .eq 5, 3) := by decide +kernel
theorem dX12_findChain_23 : decode cX12_findChain 23 = .ok (.iconst 1, 1) := by decide +kernel
theorem dX12_findChain_24 : decode cX12_findChain 24 = .ok (.ireturn, 1) := by decide +kernel
theorem dX12_findChain_25 : decode cX12_findChain 25 = .ok (.aload_n 0, 1) := by decide +kernel
theorem dX12_findChain_26 : decode cX12_findChain 26 = .ok (.dup, 1) := by decide +kernel
theorem dX12_findChain_27 : decode cX12_findChain 27 = .ok (.getfield 161, 3) := by decide +kernel
theorem dX12_findChain_30 : decode cX12_findChain 30 = .ok (.iconst 1, 1) := by decide +kernel
theorem dX12_findChain_31 : decode cX12_findChain 31 = .ok (.iadd, 1) := by decide +kernel
theorem dX12_findChain_32 : decode cX12_findChain 32 = .ok (.putfield 161, 3) := by decide +kernel
theorem dX12_findChain_35 : decode cX12_findChain 35 = .ok (.goto (-30), 3) := by decide +kernel
theorem dX12_findChain_38 : decode cX12_findChain 38 = .ok (.iconst 0, 1) := by decide +kernel
theorem dX12_findChain_39 : decode cX12_findChain 39 = .ok (.ireturn, 1) := by decide +kernel
theorem dX12_chain_0 : decode cX12_chain 0 = .ok (.aload_n 0, 1) := by decide +kernel
theorem dX12_chain_1 : decode cX12_chain 1 = .ok (.iload_n 1, 1) := by decide +kernel
theorem dX12_chain_2 : decode cX12_chain 2 = .ok (.invokevirtual 61, 3) := by decide +kernel
theorem dX12_chain_5 : decode cX12_chain 5 = .ok (.ifCond .eq 16, 3) := by decide +kernel
theorem dX12_chain_8 : decode cX12_chain 8 = .ok (.aload_n 0, 1) := by decide +kernel
theorem dX12_chain_9 : decode cX12_chain 9 = .ok (.iload_n 2, 1) := by decide +kernel
theorem dX12_chain_10 : decode cX12_chain 10 = .ok (.invokevirtual 61, 3) := by decide +kernel
theorem dX12_chain_13 : decode cX12_chain 13 = .ok (.ifCond .eq 8, 3) := by decide +kernel
theorem dX12_chain_16 : decode cX12_chain 16 = .ok (.iload_n 3, 1) := by decide +kernel
theorem dX12_chain_17 : decode cX12_chain 17 = .ok (.iconst (-1), 1) := by decide +kernel
theorem dX12_chain_18 : decode cX12_chain 18 = .ok (.if_icmp .ge 5, 3) := by decide +kernel
theorem dX12_chain_21 : decode cX12_chain 21 = .ok (.iconst (-1), 1) := by decide +kernel
theorem dX12_chain_22 : decode cX12_chain 22 = .ok (.ireturn, 1) := by decide +kernel
theorem dX12_chain_23 : decode cX12_chain 23 = .ok (.aload_n 0, 1) := by decide +kernel
theorem dX12_chain_24 : decode cX12_chain 24 = .ok (.iload_n 1, 1) := by decide +kernel
theorem dX12_chain_25 : decode cX12_chain 25 = .ok (.iload_n 2, 1) := by decide +kernel
theorem dX12_chain_26 : decode cX12_chain 26 = .ok (.invokevirtual 168, 3) := by decide +kernel
theorem dX12_chain_29 : decode cX12_chain 29 = .ok (.ifCond .ne 6, 3) := by decide +kernel
theorem dX12_chain_32 : decode cX12_chain 32 = .ok (.bipush (-4), 2) := by decide +kernel
theorem dX12_chain_34 : decode cX12_chain 34 = .ok (.ireturn, 1) := by decide +kernel
theorem dX12_chain_35 : decode cX12_chain 35 = .ok (.iload_n 3, 1) := by decide +kernel
theorem dX12_chain_36 : decode cX12_chain 36 = .ok (.ifCond .ge 10, 3) := by decide +kernel
theorem dX12_chain_39 : decode cX12_chain 39 = .ok (.aload_n 0, 1) := by decide +kernel
theorem dX12_chain_40 : decode cX12_chain 40 = .ok (.getfield 161, 3) := by decide +kernel
theorem dX12_chain_43 : decode cX12_chain 43 = .ok (.goto 22, 3) := by decide +kernel
theorem dX12_chain_46 : decode cX12_chain 46 = .ok (.iload_n 3, 1) := by decide +kernel
theorem dX12_chain_47 : decode cX12_chain 47 = .ok (.aload_n 0, 1) := by decide +kernel
theorem dX12_chain_48 : decode cX12_chain 48 = .ok (.getfield 161, 3) := by decide +kernel
theorem dX12_chain_51 : decode cX12_chain 51 = .ok (.if_icmp .ge 12, 3) := by decide +kernel
theorem dX12_chain_54 : decode cX12_chain 54 = .ok (.aload_n 0, 1) := by decide +kernel
theorem dX12_chain_55 : decode cX12_chain 55 = .ok (.getfield 41, 3) := by decide +kernel
theorem dX12_chain_58 : decode cX12_chain 58 = .ok (.iload_n 3, 1) := by decide +kernel
theorem dX12_chain_59 : decode cX12_chain 59 = .ok (.iaload, 1) := by decide +kernel
theorem dX12_chain_60 : decode cX12_chain 60 = .ok (.goto 5, 3) := by decide +kernel
theorem dX12_chain_63 : decode cX12_chain 63 = .ok (.bipush (-4), 2) := by decide +kernel
theorem dX12_chain_65 : decode cX12_chain 65 = .ok (.ireturn, 1) := by decide +kernel
theorem dX12_common_0 : decode cX12_common 0 = .ok (.lload_n 0, 1) := by decide +kernel
theorem dX12_common_1 : decode cX12_common 1 = .ok (.lstore 4, 2) := by decide +kernel
theorem dX12_common_3 : decode cX12_common 3 = .ok (.lload_n 2, 1) := by decide +kernel
theorem dX12_common_4 : decode cX12_common 4 = .ok (.lstore 6, 2) := by decide +kernel
theorem dX12_common_6 : decode cX12_common 6 = .ok (.lload 6, 2) := by decide +kernel
theorem dX12_common_8 : decode cX12_common 8 = .ok (.lconst 0, 1) := by decide +kernel
theorem dX12_common_9 : decode cX12_common 9 = .ok (.lcmp, 1) := by decide +kernel
theorem dX12_common_10 : decode cX12_common 10 = .ok (.ifCond .eq 21, 3) := by decide +kernel
theorem dX12_common_13 : decode cX12_common 13 = .ok (.lload 4, 2) := by decide +kernel
theorem dX12_common_15 : decode cX12_common 15 = .ok (.lload 6, 2) := by decide +kernel
theorem dX12_common_17 : decode cX12_common 17 = .ok (.lrem, 1) := by decide +kernel
theorem dX12_common_18 : decode cX12_common 18 = .ok (.lstore 8, 2) := by decide +kernel
theorem dX12_common_20 : decode cX12_common 20 = .ok (.lload 6, 2) := by decide +kernel
theorem dX12_common_22 : decode cX12_common 22 = .ok (.lstore 4, 2) := by decide +kernel
theorem dX12_common_24 : decode cX12_common 24 = .ok (.lload 8, 2) := by decide +kernel
theorem dX12_common_26 : decode cX12_common 26 = .ok (.lstore 6, 2) := by decide +kernel
theorem dX12_common_28 : decode cX12_common 28 = .ok (.goto (-22), 3) := by decide +kernel
theorem dX12_common_31 : decode cX12_common 31 = .ok (.lload 4, 2) := by decide +kernel
theorem dX12_common_33 : decode cX12_common 33 = .ok (.lreturn, 1) := by decide +kernel
theorem dX12_span_0 : decode cX12_span 0 = .ok (.aload_n 0, 1) := by decide +kernel
theorem dX12_span_1 : decode cX12_span 1 = .ok (.iload_n 1, 1) := by decide +kernel
theorem dX12_span_2 : decode cX12_span 2 = .ok (.invokevirtual 61, 3) := by decide +kernel
theorem dX12_span_5 : decode cX12_span 5 = .ok (.ifCond .eq 34, 3) := by decide +kernel
theorem dX12_span_8 : decode cX12_span 8 = .ok (.aload_n 0, 1) := by decide +kernel
theorem dX12_span_9 : decode cX12_span 9 = .ok (.iload_n 2, 1) := by decide +kernel
theorem dX12_span_10 : decode cX12_span 10 = .ok (.invokevirtual 61, 3) := by decide +kernel
theorem dX12_span_13 : decode cX12_span 13 = .ok (.ifCond .eq 26, 3) := by decide +kernel
theorem dX12_span_16 : decode cX12_span 16 = .ok (.iload_n 3, 1) := by decide +kernel
theorem dX12_span_17 : decode cX12_span 17 = .ok (.i2l, 1) := by decide +kernel
theorem dX12_span_18 : decode cX12_span 18 = .ok (.lconst 0, 1) := by decide +kernel
theorem dX12_span_19 : decode cX12_span 19 = .ok (.ldc2_w 103, 3) := by decide +kernel
theorem dX12_span_22 : decode cX12_span 22 = .ok (.invokestatic 57, 3) := by decide +kernel
theorem dX12_span_25 : decode cX12_span 25 = .ok (.ifCond .eq 14, 3) := by decide +kernel
theorem dX12_span_28 : decode cX12_span 28 = .ok (.iload 4, 2) := by decide +kernel
theorem dX12_span_30 : decode cX12_span 30 = .ok (.i2l, 1) := by decide +kernel
theorem dX12_span_31 : decode cX12_span 31 = .ok (.lconst 0, 1) := by decide +kernel
theorem dX12_span_32 : decode cX12_span 32 = .ok (.lconst 1, 1) := by decide +kernel
theorem dX12_span_33 : decode cX12_span 33 = .ok (.invokestatic 57, 3) := by decide +kernel
theorem dX12_span_36 : decode cX12_span 36 = .ok (.ifCond .ne 7, 3) := by decide +kernel
theorem dX12_span_39 : decode cX12_span 39 = .ok (.ldc2_w 120, 3) := by decide +kernel
theorem dX12_span_42 : decode cX12_span 42 = .ok (.lreturn, 1) := by decide +kernel
theorem dX12_span_43 : decode cX12_span 43 = .ok (.aload_n 0, 1) := by decide +kernel
theorem dX12_span_44 : decode cX12_span 44 = .ok (.iload_n 1, 1) := by decide +kernel
theorem dX12_span_45 : decode cX12_span 45 = .ok (.iload_n 2, 1) := by decide +kernel
theorem dX12_span_46 : decode cX12_span 46 = .ok (.invokevirtual 168, 3) := by decide +kernel
theorem dX12_span_49 : decode cX12_span 49 = .ok (.ifCond .ne 7, 3) := by decide +kernel
theorem dX12_span_52 : decode cX12_span 52 = .ok (.ldc2_w 171, 3) := by decide +kernel
theorem dX12_span_55 : decode cX12_span 55 = .ok (.lreturn, 1) := by decide +kernel
theorem dX12_span_56 : decode cX12_span 56 = .ok (.lconst 1, 1) := by decide +kernel
theorem dX12_span_57 : decode cX12_span 57 = .ok (.lstore 5, 2) := by decide +kernel
theorem dX12_span_59 : decode cX12_span 59 = .ok (.lconst 1, 1) := by decide +kernel
theorem dX12_span_60 : decode cX12_span 60 = .ok (.lstore 7, 2) := by decide +kernel
theorem dX12_span_62 : decode cX12_span 62 = .ok (.iload_n 1, 1) := by decide +kernel
theorem dX12_span_63 : decode cX12_span 63 = .ok (.istore 9, 2) := by decide +kernel
theorem dX12_span_65 : decode cX12_span 65 = .ok (.iconst 0, 1) := by decide +kernel
theorem dX12_span_66 : decode cX12_span 66 = .ok (.istore 10, 2) := by decide +kernel
theorem dX12_span_68 : decode cX12_span 68 = .ok (.iload 10, 2) := by decide +kernel
theorem dX12_span_70 : decode cX12_span 70 = .ok (.aload_n 0, 1) := by decide +kernel
theorem dX12_span_71 : decode cX12_span 71 = .ok (.getfield 161, 3) := by decide +kernel
theorem dX12_span_74 : decode cX12_span 74 = .ok (.if_icmp .ge 165, 3) := by decide +kernel
theorem dX12_span_77 : decode cX12_span 77 = .ok (.aload_n 0, 1) := by decide +kernel
theorem dX12_span_78 : decode cX12_span 78 = .ok (.aload_n 0, 1) := by decide +kernel
theorem dX12_span_79 : decode cX12_span 79 = .ok (.getfield 41, 3) := by decide +kernel
theorem dX12_span_82 : decode cX12_span 82 = .ok (.iload 10, 2) := by decide +kernel
theorem dX12_span_84 : decode cX12_span 84 = .ok (.iaload, 1) := by decide +kernel
theorem dX12_span_85 : decode cX12_span 85 = .ok (.iconst 0, 1) := by decide +kernel
theorem dX12_span_86 : decode cX12_span 86 = .ok (.invokevirtual 158, 3) := by decide +kernel
theorem dX12_span_89 : decode cX12_span 89 = .ok (.iload 9, 2) := by decide +kernel
theorem dX12_span_91 : decode cX12_span 91 = .ok (.if_icmp .ne 7, 3) := by decide +kernel
theorem dX12_span_94 : decode cX12_span 94 = .ok (.iconst 1, 1) := by decide +kernel
theorem dX12_span_95 : decode cX12_span 95 = .ok (.goto 4, 3) := by decide +kernel
theorem dX12_span_98 : decode cX12_span 98 = .ok (.iconst 0, 1) := by decide +kernel
theorem dX12_span_99 : decode cX12_span 99 = .ok (.istore 11, 2) := by decide +kernel
theorem dX12_span_101 : decode cX12_span 101 = .ok (.iload_n 3, 1) := by decide +kernel
theorem dX12_span_102 : decode cX12_span 102 = .ok (.ifCond .ne 7, 3) := by decide +kernel
theorem dX12_span_105 : decode cX12_span 105 = .ok (.iconst 0, 1) := by decide +kernel
theorem dX12_span_106 : decode cX12_span 106 = .ok (.goto 23, 3) := by decide +kernel
theorem dX12_span_109 : decode cX12_span 109 = .ok (.iload_n 3, 1) := by decide +kernel
theorem dX12_span_110 : decode cX12_span 110 = .ok (.iconst 1, 1) := by decide +kernel
theorem dX12_span_111 : decode cX12_span 111 = .ok (.if_icmp .ne 7, 3) := by decide +kernel
theorem dX12_span_114 : decode cX12_span 114 = .ok (.iconst 1, 1) := by decide +kernel
theorem dX12_span_115 : decode cX12_span 115 = .ok (.goto 4, 3) := by decide +kernel
theorem dX12_span_118 : decode cX12_span 118 = .ok (.iconst 0, 1) := by decide +kernel
theorem dX12_span_119 : decode cX12_span 119 = .ok (.iload 11, 2) := by decide +kernel
theorem dX12_span_121 : decode cX12_span 121 = .ok (.if_icmp .ne 7, 3) := by decide +kernel
theorem dX12_span_124 : decode cX12_span 124 = .ok (.iconst (-1), 1) := by decide +kernel
theorem dX12_span_125 : decode cX12_span 125 = .ok (.goto 4, 3) := by decide +kernel
theorem dX12_span_128 : decode cX12_span 128 = .ok (.iconst 1, 1) := by decide +kernel
theorem dX12_span_129 : decode cX12_span 129 = .ok (.istore 12, 2) := by decide +kernel
theorem dX12_span_131 : decode cX12_span 131 = .ok (.aload_n 0, 1) := by decide +kernel
theorem dX12_span_132 : decode cX12_span 132 = .ok (.aload_n 0, 1) := by decide +kernel
theorem dX12_span_133 : decode cX12_span 133 = .ok (.getfield 41, 3) := by decide +kernel
theorem dX12_span_136 : decode cX12_span 136 = .ok (.iload 10, 2) := by decide +kernel
theorem dX12_span_138 : decode cX12_span 138 = .ok (.iaload, 1) := by decide +kernel
theorem dX12_span_139 : decode cX12_span 139 = .ok (.iconst 3, 1) := by decide +kernel
theorem dX12_span_140 : decode cX12_span 140 = .ok (.invokevirtual 158, 3) := by decide +kernel
theorem dX12_span_143 : decode cX12_span 143 = .ok (.iload 12, 2) := by decide +kernel
theorem dX12_span_145 : decode cX12_span 145 = .ok (.iadd, 1) := by decide +kernel
theorem dX12_span_146 : decode cX12_span 146 = .ok (.istore 13, 2) := by decide +kernel
theorem dX12_span_148 : decode cX12_span 148 = .ok (.lload 5, 2) := by decide +kernel
theorem dX12_span_150 : decode cX12_span 150 = .ok (.iload 11, 2) := by decide +kernel
theorem dX12_span_152 : decode cX12_span 152 = .ok (.ifCond .eq 12, 3) := by decide +kernel
theorem dX12_span_155 : decode cX12_span 155 = .ok (.iload 13, 2) := by decide +kernel
theorem dX12_span_157 : decode cX12_span 157 = .ok (.iload 13, 2) := by decide +kernel
theorem dX12_span_159 : decode cX12_span 159 = .ok (.imul, 1) := by decide +kernel
theorem dX12_span_160 : decode cX12_span 160 = .ok (.i2l, 1) := by decide +kernel
theorem dX12_span_161 : decode cX12_span 161 = .ok (.goto 15, 3) := by decide +kernel
theorem dX12_span_164 : decode cX12_span 164 = .ok (.bipush 100, 2) := by decide +kernel
theorem dX12_span_166 : decode cX12_span 166 = .ok (.iload 13, 2) := by decide +kernel
theorem dX12_span_168 : decode cX12_span 168 = .ok (.isub, 1) := by decide +kernel
theorem dX12_span_169 : decode cX12_span 169 = .ok (.bipush 100, 2) := by decide +kernel
theorem dX12_span_171 : decode cX12_span 171 = .ok (.iload 13, 2) := by decide +kernel
theorem dX12_span_173 : decode cX12_span 173 = .ok (.isub, 1) := by decide +kernel
theorem dX12_span_174 : decode cX12_span 174 = .ok (.imul, 1) := by decide +kernel
theorem dX12_span_175 : decode cX12_span 175 = .ok (.i2l, 1) := by decide +kernel
theorem dX12_span_176 : decode cX12_span 176 = .ok (.lmul, 1) := by decide +kernel
theorem dX12_span_177 : decode cX12_span 177 = .ok (.lstore 5, 2) := by decide +kernel
theorem dX12_span_179 : decode cX12_span 179 = .ok (.lload 7, 2) := by decide +kernel
theorem dX12_span_181 : decode cX12_span 181 = .ok (.iload 11, 2) := by decide +kernel
theorem dX12_span_183 : decode cX12_span 183 = .ok (.ifCond .eq 18, 3) := by decide +kernel
theorem dX12_span_186 : decode cX12_span 186 = .ok (.bipush 100, 2) := by decide +kernel
theorem dX12_span_188 : decode cX12_span 188 = .ok (.iload 13, 2) := by decide +kernel
theorem dX12_span_190 : decode cX12_span 190 = .ok (.isub, 1) := by decide +kernel
theorem dX12_span_191 : decode cX12_span 191 = .ok (.bipush 100, 2) := by decide +kernel
theorem dX12_span_193 : decode cX12_span 193 = .ok (.iload 13, 2) := by decide +kernel
theorem dX12_span_195 : decode cX12_span 195 = .ok (.isub, 1) := by decide +kernel
theorem dX12_span_196 : decode cX12_span 196 = .ok (.imul, 1) := by decide +kernel
theorem dX12_span_197 : decode cX12_span 197 = .ok (.i2l, 1) := by decide +kernel
theorem dX12_span_198 : decode cX12_span 198 = .ok (.goto 9, 3) := by decide +kernel
theorem dX12_span_201 : decode cX12_span 201 = .ok (.iload 13, 2) := by decide +kernel
theorem dX12_span_203 : decode cX12_span 203 = .ok (.iload 13, 2) := by decide +kernel
theorem dX12_span_205 : decode cX12_span 205 = .ok (.imul, 1) := by decide +kernel
theorem dX12_span_206 : decode cX12_span 206 = .ok (.i2l, 1) := by decide +kernel
theorem dX12_span_207 : decode cX12_span 207 = .ok (.lmul, 1) := by decide +kernel
theorem dX12_span_208 : decode cX12_span 208 = .ok (.lstore 7, 2) := by decide +kernel
theorem dX12_span_210 : decode cX12_span 210 = .ok (.aload_n 0, 1) := by decide +kernel
theorem dX12_span_211 : decode cX12_span 211 = .ok (.aload_n 0, 1) := by decide +kernel
theorem dX12_span_212 : decode cX12_span 212 = .ok (.getfield 41, 3) := by decide +kernel
theorem dX12_span_215 : decode cX12_span 215 = .ok (.iload 10, 2) := by decide +kernel
theorem dX12_span_217 : decode cX12_span 217 = .ok (.iaload, 1) := by decide +kernel
theorem dX12_span_218 : decode cX12_span 218 = .ok (.iload 11, 2) := by decide +kernel
theorem dX12_span_220 : decode cX12_span 220 = .ok (.ifCond .eq 7, 3) := by decide +kernel
theorem dX12_span_223 : decode cX12_span 223 = .ok (.iconst 1, 1) := by decide +kernel
theorem dX12_span_224 : decode cX12_span 224 = .ok (.goto 4, 3) := by decide +kernel
theorem dX12_span_227 : decode cX12_span 227 = .ok (.iconst 0, 1) := by decide +kernel
theorem dX12_span_228 : decode cX12_span 228 = .ok (.invokevirtual 158, 3) := by decide +kernel
theorem dX12_span_231 : decode cX12_span 231 = .ok (.istore 9, 2) := by decide +kernel
theorem dX12_span_233 : decode cX12_span 233 = .ok (.iinc 10 1, 3) := by decide +kernel
theorem dX12_span_236 : decode cX12_span 236 = .ok (.goto (-168), 3) := by decide +kernel
theorem dX12_span_239 : decode cX12_span 239 = .ok (.lload 5, 2) := by decide +kernel
theorem dX12_span_241 : decode cX12_span 241 = .ok (.lload 7, 2) := by decide +kernel
theorem dX12_span_243 : decode cX12_span 243 = .ok (.invokestatic 173, 3) := by decide +kernel
theorem dX12_span_246 : decode cX12_span 246 = .ok (.lstore 10, 2) := by decide +kernel
theorem dX12_span_248 : decode cX12_span 248 = .ok (.iload 4, 2) := by decide +kernel
theorem dX12_span_250 : decode cX12_span 250 = .ok (.ifCond .ne 11, 3) := by decide +kernel
theorem dX12_span_253 : decode cX12_span 253 = .ok (.lload 5, 2) := by decide +kernel
theorem dX12_span_255 : decode cX12_span 255 = .ok (.lload 10, 2) := by decide +kernel
theorem dX12_span_257 : decode cX12_span 257 = .ok (.ldiv, 1) := by decide +kernel
theorem dX12_span_258 : decode cX12_span 258 = .ok (.goto 8, 3) := by decide +kernel
theorem dX12_span_261 : decode cX12_span 261 = .ok (.lload 7, 2) := by decide +kernel
theorem dX12_span_263 : decode cX12_span 263 = .ok (.lload 10, 2) := by decide +kernel
theorem dX12_span_265 : decode cX12_span 265 = .ok (.ldiv, 1) := by decide +kernel
theorem dX12_span_266 : decode cX12_span 266 = .ok (.lreturn, 1) := by decide +kernel
theorem dX12_isLet_0 : decode cX12_isLet 0 = .ok (.iconst 0, 1) := by decide +kernel
theorem dX12_isLet_1 : decode cX12_isLet 1 = .ok (.istore 5, 2) := by decide +kernel
theorem dX12_isLet_3 : decode cX12_isLet 3 = .ok (.iload 5, 2) := by decide +kernel
theorem dX12_isLet_5 : decode cX12_isLet 5 = .ok (.aload_n 0, 1) := by decide +kernel
theorem dX12_isLet_6 : decode cX12_isLet 6 = .ok (.getfield 9, 3) := by decide +kernel
theorem dX12_isLet_9 : decode cX12_isLet 9 = .ok (.iconst 2, 1) := by decide +kernel
theorem dX12_isLet_10 : decode cX12_isLet 10 = .ok (.iaload, 1) := by decide +kernel
theorem dX12_isLet_11 : decode cX12_isLet 11 = .ok (.if_icmp .ge 80, 3) := by decide +kernel
theorem dX12_isLet_14 : decode cX12_isLet 14 = .ok (.aload_n 0, 1) := by decide +kernel
theorem dX12_isLet_15 : decode cX12_isLet 15 = .ok (.iload 5, 2) := by decide +kernel
theorem dX12_isLet_17 : decode cX12_isLet 17 = .ok (.iconst 5, 1) := by decide +kernel
theorem dX12_isLet_18 : decode cX12_isLet 18 = .ok (.invokevirtual 158, 3) := by decide +kernel
theorem dX12_isLet_21 : decode cX12_isLet 21 = .ok (.iconst 1, 1) := by decide +kernel
theorem dX12_isLet_22 : decode cX12_isLet 22 = .ok (.if_icmp .eq 63, 3) := by decide +kernel
theorem dX12_isLet_25 : decode cX12_isLet 25 = .ok (.aload_n 0, 1) := by decide +kernel
theorem dX12_isLet_26 : decode cX12_isLet 26 = .ok (.iload 5, 2) := by decide +kernel
theorem dX12_isLet_28 : decode cX12_isLet 28 = .ok (.iconst 2, 1) := by decide +kernel
theorem dX12_isLet_29 : decode cX12_isLet 29 = .ok (.invokevirtual 158, 3) := by decide +kernel
theorem dX12_isLet_32 : decode cX12_isLet 32 = .ok (.iload_n 1, 1) := by decide +kernel
theorem dX12_isLet_33 : decode cX12_isLet 33 = .ok (.if_icmp .eq 6, 3) := by decide +kernel
theorem dX12_isLet_36 : decode cX12_isLet 36 = .ok (.goto 49, 3) := by decide +kernel
theorem dX12_isLet_39 : decode cX12_isLet 39 = .ok (.aload_n 0, 1) := by decide +kernel
theorem dX12_isLet_40 : decode cX12_isLet 40 = .ok (.aload_n 0, 1) := by decide +kernel
theorem dX12_isLet_41 : decode cX12_isLet 41 = .ok (.iload 5, 2) := by decide +kernel
theorem dX12_isLet_43 : decode cX12_isLet 43 = .ok (.iconst 0, 1) := by decide +kernel
theorem dX12_isLet_44 : decode cX12_isLet 44 = .ok (.invokevirtual 158, 3) := by decide +kernel
theorem dX12_isLet_47 : decode cX12_isLet 47 = .ok (.aload_n 0, 1) := by decide +kernel
theorem dX12_isLet_48 : decode cX12_isLet 48 = .ok (.iload 5, 2) := by decide +kernel
theorem dX12_isLet_50 : decode cX12_isLet 50 = .ok (.iconst 1, 1) := by decide +kernel
theorem dX12_isLet_51 : decode cX12_isLet 51 = .ok (.invokevirtual 158, 3) := by decide +kernel
theorem dX12_isLet_54 : decode cX12_isLet 54 = .ok (.iload_n 3, 1) := by decide +kernel
theorem dX12_isLet_55 : decode cX12_isLet 55 = .ok (.iload 4, 2) := by decide +kernel
theorem dX12_isLet_57 : decode cX12_isLet 57 = .ok (.invokevirtual 126, 3) := by decide +kernel
theorem dX12_isLet_60 : decode cX12_isLet 60 = .ok (.aload_n 0, 1) := by decide +kernel
theorem dX12_isLet_61 : decode cX12_isLet 61 = .ok (.iload 5, 2) := by decide +kernel
theorem dX12_isLet_63 : decode cX12_isLet 63 = .ok (.iconst 3, 1) := by decide +kernel
theorem dX12_isLet_64 : decode cX12_isLet 64 = .ok (.invokevirtual 158, 3) := by decide +kernel
theorem dX12_isLet_67 : decode cX12_isLet 67 = .ok (.isub, 1) := by decide +kernel
theorem dX12_isLet_68 : decode cX12_isLet 68 = .ok (.istore 6, 2) := by decide +kernel
theorem dX12_isLet_70 : decode cX12_isLet 70 = .ok (.iload 6, 2) := by decide +kernel
theorem dX12_isLet_72 : decode cX12_isLet 72 = .ok (.iload_n 2, 1) := by decide +kernel
theorem dX12_isLet_73 : decode cX12_isLet 73 = .ok (.if_icmp .gt 10, 3) := by decide +kernel
theorem dX12_isLet_76 : decode cX12_isLet 76 = .ok (.iload 6, 2) := by decide +kernel
theorem dX12_isLet_78 : decode cX12_isLet 78 = .ok (.iload_n 2, 1) := by decide +kernel
theorem dX12_isLet_79 : decode cX12_isLet 79 = .ok (.ineg, 1) := by decide +kernel
theorem dX12_isLet_80 : decode cX12_isLet 80 = .ok (.if_icmp .ge 5, 3) := by decide +kernel
theorem dX12_isLet_83 : decode cX12_isLet 83 = .ok (.iconst 0, 1) := by decide +kernel
theorem dX12_isLet_84 : decode cX12_isLet 84 = .ok (.ireturn, 1) := by decide +kernel
theorem dX12_isLet_85 : decode cX12_isLet 85 = .ok (.iinc 5 1, 3) := by decide +kernel
theorem dX12_isLet_88 : decode cX12_isLet 88 = .ok (.goto (-85), 3) := by decide +kernel
theorem dX12_isLet_91 : decode cX12_isLet 91 = .ok (.iconst 1, 1) := by decide +kernel
theorem dX12_isLet_92 : decode cX12_isLet 92 = .ok (.ireturn, 1) := by decide +kernel
theorem dX12_findLaws_0 : decode cX12_findLaws 0 = .ok (.iconst 0, 1) := by decide +kernel
theorem dX12_findLaws_1 : decode cX12_findLaws 1 = .ok (.istore_n 3, 1) := by decide +kernel
theorem dX12_findLaws_2 : decode cX12_findLaws 2 = .ok (.bipush 10, 2) := by decide +kernel
theorem dX12_findLaws_4 : decode cX12_findLaws 4 = .ok (.istore 4, 2) := by decide +kernel
theorem dX12_findLaws_6 : decode cX12_findLaws 6 = .ok (.iload 4, 2) := by decide +kernel
theorem dX12_findLaws_8 : decode cX12_findLaws 8 = .ok (.sipush 200, 3) := by decide +kernel
theorem dX12_findLaws_11 : decode cX12_findLaws 11 = .ok (.if_icmp .gt 61, 3) := by decide +kernel
theorem dX12_findLaws_14 : decode cX12_findLaws 14 = .ok (.bipush 10, 2) := by decide +kernel
theorem dX12_findLaws_16 : decode cX12_findLaws 16 = .ok (.istore 5, 2) := by decide +kernel
theorem dX12_findLaws_18 : decode cX12_findLaws 18 = .ok (.iload 5, 2) := by decide +kernel
theorem dX12_findLaws_20 : decode cX12_findLaws 20 = .ok (.sipush 200, 3) := by decide +kernel
theorem dX12_findLaws_23 : decode cX12_findLaws 23 = .ok (.if_icmp .gt 43, 3) := by decide +kernel
theorem dX12_findLaws_26 : decode cX12_findLaws 26 = .ok (.aload_n 0, 1) := by decide +kernel
theorem dX12_findLaws_27 : decode cX12_findLaws 27 = .ok (.iload_n 1, 1) := by decide +kernel
theorem dX12_findLaws_28 : decode cX12_findLaws 28 = .ok (.iload_n 2, 1) := by decide +kernel
theorem dX12_findLaws_29 : decode cX12_findLaws 29 = .ok (.iload 4, 2) := by decide +kernel
theorem dX12_findLaws_31 : decode cX12_findLaws 31 = .ok (.iload 5, 2) := by decide +kernel
theorem dX12_findLaws_33 : decode cX12_findLaws 33 = .ok (.invokevirtual 177, 3) := by decide +kernel
theorem dX12_findLaws_36 : decode cX12_findLaws 36 = .ok (.ifCond .ne 6, 3) := by decide +kernel
theorem dX12_findLaws_39 : decode cX12_findLaws 39 = .ok (.goto 21, 3) := by decide +kernel
theorem dX12_findLaws_42 : decode cX12_findLaws 42 = .ok (.aload_n 0, 1) := by decide +kernel
theorem dX12_findLaws_43 : decode cX12_findLaws 43 = .ok (.getfield 44, 3) := by decide +kernel
theorem dX12_findLaws_46 : decode cX12_findLaws 46 = .ok (.iload_n 3, 1) := by decide +kernel
theorem dX12_findLaws_47 : decode cX12_findLaws 47 = .ok (.sipush 1000, 3) := by decide +kernel
theorem dX12_findLaws_50 : decode cX12_findLaws 50 = .ok (.iload 4, 2) := by decide +kernel
theorem dX12_findLaws_52 : decode cX12_findLaws 52 = .ok (.imul, 1) := by decide +kernel
theorem dX12_findLaws_53 : decode cX12_findLaws 53 = .ok (.iload 5, 2) := by decide +kernel
theorem dX12_findLaws_55 : decode cX12_findLaws 55 = .ok (.iadd, 1) := by decide +kernel
theorem dX12_findLaws_56 : decode cX12_findLaws 56 = .ok (.iastore, 1) := by decide +kernel
theorem dX12_findLaws_57 : decode cX12_findLaws 57 = .ok (.iinc 3 1, 3) := by decide +kernel
theorem dX12_findLaws_60 : decode cX12_findLaws 60 = .ok (.iinc 5 10, 3) := by decide +kernel
theorem dX12_findLaws_63 : decode cX12_findLaws 63 = .ok (.goto (-45), 3) := by decide +kernel
theorem dX12_findLaws_66 : decode cX12_findLaws 66 = .ok (.iinc 4 10, 3) := by decide +kernel
theorem dX12_findLaws_69 : decode cX12_findLaws 69 = .ok (.goto (-63), 3) := by decide +kernel
theorem dX12_findLaws_72 : decode cX12_findLaws 72 = .ok (.iload_n 3, 1) := by decide +kernel
theorem dX12_findLaws_73 : decode cX12_findLaws 73 = .ok (.ireturn, 1) := by decide +kernel
theorem dX12_laws_0 : decode cX12_laws 0 = .ok (.iload_n 1, 1) := by decide +kernel
theorem dX12_laws_1 : decode cX12_laws 1 = .ok (.invokestatic 100, 3) := by decide +kernel
theorem dX12_laws_4 : decode cX12_laws 4 = .ok (.ifCond .eq 20, 3) := by decide +kernel
theorem dX12_laws_7 : decode cX12_laws 7 = .ok (.iload_n 2, 1) := by decide +kernel
theorem dX12_laws_8 : decode cX12_laws 8 = .ok (.i2l, 1) := by decide +kernel
theorem dX12_laws_9 : decode cX12_laws 9 = .ok (.lconst 0, 1) := by decide +kernel
theorem dX12_laws_10 : decode cX12_laws 10 = .ok (.ldc2_w 85, 3) := by decide +kernel
theorem dX12_laws_13 : decode cX12_laws 13 = .ok (.invokestatic 57, 3) := by decide +kernel
theorem dX12_laws_16 : decode cX12_laws 16 = .ok (.ifCond .eq 8, 3) := by decide +kernel
theorem dX12_laws_19 : decode cX12_laws 19 = .ok (.iload_n 3, 1) := by decide +kernel
theorem dX12_laws_20 : decode cX12_laws 20 = .ok (.iconst (-1), 1) := by decide +kernel
theorem dX12_laws_21 : decode cX12_laws 21 = .ok (.if_icmp .ge 5, 3) := by decide +kernel
theorem dX12_laws_24 : decode cX12_laws 24 = .ok (.iconst (-1), 1) := by decide +kernel
theorem dX12_laws_25 : decode cX12_laws 25 = .ok (.ireturn, 1) := by decide +kernel
theorem dX12_laws_26 : decode cX12_laws 26 = .ok (.aload_n 0, 1) := by decide +kernel
theorem dX12_laws_27 : decode cX12_laws 27 = .ok (.iload_n 1, 1) := by decide +kernel
theorem dX12_laws_28 : decode cX12_laws 28 = .ok (.iload_n 2, 1) := by decide +kernel
theorem dX12_laws_29 : decode cX12_laws 29 = .ok (.invokevirtual 181, 3) := by decide +kernel
theorem dX12_laws_32 : decode cX12_laws 32 = .ok (.istore 4, 2) := by decide +kernel
theorem dX12_laws_34 : decode cX12_laws 34 = .ok (.iload_n 3, 1) := by decide +kernel
theorem dX12_laws_35 : decode cX12_laws 35 = .ok (.ifCond .ge 8, 3) := by decide +kernel
theorem dX12_laws_38 : decode cX12_laws 38 = .ok (.iload 4, 2) := by decide +kernel
theorem dX12_laws_40 : decode cX12_laws 40 = .ok (.goto 20, 3) := by decide +kernel
theorem dX12_laws_43 : decode cX12_laws 43 = .ok (.iload_n 3, 1) := by decide +kernel
theorem dX12_laws_44 : decode cX12_laws 44 = .ok (.iload 4, 2) := by decide +kernel
theorem dX12_laws_46 : decode cX12_laws 46 = .ok (.if_icmp .ge 12, 3) := by decide +kernel
theorem dX12_laws_49 : decode cX12_laws 49 = .ok (.aload_n 0, 1) := by decide +kernel
theorem dX12_laws_50 : decode cX12_laws 50 = .ok (.getfield 44, 3) := by decide +kernel
theorem dX12_laws_53 : decode cX12_laws 53 = .ok (.iload_n 3, 1) := by decide +kernel
theorem dX12_laws_54 : decode cX12_laws 54 = .ok (.iaload, 1) := by decide +kernel
theorem dX12_laws_55 : decode cX12_laws 55 = .ok (.goto 5, 3) := by decide +kernel
theorem dX12_laws_58 : decode cX12_laws 58 = .ok (.bipush (-4), 2) := by decide +kernel
theorem dX12_laws_60 : decode cX12_laws 60 = .ok (.ireturn, 1) := by decide +kernel
theorem dX12_partOf_0 : decode cX12_partOf 0 = .ok (.bipush 100, 2) := by decide +kernel
theorem dX12_partOf_2 : decode cX12_partOf 2 = .ok (.istore 4, 2) := by decide +kernel
theorem dX12_partOf_4 : decode cX12_partOf 4 = .ok (.iconst 0, 1) := by decide +kernel
theorem dX12_partOf_5 : decode cX12_partOf 5 = .ok (.istore 5, 2) := by decide +kernel
theorem dX12_partOf_7 : decode cX12_partOf 7 = .ok (.iconst 0, 1) := by decide +kernel
theorem dX12_partOf_8 : decode cX12_partOf 8 = .ok (.istore 6, 2) := by decide +kernel
theorem dX12_partOf_10 : decode cX12_partOf 10 = .ok (.iload 6, 2) := by decide +kernel
theorem dX12_partOf_12 : decode cX12_partOf 12 = .ok (.iload_n 3, 1) := by decide +kernel
theorem dX12_partOf_13 : decode cX12_partOf 13 = .ok (.if_icmp .ge 71, 3) := by decide +kernel
theorem dX12_partOf_16 : decode cX12_partOf 16 = .ok (.aload_n 0, 1) := by decide +kernel
theorem dX12_partOf_17 : decode cX12_partOf 17 = .ok (.iload_n 1, 1) := by decide +kernel
theorem dX12_partOf_18 : decode cX12_partOf 18 = .ok (.iload_n 2, 1) := by decide +kernel
theorem dX12_partOf_19 : decode cX12_partOf 19 = .ok (.aload_n 0, 1) := by decide +kernel
theorem dX12_partOf_20 : decode cX12_partOf 20 = .ok (.getfield 44, 3) := by decide +kernel
theorem dX12_partOf_23 : decode cX12_partOf 23 = .ok (.iload 6, 2) := by decide +kernel
theorem dX12_partOf_25 : decode cX12_partOf 25 = .ok (.iaload, 1) := by decide +kernel
theorem dX12_partOf_26 : decode cX12_partOf 26 = .ok (.sipush 1000, 3) := by decide +kernel
theorem dX12_partOf_29 : decode cX12_partOf 29 = .ok (.idiv, 1) := by decide +kernel
theorem dX12_partOf_30 : decode cX12_partOf 30 = .ok (.aload_n 0, 1) := by decide +kernel
theorem dX12_partOf_31 : decode cX12_partOf 31 = .ok (.getfield 44, 3) := by decide +kernel
theorem dX12_partOf_34 : decode cX12_partOf 34 = .ok (.iload 6, 2) := by decide +kernel
theorem dX12_partOf_36 : decode cX12_partOf 36 = .ok (.iaload, 1) := by decide +kernel
theorem dX12_partOf_37 : decode cX12_partOf 37 = .ok (.sipush 1000, 3) := by decide +kernel
theorem dX12_partOf_40 : decode cX12_partOf 40 = .ok (.irem, 1) := by decide +kernel
theorem dX12_partOf_41 : decode cX12_partOf 41 = .ok (.invokevirtual 126, 3) := by decide +kernel
theorem dX12_partOf_44 : decode cX12_partOf 44 = .ok (.istore 7, 2) := by decide +kernel
theorem dX12_partOf_46 : decode cX12_partOf 46 = .ok (.iload 7, 2) := by decide +kernel
theorem dX12_partOf_48 : decode cX12_partOf 48 = .ok (.iload 4, 2) := by decide +kernel
theorem dX12_partOf_50 : decode cX12_partOf 50 = .ok (.if_icmp .ge 8, 3) := by decide +kernel
theorem dX12_partOf_53 : decode cX12_partOf 53 = .ok (.iload 7, 2) := by decide +kernel
theorem dX12_partOf_55 : decode cX12_partOf 55 = .ok (.goto 5, 3) := by decide +kernel
theorem dX12_partOf_58 : decode cX12_partOf 58 = .ok (.iload 4, 2) := by decide +kernel
theorem dX12_partOf_60 : decode cX12_partOf 60 = .ok (.istore 4, 2) := by decide +kernel
theorem dX12_partOf_62 : decode cX12_partOf 62 = .ok (.iload 7, 2) := by decide +kernel
theorem dX12_partOf_64 : decode cX12_partOf 64 = .ok (.iload 5, 2) := by decide +kernel
theorem dX12_partOf_66 : decode cX12_partOf 66 = .ok (.if_icmp .le 8, 3) := by decide +kernel
theorem dX12_partOf_69 : decode cX12_partOf 69 = .ok (.iload 7, 2) := by decide +kernel
theorem dX12_partOf_71 : decode cX12_partOf 71 = .ok (.goto 5, 3) := by decide +kernel
theorem dX12_partOf_74 : decode cX12_partOf 74 = .ok (.iload 5, 2) := by decide +kernel
theorem dX12_partOf_76 : decode cX12_partOf 76 = .ok (.istore 5, 2) := by decide +kernel
theorem dX12_partOf_78 : decode cX12_partOf 78 = .ok (.iinc 6 1, 3) := by decide +kernel
theorem dX12_partOf_81 : decode cX12_partOf 81 = .ok (.goto (-71), 3) := by decide +kernel
theorem dX12_partOf_84 : decode cX12_partOf 84 = .ok (.iload 5, 2) := by decide +kernel
theorem dX12_partOf_86 : decode cX12_partOf 86 = .ok (.iload 4, 2) := by decide +kernel
theorem dX12_partOf_88 : decode cX12_partOf 88 = .ok (.isub, 1) := by decide +kernel
theorem dX12_partOf_89 : decode cX12_partOf 89 = .ok (.ireturn, 1) := by decide +kernel
theorem dX12_parts_0 : decode cX12_parts 0 = .ok (.iload_n 1, 1) := by decide +kernel
theorem dX12_parts_1 : decode cX12_parts 1 = .ok (.invokestatic 100, 3) := by decide +kernel
theorem dX12_parts_4 : decode cX12_parts 4 = .ok (.ifCond .eq 25, 3) := by decide +kernel
theorem dX12_parts_7 : decode cX12_parts 7 = .ok (.iload_n 2, 1) := by decide +kernel
theorem dX12_parts_8 : decode cX12_parts 8 = .ok (.i2l, 1) := by decide +kernel
theorem dX12_parts_9 : decode cX12_parts 9 = .ok (.lconst 0, 1) := by decide +kernel
theorem dX12_parts_10 : decode cX12_parts 10 = .ok (.ldc2_w 85, 3) := by decide +kernel
theorem dX12_parts_13 : decode cX12_parts 13 = .ok (.invokestatic 57, 3) := by decide +kernel
theorem dX12_parts_16 : decode cX12_parts 16 = .ok (.ifCond .eq 13, 3) := by decide +kernel
theorem dX12_parts_19 : decode cX12_parts 19 = .ok (.aload_n 0, 1) := by decide +kernel
theorem dX12_parts_20 : decode cX12_parts 20 = .ok (.iload_n 3, 1) := by decide +kernel
theorem dX12_parts_21 : decode cX12_parts 21 = .ok (.iload 4, 2) := by decide +kernel
theorem dX12_parts_23 : decode cX12_parts 23 = .ok (.invokevirtual 130, 3) := by decide +kernel
theorem dX12_parts_26 : decode cX12_parts 26 = .ok (.ifCond .ne 5, 3) := by decide +kernel
theorem dX12_parts_29 : decode cX12_parts 29 = .ok (.iconst (-1), 1) := by decide +kernel
theorem dX12_parts_30 : decode cX12_parts 30 = .ok (.ireturn, 1) := by decide +kernel
theorem dX12_parts_31 : decode cX12_parts 31 = .ok (.aload_n 0, 1) := by decide +kernel
theorem dX12_parts_32 : decode cX12_parts 32 = .ok (.iload_n 1, 1) := by decide +kernel
theorem dX12_parts_33 : decode cX12_parts 33 = .ok (.iload_n 2, 1) := by decide +kernel
theorem dX12_parts_34 : decode cX12_parts 34 = .ok (.invokevirtual 181, 3) := by decide +kernel
theorem dX12_parts_37 : decode cX12_parts 37 = .ok (.istore 5, 2) := by decide +kernel
theorem dX12_parts_39 : decode cX12_parts 39 = .ok (.iload 5, 2) := by decide +kernel
theorem dX12_parts_41 : decode cX12_parts 41 = .ok (.ifCond .ne 8, 3) := by decide +kernel
theorem dX12_parts_44 : decode cX12_parts 44 = .ok (.bipush (-4), 2) := by decide +kernel
theorem dX12_parts_46 : decode cX12_parts 46 = .ok (.goto 12, 3) := by decide +kernel
theorem dX12_parts_49 : decode cX12_parts 49 = .ok (.aload_n 0, 1) := by decide +kernel
theorem dX12_parts_50 : decode cX12_parts 50 = .ok (.iload_n 3, 1) := by decide +kernel
theorem dX12_parts_51 : decode cX12_parts 51 = .ok (.iload 4, 2) := by decide +kernel
theorem dX12_parts_53 : decode cX12_parts 53 = .ok (.iload 5, 2) := by decide +kernel
theorem dX12_parts_55 : decode cX12_parts 55 = .ok (.invokevirtual 184, 3) := by decide +kernel
theorem dX12_parts_58 : decode cX12_parts 58 = .ok (.ireturn, 1) := by decide +kernel
theorem dX12_show_0 : decode cX12_show 0 = .ok (.iload_n 1, 1) := by decide +kernel
theorem dX12_show_1 : decode cX12_show 1 = .ok (.invokestatic 100, 3) := by decide +kernel
theorem dX12_show_4 : decode cX12_show 4 = .ok (.ifCond .eq 15, 3) := by decide +kernel
theorem dX12_show_7 : decode cX12_show 7 = .ok (.iload_n 2, 1) := by decide +kernel
theorem dX12_show_8 : decode cX12_show 8 = .ok (.i2l, 1) := by decide +kernel
theorem dX12_show_9 : decode cX12_show 9 = .ok (.lconst 0, 1) := by decide +kernel
theorem dX12_show_10 : decode cX12_show 10 = .ok (.ldc2_w 85, 3) := by decide +kernel
theorem dX12_show_13 : decode cX12_show 13 = .ok (.invokestatic 57, 3) := by decide +kernel
theorem dX12_show_16 : decode cX12_show 16 = .ok (.ifCond .ne 5, 3) := by decide +kernel
theorem dX12_show_19 : decode cX12_show 19 = .ok (.iconst (-1), 1) := by decide +kernel
theorem dX12_show_20 : decode cX12_show 20 = .ok (.ireturn, 1) := by decide +kernel
theorem dX12_show_21 : decode cX12_show 21 = .ok (.aload_n 0, 1) := by decide +kernel
theorem dX12_show_22 : decode cX12_show 22 = .ok (.iload_n 1, 1) := by decide +kernel
theorem dX12_show_23 : decode cX12_show 23 = .ok (.iload_n 2, 1) := by decide +kernel
theorem dX12_show_24 : decode cX12_show 24 = .ok (.invokevirtual 181, 3) := by decide +kernel
theorem dX12_show_27 : decode cX12_show 27 = .ok (.istore_n 3, 1) := by decide +kernel
theorem dX12_show_28 : decode cX12_show 28 = .ok (.iload_n 3, 1) := by decide +kernel
theorem dX12_show_29 : decode cX12_show 29 = .ok (.ifCond .ne 6, 3) := by decide +kernel
theorem dX12_show_32 : decode cX12_show 32 = .ok (.bipush (-4), 2) := by decide +kernel
theorem dX12_show_34 : decode cX12_show 34 = .ok (.ireturn, 1) := by decide +kernel
theorem dX12_show_35 : decode cX12_show 35 = .ok (.bipush (-4), 2) := by decide +kernel
theorem dX12_show_37 : decode cX12_show 37 = .ok (.istore 4, 2) := by decide +kernel
theorem dX12_show_39 : decode cX12_show 39 = .ok (.iconst 0, 1) := by decide +kernel
theorem dX12_show_40 : decode cX12_show 40 = .ok (.istore 5, 2) := by decide +kernel
theorem dX12_show_42 : decode cX12_show 42 = .ok (.iconst 0, 1) := by decide +kernel
theorem dX12_show_43 : decode cX12_show 43 = .ok (.istore 6, 2) := by decide +kernel
theorem dX12_show_45 : decode cX12_show 45 = .ok (.iload 6, 2) := by decide +kernel
theorem dX12_show_47 : decode cX12_show 47 = .ok (.aload_n 0, 1) := by decide +kernel
theorem dX12_show_48 : decode cX12_show 48 = .ok (.getfield 9, 3) := by decide +kernel
theorem dX12_show_51 : decode cX12_show 51 = .ok (.iconst 1, 1) := by decide +kernel
theorem dX12_show_52 : decode cX12_show 52 = .ok (.iaload, 1) := by decide +kernel
theorem dX12_show_53 : decode cX12_show 53 = .ok (.if_icmp .ge 72, 3) := by decide +kernel
theorem dX12_show_56 : decode cX12_show 56 = .ok (.iload 6, 2) := by decide +kernel
theorem dX12_show_58 : decode cX12_show 58 = .ok (.iconst 1, 1) := by decide +kernel
theorem dX12_show_59 : decode cX12_show 59 = .ok (.iadd, 1) := by decide +kernel
theorem dX12_show_60 : decode cX12_show 60 = .ok (.istore 7, 2) := by decide +kernel
theorem dX12_show_62 : decode cX12_show 62 = .ok (.iload 7, 2) := by decide +kernel
theorem dX12_show_64 : decode cX12_show 64 = .ok (.aload_n 0, 1) := by decide +kernel
theorem dX12_show_65 : decode cX12_show 65 = .ok (.getfield 9, 3) := by decide +kernel
theorem dX12_show_68 : decode cX12_show 68 = .ok (.iconst 1, 1) := by decide +kernel
theorem dX12_show_69 : decode cX12_show 69 = .ok (.iaload, 1) := by decide +kernel
theorem dX12_show_70 : decode cX12_show 70 = .ok (.if_icmp .ge 49, 3) := by decide +kernel
theorem dX12_show_73 : decode cX12_show 73 = .ok (.aload_n 0, 1) := by decide +kernel
theorem dX12_show_74 : decode cX12_show 74 = .ok (.iload 6, 2) := by decide +kernel
theorem dX12_show_76 : decode cX12_show 76 = .ok (.iload 7, 2) := by decide +kernel
theorem dX12_show_78 : decode cX12_show 78 = .ok (.iload_n 3, 1) := by decide +kernel
theorem dX12_show_79 : decode cX12_show 79 = .ok (.invokevirtual 184, 3) := by decide +kernel
theorem dX12_show_82 : decode cX12_show 82 = .ok (.istore 8, 2) := by decide +kernel
theorem dX12_show_84 : decode cX12_show 84 = .ok (.iload 4, 2) := by decide +kernel
theorem dX12_show_86 : decode cX12_show 86 = .ok (.ifCond .lt 13, 3) := by decide +kernel
theorem dX12_show_89 : decode cX12_show 89 = .ok (.iload 8, 2) := by decide +kernel
theorem dX12_show_91 : decode cX12_show 91 = .ok (.iload 5, 2) := by decide +kernel
theorem dX12_show_93 : decode cX12_show 93 = .ok (.if_icmp .gt 6, 3) := by decide +kernel
theorem dX12_show_96 : decode cX12_show 96 = .ok (.goto 17, 3) := by decide +kernel
theorem dX12_show_99 : decode cX12_show 99 = .ok (.bipush 100, 2) := by decide +kernel
theorem dX12_show_101 : decode cX12_show 101 = .ok (.iload 6, 2) := by decide +kernel
theorem dX12_show_103 : decode cX12_show 103 = .ok (.imul, 1) := by decide +kernel
theorem dX12_show_104 : decode cX12_show 104 = .ok (.iload 7, 2) := by decide +kernel
theorem dX12_show_106 : decode cX12_show 106 = .ok (.iadd, 1) := by decide +kernel
theorem dX12_show_107 : decode cX12_show 107 = .ok (.istore 4, 2) := by decide +kernel
theorem dX12_show_109 : decode cX12_show 109 = .ok (.iload 8, 2) := by decide +kernel
theorem dX12_show_111 : decode cX12_show 111 = .ok (.istore 5, 2) := by decide +kernel
theorem dX12_show_113 : decode cX12_show 113 = .ok (.iinc 7 1, 3) := by decide +kernel
theorem dX12_show_116 : decode cX12_show 116 = .ok (.goto (-54), 3) := by decide +kernel
theorem dX12_show_119 : decode cX12_show 119 = .ok (.iinc 6 1, 3) := by decide +kernel
theorem dX12_show_122 : decode cX12_show 122 = .ok (.goto (-77), 3) := by decide +kernel
theorem dX12_show_125 : decode cX12_show 125 = .ok (.iload 4, 2) := by decide +kernel
theorem dX12_show_127 : decode cX12_show 127 = .ok (.ireturn, 1) := by decide +kernel
theorem dX12_disagree_0 : decode cX12_disagree 0 = .ok (.iload_n 1, 1) := by decide +kernel
theorem dX12_disagree_1 : decode cX12_disagree 1 = .ok (.invokestatic 100, 3) := by decide +kernel
theorem dX12_disagree_4 : decode cX12_disagree 4 = .ok (.ifCond .eq 28, 3) := by decide +kernel
theorem dX12_disagree_7 : decode cX12_disagree 7 = .ok (.iload_n 2, 1) := by decide +kernel
theorem dX12_disagree_8 : decode cX12_disagree 8 = .ok (.invokestatic 100, 3) := by decide +kernel
theorem dX12_disagree_11 : decode cX12_disagree 11 = .ok (.ifCond .eq 21, 3) := by decide +kernel
theorem dX12_disagree_14 : decode cX12_disagree 14 = .ok (.aload_n 0, 1) := by decide +kernel
theorem dX12_disagree_15 : decode cX12_disagree 15 = .ok (.iload_n 3, 1) := by decide +kernel
theorem dX12_disagree_16 : decode cX12_disagree 16 = .ok (.iload 4, 2) := by decide +kernel
theorem dX12_disagree_18 : decode cX12_disagree 18 = .ok (.invokevirtual 130, 3) := by decide +kernel
theorem dX12_disagree_21 : decode cX12_disagree 21 = .ok (.ifCond .eq 11, 3) := by decide +kernel
theorem dX12_disagree_24 : decode cX12_disagree 24 = .ok (.iload 5, 2) := by decide +kernel
theorem dX12_disagree_26 : decode cX12_disagree 26 = .ok (.invokestatic 107, 3) := by decide +kernel
theorem dX12_disagree_29 : decode cX12_disagree 29 = .ok (.ifCond .ne 6, 3) := by decide +kernel
theorem dX12_disagree_32 : decode cX12_disagree 32 = .ok (.ldc 188, 2) := by decide +kernel
theorem dX12_disagree_34 : decode cX12_disagree 34 = .ok (.ireturn, 1) := by decide +kernel
theorem dX12_disagree_35 : decode cX12_disagree 35 = .ok (.aload_n 0, 1) := by decide +kernel
theorem dX12_disagree_36 : decode cX12_disagree 36 = .ok (.iload_n 3, 1) := by decide +kernel
theorem dX12_disagree_37 : decode cX12_disagree 37 = .ok (.iload 4, 2) := by decide +kernel
theorem dX12_disagree_39 : decode cX12_disagree 39 = .ok (.iload_n 1, 1) := by decide +kernel
theorem dX12_disagree_40 : decode cX12_disagree 40 = .ok (.iload 5, 2) := by decide +kernel
theorem dX12_disagree_42 : decode cX12_disagree 42 = .ok (.invokevirtual 134, 3) := by decide +kernel
theorem dX12_disagree_45 : decode cX12_disagree 45 = .ok (.aload_n 0, 1) := by decide +kernel
theorem dX12_disagree_46 : decode cX12_disagree 46 = .ok (.iload_n 3, 1) := by decide +kernel
theorem dX12_disagree_47 : decode cX12_disagree 47 = .ok (.iload 4, 2) := by decide +kernel
theorem dX12_disagree_49 : decode cX12_disagree 49 = .ok (.iload_n 2, 1) := by decide +kernel
theorem dX12_disagree_50 : decode cX12_disagree 50 = .ok (.iload 5, 2) := by decide +kernel
theorem dX12_disagree_52 : decode cX12_disagree 52 = .ok (.invokevirtual 134, 3) := by decide +kernel
theorem dX12_disagree_55 : decode cX12_disagree 55 = .ok (.isub, 1) := by decide +kernel
theorem dX12_disagree_56 : decode cX12_disagree 56 = .ok (.ireturn, 1) := by decide +kernel
theorem dX12_meanOf_0 : decode cX12_meanOf 0 = .ok (.iconst 0, 1) := by decide +kernel
theorem dX12_meanOf_1 : decode cX12_meanOf 1 = .ok (.istore_n 3, 1) := by decide +kernel
theorem dX12_meanOf_2 : decode cX12_meanOf 2 = .ok (.iconst 0, 1) := by decide +kernel
theorem dX12_meanOf_3 : decode cX12_meanOf 3 = .ok (.istore 4, 2) := by decide +kernel
theorem dX12_meanOf_5 : decode cX12_meanOf 5 = .ok (.iconst 0, 1) := by decide +kernel
theorem dX12_meanOf_6 : decode cX12_meanOf 6 = .ok (.istore 5, 2) := by decide +kernel
theorem dX12_meanOf_8 : decode cX12_meanOf 8 = .ok (.iload 5, 2) := by decide +kernel
theorem dX12_meanOf_10 : decode cX12_meanOf 10 = .ok (.bipush 8, 2) := by decide +kernel
theorem dX12_meanOf_12 : decode cX12_meanOf 12 = .ok (.if_icmp .ge 41, 3) := by decide +kernel
theorem dX12_meanOf_15 : decode cX12_meanOf 15 = .ok (.iload_n 1, 1) := by decide +kernel
theorem dX12_meanOf_16 : decode cX12_meanOf 16 = .ok (.iload 5, 2) := by decide +kernel
theorem dX12_meanOf_18 : decode cX12_meanOf 18 = .ok (.ishr, 1) := by decide +kernel
theorem dX12_meanOf_19 : decode cX12_meanOf 19 = .ok (.iconst 1, 1) := by decide +kernel
theorem dX12_meanOf_20 : decode cX12_meanOf 20 = .ok (.iand, 1) := by decide +kernel
theorem dX12_meanOf_21 : decode cX12_meanOf 21 = .ok (.ifCond .ne 6, 3) := by decide +kernel
theorem dX12_meanOf_24 : decode cX12_meanOf 24 = .ok (.goto 23, 3) := by decide +kernel
theorem dX12_meanOf_27 : decode cX12_meanOf 27 = .ok (.iload_n 3, 1) := by decide +kernel
theorem dX12_meanOf_28 : decode cX12_meanOf 28 = .ok (.aload_n 0, 1) := by decide +kernel
theorem dX12_meanOf_29 : decode cX12_meanOf 29 = .ok (.getfield 9, 3) := by decide +kernel
theorem dX12_meanOf_32 : decode cX12_meanOf 32 = .ok (.bipush 70, 2) := by decide +kernel
theorem dX12_meanOf_34 : decode cX12_meanOf 34 = .ok (.iconst 3, 1) := by decide +kernel
theorem dX12_meanOf_35 : decode cX12_meanOf 35 = .ok (.iload 5, 2) := by decide +kernel
theorem dX12_meanOf_37 : decode cX12_meanOf 37 = .ok (.imul, 1) := by decide +kernel
theorem dX12_meanOf_38 : decode cX12_meanOf 38 = .ok (.iadd, 1) := by decide +kernel
theorem dX12_meanOf_39 : decode cX12_meanOf 39 = .ok (.iload_n 2, 1) := by decide +kernel
theorem dX12_meanOf_40 : decode cX12_meanOf 40 = .ok (.iadd, 1) := by decide +kernel
theorem dX12_meanOf_41 : decode cX12_meanOf 41 = .ok (.iaload, 1) := by decide +kernel
theorem dX12_meanOf_42 : decode cX12_meanOf 42 = .ok (.iadd, 1) := by decide +kernel
theorem dX12_meanOf_43 : decode cX12_meanOf 43 = .ok (.istore_n 3, 1) := by decide +kernel
theorem dX12_meanOf_44 : decode cX12_meanOf 44 = .ok (.iinc 4 1, 3) := by decide +kernel
theorem dX12_meanOf_47 : decode cX12_meanOf 47 = .ok (.iinc 5 1, 3) := by decide +kernel
theorem dX12_meanOf_50 : decode cX12_meanOf 50 = .ok (.goto (-42), 3) := by decide +kernel
theorem dX12_meanOf_53 : decode cX12_meanOf 53 = .ok (.iload_n 3, 1) := by decide +kernel
theorem dX12_meanOf_54 : decode cX12_meanOf 54 = .ok (.iload 4, 2) := by decide +kernel
theorem dX12_meanOf_56 : decode cX12_meanOf 56 = .ok (.idiv, 1) := by decide +kernel
theorem dX12_meanOf_57 : decode cX12_meanOf 57 = .ok (.ireturn, 1) := by decide +kernel
theorem dX12_mean_0 : decode cX12_mean 0 = .ok (.iload_n 1, 1) := by decide +kernel
theorem dX12_mean_1 : decode cX12_mean 1 = .ok (.i2l, 1) := by decide +kernel
theorem dX12_mean_2 : decode cX12_mean 2 = .ok (.lconst 1, 1) := by decide +kernel
theorem dX12_mean_3 : decode cX12_mean 3 = .ok (.ldc2_w 189, 3) := by decide +kernel
theorem dX12_mean_6 : decode cX12_mean 6 = .ok (.invokestatic 57, 3) := by decide +kernel
theorem dX12_mean_9 : decode cX12_mean 9 = .ok (.ifCond .eq 24, 3) := by decide +kernel
theorem dX12_mean_12 : decode cX12_mean 12 = .ok (.iload_n 2, 1) := by decide +kernel
theorem dX12_mean_13 : decode cX12_mean 13 = .ok (.i2l, 1) := by decide +kernel
theorem dX12_mean_14 : decode cX12_mean 14 = .ok (.lconst 0, 1) := by decide +kernel
theorem dX12_mean_15 : decode cX12_mean 15 = .ok (.ldc2_w 103, 3) := by decide +kernel
theorem dX12_mean_18 : decode cX12_mean 18 = .ok (.invokestatic 57, 3) := by decide +kernel
theorem dX12_mean_21 : decode cX12_mean 21 = .ok (.ifCond .eq 12, 3) := by decide +kernel
theorem dX12_mean_24 : decode cX12_mean 24 = .ok (.aload_n 0, 1) := by decide +kernel
theorem dX12_mean_25 : decode cX12_mean 25 = .ok (.iload_n 1, 1) := by decide +kernel
theorem dX12_mean_26 : decode cX12_mean 26 = .ok (.iload_n 2, 1) := by decide +kernel
theorem dX12_mean_27 : decode cX12_mean 27 = .ok (.invokevirtual 191, 3) := by decide +kernel
theorem dX12_mean_30 : decode cX12_mean 30 = .ok (.goto 4, 3) := by decide +kernel
theorem dX12_mean_33 : decode cX12_mean 33 = .ok (.iconst (-1), 1) := by decide +kernel
theorem dX12_mean_34 : decode cX12_mean 34 = .ok (.ireturn, 1) := by decide +kernel
theorem dX12_stands_0 : decode cX12_stands 0 = .ok (.iload_n 1, 1) := by decide +kernel
theorem dX12_stands_1 : decode cX12_stands 1 = .ok (.i2l, 1) := by decide +kernel
theorem dX12_stands_2 : decode cX12_stands 2 = .ok (.lconst 1, 1) := by decide +kernel
theorem dX12_stands_3 : decode cX12_stands 3 = .ok (.ldc2_w 189, 3) := by decide +kernel
theorem dX12_stands_6 : decode cX12_stands 6 = .ok (.invokestatic 57, 3) := by decide +kernel
theorem dX12_stands_9 : decode cX12_stands 9 = .ok (.ifCond .eq 12, 3) := by decide +kernel
theorem dX12_stands_12 : decode cX12_stands 12 = .ok (.aload_n 0, 1) := by decide +kernel
theorem dX12_stands_13 : decode cX12_stands 13 = .ok (.iload_n 2, 1) := by decide +kernel
theorem dX12_stands_14 : decode cX12_stands 14 = .ok (.iload_n 3, 1) := by decide +kernel
theorem dX12_stands_15 : decode cX12_stands 15 = .ok (.invokevirtual 130, 3) := by decide +kernel
theorem dX12_stands_18 : decode cX12_stands 18 = .ok (.ifCond .ne 5, 3) := by decide +kernel
theorem dX12_stands_21 : decode cX12_stands 21 = .ok (.iconst (-1), 1) := by decide +kernel
theorem dX12_stands_22 : decode cX12_stands 22 = .ok (.ireturn, 1) := by decide +kernel
theorem dX12_stands_23 : decode cX12_stands 23 = .ok (.aload_n 0, 1) := by decide +kernel
theorem dX12_stands_24 : decode cX12_stands 24 = .ok (.iload_n 2, 1) := by decide +kernel
theorem dX12_stands_25 : decode cX12_stands 25 = .ok (.iload_n 3, 1) := by decide +kernel
theorem dX12_stands_26 : decode cX12_stands 26 = .ok (.aload_n 0, 1) := by decide +kernel
theorem dX12_stands_27 : decode cX12_stands 27 = .ok (.iload_n 1, 1) := by decide +kernel
theorem dX12_stands_28 : decode cX12_stands 28 = .ok (.iconst 0, 1) := by decide +kernel
theorem dX12_stands_29 : decode cX12_stands 29 = .ok (.invokevirtual 191, 3) := by decide +kernel
theorem dX12_stands_32 : decode cX12_stands 32 = .ok (.aload_n 0, 1) := by decide +kernel
theorem dX12_stands_33 : decode cX12_stands 33 = .ok (.iload_n 1, 1) := by decide +kernel
theorem dX12_stands_34 : decode cX12_stands 34 = .ok (.iconst 1, 1) := by decide +kernel
theorem dX12_stands_35 : decode cX12_stands 35 = .ok (.invokevirtual 191, 3) := by decide +kernel
theorem dX12_stands_38 : decode cX12_stands 38 = .ok (.invokevirtual 126, 3) := by decide +kernel
theorem dX12_stands_41 : decode cX12_stands 41 = .ok (.istore 4, 2) := by decide +kernel
theorem dX12_stands_43 : decode cX12_stands 43 = .ok (.iconst 0, 1) := by decide +kernel
theorem dX12_stands_44 : decode cX12_stands 44 = .ok (.istore 5, 2) := by decide +kernel
theorem dX12_stands_46 : decode cX12_stands 46 = .ok (.iconst 0, 1) := by decide +kernel
theorem dX12_stands_47 : decode cX12_stands 47 = .ok (.istore 6, 2) := by decide +kernel
theorem dX12_stands_49 : decode cX12_stands 49 = .ok (.iload 6, 2) := by decide +kernel
theorem dX12_stands_51 : decode cX12_stands 51 = .ok (.bipush 8, 2) := by decide +kernel
theorem dX12_stands_53 : decode cX12_stands 53 = .ok (.if_icmp .ge 59, 3) := by decide +kernel
theorem dX12_stands_56 : decode cX12_stands 56 = .ok (.aload_n 0, 1) := by decide +kernel
theorem dX12_stands_57 : decode cX12_stands 57 = .ok (.iload_n 2, 1) := by decide +kernel
theorem dX12_stands_58 : decode cX12_stands 58 = .ok (.iload_n 3, 1) := by decide +kernel
theorem dX12_stands_59 : decode cX12_stands 59 = .ok (.iload 6, 2) := by decide +kernel
theorem dX12_stands_61 : decode cX12_stands 61 = .ok (.iconst 0, 1) := by decide +kernel
theorem dX12_stands_62 : decode cX12_stands 62 = .ok (.invokevirtual 134, 3) := by decide +kernel
theorem dX12_stands_65 : decode cX12_stands 65 = .ok (.iload 4, 2) := by decide +kernel
theorem dX12_stands_67 : decode cX12_stands 67 = .ok (.isub, 1) := by decide +kernel
theorem dX12_stands_68 : decode cX12_stands 68 = .ok (.istore 7, 2) := by decide +kernel
theorem dX12_stands_70 : decode cX12_stands 70 = .ok (.iload 5, 2) := by decide +kernel
theorem dX12_stands_72 : decode cX12_stands 72 = .ok (.iload_n 1, 1) := by decide +kernel
theorem dX12_stands_73 : decode cX12_stands 73 = .ok (.iload 6, 2) := by decide +kernel
theorem dX12_stands_75 : decode cX12_stands 75 = .ok (.ishr, 1) := by decide +kernel
theorem dX12_stands_76 : decode cX12_stands 76 = .ok (.iconst 1, 1) := by decide +kernel
theorem dX12_stands_77 : decode cX12_stands 77 = .ok (.iand, 1) := by decide +kernel
theorem dX12_stands_78 : decode cX12_stands 78 = .ok (.iconst 1, 1) := by decide +kernel
theorem dX12_stands_79 : decode cX12_stands 79 = .ok (.if_icmp .ne 23, 3) := by decide +kernel
theorem dX12_stands_82 : decode cX12_stands 82 = .ok (.iload 7, 2) := by decide +kernel
theorem dX12_stands_84 : decode cX12_stands 84 = .ok (.i2l, 1) := by decide +kernel
theorem dX12_stands_85 : decode cX12_stands 85 = .ok (.ldc2_w 194, 3) := by decide +kernel
theorem dX12_stands_88 : decode cX12_stands 88 = .ok (.lconst 1, 1) := by decide +kernel
theorem dX12_stands_89 : decode cX12_stands 89 = .ok (.invokestatic 57, 3) := by decide +kernel
theorem dX12_stands_92 : decode cX12_stands 92 = .ok (.ifCond .eq 10, 3) := by decide +kernel
theorem dX12_stands_95 : decode cX12_stands 95 = .ok (.iconst 1, 1) := by decide +kernel
theorem dX12_stands_96 : decode cX12_stands 96 = .ok (.iload 6, 2) := by decide +kernel
theorem dX12_stands_98 : decode cX12_stands 98 = .ok (.ishl, 1) := by decide +kernel
theorem dX12_stands_99 : decode cX12_stands 99 = .ok (.goto 4, 3) := by decide +kernel
theorem dX12_stands_102 : decode cX12_stands 102 = .ok (.iconst 0, 1) := by decide +kernel
theorem dX12_stands_103 : decode cX12_stands 103 = .ok (.ior, 1) := by decide +kernel
theorem dX12_stands_104 : decode cX12_stands 104 = .ok (.istore 5, 2) := by decide +kernel
theorem dX12_stands_106 : decode cX12_stands 106 = .ok (.iinc 6 1, 3) := by decide +kernel
theorem dX12_stands_109 : decode cX12_stands 109 = .ok (.goto (-60), 3) := by decide +kernel
theorem dX12_stands_112 : decode cX12_stands 112 = .ok (.iload 5, 2) := by decide +kernel
theorem dX12_stands_114 : decode cX12_stands 114 = .ok (.ireturn, 1) := by decide +kernel
theorem dX12_sign_0 : decode cX12_sign 0 = .ok (.aload_n 0, 1) := by decide +kernel
theorem dX12_sign_1 : decode cX12_sign 1 = .ok (.getfield 196, 3) := by decide +kernel
theorem dX12_sign_4 : decode cX12_sign 4 = .ok (.aload_n 0, 1) := by decide +kernel
theorem dX12_sign_5 : decode cX12_sign 5 = .ok (.getfield 199, 3) := by decide +kernel
theorem dX12_sign_8 : decode cX12_sign 8 = .ok (.if_icmp .ge 20, 3) := by decide +kernel
theorem dX12_sign_11 : decode cX12_sign 11 = .ok (.aload_n 0, 1) := by decide +kernel
theorem dX12_sign_12 : decode cX12_sign 12 = .ok (.getfield 47, 3) := by decide +kernel
theorem dX12_sign_15 : decode cX12_sign 15 = .ok (.aload_n 0, 1) := by decide +kernel
theorem dX12_sign_16 : decode cX12_sign 16 = .ok (.getfield 202, 3) := by decide +kernel
theorem dX12_sign_19 : decode cX12_sign 19 = .ok (.aload_n 0, 1) := by decide +kernel
theorem dX12_sign_20 : decode cX12_sign 20 = .ok (.getfield 196, 3) := by decide +kernel
theorem dX12_sign_23 : decode cX12_sign 23 = .ok (.iadd, 1) := by decide +kernel
theorem dX12_sign_24 : decode cX12_sign 24 = .ok (.iaload, 1) := by decide +kernel
theorem dX12_sign_25 : decode cX12_sign 25 = .ok (.goto 6, 3) := by decide +kernel
theorem dX12_sign_28 : decode cX12_sign 28 = .ok (.sipush (-1000), 3) := by decide +kernel
theorem dX12_sign_31 : decode cX12_sign 31 = .ok (.ireturn, 1) := by decide +kernel
theorem dX12_takes_0 : decode cX12_takes 0 = .ok (.aload_n 0, 1) := by decide +kernel
theorem dX12_takes_1 : decode cX12_takes 1 = .ok (.invokevirtual 205, 3) := by decide +kernel
theorem dX12_takes_4 : decode cX12_takes 4 = .ok (.iload_n 1, 1) := by decide +kernel
theorem dX12_takes_5 : decode cX12_takes 5 = .ok (.if_icmp .eq 5, 3) := by decide +kernel
theorem dX12_takes_8 : decode cX12_takes 8 = .ok (.iconst 0, 1) := by decide +kernel
theorem dX12_takes_9 : decode cX12_takes 9 = .ok (.ireturn, 1) := by decide +kernel
theorem dX12_takes_10 : decode cX12_takes 10 = .ok (.aload_n 0, 1) := by decide +kernel
theorem dX12_takes_11 : decode cX12_takes 11 = .ok (.dup, 1) := by decide +kernel
theorem dX12_takes_12 : decode cX12_takes 12 = .ok (.getfield 196, 3) := by decide +kernel
theorem dX12_takes_15 : decode cX12_takes 15 = .ok (.iconst 1, 1) := by decide +kernel
theorem dX12_takes_16 : decode cX12_takes 16 = .ok (.iadd, 1) := by decide +kernel
theorem dX12_takes_17 : decode cX12_takes 17 = .ok (.putfield 196, 3) := by decide +kernel
theorem dX12_takes_20 : decode cX12_takes 20 = .ok (.iconst 1, 1) := by decide +kernel
theorem dX12_takes_21 : decode cX12_takes 21 = .ok (.ireturn, 1) := by decide +kernel
theorem dX12_readsNumber_0 : decode cX12_readsNumber 0 = .ok (.aload_n 0, 1) := by decide +kernel
theorem dX12_readsNumber_1 : decode cX12_readsNumber 1 = .ok (.invokevirtual 205, 3) := by decide +kernel
theorem dX12_readsNumber_4 : decode cX12_readsNumber 4 = .ok (.i2l, 1) := by decide +kernel
theorem dX12_readsNumber_5 : decode cX12_readsNumber 5 = .ok (.ldc2_w 209, 3) := by decide +kernel
theorem dX12_readsNumber_8 : decode cX12_readsNumber 8 = .ok (.ldc2_w 211, 3) := by decide +kernel
theorem dX12_readsNumber_11 : decode cX12_readsNumber 11 = .ok (.invokestatic 57, 3) := by decide +kernel
theorem dX12_readsNumber_14 : decode cX12_readsNumber 14 = .ok (.ifCond .ne 5, 3) := by decide +kernel
theorem dX12_readsNumber_17 : decode cX12_readsNumber 17 = .ok (.iconst 0, 1) := by decide +kernel
theorem dX12_readsNumber_18 : decode cX12_readsNumber 18 = .ok (.ireturn, 1) := by decide +kernel
theorem dX12_readsNumber_19 : decode cX12_readsNumber 19 = .ok (.aload_n 0, 1) := by decide +kernel
theorem dX12_readsNumber_20 : decode cX12_readsNumber 20 = .ok (.aload_n 0, 1) := by decide +kernel
theorem dX12_readsNumber_21 : decode cX12_readsNumber 21 = .ok (.invokevirtual 205, 3) := by decide +kernel
theorem dX12_readsNumber_24 : decode cX12_readsNumber 24 = .ok (.bipush 48, 2) := by decide +kernel
theorem dX12_readsNumber_26 : decode cX12_readsNumber 26 = .ok (.isub, 1) := by decide +kernel
theorem dX12_readsNumber_27 : decode cX12_readsNumber 27 = .ok (.putfield 213, 3) := by decide +kernel
theorem dX12_readsNumber_30 : decode cX12_readsNumber 30 = .ok (.aload_n 0, 1) := by decide +kernel
theorem dX12_readsNumber_31 : decode cX12_readsNumber 31 = .ok (.dup, 1) := by decide +kernel
theorem dX12_readsNumber_32 : decode cX12_readsNumber 32 = .ok (.getfield 196, 3) := by decide +kernel
theorem dX12_readsNumber_35 : decode cX12_readsNumber 35 = .ok (.iconst 1, 1) := by decide +kernel
theorem dX12_readsNumber_36 : decode cX12_readsNumber 36 = .ok (.iadd, 1) := by decide +kernel
theorem dX12_readsNumber_37 : decode cX12_readsNumber 37 = .ok (.putfield 196, 3) := by decide +kernel
theorem dX12_readsNumber_40 : decode cX12_readsNumber 40 = .ok (.iconst 1, 1) := by decide +kernel
theorem dX12_readsNumber_41 : decode cX12_readsNumber 41 = .ok (.istore_n 1, 1) := by decide +kernel
theorem dX12_readsNumber_42 : decode cX12_readsNumber 42 = .ok (.iload_n 1, 1) := by decide +kernel
theorem dX12_readsNumber_43 : decode cX12_readsNumber 43 = .ok (.iconst 4, 1) := by decide +kernel
theorem dX12_readsNumber_44 : decode cX12_readsNumber 44 = .ok (.if_icmp .ge 62, 3) := by decide +kernel
theorem dX12_readsNumber_47 : decode cX12_readsNumber 47 = .ok (.aload_n 0, 1) := by decide +kernel
theorem dX12_readsNumber_48 : decode cX12_readsNumber 48 = .ok (.getfield 213, 3) := by decide +kernel
theorem dX12_readsNumber_51 : decode cX12_readsNumber 51 = .ok (.ifCond .le 55, 3) := by decide +kernel
theorem dX12_readsNumber_54 : decode cX12_readsNumber 54 = .ok (.aload_n 0, 1) := by decide +kernel
theorem dX12_readsNumber_55 : decode cX12_readsNumber 55 = .ok (.invokevirtual 205, 3) := by decide +kernel
theorem dX12_readsNumber_58 : decode cX12_readsNumber 58 = .ok (.i2l, 1) := by decide +kernel
theorem dX12_readsNumber_59 : decode cX12_readsNumber 59 = .ok (.ldc2_w 209, 3) := by decide +kernel
theorem dX12_readsNumber_62 : decode cX12_readsNumber 62 = .ok (.ldc2_w 211, 3) := by decide +kernel
theorem dX12_readsNumber_65 : decode cX12_readsNumber 65 = .ok (.invokestatic 57, 3) := by decide +kernel
theorem dX12_readsNumber_68 : decode cX12_readsNumber 68 = .ok (.ifCond .eq 38, 3) := by decide +kernel
theorem dX12_readsNumber_71 : decode cX12_readsNumber 71 = .ok (.aload_n 0, 1) := by decide +kernel
theorem dX12_readsNumber_72 : decode cX12_readsNumber 72 = .ok (.bipush 10, 2) := by decide +kernel
theorem dX12_readsNumber_74 : decode cX12_readsNumber 74 = .ok (.aload_n 0, 1) := by decide +kernel
theorem dX12_readsNumber_75 : decode cX12_readsNumber 75 = .ok (.getfield 213, 3) := by decide +kernel
theorem dX12_readsNumber_78 : decode cX12_readsNumber 78 = .ok (.imul, 1) := by decide +kernel
theorem dX12_readsNumber_79 : decode cX12_readsNumber 79 = .ok (.aload_n 0, 1) := by decide +kernel
theorem dX12_readsNumber_80 : decode cX12_readsNumber 80 = .ok (.invokevirtual 205, 3) := by decide +kernel
theorem dX12_readsNumber_83 : decode cX12_readsNumber 83 = .ok (.iadd, 1) := by decide +kernel
theorem dX12_readsNumber_84 : decode cX12_readsNumber 84 = .ok (.bipush 48, 2) := by decide +kernel
theorem dX12_readsNumber_86 : decode cX12_readsNumber 86 = .ok (.isub, 1) := by decide +kernel
theorem dX12_readsNumber_87 : decode cX12_readsNumber 87 = .ok (.putfield 213, 3) := by decide +kernel
theorem dX12_readsNumber_90 : decode cX12_readsNumber 90 = .ok (.aload_n 0, 1) := by decide +kernel
theorem dX12_readsNumber_91 : decode cX12_readsNumber 91 = .ok (.dup, 1) := by decide +kernel
theorem dX12_readsNumber_92 : decode cX12_readsNumber 92 = .ok (.getfield 196, 3) := by decide +kernel
theorem dX12_readsNumber_95 : decode cX12_readsNumber 95 = .ok (.iconst 1, 1) := by decide +kernel
theorem dX12_readsNumber_96 : decode cX12_readsNumber 96 = .ok (.iadd, 1) := by decide +kernel
theorem dX12_readsNumber_97 : decode cX12_readsNumber 97 = .ok (.putfield 196, 3) := by decide +kernel
theorem dX12_readsNumber_100 : decode cX12_readsNumber 100 = .ok (.iinc 1 1, 3) := by decide +kernel
theorem dX12_readsNumber_103 : decode cX12_readsNumber 103 = .ok (.goto (-61), 3) := by decide +kernel
theorem dX12_readsNumber_106 : decode cX12_readsNumber 106 = .ok (.iconst 1, 1) := by decide +kernel
theorem dX12_readsNumber_107 : decode cX12_readsNumber 107 = .ok (.ireturn, 1) := by decide +kernel
theorem dX12_readsSum_0 : decode cX12_readsSum 0 = .ok (.aload_n 0, 1) := by decide +kernel
theorem dX12_readsSum_1 : decode cX12_readsSum 1 = .ok (.invokevirtual 216, 3) := by decide +kernel
theorem dX12_readsSum_4 : decode cX12_readsSum 4 = .ok (.ifCond .ne 5, 3) := by decide +kernel
theorem dX12_readsSum_7 : decode cX12_readsSum 7 = .ok (.iconst 0, 1) := by decide +kernel
theorem dX12_readsSum_8 : decode cX12_readsSum 8 = .ok (.ireturn, 1) := by decide +kernel
theorem dX12_readsSum_9 : decode cX12_readsSum 9 = .ok (.aload_n 0, 1) := by decide +kernel
theorem dX12_readsSum_10 : decode cX12_readsSum 10 = .ok (.bipush 43, 2) := by decide +kernel
theorem dX12_readsSum_12 : decode cX12_readsSum 12 = .ok (.invokevirtual 220, 3) := by decide +kernel
theorem dX12_readsSum_15 : decode cX12_readsSum 15 = .ok (.ifCond .ne (-15), 3) := by decide +kernel
theorem dX12_readsSum_18 : decode cX12_readsSum 18 = .ok (.aload_n 0, 1) := by decide +kernel
theorem dX12_readsSum_19 : decode cX12_readsSum 19 = .ok (.bipush 45, 2) := by decide +kernel
theorem dX12_readsSum_21 : decode cX12_readsSum 21 = .ok (.invokevirtual 220, 3) := by decide +kernel
theorem dX12_readsSum_24 : decode cX12_readsSum 24 = .ok (.ifCond .ne (-24), 3) := by decide +kernel
theorem dX12_readsSum_27 : decode cX12_readsSum 27 = .ok (.iconst 1, 1) := by decide +kernel
theorem dX12_readsSum_28 : decode cX12_readsSum 28 = .ok (.ireturn, 1) := by decide +kernel
theorem dX12_readsProduct_0 : decode cX12_readsProduct 0 = .ok (.aload_n 0, 1) := by decide +kernel
theorem dX12_readsProduct_1 : decode cX12_readsProduct 1 = .ok (.invokevirtual 223, 3) := by decide +kernel
theorem dX12_readsProduct_4 : decode cX12_readsProduct 4 = .ok (.ifCond .ne 5, 3) := by decide +kernel
theorem dX12_readsProduct_7 : decode cX12_readsProduct 7 = .ok (.iconst 0, 1) := by decide +kernel
theorem dX12_readsProduct_8 : decode cX12_readsProduct 8 = .ok (.ireturn, 1) := by decide +kernel
theorem dX12_readsProduct_9 : decode cX12_readsProduct 9 = .ok (.aload_n 0, 1) := by decide +kernel
theorem dX12_readsProduct_10 : decode cX12_readsProduct 10 = .ok (.bipush 42, 2) := by decide +kernel
theorem dX12_readsProduct_12 : decode cX12_readsProduct 12 = .ok (.invokevirtual 220, 3) := by decide +kernel
theorem dX12_readsProduct_15 : decode cX12_readsProduct 15 = .ok (.ifCond .ne (-15), 3) := by decide +kernel
theorem dX12_readsProduct_18 : decode cX12_readsProduct 18 = .ok (.aload_n 0, 1) := by decide +kernel
theorem dX12_readsProduct_19 : decode cX12_readsProduct 19 = .ok (.bipush 47, 2) := by decide +kernel
theorem dX12_readsProduct_21 : decode cX12_readsProduct 21 = .ok (.invokevirtual 220, 3) := by decide +kernel
theorem dX12_readsProduct_24 : decode cX12_readsProduct 24 = .ok (.ifCond .ne (-24), 3) := by decide +kernel
theorem dX12_readsProduct_27 : decode cX12_readsProduct 27 = .ok (.iconst 1, 1) := by decide +kernel
theorem dX12_readsProduct_28 : decode cX12_readsProduct 28 = .ok (.ireturn, 1) := by decide +kernel
theorem dX12_isField_0 : decode cX12_isField 0 = .ok (.iload_n 0, 1) := by decide +kernel
theorem dX12_isField_1 : decode cX12_isField 1 = .ok (.bipush 103, 2) := by decide +kernel
theorem dX12_isField_3 : decode cX12_isField 3 = .ok (.if_icmp .eq 39, 3) := by decide +kernel
theorem dX12_isField_6 : decode cX12_isField 6 = .ok (.iload_n 0, 1) := by decide +kernel
theorem dX12_isField_7 : decode cX12_isField 7 = .ok (.bipush 115, 2) := by decide +kernel
theorem dX12_isField_9 : decode cX12_isField 9 = .ok (.if_icmp .eq 33, 3) := by decide +kernel
theorem dX12_isField_12 : decode cX12_isField 12 = .ok (.iload_n 0, 1) := by decide +kernel
theorem dX12_isField_13 : decode cX12_isField 13 = .ok (.bipush 116, 2) := by decide +kernel
theorem dX12_isField_15 : decode cX12_isField 15 = .ok (.if_icmp .eq 27, 3) := by decide +kernel
theorem dX12_isField_18 : decode cX12_isField 18 = .ok (.iload_n 0, 1) := by decide +kernel
theorem dX12_isField_19 : decode cX12_isField 19 = .ok (.bipush 104, 2) := by decide +kernel
theorem dX12_isField_21 : decode cX12_isField 21 = .ok (.if_icmp .eq 21, 3) := by decide +kernel
theorem dX12_isField_24 : decode cX12_isField 24 = .ok (.iload_n 0, 1) := by decide +kernel
theorem dX12_isField_25 : decode cX12_isField 25 = .ok (.bipush 119, 2) := by decide +kernel
theorem dX12_isField_27 : decode cX12_isField 27 = .ok (.if_icmp .eq 15, 3) := by decide +kernel
theorem dX12_isField_30 : decode cX12_isField 30 = .ok (.iload_n 0, 1) := by decide +kernel
theorem dX12_isField_31 : decode cX12_isField 31 = .ok (.bipush 100, 2) := by decide +kernel
theorem dX12_isField_33 : decode cX12_isField 33 = .ok (.if_icmp .eq 9, 3) := by decide +kernel
theorem dX12_isField_36 : decode cX12_isField 36 = .ok (.iload_n 0, 1) := by decide +kernel
theorem dX12_isField_37 : decode cX12_isField 37 = .ok (.bipush 121, 2) := by decide +kernel
theorem dX12_isField_39 : decode cX12_isField 39 = .ok (.if_icmp .ne 7, 3) := by decide +kernel
theorem dX12_isField_42 : decode cX12_isField 42 = .ok (.iconst 1, 1) := by decide +kernel
theorem dX12_isField_43 : decode cX12_isField 43 = .ok (.goto 4, 3) := by decide +kernel
theorem dX12_isField_46 : decode cX12_isField 46 = .ok (.iconst 0, 1) := by decide +kernel
theorem dX12_isField_47 : decode cX12_isField 47 = .ok (.ireturn, 1) := by decide +kernel
theorem dX12_readsAtom_0 : decode cX12_readsAtom 0 = .ok (.aload_n 0, 1) := by decide +kernel
theorem dX12_readsAtom_1 : decode cX12_readsAtom 1 = .ok (.invokevirtual 205, 3) := by decide +kernel
theorem dX12_readsAtom_4 : decode cX12_readsAtom 4 = .ok (.istore_n 1, 1) := by decide +kernel
theorem dX12_readsAtom_5 : decode cX12_readsAtom 5 = .ok (.iload_n 1, 1) := by decide +kernel
theorem dX12_readsAtom_6 : decode cX12_readsAtom 6 = .ok (.bipush 40, 2) := by decide +kernel
theorem dX12_readsAtom_8 : decode cX12_readsAtom 8 = .ok (.if_icmp .eq 9, 3) := by decide +kernel
theorem dX12_readsAtom_11 : decode cX12_readsAtom 11 = .ok (.iload_n 1, 1) := by decide +kernel
theorem dX12_readsAtom_12 : decode cX12_readsAtom 12 = .ok (.bipush 91, 2) := by decide +kernel
theorem dX12_readsAtom_14 : decode cX12_readsAtom 14 = .ok (.if_icmp .ne 97, 3) := by decide +kernel
theorem dX12_readsAtom_17 : decode cX12_readsAtom 17 = .ok (.aload_n 0, 1) := by decide +kernel
theorem dX12_readsAtom_18 : decode cX12_readsAtom 18 = .ok (.getfield 226, 3) := by decide +kernel
theorem dX12_readsAtom_21 : decode cX12_readsAtom 21 = .ok (.bipush 6, 2) := by decide +kernel
theorem dX12_readsAtom_23 : decode cX12_readsAtom 23 = .ok (.if_icmp .ne 5, 3) := by decide +kernel
theorem dX12_readsAtom_26 : decode cX12_readsAtom 26 = .ok (.iconst 0, 1) := by decide +kernel
theorem dX12_readsAtom_27 : decode cX12_readsAtom 27 = .ok (.ireturn, 1) := by decide +kernel
theorem dX12_readsAtom_28 : decode cX12_readsAtom 28 = .ok (.aload_n 0, 1) := by decide +kernel
theorem dX12_readsAtom_29 : decode cX12_readsAtom 29 = .ok (.dup, 1) := by decide +kernel
theorem dX12_readsAtom_30 : decode cX12_readsAtom 30 = .ok (.getfield 196, 3) := by decide +kernel
theorem dX12_readsAtom_33 : decode cX12_readsAtom 33 = .ok (.iconst 1, 1) := by decide +kernel
theorem dX12_readsAtom_34 : decode cX12_readsAtom 34 = .ok (.iadd, 1) := by decide +kernel
theorem dX12_readsAtom_35 : decode cX12_readsAtom 35 = .ok (.putfield 196, 3) := by decide +kernel
theorem dX12_readsAtom_38 : decode cX12_readsAtom 38 = .ok (.aload_n 0, 1) := by decide +kernel
theorem dX12_readsAtom_39 : decode cX12_readsAtom 39 = .ok (.dup, 1) := by decide +kernel
theorem dX12_readsAtom_40 : decode cX12_readsAtom 40 = .ok (.getfield 226, 3) := by decide +kernel
theorem dX12_readsAtom_43 : decode cX12_readsAtom 43 = .ok (.iconst 1, 1) := by decide +kernel
theorem dX12_readsAtom_44 : decode cX12_readsAtom 44 = .ok (.iadd, 1) := by decide +kernel
theorem dX12_readsAtom_45 : decode cX12_readsAtom 45 = .ok (.putfield 226, 3) := by decide +kernel
theorem dX12_readsAtom_48 : decode cX12_readsAtom 48 = .ok (.aload_n 0, 1) := by decide +kernel
theorem dX12_readsAtom_49 : decode cX12_readsAtom 49 = .ok (.invokevirtual 229, 3) := by decide +kernel
theorem dX12_readsAtom_52 : decode cX12_readsAtom 52 = .ok (.ifCond .eq 45, 3) := by decide +kernel
theorem dX12_readsAtom_55 : decode cX12_readsAtom 55 = .ok (.iload_n 1, 1) := by decide +kernel
theorem dX12_readsAtom_56 : decode cX12_readsAtom 56 = .ok (.bipush 91, 2) := by decide +kernel
theorem dX12_readsAtom_58 : decode cX12_readsAtom 58 = .ok (.if_icmp .ne 19, 3) := by decide +kernel
theorem dX12_readsAtom_61 : decode cX12_readsAtom 61 = .ok (.aload_n 0, 1) := by decide +kernel
theorem dX12_readsAtom_62 : decode cX12_readsAtom 62 = .ok (.bipush 44, 2) := by decide +kernel
theorem dX12_readsAtom_64 : decode cX12_readsAtom 64 = .ok (.invokevirtual 220, 3) := by decide +kernel
theorem dX12_readsAtom_67 : decode cX12_readsAtom 67 = .ok (.ifCond .eq 30, 3) := by decide +kernel
theorem dX12_readsAtom_70 : decode cX12_readsAtom 70 = .ok (.aload_n 0, 1) := by decide +kernel
theorem dX12_readsAtom_71 : decode cX12_readsAtom 71 = .ok (.invokevirtual 229, 3) := by decide +kernel
theorem dX12_readsAtom_74 : decode cX12_readsAtom 74 = .ok (.ifCond .eq 23, 3) := by decide +kernel
theorem dX12_readsAtom_77 : decode cX12_readsAtom 77 = .ok (.aload_n 0, 1) := by decide +kernel
theorem dX12_readsAtom_78 : decode cX12_readsAtom 78 = .ok (.iload_n 1, 1) := by decide +kernel
theorem dX12_readsAtom_79 : decode cX12_readsAtom 79 = .ok (.bipush 91, 2) := by decide +kernel
theorem dX12_readsAtom_81 : decode cX12_readsAtom 81 = .ok (.if_icmp .ne 8, 3) := by decide +kernel
theorem dX12_readsAtom_84 : decode cX12_readsAtom 84 = .ok (.bipush 93, 2) := by decide +kernel
theorem dX12_readsAtom_86 : decode cX12_readsAtom 86 = .ok (.goto 5, 3) := by decide +kernel
theorem dX12_readsAtom_89 : decode cX12_readsAtom 89 = .ok (.bipush 41, 2) := by decide +kernel
theorem dX12_readsAtom_91 : decode cX12_readsAtom 91 = .ok (.invokevirtual 220, 3) := by decide +kernel
theorem dX12_readsAtom_94 : decode cX12_readsAtom 94 = .ok (.ifCond .ne 5, 3) := by decide +kernel
theorem dX12_readsAtom_97 : decode cX12_readsAtom 97 = .ok (.iconst 0, 1) := by decide +kernel
theorem dX12_readsAtom_98 : decode cX12_readsAtom 98 = .ok (.ireturn, 1) := by decide +kernel
theorem dX12_readsAtom_99 : decode cX12_readsAtom 99 = .ok (.aload_n 0, 1) := by decide +kernel
theorem dX12_readsAtom_100 : decode cX12_readsAtom 100 = .ok (.dup, 1) := by decide +kernel
theorem dX12_readsAtom_101 : decode cX12_readsAtom 101 = .ok (.getfield 226, 3) := by decide +kernel
theorem dX12_readsAtom_104 : decode cX12_readsAtom 104 = .ok (.iconst 1, 1) := by decide +kernel
theorem dX12_readsAtom_105 : decode cX12_readsAtom 105 = .ok (.isub, 1) := by decide +kernel
theorem dX12_readsAtom_106 : decode cX12_readsAtom 106 = .ok (.putfield 226, 3) := by decide +kernel
theorem dX12_readsAtom_109 : decode cX12_readsAtom 109 = .ok (.iconst 1, 1) := by decide +kernel
theorem dX12_readsAtom_110 : decode cX12_readsAtom 110 = .ok (.ireturn, 1) := by decide +kernel
theorem dX12_readsAtom_111 : decode cX12_readsAtom 111 = .ok (.iload_n 1, 1) := by decide +kernel
theorem dX12_readsAtom_112 : decode cX12_readsAtom 112 = .ok (.invokestatic 232, 3) := by decide +kernel
theorem dX12_readsAtom_115 : decode cX12_readsAtom 115 = .ok (.ifCond .eq 15, 3) := by decide +kernel
theorem dX12_readsAtom_118 : decode cX12_readsAtom 118 = .ok (.aload_n 0, 1) := by decide +kernel
theorem dX12_readsAtom_119 : decode cX12_readsAtom 119 = .ok (.dup, 1) := by decide +kernel
theorem dX12_readsAtom_120 : decode cX12_readsAtom 120 = .ok (.getfield 196, 3) := by decide +kernel
theorem dX12_readsAtom_123 : decode cX12_readsAtom 123 = .ok (.iconst 1, 1) := by decide +kernel
theorem dX12_readsAtom_124 : decode cX12_readsAtom 124 = .ok (.iadd, 1) := by decide +kernel
theorem dX12_readsAtom_125 : decode cX12_readsAtom 125 = .ok (.putfield 196, 3) := by decide +kernel
theorem dX12_readsAtom_128 : decode cX12_readsAtom 128 = .ok (.iconst 1, 1) := by decide +kernel
theorem dX12_readsAtom_129 : decode cX12_readsAtom 129 = .ok (.ireturn, 1) := by decide +kernel
theorem dX12_readsAtom_130 : decode cX12_readsAtom 130 = .ok (.aload_n 0, 1) := by decide +kernel
theorem dX12_readsAtom_131 : decode cX12_readsAtom 131 = .ok (.invokevirtual 235, 3) := by decide +kernel
theorem dX12_readsAtom_134 : decode cX12_readsAtom 134 = .ok (.ireturn, 1) := by decide +kernel
theorem dX12_faultIn_0 : decode cX12_faultIn 0 = .ok (.aload_n 0, 1) := by decide +kernel
theorem dX12_faultIn_1 : decode cX12_faultIn 1 = .ok (.aload_n 0, 1) := by decide +kernel
theorem dX12_faultIn_2 : decode cX12_faultIn 2 = .ok (.getfield 32, 3) := by decide +kernel
theorem dX12_faultIn_5 : decode cX12_faultIn 5 = .ok (.putfield 47, 3) := by decide +kernel
theorem dX12_faultIn_8 : decode cX12_faultIn 8 = .ok (.aload_n 0, 1) := by decide +kernel
theorem dX12_faultIn_9 : decode cX12_faultIn 9 = .ok (.bipush 100, 2) := by decide +kernel
theorem dX12_faultIn_11 : decode cX12_faultIn 11 = .ok (.iload_n 1, 1) := by decide +kernel
theorem dX12_faultIn_12 : decode cX12_faultIn 12 = .ok (.imul, 1) := by decide +kernel
theorem dX12_faultIn_13 : decode cX12_faultIn 13 = .ok (.putfield 202, 3) := by decide +kernel
theorem dX12_faultIn_16 : decode cX12_faultIn 16 = .ok (.aload_n 0, 1) := by decide +kernel
theorem dX12_faultIn_17 : decode cX12_faultIn 17 = .ok (.aload_n 0, 1) := by decide +kernel
theorem dX12_faultIn_18 : decode cX12_faultIn 18 = .ok (.getfield 29, 3) := by decide +kernel
theorem dX12_faultIn_21 : decode cX12_faultIn 21 = .ok (.iload_n 1, 1) := by decide +kernel
theorem dX12_faultIn_22 : decode cX12_faultIn 22 = .ok (.iaload, 1) := by decide +kernel
theorem dX12_faultIn_23 : decode cX12_faultIn 23 = .ok (.putfield 199, 3) := by decide +kernel
theorem dX12_faultIn_26 : decode cX12_faultIn 26 = .ok (.aload_n 0, 1) := by decide +kernel
theorem dX12_faultIn_27 : decode cX12_faultIn 27 = .ok (.iconst 0, 1) := by decide +kernel
theorem dX12_faultIn_28 : decode cX12_faultIn 28 = .ok (.putfield 196, 3) := by decide +kernel
theorem dX12_faultIn_31 : decode cX12_faultIn 31 = .ok (.aload_n 0, 1) := by decide +kernel
theorem dX12_faultIn_32 : decode cX12_faultIn 32 = .ok (.iconst 0, 1) := by decide +kernel
theorem dX12_faultIn_33 : decode cX12_faultIn 33 = .ok (.putfield 226, 3) := by decide +kernel
theorem dX12_faultIn_36 : decode cX12_faultIn 36 = .ok (.aload_n 0, 1) := by decide +kernel
theorem dX12_faultIn_37 : decode cX12_faultIn 37 = .ok (.invokevirtual 229, 3) := by decide +kernel
theorem dX12_faultIn_40 : decode cX12_faultIn 40 = .ok (.ifCond .eq 19, 3) := by decide +kernel
theorem dX12_faultIn_43 : decode cX12_faultIn 43 = .ok (.aload_n 0, 1) := by decide +kernel
theorem dX12_faultIn_44 : decode cX12_faultIn 44 = .ok (.getfield 196, 3) := by decide +kernel
theorem dX12_faultIn_47 : decode cX12_faultIn 47 = .ok (.aload_n 0, 1) := by decide +kernel
theorem dX12_faultIn_48 : decode cX12_faultIn 48 = .ok (.getfield 199, 3) := by decide +kernel
theorem dX12_faultIn_51 : decode cX12_faultIn 51 = .ok (.if_icmp .ne 8, 3) := by decide +kernel
theorem dX12_faultIn_54 : decode cX12_faultIn 54 = .ok (.bipush (-4), 2) := by decide +kernel
theorem dX12_faultIn_56 : decode cX12_faultIn 56 = .ok (.goto 7, 3) := by decide +kernel
theorem dX12_faultIn_59 : decode cX12_faultIn 59 = .ok (.aload_n 0, 1) := by decide +kernel
theorem dX12_faultIn_60 : decode cX12_faultIn 60 = .ok (.getfield 196, 3) := by decide +kernel
theorem dX12_faultIn_63 : decode cX12_faultIn 63 = .ok (.ireturn, 1) := by decide +kernel
theorem dX12_fault_0 : decode cX12_fault 0 = .ok (.aload_n 0, 1) := by decide +kernel
theorem dX12_fault_1 : decode cX12_fault 1 = .ok (.iload_n 1, 1) := by decide +kernel
theorem dX12_fault_2 : decode cX12_fault 2 = .ok (.iconst 0, 1) := by decide +kernel
theorem dX12_fault_3 : decode cX12_fault 3 = .ok (.invokevirtual 145, 3) := by decide +kernel
theorem dX12_fault_6 : decode cX12_fault 6 = .ok (.istore_n 2, 1) := by decide +kernel
theorem dX12_fault_7 : decode cX12_fault 7 = .ok (.iload_n 2, 1) := by decide +kernel
theorem dX12_fault_8 : decode cX12_fault 8 = .ok (.ifCond .eq 7, 3) := by decide +kernel
theorem dX12_fault_11 : decode cX12_fault 11 = .ok (.iload_n 2, 1) := by decide +kernel
theorem dX12_fault_12 : decode cX12_fault 12 = .ok (.goto 8, 3) := by decide +kernel
theorem dX12_fault_15 : decode cX12_fault 15 = .ok (.aload_n 0, 1) := by decide +kernel
theorem dX12_fault_16 : decode cX12_fault 16 = .ok (.iload_n 1, 1) := by decide +kernel
theorem dX12_fault_17 : decode cX12_fault 17 = .ok (.invokevirtual 238, 3) := by decide +kernel
theorem dX12_fault_20 : decode cX12_fault 20 = .ok (.ireturn, 1) := by decide +kernel
theorem dX12_rule_0 : decode cX12_rule 0 = .ok (.aload_n 0, 1) := by decide +kernel
theorem dX12_rule_1 : decode cX12_rule 1 = .ok (.iload_n 1, 1) := by decide +kernel
theorem dX12_rule_2 : decode cX12_rule 2 = .ok (.iconst 0, 1) := by decide +kernel
theorem dX12_rule_3 : decode cX12_rule 3 = .ok (.invokevirtual 145, 3) := by decide +kernel
theorem dX12_rule_6 : decode cX12_rule 6 = .ok (.istore_n 2, 1) := by decide +kernel
theorem dX12_rule_7 : decode cX12_rule 7 = .ok (.iload_n 2, 1) := by decide +kernel
theorem dX12_rule_8 : decode cX12_rule 8 = .ok (.ifCond .eq 5, 3) := by decide +kernel
theorem dX12_rule_11 : decode cX12_rule 11 = .ok (.iload_n 2, 1) := by decide +kernel
theorem dX12_rule_12 : decode cX12_rule 12 = .ok (.ireturn, 1) := by decide +kernel
theorem dX12_rule_13 : decode cX12_rule 13 = .ok (.aload_n 0, 1) := by decide +kernel
theorem dX12_rule_14 : decode cX12_rule 14 = .ok (.iload_n 1, 1) := by decide +kernel
theorem dX12_rule_15 : decode cX12_rule 15 = .ok (.invokevirtual 238, 3) := by decide +kernel
theorem dX12_rule_18 : decode cX12_rule 18 = .ok (.istore_n 3, 1) := by decide +kernel
theorem dX12_rule_19 : decode cX12_rule 19 = .ok (.iload_n 3, 1) := by decide +kernel
theorem dX12_rule_20 : decode cX12_rule 20 = .ok (.bipush (-4), 2) := by decide +kernel
theorem dX12_rule_22 : decode cX12_rule 22 = .ok (.if_icmp .eq 8, 3) := by decide +kernel
theorem dX12_rule_25 : decode cX12_rule 25 = .ok (.bipush (-100), 2) := by decide +kernel
theorem dX12_rule_27 : decode cX12_rule 27 = .ok (.iload_n 3, 1) := by decide +kernel
theorem dX12_rule_28 : decode cX12_rule 28 = .ok (.isub, 1) := by decide +kernel
theorem dX12_rule_29 : decode cX12_rule 29 = .ok (.ireturn, 1) := by decide +kernel
theorem dX12_rule_30 : decode cX12_rule 30 = .ok (.aload_n 0, 1) := by decide +kernel
theorem dX12_rule_31 : decode cX12_rule 31 = .ok (.getfield 9, 3) := by decide +kernel
theorem dX12_rule_34 : decode cX12_rule 34 = .ok (.iconst 5, 1) := by decide +kernel
theorem dX12_rule_35 : decode cX12_rule 35 = .ok (.aload_n 0, 1) := by decide +kernel
theorem dX12_rule_36 : decode cX12_rule 36 = .ok (.getfield 29, 3) := by decide +kernel
theorem dX12_rule_39 : decode cX12_rule 39 = .ok (.iload_n 1, 1) := by decide +kernel
theorem dX12_rule_40 : decode cX12_rule 40 = .ok (.iaload, 1) := by decide +kernel
theorem dX12_rule_41 : decode cX12_rule 41 = .ok (.iastore, 1) := by decide +kernel
theorem dX12_rule_42 : decode cX12_rule 42 = .ok (.iconst 0, 1) := by decide +kernel
theorem dX12_rule_43 : decode cX12_rule 43 = .ok (.istore 4, 2) := by decide +kernel
theorem dX12_rule_45 : decode cX12_rule 45 = .ok (.iload 4, 2) := by decide +kernel
theorem dX12_rule_47 : decode cX12_rule 47 = .ok (.aload_n 0, 1) := by decide +kernel
theorem dX12_rule_48 : decode cX12_rule 48 = .ok (.getfield 29, 3) := by decide +kernel
theorem dX12_rule_51 : decode cX12_rule 51 = .ok (.iload_n 1, 1) := by decide +kernel
theorem dX12_rule_52 : decode cX12_rule 52 = .ok (.iaload, 1) := by decide +kernel
theorem dX12_rule_53 : decode cX12_rule 53 = .ok (.if_icmp .ge 32, 3) := by decide +kernel
theorem dX12_rule_56 : decode cX12_rule 56 = .ok (.aload_n 0, 1) := by decide +kernel
theorem dX12_rule_57 : decode cX12_rule 57 = .ok (.getfield 9, 3) := by decide +kernel
theorem dX12_rule_60 : decode cX12_rule 60 = .ok (.sipush 334, 3) := by decide +kernel
theorem dX12_rule_63 : decode cX12_rule 63 = .ok (.iload 4, 2) := by decide +kernel
theorem dX12_rule_65 : decode cX12_rule 65 = .ok (.iadd, 1) := by decide +kernel
theorem dX12_rule_66 : decode cX12_rule 66 = .ok (.aload_n 0, 1) := by decide +kernel
theorem dX12_rule_67 : decode cX12_rule 67 = .ok (.getfield 32, 3) := by decide +kernel
theorem dX12_rule_70 : decode cX12_rule 70 = .ok (.bipush 100, 2) := by decide +kernel
theorem dX12_rule_72 : decode cX12_rule 72 = .ok (.iload_n 1, 1) := by decide +kernel
theorem dX12_rule_73 : decode cX12_rule 73 = .ok (.imul, 1) := by decide +kernel
theorem dX12_rule_74 : decode cX12_rule 74 = .ok (.iload 4, 2) := by decide +kernel
theorem dX12_rule_76 : decode cX12_rule 76 = .ok (.iadd, 1) := by decide +kernel
theorem dX12_rule_77 : decode cX12_rule 77 = .ok (.iaload, 1) := by decide +kernel
theorem dX12_rule_78 : decode cX12_rule 78 = .ok (.iastore, 1) := by decide +kernel
theorem dX12_rule_79 : decode cX12_rule 79 = .ok (.iinc 4 1, 3) := by decide +kernel
theorem dX12_rule_82 : decode cX12_rule 82 = .ok (.goto (-37), 3) := by decide +kernel
theorem dX12_rule_85 : decode cX12_rule 85 = .ok (.iconst 1, 1) := by decide +kernel
theorem dX12_rule_86 : decode cX12_rule 86 = .ok (.ireturn, 1) := by decide +kernel
theorem dX12_sum_0 : decode cX12_sum 0 = .ok (.aload_n 0, 1) := by decide +kernel
theorem dX12_sum_1 : decode cX12_sum 1 = .ok (.invokevirtual 241, 3) := by decide +kernel
theorem dX12_sum_4 : decode cX12_sum 4 = .ok (.istore_n 1, 1) := by decide +kernel
theorem dX12_sum_5 : decode cX12_sum 5 = .ok (.aload_n 0, 1) := by decide +kernel
theorem dX12_sum_6 : decode cX12_sum 6 = .ok (.invokevirtual 205, 3) := by decide +kernel
theorem dX12_sum_9 : decode cX12_sum 9 = .ok (.bipush 43, 2) := by decide +kernel
theorem dX12_sum_11 : decode cX12_sum 11 = .ok (.if_icmp .eq 12, 3) := by decide +kernel
theorem dX12_sum_14 : decode cX12_sum 14 = .ok (.aload_n 0, 1) := by decide +kernel
theorem dX12_sum_15 : decode cX12_sum 15 = .ok (.invokevirtual 205, 3) := by decide +kernel
theorem dX12_sum_18 : decode cX12_sum 18 = .ok (.bipush 45, 2) := by decide +kernel
theorem dX12_sum_20 : decode cX12_sum 20 = .ok (.if_icmp .ne 42, 3) := by decide +kernel
theorem dX12_sum_23 : decode cX12_sum 23 = .ok (.aload_n 0, 1) := by decide +kernel
theorem dX12_sum_24 : decode cX12_sum 24 = .ok (.invokevirtual 205, 3) := by decide +kernel
theorem dX12_sum_27 : decode cX12_sum 27 = .ok (.istore_n 2, 1) := by decide +kernel
theorem dX12_sum_28 : decode cX12_sum 28 = .ok (.aload_n 0, 1) := by decide +kernel
theorem dX12_sum_29 : decode cX12_sum 29 = .ok (.dup, 1) := by decide +kernel
theorem dX12_sum_30 : decode cX12_sum 30 = .ok (.getfield 196, 3) := by decide +kernel
theorem dX12_sum_33 : decode cX12_sum 33 = .ok (.iconst 1, 1) := by decide +kernel
theorem dX12_sum_34 : decode cX12_sum 34 = .ok (.iadd, 1) := by decide +kernel
theorem dX12_sum_35 : decode cX12_sum 35 = .ok (.putfield 196, 3) := by decide +kernel
theorem dX12_sum_38 : decode cX12_sum 38 = .ok (.aload_n 0, 1) := by decide +kernel
theorem dX12_sum_39 : decode cX12_sum 39 = .ok (.invokevirtual 241, 3) := by decide +kernel
theorem dX12_sum_42 : decode cX12_sum 42 = .ok (.istore_n 3, 1) := by decide +kernel
theorem dX12_sum_43 : decode cX12_sum 43 = .ok (.iload_n 2, 1) := by decide +kernel
theorem dX12_sum_44 : decode cX12_sum 44 = .ok (.bipush 43, 2) := by decide +kernel
theorem dX12_sum_46 : decode cX12_sum 46 = .ok (.if_icmp .ne 9, 3) := by decide +kernel
theorem dX12_sum_49 : decode cX12_sum 49 = .ok (.iload_n 1, 1) := by decide +kernel
theorem dX12_sum_50 : decode cX12_sum 50 = .ok (.iload_n 3, 1) := by decide +kernel
theorem dX12_sum_51 : decode cX12_sum 51 = .ok (.iadd, 1) := by decide +kernel
theorem dX12_sum_52 : decode cX12_sum 52 = .ok (.goto 6, 3) := by decide +kernel
theorem dX12_sum_55 : decode cX12_sum 55 = .ok (.iload_n 1, 1) := by decide +kernel
theorem dX12_sum_56 : decode cX12_sum 56 = .ok (.iload_n 3, 1) := by decide +kernel
theorem dX12_sum_57 : decode cX12_sum 57 = .ok (.isub, 1) := by decide +kernel
theorem dX12_sum_58 : decode cX12_sum 58 = .ok (.istore_n 1, 1) := by decide +kernel
theorem dX12_sum_59 : decode cX12_sum 59 = .ok (.goto (-54), 3) := by decide +kernel
theorem dX12_sum_62 : decode cX12_sum 62 = .ok (.iload_n 1, 1) := by decide +kernel
theorem dX12_sum_63 : decode cX12_sum 63 = .ok (.ireturn, 1) := by decide +kernel
theorem dX12_product_0 : decode cX12_product 0 = .ok (.aload_n 0, 1) := by decide +kernel
theorem dX12_product_1 : decode cX12_product 1 = .ok (.invokevirtual 244, 3) := by decide +kernel
theorem dX12_product_4 : decode cX12_product 4 = .ok (.istore_n 1, 1) := by decide +kernel
theorem dX12_product_5 : decode cX12_product 5 = .ok (.aload_n 0, 1) := by decide +kernel
theorem dX12_product_6 : decode cX12_product 6 = .ok (.invokevirtual 205, 3) := by decide +kernel
theorem dX12_product_9 : decode cX12_product 9 = .ok (.bipush 42, 2) := by decide +kernel
theorem dX12_product_11 : decode cX12_product 11 = .ok (.if_icmp .eq 12, 3) := by decide +kernel
theorem dX12_product_14 : decode cX12_product 14 = .ok (.aload_n 0, 1) := by decide +kernel
theorem dX12_product_15 : decode cX12_product 15 = .ok (.invokevirtual 205, 3) := by decide +kernel
theorem dX12_product_18 : decode cX12_product 18 = .ok (.bipush 47, 2) := by decide +kernel
theorem dX12_product_20 : decode cX12_product 20 = .ok (.if_icmp .ne 50, 3) := by decide +kernel
theorem dX12_product_23 : decode cX12_product 23 = .ok (.aload_n 0, 1) := by decide +kernel
theorem dX12_product_24 : decode cX12_product 24 = .ok (.invokevirtual 205, 3) := by decide +kernel
theorem dX12_product_27 : decode cX12_product 27 = .ok (.istore_n 2, 1) := by decide +kernel
theorem dX12_product_28 : decode cX12_product 28 = .ok (.aload_n 0, 1) := by decide +kernel
theorem dX12_product_29 : decode cX12_product 29 = .ok (.dup, 1) := by decide +kernel
theorem dX12_product_30 : decode cX12_product 30 = .ok (.getfield 196, 3) := by decide +kernel
theorem dX12_product_33 : decode cX12_product 33 = .ok (.iconst 1, 1) := by decide +kernel
theorem dX12_product_34 : decode cX12_product 34 = .ok (.iadd, 1) := by decide +kernel
theorem dX12_product_35 : decode cX12_product 35 = .ok (.putfield 196, 3) := by decide +kernel
theorem dX12_product_38 : decode cX12_product 38 = .ok (.aload_n 0, 1) := by decide +kernel
theorem dX12_product_39 : decode cX12_product 39 = .ok (.invokevirtual 244, 3) := by decide +kernel
theorem dX12_product_42 : decode cX12_product 42 = .ok (.istore_n 3, 1) := by decide +kernel
theorem dX12_product_43 : decode cX12_product 43 = .ok (.iload_n 2, 1) := by decide +kernel
theorem dX12_product_44 : decode cX12_product 44 = .ok (.bipush 42, 2) := by decide +kernel
theorem dX12_product_46 : decode cX12_product 46 = .ok (.if_icmp .ne 9, 3) := by decide +kernel
theorem dX12_product_49 : decode cX12_product 49 = .ok (.iload_n 1, 1) := by decide +kernel
theorem dX12_product_50 : decode cX12_product 50 = .ok (.iload_n 3, 1) := by decide +kernel
theorem dX12_product_51 : decode cX12_product 51 = .ok (.imul, 1) := by decide +kernel
theorem dX12_product_52 : decode cX12_product 52 = .ok (.goto 14, 3) := by decide +kernel
theorem dX12_product_55 : decode cX12_product 55 = .ok (.iload_n 3, 1) := by decide +kernel
theorem dX12_product_56 : decode cX12_product 56 = .ok (.ifCond .ne 7, 3) := by decide +kernel
theorem dX12_product_59 : decode cX12_product 59 = .ok (.iconst 0, 1) := by decide +kernel
theorem dX12_product_60 : decode cX12_product 60 = .ok (.goto 6, 3) := by decide +kernel
theorem dX12_product_63 : decode cX12_product 63 = .ok (.iload_n 1, 1) := by decide +kernel
theorem dX12_product_64 : decode cX12_product 64 = .ok (.iload_n 3, 1) := by decide +kernel
theorem dX12_product_65 : decode cX12_product 65 = .ok (.idiv, 1) := by decide +kernel
theorem dX12_product_66 : decode cX12_product 66 = .ok (.istore_n 1, 1) := by decide +kernel
theorem dX12_product_67 : decode cX12_product 67 = .ok (.goto (-62), 3) := by decide +kernel
theorem dX12_product_70 : decode cX12_product 70 = .ok (.iload_n 1, 1) := by decide +kernel
theorem dX12_product_71 : decode cX12_product 71 = .ok (.ireturn, 1) := by decide +kernel
theorem dX12_atom_0 : decode cX12_atom 0 = .ok (.aload_n 0, 1) := by decide +kernel
theorem dX12_atom_1 : decode cX12_atom 1 = .ok (.invokevirtual 205, 3) := by decide +kernel
theorem dX12_atom_4 : decode cX12_atom 4 = .ok (.istore_n 1, 1) := by decide +kernel
theorem dX12_atom_5 : decode cX12_atom 5 = .ok (.iload_n 1, 1) := by decide +kernel
theorem dX12_atom_6 : decode cX12_atom 6 = .ok (.i2l, 1) := by decide +kernel
theorem dX12_atom_7 : decode cX12_atom 7 = .ok (.ldc2_w 209, 3) := by decide +kernel
theorem dX12_atom_10 : decode cX12_atom 10 = .ok (.ldc2_w 211, 3) := by decide +kernel
theorem dX12_atom_13 : decode cX12_atom 13 = .ok (.invokestatic 57, 3) := by decide +kernel
theorem dX12_atom_16 : decode cX12_atom 16 = .ok (.ifCond .eq 13, 3) := by decide +kernel
theorem dX12_atom_19 : decode cX12_atom 19 = .ok (.aload_n 0, 1) := by decide +kernel
theorem dX12_atom_20 : decode cX12_atom 20 = .ok (.invokevirtual 235, 3) := by decide +kernel
theorem dX12_atom_23 : decode cX12_atom 23 = .ok (.istore_n 2, 1) := by decide +kernel
theorem dX12_atom_24 : decode cX12_atom 24 = .ok (.aload_n 0, 1) := by decide +kernel
theorem dX12_atom_25 : decode cX12_atom 25 = .ok (.getfield 213, 3) := by decide +kernel
theorem dX12_atom_28 : decode cX12_atom 28 = .ok (.ireturn, 1) := by decide +kernel
theorem dX12_atom_29 : decode cX12_atom 29 = .ok (.aload_n 0, 1) := by decide +kernel
theorem dX12_atom_30 : decode cX12_atom 30 = .ok (.dup, 1) := by decide +kernel
theorem dX12_atom_31 : decode cX12_atom 31 = .ok (.getfield 196, 3) := by decide +kernel
theorem dX12_atom_34 : decode cX12_atom 34 = .ok (.iconst 1, 1) := by decide +kernel
theorem dX12_atom_35 : decode cX12_atom 35 = .ok (.iadd, 1) := by decide +kernel
theorem dX12_atom_36 : decode cX12_atom 36 = .ok (.putfield 196, 3) := by decide +kernel
theorem dX12_atom_39 : decode cX12_atom 39 = .ok (.iload_n 1, 1) := by decide +kernel
theorem dX12_atom_40 : decode cX12_atom 40 = .ok (.bipush 40, 2) := by decide +kernel
theorem dX12_atom_42 : decode cX12_atom 42 = .ok (.if_icmp .eq 9, 3) := by decide +kernel
theorem dX12_atom_45 : decode cX12_atom 45 = .ok (.iload_n 1, 1) := by decide +kernel
theorem dX12_atom_46 : decode cX12_atom 46 = .ok (.bipush 91, 2) := by decide +kernel
theorem dX12_atom_48 : decode cX12_atom 48 = .ok (.if_icmp .ne 52, 3) := by decide +kernel
theorem dX12_atom_51 : decode cX12_atom 51 = .ok (.aload_n 0, 1) := by decide +kernel
theorem dX12_atom_52 : decode cX12_atom 52 = .ok (.invokevirtual 247, 3) := by decide +kernel
theorem dX12_atom_55 : decode cX12_atom 55 = .ok (.istore_n 2, 1) := by decide +kernel
theorem dX12_atom_56 : decode cX12_atom 56 = .ok (.aload_n 0, 1) := by decide +kernel
theorem dX12_atom_57 : decode cX12_atom 57 = .ok (.dup, 1) := by decide +kernel
theorem dX12_atom_58 : decode cX12_atom 58 = .ok (.getfield 196, 3) := by decide +kernel
theorem dX12_atom_61 : decode cX12_atom 61 = .ok (.iconst 1, 1) := by decide +kernel
theorem dX12_atom_62 : decode cX12_atom 62 = .ok (.iadd, 1) := by decide +kernel
theorem dX12_atom_63 : decode cX12_atom 63 = .ok (.putfield 196, 3) := by decide +kernel
theorem dX12_atom_66 : decode cX12_atom 66 = .ok (.iload_n 1, 1) := by decide +kernel
theorem dX12_atom_67 : decode cX12_atom 67 = .ok (.bipush 40, 2) := by decide +kernel
theorem dX12_atom_69 : decode cX12_atom 69 = .ok (.if_icmp .ne 5, 3) := by decide +kernel
theorem dX12_atom_72 : decode cX12_atom 72 = .ok (.iload_n 2, 1) := by decide +kernel
theorem dX12_atom_73 : decode cX12_atom 73 = .ok (.ireturn, 1) := by decide +kernel
theorem dX12_atom_74 : decode cX12_atom 74 = .ok (.aload_n 0, 1) := by decide +kernel
theorem dX12_atom_75 : decode cX12_atom 75 = .ok (.invokevirtual 247, 3) := by decide +kernel
theorem dX12_atom_78 : decode cX12_atom 78 = .ok (.istore_n 3, 1) := by decide +kernel
theorem dX12_atom_79 : decode cX12_atom 79 = .ok (.aload_n 0, 1) := by decide +kernel
theorem dX12_atom_80 : decode cX12_atom 80 = .ok (.dup, 1) := by decide +kernel
theorem dX12_atom_81 : decode cX12_atom 81 = .ok (.getfield 196, 3) := by decide +kernel
theorem dX12_atom_84 : decode cX12_atom 84 = .ok (.iconst 1, 1) := by decide +kernel
theorem dX12_atom_85 : decode cX12_atom 85 = .ok (.iadd, 1) := by decide +kernel
theorem dX12_atom_86 : decode cX12_atom 86 = .ok (.putfield 196, 3) := by decide +kernel
theorem dX12_atom_89 : decode cX12_atom 89 = .ok (.iload_n 2, 1) := by decide +kernel
theorem dX12_atom_90 : decode cX12_atom 90 = .ok (.iload_n 3, 1) := by decide +kernel
theorem dX12_atom_91 : decode cX12_atom 91 = .ok (.if_icmp .ge 7, 3) := by decide +kernel
theorem dX12_atom_94 : decode cX12_atom 94 = .ok (.iload_n 2, 1) := by decide +kernel
theorem dX12_atom_95 : decode cX12_atom 95 = .ok (.goto 4, 3) := by decide +kernel
theorem dX12_atom_98 : decode cX12_atom 98 = .ok (.iload_n 3, 1) := by decide +kernel
theorem dX12_atom_99 : decode cX12_atom 99 = .ok (.ireturn, 1) := by decide +kernel
theorem dX12_atom_100 : decode cX12_atom 100 = .ok (.iload_n 1, 1) := by decide +kernel
theorem dX12_atom_101 : decode cX12_atom 101 = .ok (.tableswitch 150 100 119 #[143, 150, 150, 95, 124, 150, 150, 150, 150, 150, 150, 150, 150, 150, 150, 104, 114, 150, 150, 134], 95) := by decide +kernel
theorem dX12_atom_196 : decode cX12_atom 196 = .ok (.aload_n 0, 1) := by decide +kernel
theorem dX12_atom_197 : decode cX12_atom 197 = .ok (.aload_n 0, 1) := by decide +kernel
theorem dX12_atom_198 : decode cX12_atom 198 = .ok (.getfield 250, 3) := by decide +kernel
theorem dX12_atom_201 : decode cX12_atom 201 = .ok (.invokevirtual 93, 3) := by decide +kernel
theorem dX12_atom_204 : decode cX12_atom 204 = .ok (.ireturn, 1) := by decide +kernel
theorem dX12_atom_205 : decode cX12_atom 205 = .ok (.aload_n 0, 1) := by decide +kernel
theorem dX12_atom_206 : decode cX12_atom 206 = .ok (.aload_n 0, 1) := by decide +kernel
theorem dX12_atom_207 : decode cX12_atom 207 = .ok (.getfield 250, 3) := by decide +kernel
theorem dX12_atom_210 : decode cX12_atom 210 = .ok (.iconst 1, 1) := by decide +kernel
theorem dX12_atom_211 : decode cX12_atom 211 = .ok (.invokevirtual 81, 3) := by decide +kernel
theorem dX12_atom_214 : decode cX12_atom 214 = .ok (.ireturn, 1) := by decide +kernel
theorem dX12_atom_215 : decode cX12_atom 215 = .ok (.aload_n 0, 1) := by decide +kernel
theorem dX12_atom_216 : decode cX12_atom 216 = .ok (.aload_n 0, 1) := by decide +kernel
theorem dX12_atom_217 : decode cX12_atom 217 = .ok (.getfield 250, 3) := by decide +kernel
theorem dX12_atom_220 : decode cX12_atom 220 = .ok (.iconst 3, 1) := by decide +kernel
theorem dX12_atom_221 : decode cX12_atom 221 = .ok (.invokevirtual 81, 3) := by decide +kernel
theorem dX12_atom_224 : decode cX12_atom 224 = .ok (.ireturn, 1) := by decide +kernel
theorem dX12_atom_225 : decode cX12_atom 225 = .ok (.aload_n 0, 1) := by decide +kernel
theorem dX12_atom_226 : decode cX12_atom 226 = .ok (.aload_n 0, 1) := by decide +kernel
theorem dX12_atom_227 : decode cX12_atom 227 = .ok (.getfield 250, 3) := by decide +kernel
theorem dX12_atom_230 : decode cX12_atom 230 = .ok (.iconst 4, 1) := by decide +kernel
theorem dX12_atom_231 : decode cX12_atom 231 = .ok (.invokevirtual 81, 3) := by decide +kernel
theorem dX12_atom_234 : decode cX12_atom 234 = .ok (.ireturn, 1) := by decide +kernel
theorem dX12_atom_235 : decode cX12_atom 235 = .ok (.aload_n 0, 1) := by decide +kernel
theorem dX12_atom_236 : decode cX12_atom 236 = .ok (.aload_n 0, 1) := by decide +kernel
theorem dX12_atom_237 : decode cX12_atom 237 = .ok (.getfield 250, 3) := by decide +kernel
theorem dX12_atom_240 : decode cX12_atom 240 = .ok (.invokevirtual 97, 3) := by decide +kernel
theorem dX12_atom_243 : decode cX12_atom 243 = .ok (.ireturn, 1) := by decide +kernel
theorem dX12_atom_244 : decode cX12_atom 244 = .ok (.aload_n 0, 1) := by decide +kernel
theorem dX12_atom_245 : decode cX12_atom 245 = .ok (.getfield 9, 3) := by decide +kernel
theorem dX12_atom_248 : decode cX12_atom 248 = .ok (.iconst 0, 1) := by decide +kernel
theorem dX12_atom_249 : decode cX12_atom 249 = .ok (.iaload, 1) := by decide +kernel
theorem dX12_atom_250 : decode cX12_atom 250 = .ok (.ireturn, 1) := by decide +kernel
theorem dX12_atom_251 : decode cX12_atom 251 = .ok (.aload_n 0, 1) := by decide +kernel
theorem dX12_atom_252 : decode cX12_atom 252 = .ok (.aload_n 0, 1) := by decide +kernel
theorem dX12_atom_253 : decode cX12_atom 253 = .ok (.getfield 250, 3) := by decide +kernel
theorem dX12_atom_256 : decode cX12_atom 256 = .ok (.iconst 2, 1) := by decide +kernel
theorem dX12_atom_257 : decode cX12_atom 257 = .ok (.invokevirtual 81, 3) := by decide +kernel
theorem dX12_atom_260 : decode cX12_atom 260 = .ok (.ireturn, 1) := by decide +kernel
theorem dX12_rightOf_0 : decode cX12_rightOf 0 = .ok (.aload_n 0, 1) := by decide +kernel
theorem dX12_rightOf_1 : decode cX12_rightOf 1 = .ok (.iload_n 1, 1) := by decide +kernel
theorem dX12_rightOf_2 : decode cX12_rightOf 2 = .ok (.putfield 250, 3) := by decide +kernel
theorem dX12_rightOf_5 : decode cX12_rightOf 5 = .ok (.aload_n 0, 1) := by decide +kernel
theorem dX12_rightOf_6 : decode cX12_rightOf 6 = .ok (.aload_n 0, 1) := by decide +kernel
theorem dX12_rightOf_7 : decode cX12_rightOf 7 = .ok (.getfield 9, 3) := by decide +kernel
theorem dX12_rightOf_10 : decode cX12_rightOf 10 = .ok (.putfield 47, 3) := by decide +kernel
theorem dX12_rightOf_13 : decode cX12_rightOf 13 = .ok (.aload_n 0, 1) := by decide +kernel
theorem dX12_rightOf_14 : decode cX12_rightOf 14 = .ok (.sipush 334, 3) := by decide +kernel
theorem dX12_rightOf_17 : decode cX12_rightOf 17 = .ok (.putfield 202, 3) := by decide +kernel
theorem dX12_rightOf_20 : decode cX12_rightOf 20 = .ok (.aload_n 0, 1) := by decide +kernel
theorem dX12_rightOf_21 : decode cX12_rightOf 21 = .ok (.aload_n 0, 1) := by decide +kernel
theorem dX12_rightOf_22 : decode cX12_rightOf 22 = .ok (.getfield 9, 3) := by decide +kernel
theorem dX12_rightOf_25 : decode cX12_rightOf 25 = .ok (.iconst 5, 1) := by decide +kernel
theorem dX12_rightOf_26 : decode cX12_rightOf 26 = .ok (.iaload, 1) := by decide +kernel
theorem dX12_rightOf_27 : decode cX12_rightOf 27 = .ok (.putfield 199, 3) := by decide +kernel
theorem dX12_rightOf_30 : decode cX12_rightOf 30 = .ok (.aload_n 0, 1) := by decide +kernel
theorem dX12_rightOf_31 : decode cX12_rightOf 31 = .ok (.iconst 0, 1) := by decide +kernel
theorem dX12_rightOf_32 : decode cX12_rightOf 32 = .ok (.putfield 196, 3) := by decide +kernel
theorem dX12_rightOf_35 : decode cX12_rightOf 35 = .ok (.aload_n 0, 1) := by decide +kernel
theorem dX12_rightOf_36 : decode cX12_rightOf 36 = .ok (.invokevirtual 247, 3) := by decide +kernel
theorem dX12_rightOf_39 : decode cX12_rightOf 39 = .ok (.ireturn, 1) := by decide +kernel
theorem dX12_right_0 : decode cX12_right 0 = .ok (.aload_n 0, 1) := by decide +kernel
theorem dX12_right_1 : decode cX12_right 1 = .ok (.iload_n 1, 1) := by decide +kernel
theorem dX12_right_2 : decode cX12_right 2 = .ok (.invokevirtual 61, 3) := by decide +kernel
theorem dX12_right_5 : decode cX12_right 5 = .ok (.ifCond .eq 11, 3) := by decide +kernel
theorem dX12_right_8 : decode cX12_right 8 = .ok (.aload_n 0, 1) := by decide +kernel
theorem dX12_right_9 : decode cX12_right 9 = .ok (.iload_n 1, 1) := by decide +kernel
theorem dX12_right_10 : decode cX12_right 10 = .ok (.invokevirtual 253, 3) := by decide +kernel
theorem dX12_right_13 : decode cX12_right 13 = .ok (.goto 5, 3) := by decide +kernel
theorem dX12_right_16 : decode cX12_right 16 = .ok (.ldc 188, 2) := by decide +kernel
theorem dX12_right_18 : decode cX12_right 18 = .ok (.ireturn, 1) := by decide +kernel
theorem dX12_standard_0 : decode cX12_standard 0 = .ok (.aload_n 0, 1) := by decide +kernel
theorem dX12_standard_1 : decode cX12_standard 1 = .ok (.iload_n 1, 1) := by decide +kernel
theorem dX12_standard_2 : decode cX12_standard 2 = .ok (.invokevirtual 61, 3) := by decide +kernel
theorem dX12_standard_5 : decode cX12_standard 5 = .ok (.ifCond .ne 5, 3) := by decide +kernel
theorem dX12_standard_8 : decode cX12_standard 8 = .ok (.iconst (-1), 1) := by decide +kernel
theorem dX12_standard_9 : decode cX12_standard 9 = .ok (.ireturn, 1) := by decide +kernel
theorem dX12_standard_10 : decode cX12_standard 10 = .ok (.aload_n 0, 1) := by decide +kernel
theorem dX12_standard_11 : decode cX12_standard 11 = .ok (.iconst 3, 1) := by decide +kernel
theorem dX12_standard_12 : decode cX12_standard 12 = .ok (.iload_n 1, 1) := by decide +kernel
theorem dX12_standard_13 : decode cX12_standard 13 = .ok (.iconst 1, 1) := by decide +kernel
theorem dX12_standard_14 : decode cX12_standard 14 = .ok (.iadd, 1) := by decide +kernel
theorem dX12_standard_15 : decode cX12_standard 15 = .ok (.invokevirtual 75, 3) := by decide +kernel
theorem dX12_standard_18 : decode cX12_standard 18 = .ok (.istore_n 2, 1) := by decide +kernel
theorem dX12_standard_19 : decode cX12_standard 19 = .ok (.iload_n 2, 1) := by decide +kernel
theorem dX12_standard_20 : decode cX12_standard 20 = .ok (.ifCond .ne 8, 3) := by decide +kernel
theorem dX12_standard_23 : decode cX12_standard 23 = .ok (.bipush (-4), 2) := by decide +kernel
theorem dX12_standard_25 : decode cX12_standard 25 = .ok (.goto 6, 3) := by decide +kernel
theorem dX12_standard_28 : decode cX12_standard 28 = .ok (.iload_n 2, 1) := by decide +kernel
theorem dX12_standard_29 : decode cX12_standard 29 = .ok (.iconst 1, 1) := by decide +kernel
theorem dX12_standard_30 : decode cX12_standard 30 = .ok (.isub, 1) := by decide +kernel
theorem dX12_standard_31 : decode cX12_standard 31 = .ok (.ireturn, 1) := by decide +kernel
theorem dX12_worthOf_0 : decode cX12_worthOf 0 = .ok (.aload_n 0, 1) := by decide +kernel
theorem dX12_worthOf_1 : decode cX12_worthOf 1 = .ok (.aload_n 0, 1) := by decide +kernel
theorem dX12_worthOf_2 : decode cX12_worthOf 2 = .ok (.getfield 9, 3) := by decide +kernel
theorem dX12_worthOf_5 : decode cX12_worthOf 5 = .ok (.iconst 3, 1) := by decide +kernel
theorem dX12_worthOf_6 : decode cX12_worthOf 6 = .ok (.iaload, 1) := by decide +kernel
theorem dX12_worthOf_7 : decode cX12_worthOf 7 = .ok (.iconst 1, 1) := by decide +kernel
theorem dX12_worthOf_8 : decode cX12_worthOf 8 = .ok (.isub, 1) := by decide +kernel
theorem dX12_worthOf_9 : decode cX12_worthOf 9 = .ok (.invokevirtual 253, 3) := by decide +kernel
theorem dX12_worthOf_12 : decode cX12_worthOf 12 = .ok (.i2l, 1) := by decide +kernel
theorem dX12_worthOf_13 : decode cX12_worthOf 13 = .ok (.lstore_n 2, 1) := by decide +kernel
theorem dX12_worthOf_14 : decode cX12_worthOf 14 = .ok (.lload_n 2, 1) := by decide +kernel
theorem dX12_worthOf_15 : decode cX12_worthOf 15 = .ok (.lconst 0, 1) := by decide +kernel
theorem dX12_worthOf_16 : decode cX12_worthOf 16 = .ok (.lcmp, 1) := by decide +kernel
theorem dX12_worthOf_17 : decode cX12_worthOf 17 = .ok (.ifCond .ne 7, 3) := by decide +kernel
theorem dX12_worthOf_20 : decode cX12_worthOf 20 = .ok (.lconst 0, 1) := by decide +kernel
theorem dX12_worthOf_21 : decode cX12_worthOf 21 = .ok (.goto 15, 3) := by decide +kernel
theorem dX12_worthOf_24 : decode cX12_worthOf 24 = .ok (.ldc2_w 71, 3) := by decide +kernel
theorem dX12_worthOf_27 : decode cX12_worthOf 27 = .ok (.aload_n 0, 1) := by decide +kernel
theorem dX12_worthOf_28 : decode cX12_worthOf 28 = .ok (.iload_n 1, 1) := by decide +kernel
theorem dX12_worthOf_29 : decode cX12_worthOf 29 = .ok (.invokevirtual 253, 3) := by decide +kernel
theorem dX12_worthOf_32 : decode cX12_worthOf 32 = .ok (.i2l, 1) := by decide +kernel
theorem dX12_worthOf_33 : decode cX12_worthOf 33 = .ok (.lmul, 1) := by decide +kernel
theorem dX12_worthOf_34 : decode cX12_worthOf 34 = .ok (.lload_n 2, 1) := by decide +kernel
theorem dX12_worthOf_35 : decode cX12_worthOf 35 = .ok (.ldiv, 1) := by decide +kernel
theorem dX12_worthOf_36 : decode cX12_worthOf 36 = .ok (.lreturn, 1) := by decide +kernel
theorem dX12_worth_0 : decode cX12_worth 0 = .ok (.aload_n 0, 1) := by decide +kernel
theorem dX12_worth_1 : decode cX12_worth 1 = .ok (.iload_n 1, 1) := by decide +kernel
theorem dX12_worth_2 : decode cX12_worth 2 = .ok (.invokevirtual 61, 3) := by decide +kernel
theorem dX12_worth_5 : decode cX12_worth 5 = .ok (.ifCond .ne 9, 3) := by decide +kernel
theorem dX12_worth_8 : decode cX12_worth 8 = .ok (.ldc2_w 120, 3) := by decide +kernel
theorem dX12_worth_11 : decode cX12_worth 11 = .ok (.goto 23, 3) := by decide +kernel
theorem dX12_worth_14 : decode cX12_worth 14 = .ok (.aload_n 0, 1) := by decide +kernel
theorem dX12_worth_15 : decode cX12_worth 15 = .ok (.getfield 9, 3) := by decide +kernel
theorem dX12_worth_18 : decode cX12_worth 18 = .ok (.iconst 3, 1) := by decide +kernel
theorem dX12_worth_19 : decode cX12_worth 19 = .ok (.iaload, 1) := by decide +kernel
theorem dX12_worth_20 : decode cX12_worth 20 = .ok (.ifCond .ne 9, 3) := by decide +kernel
theorem dX12_worth_23 : decode cX12_worth 23 = .ok (.ldc2_w 256, 3) := by decide +kernel
theorem dX12_worth_26 : decode cX12_worth 26 = .ok (.goto 8, 3) := by decide +kernel
theorem dX12_worth_29 : decode cX12_worth 29 = .ok (.aload_n 0, 1) := by decide +kernel
theorem dX12_worth_30 : decode cX12_worth 30 = .ok (.iload_n 1, 1) := by decide +kernel
theorem dX12_worth_31 : decode cX12_worth 31 = .ok (.invokevirtual 258, 3) := by decide +kernel
theorem dX12_worth_34 : decode cX12_worth 34 = .ok (.lreturn, 1) := by decide +kernel
theorem dX12_steady_0 : decode cX12_steady 0 = .ok (.iload_n 1, 1) := by decide +kernel
theorem dX12_steady_1 : decode cX12_steady 1 = .ok (.i2l, 1) := by decide +kernel
theorem dX12_steady_2 : decode cX12_steady 2 = .ok (.lconst 1, 1) := by decide +kernel
theorem dX12_steady_3 : decode cX12_steady 3 = .ok (.iconst 1, 1) := by decide +kernel
theorem dX12_steady_4 : decode cX12_steady 4 = .ok (.aload_n 0, 1) := by decide +kernel
theorem dX12_steady_5 : decode cX12_steady 5 = .ok (.getfield 9, 3) := by decide +kernel
theorem dX12_steady_8 : decode cX12_steady 8 = .ok (.iconst 1, 1) := by decide +kernel
theorem dX12_steady_9 : decode cX12_steady 9 = .ok (.iaload, 1) := by decide +kernel
theorem dX12_steady_10 : decode cX12_steady 10 = .ok (.ishl, 1) := by decide +kernel
theorem dX12_steady_11 : decode cX12_steady 11 = .ok (.iconst 1, 1) := by decide +kernel
theorem dX12_steady_12 : decode cX12_steady 12 = .ok (.isub, 1) := by decide +kernel
theorem dX12_steady_13 : decode cX12_steady 13 = .ok (.i2l, 1) := by decide +kernel
theorem dX12_steady_14 : decode cX12_steady 14 = .ok (.invokestatic 57, 3) := by decide +kernel
theorem dX12_steady_17 : decode cX12_steady 17 = .ok (.ifCond .ne 5, 3) := by decide +kernel
theorem dX12_steady_20 : decode cX12_steady 20 = .ok (.iconst (-1), 1) := by decide +kernel
theorem dX12_steady_21 : decode cX12_steady 21 = .ok (.ireturn, 1) := by decide +kernel
theorem dX12_steady_22 : decode cX12_steady 22 = .ok (.bipush (-4), 2) := by decide +kernel
theorem dX12_steady_24 : decode cX12_steady 24 = .ok (.istore_n 2, 1) := by decide +kernel
theorem dX12_steady_25 : decode cX12_steady 25 = .ok (.iconst 0, 1) := by decide +kernel
theorem dX12_steady_26 : decode cX12_steady 26 = .ok (.istore_n 3, 1) := by decide +kernel
theorem dX12_steady_27 : decode cX12_steady 27 = .ok (.iload_n 3, 1) := by decide +kernel
theorem dX12_steady_28 : decode cX12_steady 28 = .ok (.aload_n 0, 1) := by decide +kernel
theorem dX12_steady_29 : decode cX12_steady 29 = .ok (.getfield 9, 3) := by decide +kernel
theorem dX12_steady_32 : decode cX12_steady 32 = .ok (.iconst 1, 1) := by decide +kernel
theorem dX12_steady_33 : decode cX12_steady 33 = .ok (.iaload, 1) := by decide +kernel
theorem dX12_steady_34 : decode cX12_steady 34 = .ok (.if_icmp .ge 56, 3) := by decide +kernel
theorem dX12_steady_37 : decode cX12_steady 37 = .ok (.iload_n 1, 1) := by decide +kernel
theorem dX12_steady_38 : decode cX12_steady 38 = .ok (.iload_n 3, 1) := by decide +kernel
theorem dX12_steady_39 : decode cX12_steady 39 = .ok (.ishr, 1) := by decide +kernel
theorem dX12_steady_40 : decode cX12_steady 40 = .ok (.iconst 1, 1) := by decide +kernel
theorem dX12_steady_41 : decode cX12_steady 41 = .ok (.iand, 1) := by decide +kernel
theorem dX12_steady_42 : decode cX12_steady 42 = .ok (.ifCond .ne 6, 3) := by decide +kernel
theorem dX12_steady_45 : decode cX12_steady 45 = .ok (.goto 39, 3) := by decide +kernel
theorem dX12_steady_48 : decode cX12_steady 48 = .ok (.iload_n 2, 1) := by decide +kernel
theorem dX12_steady_49 : decode cX12_steady 49 = .ok (.ifCond .lt 33, 3) := by decide +kernel
theorem dX12_steady_52 : decode cX12_steady 52 = .ok (.aload_n 0, 1) := by decide +kernel
theorem dX12_steady_53 : decode cX12_steady 53 = .ok (.iload_n 3, 1) := by decide +kernel
theorem dX12_steady_54 : decode cX12_steady 54 = .ok (.invokevirtual 97, 3) := by decide +kernel
theorem dX12_steady_57 : decode cX12_steady 57 = .ok (.i2l, 1) := by decide +kernel
theorem dX12_steady_58 : decode cX12_steady 58 = .ok (.aload_n 0, 1) := by decide +kernel
theorem dX12_steady_59 : decode cX12_steady 59 = .ok (.iload_n 2, 1) := by decide +kernel
theorem dX12_steady_60 : decode cX12_steady 60 = .ok (.invokevirtual 93, 3) := by decide +kernel
theorem dX12_steady_63 : decode cX12_steady 63 = .ok (.i2l, 1) := by decide +kernel
theorem dX12_steady_64 : decode cX12_steady 64 = .ok (.lmul, 1) := by decide +kernel
theorem dX12_steady_65 : decode cX12_steady 65 = .ok (.aload_n 0, 1) := by decide +kernel
theorem dX12_steady_66 : decode cX12_steady 66 = .ok (.iload_n 2, 1) := by decide +kernel
theorem dX12_steady_67 : decode cX12_steady 67 = .ok (.invokevirtual 97, 3) := by decide +kernel
theorem dX12_steady_70 : decode cX12_steady 70 = .ok (.i2l, 1) := by decide +kernel
theorem dX12_steady_71 : decode cX12_steady 71 = .ok (.aload_n 0, 1) := by decide +kernel
theorem dX12_steady_72 : decode cX12_steady 72 = .ok (.iload_n 3, 1) := by decide +kernel
theorem dX12_steady_73 : decode cX12_steady 73 = .ok (.invokevirtual 93, 3) := by decide +kernel
theorem dX12_steady_76 : decode cX12_steady 76 = .ok (.i2l, 1) := by decide +kernel
theorem dX12_steady_77 : decode cX12_steady 77 = .ok (.lmul, 1) := by decide +kernel
theorem dX12_steady_78 : decode cX12_steady 78 = .ok (.lcmp, 1) := by decide +kernel
theorem dX12_steady_79 : decode cX12_steady 79 = .ok (.ifCond .ge 5, 3) := by decide +kernel
theorem dX12_steady_82 : decode cX12_steady 82 = .ok (.iload_n 3, 1) := by decide +kernel
theorem dX12_steady_83 : decode cX12_steady 83 = .ok (.istore_n 2, 1) := by decide +kernel
theorem dX12_steady_84 : decode cX12_steady 84 = .ok (.iinc 3 1, 3) := by decide +kernel
theorem dX12_steady_87 : decode cX12_steady 87 = .ok (.goto (-60), 3) := by decide +kernel
theorem dX12_steady_90 : decode cX12_steady 90 = .ok (.iload_n 2, 1) := by decide +kernel
theorem dX12_steady_91 : decode cX12_steady 91 = .ok (.ireturn, 1) := by decide +kernel
theorem dX12_aged_0 : decode cX12_aged 0 = .ok (.iload_n 1, 1) := by decide +kernel
theorem dX12_aged_1 : decode cX12_aged 1 = .ok (.i2l, 1) := by decide +kernel
theorem dX12_aged_2 : decode cX12_aged 2 = .ok (.lconst 1, 1) := by decide +kernel
theorem dX12_aged_3 : decode cX12_aged 3 = .ok (.ldc2_w 71, 3) := by decide +kernel
theorem dX12_aged_6 : decode cX12_aged 6 = .ok (.invokestatic 57, 3) := by decide +kernel
theorem dX12_aged_9 : decode cX12_aged 9 = .ok (.ifCond .ne 5, 3) := by decide +kernel
theorem dX12_aged_12 : decode cX12_aged 12 = .ok (.iconst (-1), 1) := by decide +kernel
theorem dX12_aged_13 : decode cX12_aged 13 = .ok (.ireturn, 1) := by decide +kernel
theorem dX12_aged_14 : decode cX12_aged 14 = .ok (.iconst 0, 1) := by decide +kernel
theorem dX12_aged_15 : decode cX12_aged 15 = .ok (.istore_n 2, 1) := by decide +kernel
theorem dX12_aged_16 : decode cX12_aged 16 = .ok (.iconst 0, 1) := by decide +kernel
theorem dX12_aged_17 : decode cX12_aged 17 = .ok (.istore_n 3, 1) := by decide +kernel
theorem dX12_aged_18 : decode cX12_aged 18 = .ok (.iload_n 3, 1) := by decide +kernel
theorem dX12_aged_19 : decode cX12_aged 19 = .ok (.aload_n 0, 1) := by decide +kernel
theorem dX12_aged_20 : decode cX12_aged 20 = .ok (.getfield 9, 3) := by decide +kernel
theorem dX12_aged_23 : decode cX12_aged 23 = .ok (.iconst 1, 1) := by decide +kernel
theorem dX12_aged_24 : decode cX12_aged 24 = .ok (.iaload, 1) := by decide +kernel
theorem dX12_aged_25 : decode cX12_aged 25 = .ok (.if_icmp .ge 80, 3) := by decide +kernel
theorem dX12_aged_28 : decode cX12_aged 28 = .ok (.aload_n 0, 1) := by decide +kernel
theorem dX12_aged_29 : decode cX12_aged 29 = .ok (.aload_n 0, 1) := by decide +kernel
theorem dX12_aged_30 : decode cX12_aged 30 = .ok (.getfield 9, 3) := by decide +kernel
theorem dX12_aged_33 : decode cX12_aged 33 = .ok (.bipush 10, 2) := by decide +kernel
theorem dX12_aged_35 : decode cX12_aged 35 = .ok (.iconst 5, 1) := by decide +kernel
theorem dX12_aged_36 : decode cX12_aged 36 = .ok (.iload_n 3, 1) := by decide +kernel
theorem dX12_aged_37 : decode cX12_aged 37 = .ok (.imul, 1) := by decide +kernel
theorem dX12_aged_38 : decode cX12_aged 38 = .ok (.iadd, 1) := by decide +kernel
theorem dX12_aged_39 : decode cX12_aged 39 = .ok (.iconst 0, 1) := by decide +kernel
theorem dX12_aged_40 : decode cX12_aged 40 = .ok (.invokevirtual 87, 3) := by decide +kernel
theorem dX12_aged_43 : decode cX12_aged 43 = .ok (.istore 4, 2) := by decide +kernel
theorem dX12_aged_45 : decode cX12_aged 45 = .ok (.iload_n 2, 1) := by decide +kernel
theorem dX12_aged_46 : decode cX12_aged 46 = .ok (.aload_n 0, 1) := by decide +kernel
theorem dX12_aged_47 : decode cX12_aged 47 = .ok (.iload_n 3, 1) := by decide +kernel
theorem dX12_aged_48 : decode cX12_aged 48 = .ok (.iconst 0, 1) := by decide +kernel
theorem dX12_aged_49 : decode cX12_aged 49 = .ok (.invokevirtual 81, 3) := by decide +kernel
theorem dX12_aged_52 : decode cX12_aged 52 = .ok (.iconst 4, 1) := by decide +kernel
theorem dX12_aged_53 : decode cX12_aged 53 = .ok (.if_icmp .eq 14, 3) := by decide +kernel
theorem dX12_aged_56 : decode cX12_aged 56 = .ok (.aload_n 0, 1) := by decide +kernel
theorem dX12_aged_57 : decode cX12_aged 57 = .ok (.iload_n 3, 1) := by decide +kernel
theorem dX12_aged_58 : decode cX12_aged 58 = .ok (.iconst 0, 1) := by decide +kernel
theorem dX12_aged_59 : decode cX12_aged 59 = .ok (.invokevirtual 81, 3) := by decide +kernel
theorem dX12_aged_62 : decode cX12_aged 62 = .ok (.bipush 7, 2) := by decide +kernel
theorem dX12_aged_64 : decode cX12_aged 64 = .ok (.if_icmp .ne 32, 3) := by decide +kernel
theorem dX12_aged_67 : decode cX12_aged 67 = .ok (.ldc2_w 71, 3) := by decide +kernel
theorem dX12_aged_70 : decode cX12_aged 70 = .ok (.iload 4, 2) := by decide +kernel
theorem dX12_aged_72 : decode cX12_aged 72 = .ok (.aload_n 0, 1) := by decide +kernel
theorem dX12_aged_73 : decode cX12_aged 73 = .ok (.iload_n 3, 1) := by decide +kernel
theorem dX12_aged_74 : decode cX12_aged 74 = .ok (.invokevirtual 93, 3) := by decide +kernel
theorem dX12_aged_77 : decode cX12_aged 77 = .ok (.isub, 1) := by decide +kernel
theorem dX12_aged_78 : decode cX12_aged 78 = .ok (.i2l, 1) := by decide +kernel
theorem dX12_aged_79 : decode cX12_aged 79 = .ok (.lmul, 1) := by decide +kernel
theorem dX12_aged_80 : decode cX12_aged 80 = .ok (.iload_n 1, 1) := by decide +kernel
theorem dX12_aged_81 : decode cX12_aged 81 = .ok (.i2l, 1) := by decide +kernel
theorem dX12_aged_82 : decode cX12_aged 82 = .ok (.iload 4, 2) := by decide +kernel
theorem dX12_aged_84 : decode cX12_aged 84 = .ok (.i2l, 1) := by decide +kernel
theorem dX12_aged_85 : decode cX12_aged 85 = .ok (.lmul, 1) := by decide +kernel
theorem dX12_aged_86 : decode cX12_aged 86 = .ok (.lcmp, 1) := by decide +kernel
theorem dX12_aged_87 : decode cX12_aged 87 = .ok (.ifCond .lt 9, 3) := by decide +kernel
theorem dX12_aged_90 : decode cX12_aged 90 = .ok (.iconst 1, 1) := by decide +kernel
theorem dX12_aged_91 : decode cX12_aged 91 = .ok (.iload_n 3, 1) := by decide +kernel
theorem dX12_aged_92 : decode cX12_aged 92 = .ok (.ishl, 1) := by decide +kernel
theorem dX12_aged_93 : decode cX12_aged 93 = .ok (.goto 4, 3) := by decide +kernel
theorem dX12_aged_96 : decode cX12_aged 96 = .ok (.iconst 0, 1) := by decide +kernel
theorem dX12_aged_97 : decode cX12_aged 97 = .ok (.ior, 1) := by decide +kernel
theorem dX12_aged_98 : decode cX12_aged 98 = .ok (.istore_n 2, 1) := by decide +kernel
theorem dX12_aged_99 : decode cX12_aged 99 = .ok (.iinc 3 1, 3) := by decide +kernel
theorem dX12_aged_102 : decode cX12_aged 102 = .ok (.goto (-84), 3) := by decide +kernel
theorem dX12_aged_105 : decode cX12_aged 105 = .ok (.iload_n 2, 1) := by decide +kernel
theorem dX12_aged_106 : decode cX12_aged 106 = .ok (.ireturn, 1) := by decide +kernel
theorem dX12_bill_0 : decode cX12_bill 0 = .ok (.iload_n 1, 1) := by decide +kernel
theorem dX12_bill_1 : decode cX12_bill 1 = .ok (.i2l, 1) := by decide +kernel
theorem dX12_bill_2 : decode cX12_bill 2 = .ok (.lconst 0, 1) := by decide +kernel
theorem dX12_bill_3 : decode cX12_bill 3 = .ok (.ldc2_w 262, 3) := by decide +kernel
theorem dX12_bill_6 : decode cX12_bill 6 = .ok (.invokestatic 57, 3) := by decide +kernel
theorem dX12_bill_9 : decode cX12_bill 9 = .ok (.ifCond .eq 23, 3) := by decide +kernel
theorem dX12_bill_12 : decode cX12_bill 12 = .ok (.aload_n 0, 1) := by decide +kernel
theorem dX12_bill_13 : decode cX12_bill 13 = .ok (.iload_n 2, 1) := by decide +kernel
theorem dX12_bill_14 : decode cX12_bill 14 = .ok (.invokevirtual 61, 3) := by decide +kernel
theorem dX12_bill_17 : decode cX12_bill 17 = .ok (.ifCond .eq 15, 3) := by decide +kernel
theorem dX12_bill_20 : decode cX12_bill 20 = .ok (.iload_n 3, 1) := by decide +kernel
theorem dX12_bill_21 : decode cX12_bill 21 = .ok (.i2l, 1) := by decide +kernel
theorem dX12_bill_22 : decode cX12_bill 22 = .ok (.lconst 1, 1) := by decide +kernel
theorem dX12_bill_23 : decode cX12_bill 23 = .ok (.ldc2_w 79, 3) := by decide +kernel
theorem dX12_bill_26 : decode cX12_bill 26 = .ok (.invokestatic 57, 3) := by decide +kernel
theorem dX12_bill_29 : decode cX12_bill 29 = .ok (.ifCond .ne 5, 3) := by decide +kernel
theorem dX12_bill_32 : decode cX12_bill 32 = .ok (.iconst (-1), 1) := by decide +kernel
theorem dX12_bill_33 : decode cX12_bill 33 = .ok (.ireturn, 1) := by decide +kernel
theorem dX12_bill_34 : decode cX12_bill 34 = .ok (.aload_n 0, 1) := by decide +kernel
theorem dX12_bill_35 : decode cX12_bill 35 = .ok (.getfield 9, 3) := by decide +kernel
theorem dX12_bill_38 : decode cX12_bill 38 = .ok (.iconst 4, 1) := by decide +kernel
theorem dX12_bill_39 : decode cX12_bill 39 = .ok (.iaload, 1) := by decide +kernel
theorem dX12_bill_40 : decode cX12_bill 40 = .ok (.bipush 20, 2) := by decide +kernel
theorem dX12_bill_42 : decode cX12_bill 42 = .ok (.if_icmp .ne 6, 3) := by decide +kernel
theorem dX12_bill_45 : decode cX12_bill 45 = .ok (.bipush (-2), 2) := by decide +kernel
theorem dX12_bill_47 : decode cX12_bill 47 = .ok (.ireturn, 1) := by decide +kernel
theorem dX12_bill_48 : decode cX12_bill 48 = .ok (.aload_n 0, 1) := by decide +kernel
theorem dX12_bill_49 : decode cX12_bill 49 = .ok (.getfield 9, 3) := by decide +kernel
theorem dX12_bill_52 : decode cX12_bill 52 = .ok (.iconst 3, 1) := by decide +kernel
theorem dX12_bill_53 : decode cX12_bill 53 = .ok (.iaload, 1) := by decide +kernel
theorem dX12_bill_54 : decode cX12_bill 54 = .ok (.ifCond .ne 6, 3) := by decide +kernel
theorem dX12_bill_57 : decode cX12_bill 57 = .ok (.bipush (-3), 2) := by decide +kernel
theorem dX12_bill_59 : decode cX12_bill 59 = .ok (.ireturn, 1) := by decide +kernel
theorem dX12_bill_60 : decode cX12_bill 60 = .ok (.sipush 274, 3) := by decide +kernel
theorem dX12_bill_63 : decode cX12_bill 63 = .ok (.iconst 3, 1) := by decide +kernel
theorem dX12_bill_64 : decode cX12_bill 64 = .ok (.aload_n 0, 1) := by decide +kernel
theorem dX12_bill_65 : decode cX12_bill 65 = .ok (.getfield 9, 3) := by decide +kernel
theorem dX12_bill_68 : decode cX12_bill 68 = .ok (.iconst 4, 1) := by decide +kernel
theorem dX12_bill_69 : decode cX12_bill 69 = .ok (.iaload, 1) := by decide +kernel
theorem dX12_bill_70 : decode cX12_bill 70 = .ok (.imul, 1) := by decide +kernel
theorem dX12_bill_71 : decode cX12_bill 71 = .ok (.iadd, 1) := by decide +kernel
theorem dX12_bill_72 : decode cX12_bill 72 = .ok (.istore 4, 2) := by decide +kernel
theorem dX12_bill_74 : decode cX12_bill 74 = .ok (.aload_n 0, 1) := by decide +kernel
theorem dX12_bill_75 : decode cX12_bill 75 = .ok (.getfield 9, 3) := by decide +kernel
theorem dX12_bill_78 : decode cX12_bill 78 = .ok (.iload 4, 2) := by decide +kernel
theorem dX12_bill_80 : decode cX12_bill 80 = .ok (.iload_n 1, 1) := by decide +kernel
theorem dX12_bill_81 : decode cX12_bill 81 = .ok (.iastore, 1) := by decide +kernel
theorem dX12_bill_82 : decode cX12_bill 82 = .ok (.aload_n 0, 1) := by decide +kernel
theorem dX12_bill_83 : decode cX12_bill 83 = .ok (.getfield 9, 3) := by decide +kernel
theorem dX12_bill_86 : decode cX12_bill 86 = .ok (.iload 4, 2) := by decide +kernel
theorem dX12_bill_88 : decode cX12_bill 88 = .ok (.iconst 1, 1) := by decide +kernel
theorem dX12_bill_89 : decode cX12_bill 89 = .ok (.iadd, 1) := by decide +kernel
theorem dX12_bill_90 : decode cX12_bill 90 = .ok (.iload_n 2, 1) := by decide +kernel
theorem dX12_bill_91 : decode cX12_bill 91 = .ok (.iastore, 1) := by decide +kernel
theorem dX12_bill_92 : decode cX12_bill 92 = .ok (.aload_n 0, 1) := by decide +kernel
theorem dX12_bill_93 : decode cX12_bill 93 = .ok (.getfield 9, 3) := by decide +kernel
theorem dX12_bill_96 : decode cX12_bill 96 = .ok (.iload 4, 2) := by decide +kernel
theorem dX12_bill_98 : decode cX12_bill 98 = .ok (.iconst 2, 1) := by decide +kernel
theorem dX12_bill_99 : decode cX12_bill 99 = .ok (.iadd, 1) := by decide +kernel
theorem dX12_bill_100 : decode cX12_bill 100 = .ok (.iload_n 3, 1) := by decide +kernel
theorem dX12_bill_101 : decode cX12_bill 101 = .ok (.iastore, 1) := by decide +kernel
theorem dX12_bill_102 : decode cX12_bill 102 = .ok (.aload_n 0, 1) := by decide +kernel
theorem dX12_bill_103 : decode cX12_bill 103 = .ok (.getfield 16, 3) := by decide +kernel
theorem dX12_bill_106 : decode cX12_bill 106 = .ok (.aload_n 0, 1) := by decide +kernel
theorem dX12_bill_107 : decode cX12_bill 107 = .ok (.getfield 9, 3) := by decide +kernel
theorem dX12_bill_110 : decode cX12_bill 110 = .ok (.iconst 4, 1) := by decide +kernel
theorem dX12_bill_111 : decode cX12_bill 111 = .ok (.iaload, 1) := by decide +kernel
theorem dX12_bill_112 : decode cX12_bill 112 = .ok (.iload_n 3, 1) := by decide +kernel
theorem dX12_bill_113 : decode cX12_bill 113 = .ok (.i2l, 1) := by decide +kernel
theorem dX12_bill_114 : decode cX12_bill 114 = .ok (.aload_n 0, 1) := by decide +kernel
theorem dX12_bill_115 : decode cX12_bill 115 = .ok (.iload_n 2, 1) := by decide +kernel
theorem dX12_bill_116 : decode cX12_bill 116 = .ok (.invokevirtual 258, 3) := by decide +kernel
theorem dX12_bill_119 : decode cX12_bill 119 = .ok (.lmul, 1) := by decide +kernel
theorem dX12_bill_120 : decode cX12_bill 120 = .ok (.ldc2_w 71, 3) := by decide +kernel
theorem dX12_bill_123 : decode cX12_bill 123 = .ok (.ldiv, 1) := by decide +kernel
theorem dX12_bill_124 : decode cX12_bill 124 = .ok (.lastore, 1) := by decide +kernel
theorem dX12_bill_125 : decode cX12_bill 125 = .ok (.aload_n 0, 1) := by decide +kernel
theorem dX12_bill_126 : decode cX12_bill 126 = .ok (.getfield 9, 3) := by decide +kernel
theorem dX12_bill_129 : decode cX12_bill 129 = .ok (.iconst 4, 1) := by decide +kernel
theorem dX12_bill_130 : decode cX12_bill 130 = .ok (.dup2, 1) := by decide +kernel
theorem dX12_bill_131 : decode cX12_bill 131 = .ok (.iaload, 1) := by decide +kernel
theorem dX12_bill_132 : decode cX12_bill 132 = .ok (.iconst 1, 1) := by decide +kernel
theorem dX12_bill_133 : decode cX12_bill 133 = .ok (.iadd, 1) := by decide +kernel
theorem dX12_bill_134 : decode cX12_bill 134 = .ok (.iastore, 1) := by decide +kernel
theorem dX12_bill_135 : decode cX12_bill 135 = .ok (.aload_n 0, 1) := by decide +kernel
theorem dX12_bill_136 : decode cX12_bill 136 = .ok (.getfield 9, 3) := by decide +kernel
theorem dX12_bill_139 : decode cX12_bill 139 = .ok (.iconst 4, 1) := by decide +kernel
theorem dX12_bill_140 : decode cX12_bill 140 = .ok (.iaload, 1) := by decide +kernel
theorem dX12_bill_141 : decode cX12_bill 141 = .ok (.iconst 1, 1) := by decide +kernel
theorem dX12_bill_142 : decode cX12_bill 142 = .ok (.isub, 1) := by decide +kernel
theorem dX12_bill_143 : decode cX12_bill 143 = .ok (.ireturn, 1) := by decide +kernel
theorem dX12_paid_0 : decode cX12_paid 0 = .ok (.iload_n 1, 1) := by decide +kernel
theorem dX12_paid_1 : decode cX12_paid 1 = .ok (.i2l, 1) := by decide +kernel
theorem dX12_paid_2 : decode cX12_paid 2 = .ok (.lconst 0, 1) := by decide +kernel
theorem dX12_paid_3 : decode cX12_paid 3 = .ok (.aload_n 0, 1) := by decide +kernel
theorem dX12_paid_4 : decode cX12_paid 4 = .ok (.getfield 9, 3) := by decide +kernel
theorem dX12_paid_7 : decode cX12_paid 7 = .ok (.iconst 4, 1) := by decide +kernel
theorem dX12_paid_8 : decode cX12_paid 8 = .ok (.iaload, 1) := by decide +kernel
theorem dX12_paid_9 : decode cX12_paid 9 = .ok (.iconst 1, 1) := by decide +kernel
theorem dX12_paid_10 : decode cX12_paid 10 = .ok (.isub, 1) := by decide +kernel
theorem dX12_paid_11 : decode cX12_paid 11 = .ok (.i2l, 1) := by decide +kernel
theorem dX12_paid_12 : decode cX12_paid 12 = .ok (.invokestatic 57, 3) := by decide +kernel
theorem dX12_paid_15 : decode cX12_paid 15 = .ok (.ifCond .eq 12, 3) := by decide +kernel
theorem dX12_paid_18 : decode cX12_paid 18 = .ok (.aload_n 0, 1) := by decide +kernel
theorem dX12_paid_19 : decode cX12_paid 19 = .ok (.getfield 16, 3) := by decide +kernel
theorem dX12_paid_22 : decode cX12_paid 22 = .ok (.iload_n 1, 1) := by decide +kernel
theorem dX12_paid_23 : decode cX12_paid 23 = .ok (.laload, 1) := by decide +kernel
theorem dX12_paid_24 : decode cX12_paid 24 = .ok (.goto 6, 3) := by decide +kernel
theorem dX12_paid_27 : decode cX12_paid 27 = .ok (.ldc2_w 120, 3) := by decide +kernel
theorem dX12_paid_30 : decode cX12_paid 30 = .ok (.lreturn, 1) := by decide +kernel
theorem dX12_owed_0 : decode cX12_owed 0 = .ok (.iload_n 1, 1) := by decide +kernel
theorem dX12_owed_1 : decode cX12_owed 1 = .ok (.i2l, 1) := by decide +kernel
theorem dX12_owed_2 : decode cX12_owed 2 = .ok (.lconst 0, 1) := by decide +kernel
theorem dX12_owed_3 : decode cX12_owed 3 = .ok (.ldc2_w 262, 3) := by decide +kernel
theorem dX12_owed_6 : decode cX12_owed 6 = .ok (.invokestatic 57, 3) := by decide +kernel
theorem dX12_owed_9 : decode cX12_owed 9 = .ok (.ifCond .ne 7, 3) := by decide +kernel
theorem dX12_owed_12 : decode cX12_owed 12 = .ok (.ldc2_w 120, 3) := by decide +kernel
theorem dX12_owed_15 : decode cX12_owed 15 = .ok (.lreturn, 1) := by decide +kernel
theorem dX12_owed_16 : decode cX12_owed 16 = .ok (.aload_n 0, 1) := by decide +kernel
theorem dX12_owed_17 : decode cX12_owed 17 = .ok (.getfield 9, 3) := by decide +kernel
theorem dX12_owed_20 : decode cX12_owed 20 = .ok (.iconst 3, 1) := by decide +kernel
theorem dX12_owed_21 : decode cX12_owed 21 = .ok (.iaload, 1) := by decide +kernel
theorem dX12_owed_22 : decode cX12_owed 22 = .ok (.ifCond .ne 7, 3) := by decide +kernel
theorem dX12_owed_25 : decode cX12_owed 25 = .ok (.ldc2_w 256, 3) := by decide +kernel
theorem dX12_owed_28 : decode cX12_owed 28 = .ok (.lreturn, 1) := by decide +kernel
theorem dX12_owed_29 : decode cX12_owed 29 = .ok (.lconst 0, 1) := by decide +kernel
theorem dX12_owed_30 : decode cX12_owed 30 = .ok (.lstore_n 2, 1) := by decide +kernel
theorem dX12_owed_31 : decode cX12_owed 31 = .ok (.iconst 0, 1) := by decide +kernel
theorem dX12_owed_32 : decode cX12_owed 32 = .ok (.istore 4, 2) := by decide +kernel
theorem dX12_owed_34 : decode cX12_owed 34 = .ok (.iload 4, 2) := by decide +kernel
theorem dX12_owed_36 : decode cX12_owed 36 = .ok (.aload_n 0, 1) := by decide +kernel
theorem dX12_owed_37 : decode cX12_owed 37 = .ok (.getfield 9, 3) := by decide +kernel
theorem dX12_owed_40 : decode cX12_owed 40 = .ok (.iconst 4, 1) := by decide +kernel
theorem dX12_owed_41 : decode cX12_owed 41 = .ok (.iaload, 1) := by decide +kernel
theorem dX12_owed_42 : decode cX12_owed 42 = .ok (.if_icmp .ge 77, 3) := by decide +kernel
theorem dX12_owed_45 : decode cX12_owed 45 = .ok (.aload_n 0, 1) := by decide +kernel
theorem dX12_owed_46 : decode cX12_owed 46 = .ok (.getfield 9, 3) := by decide +kernel
theorem dX12_owed_49 : decode cX12_owed 49 = .ok (.sipush 274, 3) := by decide +kernel
theorem dX12_owed_52 : decode cX12_owed 52 = .ok (.iconst 3, 1) := by decide +kernel
theorem dX12_owed_53 : decode cX12_owed 53 = .ok (.iload 4, 2) := by decide +kernel
theorem dX12_owed_55 : decode cX12_owed 55 = .ok (.imul, 1) := by decide +kernel
theorem dX12_owed_56 : decode cX12_owed 56 = .ok (.iadd, 1) := by decide +kernel
theorem dX12_owed_57 : decode cX12_owed 57 = .ok (.iaload, 1) := by decide +kernel
theorem dX12_owed_58 : decode cX12_owed 58 = .ok (.iload_n 1, 1) := by decide +kernel
theorem dX12_owed_59 : decode cX12_owed 59 = .ok (.if_icmp .ne 54, 3) := by decide +kernel
theorem dX12_owed_62 : decode cX12_owed 62 = .ok (.lload_n 2, 1) := by decide +kernel
theorem dX12_owed_63 : decode cX12_owed 63 = .ok (.aload_n 0, 1) := by decide +kernel
theorem dX12_owed_64 : decode cX12_owed 64 = .ok (.getfield 9, 3) := by decide +kernel
theorem dX12_owed_67 : decode cX12_owed 67 = .ok (.sipush 274, 3) := by decide +kernel
theorem dX12_owed_70 : decode cX12_owed 70 = .ok (.iconst 3, 1) := by decide +kernel
theorem dX12_owed_71 : decode cX12_owed 71 = .ok (.iload 4, 2) := by decide +kernel
theorem dX12_owed_73 : decode cX12_owed 73 = .ok (.imul, 1) := by decide +kernel
theorem dX12_owed_74 : decode cX12_owed 74 = .ok (.iadd, 1) := by decide +kernel
theorem dX12_owed_75 : decode cX12_owed 75 = .ok (.iconst 2, 1) := by decide +kernel
theorem dX12_owed_76 : decode cX12_owed 76 = .ok (.iadd, 1) := by decide +kernel
theorem dX12_owed_77 : decode cX12_owed 77 = .ok (.iaload, 1) := by decide +kernel
theorem dX12_owed_78 : decode cX12_owed 78 = .ok (.i2l, 1) := by decide +kernel
theorem dX12_owed_79 : decode cX12_owed 79 = .ok (.aload_n 0, 1) := by decide +kernel
theorem dX12_owed_80 : decode cX12_owed 80 = .ok (.aload_n 0, 1) := by decide +kernel
theorem dX12_owed_81 : decode cX12_owed 81 = .ok (.getfield 9, 3) := by decide +kernel
theorem dX12_owed_84 : decode cX12_owed 84 = .ok (.sipush 274, 3) := by decide +kernel
theorem dX12_owed_87 : decode cX12_owed 87 = .ok (.iconst 3, 1) := by decide +kernel
theorem dX12_owed_88 : decode cX12_owed 88 = .ok (.iload 4, 2) := by decide +kernel
theorem dX12_owed_90 : decode cX12_owed 90 = .ok (.imul, 1) := by decide +kernel
theorem dX12_owed_91 : decode cX12_owed 91 = .ok (.iadd, 1) := by decide +kernel
theorem dX12_owed_92 : decode cX12_owed 92 = .ok (.iconst 1, 1) := by decide +kernel
theorem dX12_owed_93 : decode cX12_owed 93 = .ok (.iadd, 1) := by decide +kernel
theorem dX12_owed_94 : decode cX12_owed 94 = .ok (.iaload, 1) := by decide +kernel
theorem dX12_owed_95 : decode cX12_owed 95 = .ok (.invokevirtual 258, 3) := by decide +kernel
theorem dX12_owed_98 : decode cX12_owed 98 = .ok (.lmul, 1) := by decide +kernel
theorem dX12_owed_99 : decode cX12_owed 99 = .ok (.ldc2_w 71, 3) := by decide +kernel
theorem dX12_owed_102 : decode cX12_owed 102 = .ok (.ldiv, 1) := by decide +kernel
theorem dX12_owed_103 : decode cX12_owed 103 = .ok (.aload_n 0, 1) := by decide +kernel
theorem dX12_owed_104 : decode cX12_owed 104 = .ok (.getfield 16, 3) := by decide +kernel
theorem dX12_owed_107 : decode cX12_owed 107 = .ok (.iload 4, 2) := by decide +kernel
theorem dX12_owed_109 : decode cX12_owed 109 = .ok (.laload, 1) := by decide +kernel
theorem dX12_owed_110 : decode cX12_owed 110 = .ok (.lsub, 1) := by decide +kernel
theorem dX12_owed_111 : decode cX12_owed 111 = .ok (.ladd, 1) := by decide +kernel
theorem dX12_owed_112 : decode cX12_owed 112 = .ok (.lstore_n 2, 1) := by decide +kernel
theorem dX12_owed_113 : decode cX12_owed 113 = .ok (.iinc 4 1, 3) := by decide +kernel
theorem dX12_owed_116 : decode cX12_owed 116 = .ok (.goto (-82), 3) := by decide +kernel
theorem dX12_owed_119 : decode cX12_owed 119 = .ok (.lload_n 2, 1) := by decide +kernel
theorem dX12_owed_120 : decode cX12_owed 120 = .ok (.lreturn, 1) := by decide +kernel
theorem dX12_bits_0 : decode cX12_bits 0 = .ok (.iconst 0, 1) := by decide +kernel
theorem dX12_bits_1 : decode cX12_bits 1 = .ok (.istore_n 1, 1) := by decide +kernel
theorem dX12_bits_2 : decode cX12_bits 2 = .ok (.iload_n 0, 1) := by decide +kernel
theorem dX12_bits_3 : decode cX12_bits 3 = .ok (.istore_n 2, 1) := by decide +kernel
theorem dX12_bits_4 : decode cX12_bits 4 = .ok (.iload_n 2, 1) := by decide +kernel
theorem dX12_bits_5 : decode cX12_bits 5 = .ok (.ifCond .le 16, 3) := by decide +kernel
theorem dX12_bits_8 : decode cX12_bits 8 = .ok (.iload_n 1, 1) := by decide +kernel
theorem dX12_bits_9 : decode cX12_bits 9 = .ok (.iload_n 2, 1) := by decide +kernel
theorem dX12_bits_10 : decode cX12_bits 10 = .ok (.iconst 1, 1) := by decide +kernel
theorem dX12_bits_11 : decode cX12_bits 11 = .ok (.iand, 1) := by decide +kernel
theorem dX12_bits_12 : decode cX12_bits 12 = .ok (.iadd, 1) := by decide +kernel
theorem dX12_bits_13 : decode cX12_bits 13 = .ok (.istore_n 1, 1) := by decide +kernel
theorem dX12_bits_14 : decode cX12_bits 14 = .ok (.iload_n 2, 1) := by decide +kernel
theorem dX12_bits_15 : decode cX12_bits 15 = .ok (.iconst 1, 1) := by decide +kernel
theorem dX12_bits_16 : decode cX12_bits 16 = .ok (.ishr, 1) := by decide +kernel
theorem dX12_bits_17 : decode cX12_bits 17 = .ok (.istore_n 2, 1) := by decide +kernel
theorem dX12_bits_18 : decode cX12_bits 18 = .ok (.goto (-14), 3) := by decide +kernel
theorem dX12_bits_21 : decode cX12_bits 21 = .ok (.iload_n 1, 1) := by decide +kernel
theorem dX12_bits_22 : decode cX12_bits 22 = .ok (.ireturn, 1) := by decide +kernel
theorem dX12_isCosts_0 : decode cX12_isCosts 0 = .ok (.iload_n 0, 1) := by decide +kernel
theorem dX12_isCosts_1 : decode cX12_isCosts 1 = .ok (.i2l, 1) := by decide +kernel
theorem dX12_isCosts_2 : decode cX12_isCosts 2 = .ok (.lconst 0, 1) := by decide +kernel
theorem dX12_isCosts_3 : decode cX12_isCosts 3 = .ok (.ldc2_w 264, 3) := by decide +kernel
theorem dX12_isCosts_6 : decode cX12_isCosts 6 = .ok (.invokestatic 57, 3) := by decide +kernel
theorem dX12_isCosts_9 : decode cX12_isCosts 9 = .ok (.ifCond .eq 32, 3) := by decide +kernel
theorem dX12_isCosts_12 : decode cX12_isCosts 12 = .ok (.iload_n 0, 1) := by decide +kernel
theorem dX12_isCosts_13 : decode cX12_isCosts 13 = .ok (.sipush 1000, 3) := by decide +kernel
theorem dX12_isCosts_16 : decode cX12_isCosts 16 = .ok (.irem, 1) := by decide +kernel
theorem dX12_isCosts_17 : decode cX12_isCosts 17 = .ok (.iload_n 0, 1) := by decide +kernel
theorem dX12_isCosts_18 : decode cX12_isCosts 18 = .ok (.sipush 1000, 3) := by decide +kernel
theorem dX12_isCosts_21 : decode cX12_isCosts 21 = .ok (.idiv, 1) := by decide +kernel
theorem dX12_isCosts_22 : decode cX12_isCosts 22 = .ok (.if_icmp .ge 19, 3) := by decide +kernel
theorem dX12_isCosts_25 : decode cX12_isCosts 25 = .ok (.iload_n 1, 1) := by decide +kernel
theorem dX12_isCosts_26 : decode cX12_isCosts 26 = .ok (.i2l, 1) := by decide +kernel
theorem dX12_isCosts_27 : decode cX12_isCosts 27 = .ok (.lconst 0, 1) := by decide +kernel
theorem dX12_isCosts_28 : decode cX12_isCosts 28 = .ok (.ldc2_w 69, 3) := by decide +kernel
theorem dX12_isCosts_31 : decode cX12_isCosts 31 = .ok (.invokestatic 57, 3) := by decide +kernel
theorem dX12_isCosts_34 : decode cX12_isCosts 34 = .ok (.ifCond .eq 7, 3) := by decide +kernel
theorem dX12_isCosts_37 : decode cX12_isCosts 37 = .ok (.iconst 1, 1) := by decide +kernel
theorem dX12_isCosts_38 : decode cX12_isCosts 38 = .ok (.goto 4, 3) := by decide +kernel
theorem dX12_isCosts_41 : decode cX12_isCosts 41 = .ok (.iconst 0, 1) := by decide +kernel
theorem dX12_isCosts_42 : decode cX12_isCosts 42 = .ok (.ireturn, 1) := by decide +kernel
theorem dX12_gainBy_0 : decode cX12_gainBy 0 = .ok (.iload_n 0, 1) := by decide +kernel
theorem dX12_gainBy_1 : decode cX12_gainBy 1 = .ok (.iconst (-1), 1) := by decide +kernel
theorem dX12_gainBy_2 : decode cX12_gainBy 2 = .ok (.ixor, 1) := by decide +kernel
theorem dX12_gainBy_3 : decode cX12_gainBy 3 = .ok (.bipush 127, 2) := by decide +kernel
theorem dX12_gainBy_5 : decode cX12_gainBy 5 = .ok (.iand, 1) := by decide +kernel
theorem dX12_gainBy_6 : decode cX12_gainBy 6 = .ok (.istore 4, 2) := by decide +kernel
theorem dX12_gainBy_8 : decode cX12_gainBy 8 = .ok (.iload 4, 2) := by decide +kernel
theorem dX12_gainBy_10 : decode cX12_gainBy 10 = .ok (.invokestatic 266, 3) := by decide +kernel
theorem dX12_gainBy_13 : decode cX12_gainBy 13 = .ok (.iload_n 1, 1) := by decide +kernel
theorem dX12_gainBy_14 : decode cX12_gainBy 14 = .ok (.sipush 1000, 3) := by decide +kernel
theorem dX12_gainBy_17 : decode cX12_gainBy 17 = .ok (.idiv, 1) := by decide +kernel
theorem dX12_gainBy_18 : decode cX12_gainBy 18 = .ok (.iload_n 1, 1) := by decide +kernel
theorem dX12_gainBy_19 : decode cX12_gainBy 19 = .ok (.sipush 1000, 3) := by decide +kernel
theorem dX12_gainBy_22 : decode cX12_gainBy 22 = .ok (.irem, 1) := by decide +kernel
theorem dX12_gainBy_23 : decode cX12_gainBy 23 = .ok (.isub, 1) := by decide +kernel
theorem dX12_gainBy_24 : decode cX12_gainBy 24 = .ok (.imul, 1) := by decide +kernel
theorem dX12_gainBy_25 : decode cX12_gainBy 25 = .ok (.iload_n 2, 1) := by decide +kernel
theorem dX12_gainBy_26 : decode cX12_gainBy 26 = .ok (.iload 4, 2) := by decide +kernel
theorem dX12_gainBy_28 : decode cX12_gainBy 28 = .ok (.iload_n 3, 1) := by decide +kernel
theorem dX12_gainBy_29 : decode cX12_gainBy 29 = .ok (.iand, 1) := by decide +kernel
theorem dX12_gainBy_30 : decode cX12_gainBy 30 = .ok (.invokestatic 266, 3) := by decide +kernel
theorem dX12_gainBy_33 : decode cX12_gainBy 33 = .ok (.imul, 1) := by decide +kernel
theorem dX12_gainBy_34 : decode cX12_gainBy 34 = .ok (.isub, 1) := by decide +kernel
theorem dX12_gainBy_35 : decode cX12_gainBy 35 = .ok (.ireturn, 1) := by decide +kernel
theorem dX12_byLot_0 : decode cX12_byLot 0 = .ok (.iconst 0, 1) := by decide +kernel
theorem dX12_byLot_1 : decode cX12_byLot 1 = .ok (.istore 4, 2) := by decide +kernel
theorem dX12_byLot_3 : decode cX12_byLot 3 = .ok (.iconst 0, 1) := by decide +kernel
theorem dX12_byLot_4 : decode cX12_byLot 4 = .ok (.istore 5, 2) := by decide +kernel
theorem dX12_byLot_6 : decode cX12_byLot 6 = .ok (.iload 5, 2) := by decide +kernel
theorem dX12_byLot_8 : decode cX12_byLot 8 = .ok (.sipush 128, 3) := by decide +kernel
theorem dX12_byLot_11 : decode cX12_byLot 11 = .ok (.if_icmp .ge 35, 3) := by decide +kernel
theorem dX12_byLot_14 : decode cX12_byLot 14 = .ok (.iload 4, 2) := by decide +kernel
theorem dX12_byLot_16 : decode cX12_byLot 16 = .ok (.iload 5, 2) := by decide +kernel
theorem dX12_byLot_18 : decode cX12_byLot 18 = .ok (.invokestatic 266, 3) := by decide +kernel
theorem dX12_byLot_21 : decode cX12_byLot 21 = .ok (.iload_n 3, 1) := by decide +kernel
theorem dX12_byLot_22 : decode cX12_byLot 22 = .ok (.if_icmp .ne 14, 3) := by decide +kernel
theorem dX12_byLot_25 : decode cX12_byLot 25 = .ok (.iload_n 0, 1) := by decide +kernel
theorem dX12_byLot_26 : decode cX12_byLot 26 = .ok (.iload_n 1, 1) := by decide +kernel
theorem dX12_byLot_27 : decode cX12_byLot 27 = .ok (.iload_n 2, 1) := by decide +kernel
theorem dX12_byLot_28 : decode cX12_byLot 28 = .ok (.iload 5, 2) := by decide +kernel
theorem dX12_byLot_30 : decode cX12_byLot 30 = .ok (.invokestatic 269, 3) := by decide +kernel
theorem dX12_byLot_33 : decode cX12_byLot 33 = .ok (.goto 4, 3) := by decide +kernel
theorem dX12_byLot_36 : decode cX12_byLot 36 = .ok (.iconst 0, 1) := by decide +kernel
theorem dX12_byLot_37 : decode cX12_byLot 37 = .ok (.iadd, 1) := by decide +kernel
theorem dX12_byLot_38 : decode cX12_byLot 38 = .ok (.istore 4, 2) := by decide +kernel
theorem dX12_byLot_40 : decode cX12_byLot 40 = .ok (.iinc 5 1, 3) := by decide +kernel
theorem dX12_byLot_43 : decode cX12_byLot 43 = .ok (.goto (-37), 3) := by decide +kernel
theorem dX12_byLot_46 : decode cX12_byLot 46 = .ok (.iload 4, 2) := by decide +kernel
theorem dX12_byLot_48 : decode cX12_byLot 48 = .ok (.ireturn, 1) := by decide +kernel
theorem dX12_gain_0 : decode cX12_gain 0 = .ok (.iload_n 1, 1) := by decide +kernel
theorem dX12_gain_1 : decode cX12_gain 1 = .ok (.i2l, 1) := by decide +kernel
theorem dX12_gain_2 : decode cX12_gain 2 = .ok (.lconst 0, 1) := by decide +kernel
theorem dX12_gain_3 : decode cX12_gain 3 = .ok (.ldc2_w 272, 3) := by decide +kernel
theorem dX12_gain_6 : decode cX12_gain 6 = .ok (.invokestatic 57, 3) := by decide +kernel
theorem dX12_gain_9 : decode cX12_gain 9 = .ok (.ifCond .eq 35, 3) := by decide +kernel
theorem dX12_gain_12 : decode cX12_gain 12 = .ok (.iload_n 2, 1) := by decide +kernel
theorem dX12_gain_13 : decode cX12_gain 13 = .ok (.iload_n 3, 1) := by decide +kernel
theorem dX12_gain_14 : decode cX12_gain 14 = .ok (.invokestatic 274, 3) := by decide +kernel
theorem dX12_gain_17 : decode cX12_gain 17 = .ok (.ifCond .eq 27, 3) := by decide +kernel
theorem dX12_gain_20 : decode cX12_gain 20 = .ok (.iload 4, 2) := by decide +kernel
theorem dX12_gain_22 : decode cX12_gain 22 = .ok (.i2l, 1) := by decide +kernel
theorem dX12_gain_23 : decode cX12_gain 23 = .ok (.lconst 0, 1) := by decide +kernel
theorem dX12_gain_24 : decode cX12_gain 24 = .ok (.iload 5, 2) := by decide +kernel
theorem dX12_gain_26 : decode cX12_gain 26 = .ok (.ifCond .eq 9, 3) := by decide +kernel
theorem dX12_gain_29 : decode cX12_gain 29 = .ok (.ldc2_w 65, 3) := by decide +kernel
theorem dX12_gain_32 : decode cX12_gain 32 = .ok (.goto 6, 3) := by decide +kernel
theorem dX12_gain_35 : decode cX12_gain 35 = .ok (.ldc2_w 272, 3) := by decide +kernel
theorem dX12_gain_38 : decode cX12_gain 38 = .ok (.invokestatic 57, 3) := by decide +kernel
theorem dX12_gain_41 : decode cX12_gain 41 = .ok (.ifCond .ne 6, 3) := by decide +kernel
theorem dX12_gain_44 : decode cX12_gain 44 = .ok (.ldc 188, 2) := by decide +kernel
theorem dX12_gain_46 : decode cX12_gain 46 = .ok (.ireturn, 1) := by decide +kernel
theorem dX12_gain_47 : decode cX12_gain 47 = .ok (.iload 5, 2) := by decide +kernel
theorem dX12_gain_49 : decode cX12_gain 49 = .ok (.ifCond .eq 14, 3) := by decide +kernel
theorem dX12_gain_52 : decode cX12_gain 52 = .ok (.iload_n 1, 1) := by decide +kernel
theorem dX12_gain_53 : decode cX12_gain 53 = .ok (.iload_n 2, 1) := by decide +kernel
theorem dX12_gain_54 : decode cX12_gain 54 = .ok (.iload_n 3, 1) := by decide +kernel
theorem dX12_gain_55 : decode cX12_gain 55 = .ok (.iload 4, 2) := by decide +kernel
theorem dX12_gain_57 : decode cX12_gain 57 = .ok (.invokestatic 277, 3) := by decide +kernel
theorem dX12_gain_60 : decode cX12_gain 60 = .ok (.goto 11, 3) := by decide +kernel
theorem dX12_gain_63 : decode cX12_gain 63 = .ok (.iload_n 1, 1) := by decide +kernel
theorem dX12_gain_64 : decode cX12_gain 64 = .ok (.iload_n 2, 1) := by decide +kernel
theorem dX12_gain_65 : decode cX12_gain 65 = .ok (.iload_n 3, 1) := by decide +kernel
theorem dX12_gain_66 : decode cX12_gain 66 = .ok (.iload 4, 2) := by decide +kernel
theorem dX12_gain_68 : decode cX12_gain 68 = .ok (.invokestatic 269, 3) := by decide +kernel
theorem dX12_gain_71 : decode cX12_gain 71 = .ok (.ireturn, 1) := by decide +kernel
theorem dX12_isEnough_0 : decode cX12_isEnough 0 = .ok (.iconst 0, 1) := by decide +kernel
theorem dX12_isEnough_1 : decode cX12_isEnough 1 = .ok (.istore_n 3, 1) := by decide +kernel
theorem dX12_isEnough_2 : decode cX12_isEnough 2 = .ok (.iload_n 3, 1) := by decide +kernel
theorem dX12_isEnough_3 : decode cX12_isEnough 3 = .ok (.bipush 127, 2) := by decide +kernel
theorem dX12_isEnough_5 : decode cX12_isEnough 5 = .ok (.if_icmp .ge 21, 3) := by decide +kernel
theorem dX12_isEnough_8 : decode cX12_isEnough 8 = .ok (.iload_n 3, 1) := by decide +kernel
theorem dX12_isEnough_9 : decode cX12_isEnough 9 = .ok (.iload_n 0, 1) := by decide +kernel
theorem dX12_isEnough_10 : decode cX12_isEnough 10 = .ok (.iload_n 1, 1) := by decide +kernel
theorem dX12_isEnough_11 : decode cX12_isEnough 11 = .ok (.iload_n 2, 1) := by decide +kernel
theorem dX12_isEnough_12 : decode cX12_isEnough 12 = .ok (.invokestatic 277, 3) := by decide +kernel
theorem dX12_isEnough_15 : decode cX12_isEnough 15 = .ok (.ifCond .le 5, 3) := by decide +kernel
theorem dX12_isEnough_18 : decode cX12_isEnough 18 = .ok (.iconst 0, 1) := by decide +kernel
theorem dX12_isEnough_19 : decode cX12_isEnough 19 = .ok (.ireturn, 1) := by decide +kernel
theorem dX12_isEnough_20 : decode cX12_isEnough 20 = .ok (.iinc 3 1, 3) := by decide +kernel
theorem dX12_isEnough_23 : decode cX12_isEnough 23 = .ok (.goto (-21), 3) := by decide +kernel
theorem dX12_isEnough_26 : decode cX12_isEnough 26 = .ok (.iconst 1, 1) := by decide +kernel
theorem dX12_isEnough_27 : decode cX12_isEnough 27 = .ok (.ireturn, 1) := by decide +kernel
theorem dX12_best_0 : decode cX12_best 0 = .ok (.iload_n 1, 1) := by decide +kernel
theorem dX12_best_1 : decode cX12_best 1 = .ok (.iload_n 2, 1) := by decide +kernel
theorem dX12_best_2 : decode cX12_best 2 = .ok (.invokestatic 274, 3) := by decide +kernel
theorem dX12_best_5 : decode cX12_best 5 = .ok (.ifCond .eq 36, 3) := by decide +kernel
theorem dX12_best_8 : decode cX12_best 8 = .ok (.iload 4, 2) := by decide +kernel
theorem dX12_best_10 : decode cX12_best 10 = .ok (.i2l, 1) := by decide +kernel
theorem dX12_best_11 : decode cX12_best 11 = .ok (.lconst 0, 1) := by decide +kernel
theorem dX12_best_12 : decode cX12_best 12 = .ok (.lconst 1, 1) := by decide +kernel
theorem dX12_best_13 : decode cX12_best 13 = .ok (.invokestatic 57, 3) := by decide +kernel
theorem dX12_best_16 : decode cX12_best 16 = .ok (.ifCond .eq 25, 3) := by decide +kernel
theorem dX12_best_19 : decode cX12_best 19 = .ok (.iload_n 3, 1) := by decide +kernel
theorem dX12_best_20 : decode cX12_best 20 = .ok (.i2l, 1) := by decide +kernel
theorem dX12_best_21 : decode cX12_best 21 = .ok (.lconst 0, 1) := by decide +kernel
theorem dX12_best_22 : decode cX12_best 22 = .ok (.iload 4, 2) := by decide +kernel
theorem dX12_best_24 : decode cX12_best 24 = .ok (.iconst 1, 1) := by decide +kernel
theorem dX12_best_25 : decode cX12_best 25 = .ok (.if_icmp .ne 7, 3) := by decide +kernel
theorem dX12_best_28 : decode cX12_best 28 = .ok (.lconst 0, 1) := by decide +kernel
theorem dX12_best_29 : decode cX12_best 29 = .ok (.goto 6, 3) := by decide +kernel
theorem dX12_best_32 : decode cX12_best 32 = .ok (.ldc2_w 272, 3) := by decide +kernel
theorem dX12_best_35 : decode cX12_best 35 = .ok (.invokestatic 57, 3) := by decide +kernel
theorem dX12_best_38 : decode cX12_best 38 = .ok (.ifCond .ne 5, 3) := by decide +kernel
theorem dX12_best_41 : decode cX12_best 41 = .ok (.iconst (-1), 1) := by decide +kernel
theorem dX12_best_42 : decode cX12_best 42 = .ok (.ireturn, 1) := by decide +kernel
theorem dX12_best_43 : decode cX12_best 43 = .ok (.iload 4, 2) := by decide +kernel
theorem dX12_best_45 : decode cX12_best 45 = .ok (.iconst 1, 1) := by decide +kernel
theorem dX12_best_46 : decode cX12_best 46 = .ok (.if_icmp .ne 35, 3) := by decide +kernel
theorem dX12_best_49 : decode cX12_best 49 = .ok (.iconst 0, 1) := by decide +kernel
theorem dX12_best_50 : decode cX12_best 50 = .ok (.istore 5, 2) := by decide +kernel
theorem dX12_best_52 : decode cX12_best 52 = .ok (.iload 5, 2) := by decide +kernel
theorem dX12_best_54 : decode cX12_best 54 = .ok (.bipush 8, 2) := by decide +kernel
theorem dX12_best_56 : decode cX12_best 56 = .ok (.if_icmp .ge 22, 3) := by decide +kernel
theorem dX12_best_59 : decode cX12_best 59 = .ok (.iload_n 1, 1) := by decide +kernel
theorem dX12_best_60 : decode cX12_best 60 = .ok (.iload_n 2, 1) := by decide +kernel
theorem dX12_best_61 : decode cX12_best 61 = .ok (.iload 5, 2) := by decide +kernel
theorem dX12_best_63 : decode cX12_best 63 = .ok (.invokestatic 280, 3) := by decide +kernel
theorem dX12_best_66 : decode cX12_best 66 = .ok (.ifCond .eq 6, 3) := by decide +kernel
theorem dX12_best_69 : decode cX12_best 69 = .ok (.iload 5, 2) := by decide +kernel
theorem dX12_best_71 : decode cX12_best 71 = .ok (.ireturn, 1) := by decide +kernel
theorem dX12_best_72 : decode cX12_best 72 = .ok (.iinc 5 1, 3) := by decide +kernel
theorem dX12_best_75 : decode cX12_best 75 = .ok (.goto (-23), 3) := by decide +kernel
theorem dX12_best_78 : decode cX12_best 78 = .ok (.bipush (-4), 2) := by decide +kernel
theorem dX12_best_80 : decode cX12_best 80 = .ok (.ireturn, 1) := by decide +kernel
theorem dX12_best_81 : decode cX12_best 81 = .ok (.iconst 0, 1) := by decide +kernel
theorem dX12_best_82 : decode cX12_best 82 = .ok (.istore 5, 2) := by decide +kernel
theorem dX12_best_84 : decode cX12_best 84 = .ok (.iconst 1, 1) := by decide +kernel
theorem dX12_best_85 : decode cX12_best 85 = .ok (.istore 6, 2) := by decide +kernel
theorem dX12_best_87 : decode cX12_best 87 = .ok (.iload 6, 2) := by decide +kernel
theorem dX12_best_89 : decode cX12_best 89 = .ok (.sipush 128, 3) := by decide +kernel
theorem dX12_best_92 : decode cX12_best 92 = .ok (.if_icmp .ge 37, 3) := by decide +kernel
theorem dX12_best_95 : decode cX12_best 95 = .ok (.iload 6, 2) := by decide +kernel
theorem dX12_best_97 : decode cX12_best 97 = .ok (.iload_n 1, 1) := by decide +kernel
theorem dX12_best_98 : decode cX12_best 98 = .ok (.iload_n 2, 1) := by decide +kernel
theorem dX12_best_99 : decode cX12_best 99 = .ok (.iload_n 3, 1) := by decide +kernel
theorem dX12_best_100 : decode cX12_best 100 = .ok (.invokestatic 269, 3) := by decide +kernel
theorem dX12_best_103 : decode cX12_best 103 = .ok (.iload 5, 2) := by decide +kernel
theorem dX12_best_105 : decode cX12_best 105 = .ok (.iload_n 1, 1) := by decide +kernel
theorem dX12_best_106 : decode cX12_best 106 = .ok (.iload_n 2, 1) := by decide +kernel
theorem dX12_best_107 : decode cX12_best 107 = .ok (.iload_n 3, 1) := by decide +kernel
theorem dX12_best_108 : decode cX12_best 108 = .ok (.invokestatic 269, 3) := by decide +kernel
theorem dX12_best_111 : decode cX12_best 111 = .ok (.if_icmp .le 8, 3) := by decide +kernel
theorem dX12_best_114 : decode cX12_best 114 = .ok (.iload 6, 2) := by decide +kernel
theorem dX12_best_116 : decode cX12_best 116 = .ok (.goto 5, 3) := by decide +kernel
theorem dX12_best_119 : decode cX12_best 119 = .ok (.iload 5, 2) := by decide +kernel
theorem dX12_best_121 : decode cX12_best 121 = .ok (.istore 5, 2) := by decide +kernel
theorem dX12_best_123 : decode cX12_best 123 = .ok (.iinc 6 1, 3) := by decide +kernel
theorem dX12_best_126 : decode cX12_best 126 = .ok (.goto (-39), 3) := by decide +kernel
theorem dX12_best_129 : decode cX12_best 129 = .ok (.iload 5, 2) := by decide +kernel
theorem dX12_best_131 : decode cX12_best 131 = .ok (.ireturn, 1) := by decide +kernel
theorem dX12_findGroups_0 : decode cX12_findGroups 0 = .ok (.iconst 0, 1) := by decide +kernel
theorem dX12_findGroups_1 : decode cX12_findGroups 1 = .ok (.istore_n 1, 1) := by decide +kernel
theorem dX12_findGroups_2 : decode cX12_findGroups 2 = .ok (.iload_n 1, 1) := by decide +kernel
theorem dX12_findGroups_3 : decode cX12_findGroups 3 = .ok (.aload_n 0, 1) := by decide +kernel
theorem dX12_findGroups_4 : decode cX12_findGroups 4 = .ok (.getfield 9, 3) := by decide +kernel
theorem dX12_findGroups_7 : decode cX12_findGroups 7 = .ok (.iconst 1, 1) := by decide +kernel
theorem dX12_findGroups_8 : decode cX12_findGroups 8 = .ok (.iaload, 1) := by decide +kernel
theorem dX12_findGroups_9 : decode cX12_findGroups 9 = .ok (.if_icmp .ge 16, 3) := by decide +kernel
theorem dX12_findGroups_12 : decode cX12_findGroups 12 = .ok (.aload_n 0, 1) := by decide +kernel
theorem dX12_findGroups_13 : decode cX12_findGroups 13 = .ok (.getfield 50, 3) := by decide +kernel
theorem dX12_findGroups_16 : decode cX12_findGroups 16 = .ok (.iload_n 1, 1) := by decide +kernel
theorem dX12_findGroups_17 : decode cX12_findGroups 17 = .ok (.iload_n 1, 1) := by decide +kernel
theorem dX12_findGroups_18 : decode cX12_findGroups 18 = .ok (.iastore, 1) := by decide +kernel
theorem dX12_findGroups_19 : decode cX12_findGroups 19 = .ok (.iinc 1 1, 3) := by decide +kernel
theorem dX12_findGroups_22 : decode cX12_findGroups 22 = .ok (.goto (-20), 3) := by decide +kernel
theorem dX12_findGroups_25 : decode cX12_findGroups 25 = .ok (.iconst 0, 1) := by decide +kernel
theorem dX12_findGroups_26 : decode cX12_findGroups 26 = .ok (.istore_n 1, 1) := by decide +kernel
theorem dX12_findGroups_27 : decode cX12_findGroups 27 = .ok (.iload_n 1, 1) := by decide +kernel
theorem dX12_findGroups_28 : decode cX12_findGroups 28 = .ok (.bipush 12, 2) := by decide +kernel
theorem dX12_findGroups_30 : decode cX12_findGroups 30 = .ok (.if_icmp .ge 115, 3) := by decide +kernel
theorem dX12_findGroups_33 : decode cX12_findGroups 33 = .ok (.iconst 0, 1) := by decide +kernel
theorem dX12_findGroups_34 : decode cX12_findGroups 34 = .ok (.istore_n 2, 1) := by decide +kernel
theorem dX12_findGroups_35 : decode cX12_findGroups 35 = .ok (.iload_n 2, 1) := by decide +kernel
theorem dX12_findGroups_36 : decode cX12_findGroups 36 = .ok (.aload_n 0, 1) := by decide +kernel
theorem dX12_findGroups_37 : decode cX12_findGroups 37 = .ok (.getfield 9, 3) := by decide +kernel
theorem dX12_findGroups_40 : decode cX12_findGroups 40 = .ok (.iconst 2, 1) := by decide +kernel
theorem dX12_findGroups_41 : decode cX12_findGroups 41 = .ok (.iaload, 1) := by decide +kernel
theorem dX12_findGroups_42 : decode cX12_findGroups 42 = .ok (.if_icmp .ge 97, 3) := by decide +kernel
theorem dX12_findGroups_45 : decode cX12_findGroups 45 = .ok (.aload_n 0, 1) := by decide +kernel
theorem dX12_findGroups_46 : decode cX12_findGroups 46 = .ok (.iload_n 2, 1) := by decide +kernel
theorem dX12_findGroups_47 : decode cX12_findGroups 47 = .ok (.iconst 5, 1) := by decide +kernel
theorem dX12_findGroups_48 : decode cX12_findGroups 48 = .ok (.invokevirtual 158, 3) := by decide +kernel
theorem dX12_findGroups_51 : decode cX12_findGroups 51 = .ok (.iconst 1, 1) := by decide +kernel
theorem dX12_findGroups_52 : decode cX12_findGroups 52 = .ok (.if_icmp .ne 6, 3) := by decide +kernel
theorem dX12_findGroups_55 : decode cX12_findGroups 55 = .ok (.goto 78, 3) := by decide +kernel
theorem dX12_findGroups_58 : decode cX12_findGroups 58 = .ok (.aload_n 0, 1) := by decide +kernel
theorem dX12_findGroups_59 : decode cX12_findGroups 59 = .ok (.getfield 50, 3) := by decide +kernel
theorem dX12_findGroups_62 : decode cX12_findGroups 62 = .ok (.aload_n 0, 1) := by decide +kernel
theorem dX12_findGroups_63 : decode cX12_findGroups 63 = .ok (.iload_n 2, 1) := by decide +kernel
theorem dX12_findGroups_64 : decode cX12_findGroups 64 = .ok (.iconst 0, 1) := by decide +kernel
theorem dX12_findGroups_65 : decode cX12_findGroups 65 = .ok (.invokevirtual 158, 3) := by decide +kernel
theorem dX12_findGroups_68 : decode cX12_findGroups 68 = .ok (.iaload, 1) := by decide +kernel
theorem dX12_findGroups_69 : decode cX12_findGroups 69 = .ok (.aload_n 0, 1) := by decide +kernel
theorem dX12_findGroups_70 : decode cX12_findGroups 70 = .ok (.getfield 50, 3) := by decide +kernel
theorem dX12_findGroups_73 : decode cX12_findGroups 73 = .ok (.aload_n 0, 1) := by decide +kernel
theorem dX12_findGroups_74 : decode cX12_findGroups 74 = .ok (.iload_n 2, 1) := by decide +kernel
theorem dX12_findGroups_75 : decode cX12_findGroups 75 = .ok (.iconst 1, 1) := by decide +kernel
theorem dX12_findGroups_76 : decode cX12_findGroups 76 = .ok (.invokevirtual 158, 3) := by decide +kernel
theorem dX12_findGroups_79 : decode cX12_findGroups 79 = .ok (.iaload, 1) := by decide +kernel
theorem dX12_findGroups_80 : decode cX12_findGroups 80 = .ok (.if_icmp .ge 17, 3) := by decide +kernel
theorem dX12_findGroups_83 : decode cX12_findGroups 83 = .ok (.aload_n 0, 1) := by decide +kernel
theorem dX12_findGroups_84 : decode cX12_findGroups 84 = .ok (.getfield 50, 3) := by decide +kernel
theorem dX12_findGroups_87 : decode cX12_findGroups 87 = .ok (.aload_n 0, 1) := by decide +kernel
theorem dX12_findGroups_88 : decode cX12_findGroups 88 = .ok (.iload_n 2, 1) := by decide +kernel
theorem dX12_findGroups_89 : decode cX12_findGroups 89 = .ok (.iconst 0, 1) := by decide +kernel
theorem dX12_findGroups_90 : decode cX12_findGroups 90 = .ok (.invokevirtual 158, 3) := by decide +kernel
theorem dX12_findGroups_93 : decode cX12_findGroups 93 = .ok (.iaload, 1) := by decide +kernel
theorem dX12_findGroups_94 : decode cX12_findGroups 94 = .ok (.goto 14, 3) := by decide +kernel
theorem dX12_findGroups_97 : decode cX12_findGroups 97 = .ok (.aload_n 0, 1) := by decide +kernel
theorem dX12_findGroups_98 : decode cX12_findGroups 98 = .ok (.getfield 50, 3) := by decide +kernel
theorem dX12_findGroups_101 : decode cX12_findGroups 101 = .ok (.aload_n 0, 1) := by decide +kernel
theorem dX12_findGroups_102 : decode cX12_findGroups 102 = .ok (.iload_n 2, 1) := by decide +kernel
theorem dX12_findGroups_103 : decode cX12_findGroups 103 = .ok (.iconst 1, 1) := by decide +kernel
theorem dX12_findGroups_104 : decode cX12_findGroups 104 = .ok (.invokevirtual 158, 3) := by decide +kernel
theorem dX12_findGroups_107 : decode cX12_findGroups 107 = .ok (.iaload, 1) := by decide +kernel
theorem dX12_findGroups_108 : decode cX12_findGroups 108 = .ok (.istore_n 3, 1) := by decide +kernel
theorem dX12_findGroups_109 : decode cX12_findGroups 109 = .ok (.aload_n 0, 1) := by decide +kernel
theorem dX12_findGroups_110 : decode cX12_findGroups 110 = .ok (.getfield 50, 3) := by decide +kernel
theorem dX12_findGroups_113 : decode cX12_findGroups 113 = .ok (.aload_n 0, 1) := by decide +kernel
theorem dX12_findGroups_114 : decode cX12_findGroups 114 = .ok (.iload_n 2, 1) := by decide +kernel
theorem dX12_findGroups_115 : decode cX12_findGroups 115 = .ok (.iconst 0, 1) := by decide +kernel
theorem dX12_findGroups_116 : decode cX12_findGroups 116 = .ok (.invokevirtual 158, 3) := by decide +kernel
theorem dX12_findGroups_119 : decode cX12_findGroups 119 = .ok (.iload_n 3, 1) := by decide +kernel
theorem dX12_findGroups_120 : decode cX12_findGroups 120 = .ok (.iastore, 1) := by decide +kernel
theorem dX12_findGroups_121 : decode cX12_findGroups 121 = .ok (.aload_n 0, 1) := by decide +kernel
theorem dX12_findGroups_122 : decode cX12_findGroups 122 = .ok (.getfield 50, 3) := by decide +kernel
theorem dX12_findGroups_125 : decode cX12_findGroups 125 = .ok (.aload_n 0, 1) := by decide +kernel
theorem dX12_findGroups_126 : decode cX12_findGroups 126 = .ok (.iload_n 2, 1) := by decide +kernel
theorem dX12_findGroups_127 : decode cX12_findGroups 127 = .ok (.iconst 1, 1) := by decide +kernel
theorem dX12_findGroups_128 : decode cX12_findGroups 128 = .ok (.invokevirtual 158, 3) := by decide +kernel
theorem dX12_findGroups_131 : decode cX12_findGroups 131 = .ok (.iload_n 3, 1) := by decide +kernel
theorem dX12_findGroups_132 : decode cX12_findGroups 132 = .ok (.iastore, 1) := by decide +kernel
theorem dX12_findGroups_133 : decode cX12_findGroups 133 = .ok (.iinc 2 1, 3) := by decide +kernel
theorem dX12_findGroups_136 : decode cX12_findGroups 136 = .ok (.goto (-101), 3) := by decide +kernel
theorem dX12_findGroups_139 : decode cX12_findGroups 139 = .ok (.iinc 1 1, 3) := by decide +kernel
theorem dX12_findGroups_142 : decode cX12_findGroups 142 = .ok (.goto (-115), 3) := by decide +kernel
theorem dX12_findGroups_145 : decode cX12_findGroups 145 = .ok (.return_, 1) := by decide +kernel
theorem dX12_sizeOf_0 : decode cX12_sizeOf 0 = .ok (.iconst 0, 1) := by decide +kernel
theorem dX12_sizeOf_1 : decode cX12_sizeOf 1 = .ok (.istore_n 2, 1) := by decide +kernel
theorem dX12_sizeOf_2 : decode cX12_sizeOf 2 = .ok (.iconst 0, 1) := by decide +kernel
theorem dX12_sizeOf_3 : decode cX12_sizeOf 3 = .ok (.istore_n 3, 1) := by decide +kernel
theorem dX12_sizeOf_4 : decode cX12_sizeOf 4 = .ok (.iload_n 3, 1) := by decide +kernel
theorem dX12_sizeOf_5 : decode cX12_sizeOf 5 = .ok (.aload_n 0, 1) := by decide +kernel
theorem dX12_sizeOf_6 : decode cX12_sizeOf 6 = .ok (.getfield 9, 3) := by decide +kernel
theorem dX12_sizeOf_9 : decode cX12_sizeOf 9 = .ok (.iconst 1, 1) := by decide +kernel
theorem dX12_sizeOf_10 : decode cX12_sizeOf 10 = .ok (.iaload, 1) := by decide +kernel
theorem dX12_sizeOf_11 : decode cX12_sizeOf 11 = .ok (.if_icmp .ge 27, 3) := by decide +kernel
theorem dX12_sizeOf_14 : decode cX12_sizeOf 14 = .ok (.iload_n 2, 1) := by decide +kernel
theorem dX12_sizeOf_15 : decode cX12_sizeOf 15 = .ok (.aload_n 0, 1) := by decide +kernel
theorem dX12_sizeOf_16 : decode cX12_sizeOf 16 = .ok (.getfield 50, 3) := by decide +kernel
theorem dX12_sizeOf_19 : decode cX12_sizeOf 19 = .ok (.iload_n 3, 1) := by decide +kernel
theorem dX12_sizeOf_20 : decode cX12_sizeOf 20 = .ok (.iaload, 1) := by decide +kernel
theorem dX12_sizeOf_21 : decode cX12_sizeOf 21 = .ok (.iload_n 1, 1) := by decide +kernel
theorem dX12_sizeOf_22 : decode cX12_sizeOf 22 = .ok (.if_icmp .ne 7, 3) := by decide +kernel
theorem dX12_sizeOf_25 : decode cX12_sizeOf 25 = .ok (.iconst 1, 1) := by decide +kernel
theorem dX12_sizeOf_26 : decode cX12_sizeOf 26 = .ok (.goto 4, 3) := by decide +kernel
theorem dX12_sizeOf_29 : decode cX12_sizeOf 29 = .ok (.iconst 0, 1) := by decide +kernel
theorem dX12_sizeOf_30 : decode cX12_sizeOf 30 = .ok (.iadd, 1) := by decide +kernel
theorem dX12_sizeOf_31 : decode cX12_sizeOf 31 = .ok (.istore_n 2, 1) := by decide +kernel
theorem dX12_sizeOf_32 : decode cX12_sizeOf 32 = .ok (.iinc 3 1, 3) := by decide +kernel
theorem dX12_sizeOf_35 : decode cX12_sizeOf 35 = .ok (.goto (-31), 3) := by decide +kernel
theorem dX12_sizeOf_38 : decode cX12_sizeOf 38 = .ok (.iload_n 2, 1) := by decide +kernel
theorem dX12_sizeOf_39 : decode cX12_sizeOf 39 = .ok (.ireturn, 1) := by decide +kernel
theorem dX12_narrows_0 : decode cX12_narrows 0 = .ok (.aload_n 0, 1) := by decide +kernel
theorem dX12_narrows_1 : decode cX12_narrows 1 = .ok (.invokevirtual 283, 3) := by decide +kernel
theorem dX12_narrows_4 : decode cX12_narrows 4 = .ok (.bipush (-4), 2) := by decide +kernel
theorem dX12_narrows_6 : decode cX12_narrows 6 = .ok (.istore_n 1, 1) := by decide +kernel
theorem dX12_narrows_7 : decode cX12_narrows 7 = .ok (.iconst 0, 1) := by decide +kernel
theorem dX12_narrows_8 : decode cX12_narrows 8 = .ok (.istore_n 2, 1) := by decide +kernel
theorem dX12_narrows_9 : decode cX12_narrows 9 = .ok (.iconst 0, 1) := by decide +kernel
theorem dX12_narrows_10 : decode cX12_narrows 10 = .ok (.istore_n 3, 1) := by decide +kernel
theorem dX12_narrows_11 : decode cX12_narrows 11 = .ok (.iload_n 3, 1) := by decide +kernel
theorem dX12_narrows_12 : decode cX12_narrows 12 = .ok (.aload_n 0, 1) := by decide +kernel
theorem dX12_narrows_13 : decode cX12_narrows 13 = .ok (.getfield 9, 3) := by decide +kernel
theorem dX12_narrows_16 : decode cX12_narrows 16 = .ok (.iconst 1, 1) := by decide +kernel
theorem dX12_narrows_17 : decode cX12_narrows 17 = .ok (.iaload, 1) := by decide +kernel
theorem dX12_narrows_18 : decode cX12_narrows 18 = .ok (.if_icmp .ge 95, 3) := by decide +kernel
theorem dX12_narrows_21 : decode cX12_narrows 21 = .ok (.iload_n 3, 1) := by decide +kernel
theorem dX12_narrows_22 : decode cX12_narrows 22 = .ok (.iconst 1, 1) := by decide +kernel
theorem dX12_narrows_23 : decode cX12_narrows 23 = .ok (.iadd, 1) := by decide +kernel
theorem dX12_narrows_24 : decode cX12_narrows 24 = .ok (.istore 4, 2) := by decide +kernel
theorem dX12_narrows_26 : decode cX12_narrows 26 = .ok (.iload 4, 2) := by decide +kernel
theorem dX12_narrows_28 : decode cX12_narrows 28 = .ok (.aload_n 0, 1) := by decide +kernel
theorem dX12_narrows_29 : decode cX12_narrows 29 = .ok (.getfield 9, 3) := by decide +kernel
theorem dX12_narrows_32 : decode cX12_narrows 32 = .ok (.iconst 1, 1) := by decide +kernel
theorem dX12_narrows_33 : decode cX12_narrows 33 = .ok (.iaload, 1) := by decide +kernel
theorem dX12_narrows_34 : decode cX12_narrows 34 = .ok (.if_icmp .ge 73, 3) := by decide +kernel
theorem dX12_narrows_37 : decode cX12_narrows 37 = .ok (.aload_n 0, 1) := by decide +kernel
theorem dX12_narrows_38 : decode cX12_narrows 38 = .ok (.getfield 50, 3) := by decide +kernel
theorem dX12_narrows_41 : decode cX12_narrows 41 = .ok (.iload_n 3, 1) := by decide +kernel
theorem dX12_narrows_42 : decode cX12_narrows 42 = .ok (.iaload, 1) := by decide +kernel
theorem dX12_narrows_43 : decode cX12_narrows 43 = .ok (.aload_n 0, 1) := by decide +kernel
theorem dX12_narrows_44 : decode cX12_narrows 44 = .ok (.getfield 50, 3) := by decide +kernel
theorem dX12_narrows_47 : decode cX12_narrows 47 = .ok (.iload 4, 2) := by decide +kernel
theorem dX12_narrows_49 : decode cX12_narrows 49 = .ok (.iaload, 1) := by decide +kernel
theorem dX12_narrows_50 : decode cX12_narrows 50 = .ok (.if_icmp .ne 7, 3) := by decide +kernel
theorem dX12_narrows_53 : decode cX12_narrows 53 = .ok (.iconst 0, 1) := by decide +kernel
theorem dX12_narrows_54 : decode cX12_narrows 54 = .ok (.goto 25, 3) := by decide +kernel
theorem dX12_narrows_57 : decode cX12_narrows 57 = .ok (.aload_n 0, 1) := by decide +kernel
theorem dX12_narrows_58 : decode cX12_narrows 58 = .ok (.aload_n 0, 1) := by decide +kernel
theorem dX12_narrows_59 : decode cX12_narrows 59 = .ok (.getfield 50, 3) := by decide +kernel
theorem dX12_narrows_62 : decode cX12_narrows 62 = .ok (.iload_n 3, 1) := by decide +kernel
theorem dX12_narrows_63 : decode cX12_narrows 63 = .ok (.iaload, 1) := by decide +kernel
theorem dX12_narrows_64 : decode cX12_narrows 64 = .ok (.invokevirtual 286, 3) := by decide +kernel
theorem dX12_narrows_67 : decode cX12_narrows 67 = .ok (.aload_n 0, 1) := by decide +kernel
theorem dX12_narrows_68 : decode cX12_narrows 68 = .ok (.aload_n 0, 1) := by decide +kernel
theorem dX12_narrows_69 : decode cX12_narrows 69 = .ok (.getfield 50, 3) := by decide +kernel
theorem dX12_narrows_72 : decode cX12_narrows 72 = .ok (.iload 4, 2) := by decide +kernel
theorem dX12_narrows_74 : decode cX12_narrows 74 = .ok (.iaload, 1) := by decide +kernel
theorem dX12_narrows_75 : decode cX12_narrows 75 = .ok (.invokevirtual 286, 3) := by decide +kernel
theorem dX12_narrows_78 : decode cX12_narrows 78 = .ok (.imul, 1) := by decide +kernel
theorem dX12_narrows_79 : decode cX12_narrows 79 = .ok (.istore 5, 2) := by decide +kernel
theorem dX12_narrows_81 : decode cX12_narrows 81 = .ok (.iload 5, 2) := by decide +kernel
theorem dX12_narrows_83 : decode cX12_narrows 83 = .ok (.iload_n 2, 1) := by decide +kernel
theorem dX12_narrows_84 : decode cX12_narrows 84 = .ok (.if_icmp .gt 6, 3) := by decide +kernel
theorem dX12_narrows_87 : decode cX12_narrows 87 = .ok (.goto 14, 3) := by decide +kernel
theorem dX12_narrows_90 : decode cX12_narrows 90 = .ok (.bipush 100, 2) := by decide +kernel
theorem dX12_narrows_92 : decode cX12_narrows 92 = .ok (.iload_n 3, 1) := by decide +kernel
theorem dX12_narrows_93 : decode cX12_narrows 93 = .ok (.imul, 1) := by decide +kernel
theorem dX12_narrows_94 : decode cX12_narrows 94 = .ok (.iload 4, 2) := by decide +kernel
theorem dX12_narrows_96 : decode cX12_narrows 96 = .ok (.iadd, 1) := by decide +kernel
theorem dX12_narrows_97 : decode cX12_narrows 97 = .ok (.istore_n 1, 1) := by decide +kernel
theorem dX12_narrows_98 : decode cX12_narrows 98 = .ok (.iload 5, 2) := by decide +kernel
theorem dX12_narrows_100 : decode cX12_narrows 100 = .ok (.istore_n 2, 1) := by decide +kernel
theorem dX12_narrows_101 : decode cX12_narrows 101 = .ok (.iinc 4 1, 3) := by decide +kernel
theorem dX12_narrows_104 : decode cX12_narrows 104 = .ok (.goto (-78), 3) := by decide +kernel
theorem dX12_narrows_107 : decode cX12_narrows 107 = .ok (.iinc 3 1, 3) := by decide +kernel
theorem dX12_narrows_110 : decode cX12_narrows 110 = .ok (.goto (-99), 3) := by decide +kernel
theorem dX12_narrows_113 : decode cX12_narrows 113 = .ok (.iload_n 1, 1) := by decide +kernel
theorem dX12_narrows_114 : decode cX12_narrows 114 = .ok (.ireturn, 1) := by decide +kernel
theorem dX12_image_0 : decode cX12_image 0 = .ok (.iconst 0, 1) := by decide +kernel
theorem dX12_image_1 : decode cX12_image 1 = .ok (.istore_n 1, 1) := by decide +kernel
theorem dX12_image_2 : decode cX12_image 2 = .ok (.iload_n 1, 1) := by decide +kernel
theorem dX12_image_3 : decode cX12_image 3 = .ok (.sipush 434, 3) := by decide +kernel
theorem dX12_image_6 : decode cX12_image 6 = .ok (.if_icmp .ge 21, 3) := by decide +kernel
theorem dX12_image_9 : decode cX12_image 9 = .ok (.aload_n 0, 1) := by decide +kernel
theorem dX12_image_10 : decode cX12_image 10 = .ok (.getfield 13, 3) := by decide +kernel
theorem dX12_image_13 : decode cX12_image 13 = .ok (.iload_n 1, 1) := by decide +kernel
theorem dX12_image_14 : decode cX12_image 14 = .ok (.aload_n 0, 1) := by decide +kernel
theorem dX12_image_15 : decode cX12_image 15 = .ok (.getfield 9, 3) := by decide +kernel
theorem dX12_image_18 : decode cX12_image 18 = .ok (.iload_n 1, 1) := by decide +kernel
theorem dX12_image_19 : decode cX12_image 19 = .ok (.iaload, 1) := by decide +kernel
theorem dX12_image_20 : decode cX12_image 20 = .ok (.iastore, 1) := by decide +kernel
theorem dX12_image_21 : decode cX12_image 21 = .ok (.iinc 1 1, 3) := by decide +kernel
theorem dX12_image_24 : decode cX12_image 24 = .ok (.goto (-22), 3) := by decide +kernel
theorem dX12_image_27 : decode cX12_image 27 = .ok (.iconst 0, 1) := by decide +kernel
theorem dX12_image_28 : decode cX12_image 28 = .ok (.istore_n 1, 1) := by decide +kernel
theorem dX12_image_29 : decode cX12_image 29 = .ok (.iload_n 1, 1) := by decide +kernel
theorem dX12_image_30 : decode cX12_image 30 = .ok (.bipush 20, 2) := by decide +kernel
theorem dX12_image_32 : decode cX12_image 32 = .ok (.if_icmp .ge 21, 3) := by decide +kernel
theorem dX12_image_35 : decode cX12_image 35 = .ok (.aload_n 0, 1) := by decide +kernel
theorem dX12_image_36 : decode cX12_image 36 = .ok (.getfield 20, 3) := by decide +kernel
theorem dX12_image_39 : decode cX12_image 39 = .ok (.iload_n 1, 1) := by decide +kernel
theorem dX12_image_40 : decode cX12_image 40 = .ok (.aload_n 0, 1) := by decide +kernel
theorem dX12_image_41 : decode cX12_image 41 = .ok (.getfield 16, 3) := by decide +kernel
theorem dX12_image_44 : decode cX12_image 44 = .ok (.iload_n 1, 1) := by decide +kernel
theorem dX12_image_45 : decode cX12_image 45 = .ok (.laload, 1) := by decide +kernel
theorem dX12_image_46 : decode cX12_image 46 = .ok (.lastore, 1) := by decide +kernel
theorem dX12_image_47 : decode cX12_image 47 = .ok (.iinc 1 1, 3) := by decide +kernel
theorem dX12_image_50 : decode cX12_image 50 = .ok (.goto (-21), 3) := by decide +kernel
theorem dX12_image_53 : decode cX12_image 53 = .ok (.aload_n 0, 1) := by decide +kernel
theorem dX12_image_54 : decode cX12_image 54 = .ok (.iconst 1, 1) := by decide +kernel
theorem dX12_image_55 : decode cX12_image 55 = .ok (.putfield 289, 3) := by decide +kernel
theorem dX12_image_58 : decode cX12_image 58 = .ok (.aload_n 0, 1) := by decide +kernel
theorem dX12_image_59 : decode cX12_image 59 = .ok (.getfield 9, 3) := by decide +kernel
theorem dX12_image_62 : decode cX12_image 62 = .ok (.iconst 1, 1) := by decide +kernel
theorem dX12_image_63 : decode cX12_image 63 = .ok (.iaload, 1) := by decide +kernel
theorem dX12_image_64 : decode cX12_image 64 = .ok (.ireturn, 1) := by decide +kernel
theorem dX12_restore_0 : decode cX12_restore 0 = .ok (.aload_n 0, 1) := by decide +kernel
theorem dX12_restore_1 : decode cX12_restore 1 = .ok (.getfield 289, 3) := by decide +kernel
theorem dX12_restore_4 : decode cX12_restore 4 = .ok (.ifCond .ne 6, 3) := by decide +kernel
theorem dX12_restore_7 : decode cX12_restore 7 = .ok (.bipush (-3), 2) := by decide +kernel
theorem dX12_restore_9 : decode cX12_restore 9 = .ok (.ireturn, 1) := by decide +kernel
theorem dX12_restore_10 : decode cX12_restore 10 = .ok (.iconst 0, 1) := by decide +kernel
theorem dX12_restore_11 : decode cX12_restore 11 = .ok (.istore_n 1, 1) := by decide +kernel
theorem dX12_restore_12 : decode cX12_restore 12 = .ok (.iload_n 1, 1) := by decide +kernel
theorem dX12_restore_13 : decode cX12_restore 13 = .ok (.sipush 434, 3) := by decide +kernel
theorem dX12_restore_16 : decode cX12_restore 16 = .ok (.if_icmp .ge 21, 3) := by decide +kernel
theorem dX12_restore_19 : decode cX12_restore 19 = .ok (.aload_n 0, 1) := by decide +kernel
theorem dX12_restore_20 : decode cX12_restore 20 = .ok (.getfield 9, 3) := by decide +kernel
theorem dX12_restore_23 : decode cX12_restore 23 = .ok (.iload_n 1, 1) := by decide +kernel
theorem dX12_restore_24 : decode cX12_restore 24 = .ok (.aload_n 0, 1) := by decide +kernel
theorem dX12_restore_25 : decode cX12_restore 25 = .ok (.getfield 13, 3) := by decide +kernel
theorem dX12_restore_28 : decode cX12_restore 28 = .ok (.iload_n 1, 1) := by decide +kernel
theorem dX12_restore_29 : decode cX12_restore 29 = .ok (.iaload, 1) := by decide +kernel
theorem dX12_restore_30 : decode cX12_restore 30 = .ok (.iastore, 1) := by decide +kernel
theorem dX12_restore_31 : decode cX12_restore 31 = .ok (.iinc 1 1, 3) := by decide +kernel
theorem dX12_restore_34 : decode cX12_restore 34 = .ok (.goto (-22), 3) := by decide +kernel
theorem dX12_restore_37 : decode cX12_restore 37 = .ok (.iconst 0, 1) := by decide +kernel
theorem dX12_restore_38 : decode cX12_restore 38 = .ok (.istore_n 1, 1) := by decide +kernel
theorem dX12_restore_39 : decode cX12_restore 39 = .ok (.iload_n 1, 1) := by decide +kernel
theorem dX12_restore_40 : decode cX12_restore 40 = .ok (.bipush 20, 2) := by decide +kernel
theorem dX12_restore_42 : decode cX12_restore 42 = .ok (.if_icmp .ge 21, 3) := by decide +kernel
theorem dX12_restore_45 : decode cX12_restore 45 = .ok (.aload_n 0, 1) := by decide +kernel
theorem dX12_restore_46 : decode cX12_restore 46 = .ok (.getfield 16, 3) := by decide +kernel
theorem dX12_restore_49 : decode cX12_restore 49 = .ok (.iload_n 1, 1) := by decide +kernel
theorem dX12_restore_50 : decode cX12_restore 50 = .ok (.aload_n 0, 1) := by decide +kernel
theorem dX12_restore_51 : decode cX12_restore 51 = .ok (.getfield 20, 3) := by decide +kernel
theorem dX12_restore_54 : decode cX12_restore 54 = .ok (.iload_n 1, 1) := by decide +kernel
theorem dX12_restore_55 : decode cX12_restore 55 = .ok (.laload, 1) := by decide +kernel
theorem dX12_restore_56 : decode cX12_restore 56 = .ok (.lastore, 1) := by decide +kernel
theorem dX12_restore_57 : decode cX12_restore 57 = .ok (.iinc 1 1, 3) := by decide +kernel
theorem dX12_restore_60 : decode cX12_restore 60 = .ok (.goto (-21), 3) := by decide +kernel
theorem dX12_restore_63 : decode cX12_restore 63 = .ok (.aload_n 0, 1) := by decide +kernel
theorem dX12_restore_64 : decode cX12_restore 64 = .ok (.getfield 9, 3) := by decide +kernel
theorem dX12_restore_67 : decode cX12_restore 67 = .ok (.iconst 1, 1) := by decide +kernel
theorem dX12_restore_68 : decode cX12_restore 68 = .ok (.iaload, 1) := by decide +kernel
theorem dX12_restore_69 : decode cX12_restore 69 = .ok (.ireturn, 1) := by decide +kernel
theorem dX12_count_0 : decode cX12_count 0 = .ok (.iconst 0, 1) := by decide +kernel
theorem dX12_count_1 : decode cX12_count 1 = .ok (.istore_n 2, 1) := by decide +kernel
theorem dX12_count_2 : decode cX12_count 2 = .ok (.iload_n 1, 1) := by decide +kernel
theorem dX12_count_3 : decode cX12_count 3 = .ok (.tableswitch 179 0 5 #[37, 44, 51, 80, 87, 116], 37) := by decide +kernel
theorem dX12_count_40 : decode cX12_count 40 = .ok (.aload_n 0, 1) := by decide +kernel
theorem dX12_count_41 : decode cX12_count 41 = .ok (.getfield 9, 3) := by decide +kernel
theorem dX12_count_44 : decode cX12_count 44 = .ok (.iconst 1, 1) := by decide +kernel
theorem dX12_count_45 : decode cX12_count 45 = .ok (.iaload, 1) := by decide +kernel
theorem dX12_count_46 : decode cX12_count 46 = .ok (.ireturn, 1) := by decide +kernel
theorem dX12_count_47 : decode cX12_count 47 = .ok (.aload_n 0, 1) := by decide +kernel
theorem dX12_count_48 : decode cX12_count 48 = .ok (.getfield 9, 3) := by decide +kernel
theorem dX12_count_51 : decode cX12_count 51 = .ok (.iconst 2, 1) := by decide +kernel
theorem dX12_count_52 : decode cX12_count 52 = .ok (.iaload, 1) := by decide +kernel
theorem dX12_count_53 : decode cX12_count 53 = .ok (.ireturn, 1) := by decide +kernel
theorem dX12_count_54 : decode cX12_count 54 = .ok (.iconst 0, 1) := by decide +kernel
theorem dX12_count_55 : decode cX12_count 55 = .ok (.istore_n 3, 1) := by decide +kernel
theorem dX12_count_56 : decode cX12_count 56 = .ok (.iload_n 3, 1) := by decide +kernel
theorem dX12_count_57 : decode cX12_count 57 = .ok (.aload_n 0, 1) := by decide +kernel
theorem dX12_count_58 : decode cX12_count 58 = .ok (.getfield 9, 3) := by decide +kernel
theorem dX12_count_61 : decode cX12_count 61 = .ok (.iconst 2, 1) := by decide +kernel
theorem dX12_count_62 : decode cX12_count 62 = .ok (.iaload, 1) := by decide +kernel
theorem dX12_count_63 : decode cX12_count 63 = .ok (.if_icmp .ge 18, 3) := by decide +kernel
theorem dX12_count_66 : decode cX12_count 66 = .ok (.iload_n 2, 1) := by decide +kernel
theorem dX12_count_67 : decode cX12_count 67 = .ok (.aload_n 0, 1) := by decide +kernel
theorem dX12_count_68 : decode cX12_count 68 = .ok (.iload_n 3, 1) := by decide +kernel
theorem dX12_count_69 : decode cX12_count 69 = .ok (.iconst 5, 1) := by decide +kernel
theorem dX12_count_70 : decode cX12_count 70 = .ok (.invokevirtual 158, 3) := by decide +kernel
theorem dX12_count_73 : decode cX12_count 73 = .ok (.iadd, 1) := by decide +kernel
theorem dX12_count_74 : decode cX12_count 74 = .ok (.istore_n 2, 1) := by decide +kernel
theorem dX12_count_75 : decode cX12_count 75 = .ok (.iinc 3 1, 3) := by decide +kernel
theorem dX12_count_78 : decode cX12_count 78 = .ok (.goto (-22), 3) := by decide +kernel
theorem dX12_count_81 : decode cX12_count 81 = .ok (.iload_n 2, 1) := by decide +kernel
theorem dX12_count_82 : decode cX12_count 82 = .ok (.ireturn, 1) := by decide +kernel
theorem dX12_count_83 : decode cX12_count 83 = .ok (.aload_n 0, 1) := by decide +kernel
theorem dX12_count_84 : decode cX12_count 84 = .ok (.getfield 9, 3) := by decide +kernel
theorem dX12_count_87 : decode cX12_count 87 = .ok (.iconst 4, 1) := by decide +kernel
theorem dX12_count_88 : decode cX12_count 88 = .ok (.iaload, 1) := by decide +kernel
theorem dX12_count_89 : decode cX12_count 89 = .ok (.ireturn, 1) := by decide +kernel
theorem dX12_count_90 : decode cX12_count 90 = .ok (.iconst 0, 1) := by decide +kernel
theorem dX12_count_91 : decode cX12_count 91 = .ok (.istore_n 3, 1) := by decide +kernel
theorem dX12_count_92 : decode cX12_count 92 = .ok (.iload_n 3, 1) := by decide +kernel
theorem dX12_count_93 : decode cX12_count 93 = .ok (.aload_n 0, 1) := by decide +kernel
theorem dX12_count_94 : decode cX12_count 94 = .ok (.getfield 9, 3) := by decide +kernel
theorem dX12_count_97 : decode cX12_count 97 = .ok (.iconst 1, 1) := by decide +kernel
theorem dX12_count_98 : decode cX12_count 98 = .ok (.iaload, 1) := by decide +kernel
theorem dX12_count_99 : decode cX12_count 99 = .ok (.if_icmp .ge 18, 3) := by decide +kernel
theorem dX12_count_102 : decode cX12_count 102 = .ok (.iload_n 2, 1) := by decide +kernel
theorem dX12_count_103 : decode cX12_count 103 = .ok (.aload_n 0, 1) := by decide +kernel
theorem dX12_count_104 : decode cX12_count 104 = .ok (.iload_n 3, 1) := by decide +kernel
theorem dX12_count_105 : decode cX12_count 105 = .ok (.iconst 4, 1) := by decide +kernel
theorem dX12_count_106 : decode cX12_count 106 = .ok (.invokevirtual 81, 3) := by decide +kernel
theorem dX12_count_109 : decode cX12_count 109 = .ok (.iadd, 1) := by decide +kernel
theorem dX12_count_110 : decode cX12_count 110 = .ok (.istore_n 2, 1) := by decide +kernel
theorem dX12_count_111 : decode cX12_count 111 = .ok (.iinc 3 1, 3) := by decide +kernel
theorem dX12_count_114 : decode cX12_count 114 = .ok (.goto (-22), 3) := by decide +kernel
theorem dX12_count_117 : decode cX12_count 117 = .ok (.iload_n 2, 1) := by decide +kernel
theorem dX12_count_118 : decode cX12_count 118 = .ok (.ireturn, 1) := by decide +kernel
theorem dX12_count_119 : decode cX12_count 119 = .ok (.aload_n 0, 1) := by decide +kernel
theorem dX12_count_120 : decode cX12_count 120 = .ok (.invokevirtual 283, 3) := by decide +kernel
theorem dX12_count_123 : decode cX12_count 123 = .ok (.iconst 0, 1) := by decide +kernel
theorem dX12_count_124 : decode cX12_count 124 = .ok (.istore_n 3, 1) := by decide +kernel
theorem dX12_count_125 : decode cX12_count 125 = .ok (.iload_n 3, 1) := by decide +kernel
theorem dX12_count_126 : decode cX12_count 126 = .ok (.aload_n 0, 1) := by decide +kernel
theorem dX12_count_127 : decode cX12_count 127 = .ok (.getfield 9, 3) := by decide +kernel
theorem dX12_count_130 : decode cX12_count 130 = .ok (.iconst 1, 1) := by decide +kernel
theorem dX12_count_131 : decode cX12_count 131 = .ok (.iaload, 1) := by decide +kernel
theorem dX12_count_132 : decode cX12_count 132 = .ok (.if_icmp .ge 48, 3) := by decide +kernel
theorem dX12_count_135 : decode cX12_count 135 = .ok (.iconst 0, 1) := by decide +kernel
theorem dX12_count_136 : decode cX12_count 136 = .ok (.istore 4, 2) := by decide +kernel
theorem dX12_count_138 : decode cX12_count 138 = .ok (.iload 4, 2) := by decide +kernel
theorem dX12_count_140 : decode cX12_count 140 = .ok (.iload_n 3, 1) := by decide +kernel
theorem dX12_count_141 : decode cX12_count 141 = .ok (.if_icmp .ge 33, 3) := by decide +kernel
theorem dX12_count_144 : decode cX12_count 144 = .ok (.iload_n 2, 1) := by decide +kernel
theorem dX12_count_145 : decode cX12_count 145 = .ok (.aload_n 0, 1) := by decide +kernel
theorem dX12_count_146 : decode cX12_count 146 = .ok (.getfield 50, 3) := by decide +kernel
theorem dX12_count_149 : decode cX12_count 149 = .ok (.iload_n 3, 1) := by decide +kernel
theorem dX12_count_150 : decode cX12_count 150 = .ok (.iaload, 1) := by decide +kernel
theorem dX12_count_151 : decode cX12_count 151 = .ok (.aload_n 0, 1) := by decide +kernel
theorem dX12_count_152 : decode cX12_count 152 = .ok (.getfield 50, 3) := by decide +kernel
theorem dX12_count_155 : decode cX12_count 155 = .ok (.iload 4, 2) := by decide +kernel
theorem dX12_count_157 : decode cX12_count 157 = .ok (.iaload, 1) := by decide +kernel
theorem dX12_count_158 : decode cX12_count 158 = .ok (.if_icmp .ne 7, 3) := by decide +kernel
theorem dX12_count_161 : decode cX12_count 161 = .ok (.iconst 1, 1) := by decide +kernel
theorem dX12_count_162 : decode cX12_count 162 = .ok (.goto 4, 3) := by decide +kernel
theorem dX12_count_165 : decode cX12_count 165 = .ok (.iconst 0, 1) := by decide +kernel
theorem dX12_count_166 : decode cX12_count 166 = .ok (.iadd, 1) := by decide +kernel
theorem dX12_count_167 : decode cX12_count 167 = .ok (.istore_n 2, 1) := by decide +kernel
theorem dX12_count_168 : decode cX12_count 168 = .ok (.iinc 4 1, 3) := by decide +kernel
theorem dX12_count_171 : decode cX12_count 171 = .ok (.goto (-33), 3) := by decide +kernel
theorem dX12_count_174 : decode cX12_count 174 = .ok (.iinc 3 1, 3) := by decide +kernel
theorem dX12_count_177 : decode cX12_count 177 = .ok (.goto (-52), 3) := by decide +kernel
theorem dX12_count_180 : decode cX12_count 180 = .ok (.iload_n 2, 1) := by decide +kernel
theorem dX12_count_181 : decode cX12_count 181 = .ok (.ireturn, 1) := by decide +kernel
theorem dX12_count_182 : decode cX12_count 182 = .ok (.iconst (-1), 1) := by decide +kernel
theorem dX12_count_183 : decode cX12_count 183 = .ok (.ireturn, 1) := by decide +kernel
theorem dX12_keep_0 : decode cX12_keep 0 = .ok (.iload_n 1, 1) := by decide +kernel
theorem dX12_keep_1 : decode cX12_keep 1 = .ok (.invokestatic 141, 3) := by decide +kernel
theorem dX12_keep_4 : decode cX12_keep 4 = .ok (.ifCond .eq 26, 3) := by decide +kernel
theorem dX12_keep_7 : decode cX12_keep 7 = .ok (.iload_n 2, 1) := by decide +kernel
theorem dX12_keep_8 : decode cX12_keep 8 = .ok (.i2l, 1) := by decide +kernel
theorem dX12_keep_9 : decode cX12_keep 9 = .ok (.lconst 0, 1) := by decide +kernel
theorem dX12_keep_10 : decode cX12_keep 10 = .ok (.lconst 1, 1) := by decide +kernel
theorem dX12_keep_11 : decode cX12_keep 11 = .ok (.invokestatic 57, 3) := by decide +kernel
theorem dX12_keep_14 : decode cX12_keep 14 = .ok (.ifCond .eq 16, 3) := by decide +kernel
theorem dX12_keep_17 : decode cX12_keep 17 = .ok (.iload_n 2, 1) := by decide +kernel
theorem dX12_keep_18 : decode cX12_keep 18 = .ok (.iconst 1, 1) := by decide +kernel
theorem dX12_keep_19 : decode cX12_keep 19 = .ok (.if_icmp .ne 13, 3) := by decide +kernel
theorem dX12_keep_22 : decode cX12_keep 22 = .ok (.aload_n 0, 1) := by decide +kernel
theorem dX12_keep_23 : decode cX12_keep 23 = .ok (.iload_n 3, 1) := by decide +kernel
theorem dX12_keep_24 : decode cX12_keep 24 = .ok (.invokevirtual 61, 3) := by decide +kernel
theorem dX12_keep_27 : decode cX12_keep 27 = .ok (.ifCond .ne 5, 3) := by decide +kernel
theorem dX12_keep_30 : decode cX12_keep 30 = .ok (.iconst (-1), 1) := by decide +kernel
theorem dX12_keep_31 : decode cX12_keep 31 = .ok (.ireturn, 1) := by decide +kernel
theorem dX12_keep_32 : decode cX12_keep 32 = .ok (.aload_n 0, 1) := by decide +kernel
theorem dX12_keep_33 : decode cX12_keep 33 = .ok (.getfield 23, 3) := by decide +kernel
theorem dX12_keep_36 : decode cX12_keep 36 = .ok (.iload_n 1, 1) := by decide +kernel
theorem dX12_keep_37 : decode cX12_keep 37 = .ok (.iload_n 2, 1) := by decide +kernel
theorem dX12_keep_38 : decode cX12_keep 38 = .ok (.iastore, 1) := by decide +kernel
theorem dX12_keep_39 : decode cX12_keep 39 = .ok (.iload_n 2, 1) := by decide +kernel
theorem dX12_keep_40 : decode cX12_keep 40 = .ok (.ifCond .ne 5, 3) := by decide +kernel
theorem dX12_keep_43 : decode cX12_keep 43 = .ok (.iconst 0, 1) := by decide +kernel
theorem dX12_keep_44 : decode cX12_keep 44 = .ok (.ireturn, 1) := by decide +kernel
theorem dX12_keep_45 : decode cX12_keep 45 = .ok (.iconst 0, 1) := by decide +kernel
theorem dX12_keep_46 : decode cX12_keep 46 = .ok (.istore 4, 2) := by decide +kernel
theorem dX12_keep_48 : decode cX12_keep 48 = .ok (.iload 4, 2) := by decide +kernel
theorem dX12_keep_50 : decode cX12_keep 50 = .ok (.iconst 5, 1) := by decide +kernel
theorem dX12_keep_51 : decode cX12_keep 51 = .ok (.if_icmp .ge 27, 3) := by decide +kernel
theorem dX12_keep_54 : decode cX12_keep 54 = .ok (.aload_n 0, 1) := by decide +kernel
theorem dX12_keep_55 : decode cX12_keep 55 = .ok (.getfield 35, 3) := by decide +kernel
theorem dX12_keep_58 : decode cX12_keep 58 = .ok (.iconst 5, 1) := by decide +kernel
theorem dX12_keep_59 : decode cX12_keep 59 = .ok (.iload_n 1, 1) := by decide +kernel
theorem dX12_keep_60 : decode cX12_keep 60 = .ok (.imul, 1) := by decide +kernel
theorem dX12_keep_61 : decode cX12_keep 61 = .ok (.iload 4, 2) := by decide +kernel
theorem dX12_keep_63 : decode cX12_keep 63 = .ok (.iadd, 1) := by decide +kernel
theorem dX12_keep_64 : decode cX12_keep 64 = .ok (.aload_n 0, 1) := by decide +kernel
theorem dX12_keep_65 : decode cX12_keep 65 = .ok (.iload_n 3, 1) := by decide +kernel
theorem dX12_keep_66 : decode cX12_keep 66 = .ok (.iload 4, 2) := by decide +kernel
theorem dX12_keep_68 : decode cX12_keep 68 = .ok (.invokevirtual 81, 3) := by decide +kernel
theorem dX12_keep_71 : decode cX12_keep 71 = .ok (.iastore, 1) := by decide +kernel
theorem dX12_keep_72 : decode cX12_keep 72 = .ok (.iinc 4 1, 3) := by decide +kernel
theorem dX12_keep_75 : decode cX12_keep 75 = .ok (.goto (-27), 3) := by decide +kernel
theorem dX12_keep_78 : decode cX12_keep 78 = .ok (.aload_n 0, 1) := by decide +kernel
theorem dX12_keep_79 : decode cX12_keep 79 = .ok (.iload_n 3, 1) := by decide +kernel
theorem dX12_keep_80 : decode cX12_keep 80 = .ok (.iconst 0, 1) := by decide +kernel
theorem dX12_keep_81 : decode cX12_keep 81 = .ok (.invokevirtual 81, 3) := by decide +kernel
theorem dX12_keep_84 : decode cX12_keep 84 = .ok (.istore 4, 2) := by decide +kernel
theorem dX12_keep_86 : decode cX12_keep 86 = .ok (.aload_n 0, 1) := by decide +kernel
theorem dX12_keep_87 : decode cX12_keep 87 = .ok (.getfield 38, 3) := by decide +kernel
theorem dX12_keep_90 : decode cX12_keep 90 = .ok (.iload_n 1, 1) := by decide +kernel
theorem dX12_keep_91 : decode cX12_keep 91 = .ok (.iload 4, 2) := by decide +kernel
theorem dX12_keep_93 : decode cX12_keep 93 = .ok (.bipush 6, 2) := by decide +kernel
theorem dX12_keep_95 : decode cX12_keep 95 = .ok (.if_icmp .eq 12, 3) := by decide +kernel
theorem dX12_keep_98 : decode cX12_keep 98 = .ok (.aload_n 0, 1) := by decide +kernel
theorem dX12_keep_99 : decode cX12_keep 99 = .ok (.iload_n 3, 1) := by decide +kernel
theorem dX12_keep_100 : decode cX12_keep 100 = .ok (.iconst 3, 1) := by decide +kernel
theorem dX12_keep_101 : decode cX12_keep 101 = .ok (.invokevirtual 81, 3) := by decide +kernel
theorem dX12_keep_104 : decode cX12_keep 104 = .ok (.ifCond .ne 8, 3) := by decide +kernel
theorem dX12_keep_107 : decode cX12_keep 107 = .ok (.bipush (-15), 2) := by decide +kernel
theorem dX12_keep_109 : decode cX12_keep 109 = .ok (.goto 37, 3) := by decide +kernel
theorem dX12_keep_112 : decode cX12_keep 112 = .ok (.iload 4, 2) := by decide +kernel
theorem dX12_keep_114 : decode cX12_keep 114 = .ok (.bipush 7, 2) := by decide +kernel
theorem dX12_keep_116 : decode cX12_keep 116 = .ok (.if_icmp .ne 10, 3) := by decide +kernel
theorem dX12_keep_119 : decode cX12_keep 119 = .ok (.bipush 100, 2) := by decide +kernel
theorem dX12_keep_121 : decode cX12_keep 121 = .ok (.iload_n 3, 1) := by decide +kernel
theorem dX12_keep_122 : decode cX12_keep 122 = .ok (.iadd, 1) := by decide +kernel
theorem dX12_keep_123 : decode cX12_keep 123 = .ok (.goto 23, 3) := by decide +kernel
theorem dX12_keep_126 : decode cX12_keep 126 = .ok (.iload 4, 2) := by decide +kernel
theorem dX12_keep_128 : decode cX12_keep 128 = .ok (.iconst 3, 1) := by decide +kernel
theorem dX12_keep_129 : decode cX12_keep 129 = .ok (.if_icmp .ne 16, 3) := by decide +kernel
theorem dX12_keep_132 : decode cX12_keep 132 = .ok (.sipush 200, 3) := by decide +kernel
theorem dX12_keep_135 : decode cX12_keep 135 = .ok (.aload_n 0, 1) := by decide +kernel
theorem dX12_keep_136 : decode cX12_keep 136 = .ok (.iload_n 3, 1) := by decide +kernel
theorem dX12_keep_137 : decode cX12_keep 137 = .ok (.iconst 3, 1) := by decide +kernel
theorem dX12_keep_138 : decode cX12_keep 138 = .ok (.invokevirtual 81, 3) := by decide +kernel
theorem dX12_keep_141 : decode cX12_keep 141 = .ok (.iadd, 1) := by decide +kernel
theorem dX12_keep_142 : decode cX12_keep 142 = .ok (.goto 4, 3) := by decide +kernel
theorem dX12_keep_145 : decode cX12_keep 145 = .ok (.iload_n 3, 1) := by decide +kernel
theorem dX12_keep_146 : decode cX12_keep 146 = .ok (.iastore, 1) := by decide +kernel
theorem dX12_keep_147 : decode cX12_keep 147 = .ok (.iconst 0, 1) := by decide +kernel
theorem dX12_keep_148 : decode cX12_keep 148 = .ok (.ireturn, 1) := by decide +kernel
theorem dX12_row_0 : decode cX12_row 0 = .ok (.iload_n 1, 1) := by decide +kernel
theorem dX12_row_1 : decode cX12_row 1 = .ok (.invokestatic 141, 3) := by decide +kernel
theorem dX12_row_4 : decode cX12_row 4 = .ok (.ifCond .eq 21, 3) := by decide +kernel
theorem dX12_row_7 : decode cX12_row 7 = .ok (.iload_n 2, 1) := by decide +kernel
theorem dX12_row_8 : decode cX12_row 8 = .ok (.i2l, 1) := by decide +kernel
theorem dX12_row_9 : decode cX12_row 9 = .ok (.lconst 0, 1) := by decide +kernel
theorem dX12_row_10 : decode cX12_row 10 = .ok (.ldc2_w 103, 3) := by decide +kernel
theorem dX12_row_13 : decode cX12_row 13 = .ok (.invokestatic 57, 3) := by decide +kernel
theorem dX12_row_16 : decode cX12_row 16 = .ok (.ifCond .eq 9, 3) := by decide +kernel
theorem dX12_row_19 : decode cX12_row 19 = .ok (.iload_n 3, 1) := by decide +kernel
theorem dX12_row_20 : decode cX12_row 20 = .ok (.bipush 100, 2) := by decide +kernel
theorem dX12_row_22 : decode cX12_row 22 = .ok (.if_icmp .le 5, 3) := by decide +kernel
theorem dX12_row_25 : decode cX12_row 25 = .ok (.iconst (-1), 1) := by decide +kernel
theorem dX12_row_26 : decode cX12_row 26 = .ok (.ireturn, 1) := by decide +kernel
theorem dX12_row_27 : decode cX12_row 27 = .ok (.iload_n 3, 1) := by decide +kernel
theorem dX12_row_28 : decode cX12_row 28 = .ok (.ifCond .ge 6, 3) := by decide +kernel
theorem dX12_row_31 : decode cX12_row 31 = .ok (.bipush (-14), 2) := by decide +kernel
theorem dX12_row_33 : decode cX12_row 33 = .ok (.ireturn, 1) := by decide +kernel
theorem dX12_row_34 : decode cX12_row 34 = .ok (.aload_n 0, 1) := by decide +kernel
theorem dX12_row_35 : decode cX12_row 35 = .ok (.getfield 23, 3) := by decide +kernel
theorem dX12_row_38 : decode cX12_row 38 = .ok (.iload_n 1, 1) := by decide +kernel
theorem dX12_row_39 : decode cX12_row 39 = .ok (.iconst 2, 1) := by decide +kernel
theorem dX12_row_40 : decode cX12_row 40 = .ok (.iastore, 1) := by decide +kernel
theorem dX12_row_41 : decode cX12_row 41 = .ok (.aload_n 0, 1) := by decide +kernel
theorem dX12_row_42 : decode cX12_row 42 = .ok (.getfield 26, 3) := by decide +kernel
theorem dX12_row_45 : decode cX12_row 45 = .ok (.iload_n 1, 1) := by decide +kernel
theorem dX12_row_46 : decode cX12_row 46 = .ok (.iload_n 2, 1) := by decide +kernel
theorem dX12_row_47 : decode cX12_row 47 = .ok (.iastore, 1) := by decide +kernel
theorem dX12_row_48 : decode cX12_row 48 = .ok (.aload_n 0, 1) := by decide +kernel
theorem dX12_row_49 : decode cX12_row 49 = .ok (.getfield 29, 3) := by decide +kernel
theorem dX12_row_52 : decode cX12_row 52 = .ok (.iload_n 1, 1) := by decide +kernel
theorem dX12_row_53 : decode cX12_row 53 = .ok (.iload_n 3, 1) := by decide +kernel
theorem dX12_row_54 : decode cX12_row 54 = .ok (.iastore, 1) := by decide +kernel
theorem dX12_row_55 : decode cX12_row 55 = .ok (.iconst 0, 1) := by decide +kernel
theorem dX12_row_56 : decode cX12_row 56 = .ok (.istore 4, 2) := by decide +kernel
theorem dX12_row_58 : decode cX12_row 58 = .ok (.iload 4, 2) := by decide +kernel
theorem dX12_row_60 : decode cX12_row 60 = .ok (.bipush 100, 2) := by decide +kernel
theorem dX12_row_62 : decode cX12_row 62 = .ok (.if_icmp .ge 22, 3) := by decide +kernel
theorem dX12_row_65 : decode cX12_row 65 = .ok (.aload_n 0, 1) := by decide +kernel
theorem dX12_row_66 : decode cX12_row 66 = .ok (.getfield 32, 3) := by decide +kernel
theorem dX12_row_69 : decode cX12_row 69 = .ok (.bipush 100, 2) := by decide +kernel
theorem dX12_row_71 : decode cX12_row 71 = .ok (.iload_n 1, 1) := by decide +kernel
theorem dX12_row_72 : decode cX12_row 72 = .ok (.imul, 1) := by decide +kernel
theorem dX12_row_73 : decode cX12_row 73 = .ok (.iload 4, 2) := by decide +kernel
theorem dX12_row_75 : decode cX12_row 75 = .ok (.iadd, 1) := by decide +kernel
theorem dX12_row_76 : decode cX12_row 76 = .ok (.iconst 0, 1) := by decide +kernel
theorem dX12_row_77 : decode cX12_row 77 = .ok (.iastore, 1) := by decide +kernel
theorem dX12_row_78 : decode cX12_row 78 = .ok (.iinc 4 1, 3) := by decide +kernel
theorem dX12_row_81 : decode cX12_row 81 = .ok (.goto (-23), 3) := by decide +kernel
theorem dX12_row_84 : decode cX12_row 84 = .ok (.iconst 0, 1) := by decide +kernel
theorem dX12_row_85 : decode cX12_row 85 = .ok (.ireturn, 1) := by decide +kernel
theorem dX12_put_0 : decode cX12_put 0 = .ok (.aload_n 0, 1) := by decide +kernel
theorem dX12_put_1 : decode cX12_put 1 = .ok (.iload_n 1, 1) := by decide +kernel
theorem dX12_put_2 : decode cX12_put 2 = .ok (.iconst (-1), 1) := by decide +kernel
theorem dX12_put_3 : decode cX12_put 3 = .ok (.invokevirtual 145, 3) := by decide +kernel
theorem dX12_put_6 : decode cX12_put 6 = .ok (.istore 4, 2) := by decide +kernel
theorem dX12_put_8 : decode cX12_put 8 = .ok (.iload 4, 2) := by decide +kernel
theorem dX12_put_10 : decode cX12_put 10 = .ok (.ifCond .eq 6, 3) := by decide +kernel
theorem dX12_put_13 : decode cX12_put 13 = .ok (.iload 4, 2) := by decide +kernel
theorem dX12_put_15 : decode cX12_put 15 = .ok (.ireturn, 1) := by decide +kernel
theorem dX12_put_16 : decode cX12_put 16 = .ok (.iload_n 2, 1) := by decide +kernel
theorem dX12_put_17 : decode cX12_put 17 = .ok (.i2l, 1) := by decide +kernel
theorem dX12_put_18 : decode cX12_put 18 = .ok (.lconst 0, 1) := by decide +kernel
theorem dX12_put_19 : decode cX12_put 19 = .ok (.aload_n 0, 1) := by decide +kernel
theorem dX12_put_20 : decode cX12_put 20 = .ok (.getfield 29, 3) := by decide +kernel
theorem dX12_put_23 : decode cX12_put 23 = .ok (.iload_n 1, 1) := by decide +kernel
theorem dX12_put_24 : decode cX12_put 24 = .ok (.iaload, 1) := by decide +kernel
theorem dX12_put_25 : decode cX12_put 25 = .ok (.iconst 1, 1) := by decide +kernel
theorem dX12_put_26 : decode cX12_put 26 = .ok (.isub, 1) := by decide +kernel
theorem dX12_put_27 : decode cX12_put 27 = .ok (.i2l, 1) := by decide +kernel
theorem dX12_put_28 : decode cX12_put 28 = .ok (.invokestatic 57, 3) := by decide +kernel
theorem dX12_put_31 : decode cX12_put 31 = .ok (.ifCond .ne 6, 3) := by decide +kernel
theorem dX12_put_34 : decode cX12_put 34 = .ok (.bipush (-13), 2) := by decide +kernel
theorem dX12_put_36 : decode cX12_put 36 = .ok (.ireturn, 1) := by decide +kernel
theorem dX12_put_37 : decode cX12_put 37 = .ok (.aload_n 0, 1) := by decide +kernel
theorem dX12_put_38 : decode cX12_put 38 = .ok (.getfield 32, 3) := by decide +kernel
theorem dX12_put_41 : decode cX12_put 41 = .ok (.bipush 100, 2) := by decide +kernel
theorem dX12_put_43 : decode cX12_put 43 = .ok (.iload_n 1, 1) := by decide +kernel
theorem dX12_put_44 : decode cX12_put 44 = .ok (.imul, 1) := by decide +kernel
theorem dX12_put_45 : decode cX12_put 45 = .ok (.iload_n 2, 1) := by decide +kernel
theorem dX12_put_46 : decode cX12_put 46 = .ok (.iadd, 1) := by decide +kernel
theorem dX12_put_47 : decode cX12_put 47 = .ok (.aload_n 0, 1) := by decide +kernel
theorem dX12_put_48 : decode cX12_put 48 = .ok (.getfield 26, 3) := by decide +kernel
theorem dX12_put_51 : decode cX12_put 51 = .ok (.iload_n 1, 1) := by decide +kernel
theorem dX12_put_52 : decode cX12_put 52 = .ok (.iaload, 1) := by decide +kernel
theorem dX12_put_53 : decode cX12_put 53 = .ok (.ifCond .ne 8, 3) := by decide +kernel
theorem dX12_put_56 : decode cX12_put 56 = .ok (.iload_n 3, 1) := by decide +kernel
theorem dX12_put_57 : decode cX12_put 57 = .ok (.i2b, 1) := by decide +kernel
theorem dX12_put_58 : decode cX12_put 58 = .ok (.goto 19, 3) := by decide +kernel
theorem dX12_put_61 : decode cX12_put 61 = .ok (.aload_n 0, 1) := by decide +kernel
theorem dX12_put_62 : decode cX12_put 62 = .ok (.getfield 26, 3) := by decide +kernel
theorem dX12_put_65 : decode cX12_put 65 = .ok (.iload_n 1, 1) := by decide +kernel
theorem dX12_put_66 : decode cX12_put 66 = .ok (.iaload, 1) := by decide +kernel
theorem dX12_put_67 : decode cX12_put 67 = .ok (.iconst 1, 1) := by decide +kernel
theorem dX12_put_68 : decode cX12_put 68 = .ok (.if_icmp .ne 8, 3) := by decide +kernel
theorem dX12_put_71 : decode cX12_put 71 = .ok (.iload_n 3, 1) := by decide +kernel
theorem dX12_put_72 : decode cX12_put 72 = .ok (.i2s, 1) := by decide +kernel
theorem dX12_put_73 : decode cX12_put 73 = .ok (.goto 4, 3) := by decide +kernel
theorem dX12_put_76 : decode cX12_put 76 = .ok (.iload_n 3, 1) := by decide +kernel
theorem dX12_put_77 : decode cX12_put 77 = .ok (.iastore, 1) := by decide +kernel
theorem dX12_put_78 : decode cX12_put 78 = .ok (.iconst 0, 1) := by decide +kernel
theorem dX12_put_79 : decode cX12_put 79 = .ok (.ireturn, 1) := by decide +kernel
theorem dX12_element_0 : decode cX12_element 0 = .ok (.aload_n 0, 1) := by decide +kernel
theorem dX12_element_1 : decode cX12_element 1 = .ok (.iload_n 1, 1) := by decide +kernel
theorem dX12_element_2 : decode cX12_element 2 = .ok (.invokestatic 141, 3) := by decide +kernel
theorem dX12_element_5 : decode cX12_element 5 = .ok (.ifCond .ne 7, 3) := by decide +kernel
theorem dX12_element_8 : decode cX12_element 8 = .ok (.iconst 1, 1) := by decide +kernel
theorem dX12_element_9 : decode cX12_element 9 = .ok (.goto 36, 3) := by decide +kernel
theorem dX12_element_12 : decode cX12_element 12 = .ok (.aload_n 0, 1) := by decide +kernel
theorem dX12_element_13 : decode cX12_element 13 = .ok (.getfield 23, 3) := by decide +kernel
theorem dX12_element_16 : decode cX12_element 16 = .ok (.iload_n 1, 1) := by decide +kernel
theorem dX12_element_17 : decode cX12_element 17 = .ok (.iaload, 1) := by decide +kernel
theorem dX12_element_18 : decode cX12_element 18 = .ok (.iconst 2, 1) := by decide +kernel
theorem dX12_element_19 : decode cX12_element 19 = .ok (.if_icmp .ne 21, 3) := by decide +kernel
theorem dX12_element_22 : decode cX12_element 22 = .ok (.iload_n 2, 1) := by decide +kernel
theorem dX12_element_23 : decode cX12_element 23 = .ok (.i2l, 1) := by decide +kernel
theorem dX12_element_24 : decode cX12_element 24 = .ok (.lconst 0, 1) := by decide +kernel
theorem dX12_element_25 : decode cX12_element 25 = .ok (.aload_n 0, 1) := by decide +kernel
theorem dX12_element_26 : decode cX12_element 26 = .ok (.getfield 29, 3) := by decide +kernel
theorem dX12_element_29 : decode cX12_element 29 = .ok (.iload_n 1, 1) := by decide +kernel
theorem dX12_element_30 : decode cX12_element 30 = .ok (.iaload, 1) := by decide +kernel
theorem dX12_element_31 : decode cX12_element 31 = .ok (.iconst 1, 1) := by decide +kernel
theorem dX12_element_32 : decode cX12_element 32 = .ok (.isub, 1) := by decide +kernel
theorem dX12_element_33 : decode cX12_element 33 = .ok (.i2l, 1) := by decide +kernel
theorem dX12_element_34 : decode cX12_element 34 = .ok (.invokestatic 57, 3) := by decide +kernel
theorem dX12_element_37 : decode cX12_element 37 = .ok (.ifCond .ne 7, 3) := by decide +kernel
theorem dX12_element_40 : decode cX12_element 40 = .ok (.iconst 2, 1) := by decide +kernel
theorem dX12_element_41 : decode cX12_element 41 = .ok (.goto 4, 3) := by decide +kernel
theorem dX12_element_44 : decode cX12_element 44 = .ok (.iconst 0, 1) := by decide +kernel
theorem dX12_element_45 : decode cX12_element 45 = .ok (.putfield 53, 3) := by decide +kernel
theorem dX12_element_48 : decode cX12_element 48 = .ok (.aload_n 0, 1) := by decide +kernel
theorem dX12_element_49 : decode cX12_element 49 = .ok (.getfield 53, 3) := by decide +kernel
theorem dX12_element_52 : decode cX12_element 52 = .ok (.ifCond .ne 18, 3) := by decide +kernel
theorem dX12_element_55 : decode cX12_element 55 = .ok (.aload_n 0, 1) := by decide +kernel
theorem dX12_element_56 : decode cX12_element 56 = .ok (.getfield 32, 3) := by decide +kernel
theorem dX12_element_59 : decode cX12_element 59 = .ok (.bipush 100, 2) := by decide +kernel
theorem dX12_element_61 : decode cX12_element 61 = .ok (.iload_n 1, 1) := by decide +kernel
theorem dX12_element_62 : decode cX12_element 62 = .ok (.imul, 1) := by decide +kernel
theorem dX12_element_63 : decode cX12_element 63 = .ok (.iload_n 2, 1) := by decide +kernel
theorem dX12_element_64 : decode cX12_element 64 = .ok (.iadd, 1) := by decide +kernel
theorem dX12_element_65 : decode cX12_element 65 = .ok (.iaload, 1) := by decide +kernel
theorem dX12_element_66 : decode cX12_element 66 = .ok (.i2l, 1) := by decide +kernel
theorem dX12_element_67 : decode cX12_element 67 = .ok (.goto 4, 3) := by decide +kernel
theorem dX12_element_70 : decode cX12_element 70 = .ok (.lconst 0, 1) := by decide +kernel
theorem dX12_element_71 : decode cX12_element 71 = .ok (.lreturn, 1) := by decide +kernel
theorem dX12_copy_0 : decode cX12_copy 0 = .ok (.iload_n 1, 1) := by decide +kernel
theorem dX12_copy_1 : decode cX12_copy 1 = .ok (.invokestatic 141, 3) := by decide +kernel
theorem dX12_copy_4 : decode cX12_copy 4 = .ok (.ifCond .eq 10, 3) := by decide +kernel
theorem dX12_copy_7 : decode cX12_copy 7 = .ok (.iload_n 3, 1) := by decide +kernel
theorem dX12_copy_8 : decode cX12_copy 8 = .ok (.invokestatic 141, 3) := by decide +kernel
theorem dX12_copy_11 : decode cX12_copy 11 = .ok (.ifCond .ne 5, 3) := by decide +kernel
theorem dX12_copy_14 : decode cX12_copy 14 = .ok (.iconst (-1), 1) := by decide +kernel
theorem dX12_copy_15 : decode cX12_copy 15 = .ok (.ireturn, 1) := by decide +kernel
theorem dX12_copy_16 : decode cX12_copy 16 = .ok (.aload_n 0, 1) := by decide +kernel
theorem dX12_copy_17 : decode cX12_copy 17 = .ok (.getfield 23, 3) := by decide +kernel
theorem dX12_copy_20 : decode cX12_copy 20 = .ok (.iload_n 1, 1) := by decide +kernel
theorem dX12_copy_21 : decode cX12_copy 21 = .ok (.iaload, 1) := by decide +kernel
theorem dX12_copy_22 : decode cX12_copy 22 = .ok (.ifCond .eq 12, 3) := by decide +kernel
theorem dX12_copy_25 : decode cX12_copy 25 = .ok (.aload_n 0, 1) := by decide +kernel
theorem dX12_copy_26 : decode cX12_copy 26 = .ok (.getfield 23, 3) := by decide +kernel
theorem dX12_copy_29 : decode cX12_copy 29 = .ok (.iload_n 3, 1) := by decide +kernel
theorem dX12_copy_30 : decode cX12_copy 30 = .ok (.iaload, 1) := by decide +kernel
theorem dX12_copy_31 : decode cX12_copy 31 = .ok (.ifCond .ne 6, 3) := by decide +kernel
theorem dX12_copy_34 : decode cX12_copy 34 = .ok (.bipush (-11), 2) := by decide +kernel
theorem dX12_copy_36 : decode cX12_copy 36 = .ok (.ireturn, 1) := by decide +kernel
theorem dX12_copy_37 : decode cX12_copy 37 = .ok (.aload_n 0, 1) := by decide +kernel
theorem dX12_copy_38 : decode cX12_copy 38 = .ok (.getfield 23, 3) := by decide +kernel
theorem dX12_copy_41 : decode cX12_copy 41 = .ok (.iload_n 1, 1) := by decide +kernel
theorem dX12_copy_42 : decode cX12_copy 42 = .ok (.iaload, 1) := by decide +kernel
theorem dX12_copy_43 : decode cX12_copy 43 = .ok (.iconst 2, 1) := by decide +kernel
theorem dX12_copy_44 : decode cX12_copy 44 = .ok (.if_icmp .ne 28, 3) := by decide +kernel
theorem dX12_copy_47 : decode cX12_copy 47 = .ok (.aload_n 0, 1) := by decide +kernel
theorem dX12_copy_48 : decode cX12_copy 48 = .ok (.getfield 23, 3) := by decide +kernel
theorem dX12_copy_51 : decode cX12_copy 51 = .ok (.iload_n 3, 1) := by decide +kernel
theorem dX12_copy_52 : decode cX12_copy 52 = .ok (.iaload, 1) := by decide +kernel
theorem dX12_copy_53 : decode cX12_copy 53 = .ok (.iconst 2, 1) := by decide +kernel
theorem dX12_copy_54 : decode cX12_copy 54 = .ok (.if_icmp .ne 18, 3) := by decide +kernel
theorem dX12_copy_57 : decode cX12_copy 57 = .ok (.aload_n 0, 1) := by decide +kernel
theorem dX12_copy_58 : decode cX12_copy 58 = .ok (.getfield 26, 3) := by decide +kernel
theorem dX12_copy_61 : decode cX12_copy 61 = .ok (.iload_n 1, 1) := by decide +kernel
theorem dX12_copy_62 : decode cX12_copy 62 = .ok (.iaload, 1) := by decide +kernel
theorem dX12_copy_63 : decode cX12_copy 63 = .ok (.aload_n 0, 1) := by decide +kernel
theorem dX12_copy_64 : decode cX12_copy 64 = .ok (.getfield 26, 3) := by decide +kernel
theorem dX12_copy_67 : decode cX12_copy 67 = .ok (.iload_n 3, 1) := by decide +kernel
theorem dX12_copy_68 : decode cX12_copy 68 = .ok (.iaload, 1) := by decide +kernel
theorem dX12_copy_69 : decode cX12_copy 69 = .ok (.if_icmp .eq 6, 3) := by decide +kernel
theorem dX12_copy_72 : decode cX12_copy 72 = .ok (.bipush (-12), 2) := by decide +kernel
theorem dX12_copy_74 : decode cX12_copy 74 = .ok (.ireturn, 1) := by decide +kernel
theorem dX12_copy_75 : decode cX12_copy 75 = .ok (.iload 5, 2) := by decide +kernel
theorem dX12_copy_77 : decode cX12_copy 77 = .ok (.ifCond .lt 39, 3) := by decide +kernel
theorem dX12_copy_80 : decode cX12_copy 80 = .ok (.iload_n 2, 1) := by decide +kernel
theorem dX12_copy_81 : decode cX12_copy 81 = .ok (.ifCond .lt 35, 3) := by decide +kernel
theorem dX12_copy_84 : decode cX12_copy 84 = .ok (.iload 4, 2) := by decide +kernel
theorem dX12_copy_86 : decode cX12_copy 86 = .ok (.ifCond .lt 30, 3) := by decide +kernel
theorem dX12_copy_89 : decode cX12_copy 89 = .ok (.iload 5, 2) := by decide +kernel
theorem dX12_copy_91 : decode cX12_copy 91 = .ok (.aload_n 0, 1) := by decide +kernel
theorem dX12_copy_92 : decode cX12_copy 92 = .ok (.getfield 29, 3) := by decide +kernel
theorem dX12_copy_95 : decode cX12_copy 95 = .ok (.iload_n 1, 1) := by decide +kernel
theorem dX12_copy_96 : decode cX12_copy 96 = .ok (.iaload, 1) := by decide +kernel
theorem dX12_copy_97 : decode cX12_copy 97 = .ok (.iload_n 2, 1) := by decide +kernel
theorem dX12_copy_98 : decode cX12_copy 98 = .ok (.isub, 1) := by decide +kernel
theorem dX12_copy_99 : decode cX12_copy 99 = .ok (.if_icmp .gt 17, 3) := by decide +kernel
theorem dX12_copy_102 : decode cX12_copy 102 = .ok (.iload 5, 2) := by decide +kernel
theorem dX12_copy_104 : decode cX12_copy 104 = .ok (.aload_n 0, 1) := by decide +kernel
theorem dX12_copy_105 : decode cX12_copy 105 = .ok (.getfield 29, 3) := by decide +kernel
theorem dX12_copy_108 : decode cX12_copy 108 = .ok (.iload_n 3, 1) := by decide +kernel
theorem dX12_copy_109 : decode cX12_copy 109 = .ok (.iaload, 1) := by decide +kernel
theorem dX12_copy_110 : decode cX12_copy 110 = .ok (.iload 4, 2) := by decide +kernel
theorem dX12_copy_112 : decode cX12_copy 112 = .ok (.isub, 1) := by decide +kernel
theorem dX12_copy_113 : decode cX12_copy 113 = .ok (.if_icmp .le 6, 3) := by decide +kernel
theorem dX12_copy_116 : decode cX12_copy 116 = .ok (.bipush (-13), 2) := by decide +kernel
theorem dX12_copy_118 : decode cX12_copy 118 = .ok (.ireturn, 1) := by decide +kernel
theorem dX12_copy_119 : decode cX12_copy 119 = .ok (.iconst 0, 1) := by decide +kernel
theorem dX12_copy_120 : decode cX12_copy 120 = .ok (.istore 6, 2) := by decide +kernel
theorem dX12_copy_122 : decode cX12_copy 122 = .ok (.iload 6, 2) := by decide +kernel
theorem dX12_copy_124 : decode cX12_copy 124 = .ok (.iload 5, 2) := by decide +kernel
theorem dX12_copy_126 : decode cX12_copy 126 = .ok (.if_icmp .ge 58, 3) := by decide +kernel
theorem dX12_copy_129 : decode cX12_copy 129 = .ok (.iload_n 2, 1) := by decide +kernel
theorem dX12_copy_130 : decode cX12_copy 130 = .ok (.iload 4, 2) := by decide +kernel
theorem dX12_copy_132 : decode cX12_copy 132 = .ok (.if_icmp .le 8, 3) := by decide +kernel
theorem dX12_copy_135 : decode cX12_copy 135 = .ok (.iload 6, 2) := by decide +kernel
theorem dX12_copy_137 : decode cX12_copy 137 = .ok (.goto 10, 3) := by decide +kernel
theorem dX12_copy_140 : decode cX12_copy 140 = .ok (.iload 5, 2) := by decide +kernel
theorem dX12_copy_142 : decode cX12_copy 142 = .ok (.iconst 1, 1) := by decide +kernel
theorem dX12_copy_143 : decode cX12_copy 143 = .ok (.isub, 1) := by decide +kernel
theorem dX12_copy_144 : decode cX12_copy 144 = .ok (.iload 6, 2) := by decide +kernel
theorem dX12_copy_146 : decode cX12_copy 146 = .ok (.isub, 1) := by decide +kernel
theorem dX12_copy_147 : decode cX12_copy 147 = .ok (.istore 7, 2) := by decide +kernel
theorem dX12_copy_149 : decode cX12_copy 149 = .ok (.aload_n 0, 1) := by decide +kernel
theorem dX12_copy_150 : decode cX12_copy 150 = .ok (.getfield 32, 3) := by decide +kernel
theorem dX12_copy_153 : decode cX12_copy 153 = .ok (.bipush 100, 2) := by decide +kernel
theorem dX12_copy_155 : decode cX12_copy 155 = .ok (.iload_n 3, 1) := by decide +kernel
theorem dX12_copy_156 : decode cX12_copy 156 = .ok (.imul, 1) := by decide +kernel
theorem dX12_copy_157 : decode cX12_copy 157 = .ok (.iload 4, 2) := by decide +kernel
theorem dX12_copy_159 : decode cX12_copy 159 = .ok (.iadd, 1) := by decide +kernel
theorem dX12_copy_160 : decode cX12_copy 160 = .ok (.iload 7, 2) := by decide +kernel
theorem dX12_copy_162 : decode cX12_copy 162 = .ok (.iadd, 1) := by decide +kernel
theorem dX12_copy_163 : decode cX12_copy 163 = .ok (.aload_n 0, 1) := by decide +kernel
theorem dX12_copy_164 : decode cX12_copy 164 = .ok (.getfield 32, 3) := by decide +kernel
theorem dX12_copy_167 : decode cX12_copy 167 = .ok (.bipush 100, 2) := by decide +kernel
theorem dX12_copy_169 : decode cX12_copy 169 = .ok (.iload_n 1, 1) := by decide +kernel
theorem dX12_copy_170 : decode cX12_copy 170 = .ok (.imul, 1) := by decide +kernel
theorem dX12_copy_171 : decode cX12_copy 171 = .ok (.iload_n 2, 1) := by decide +kernel
theorem dX12_copy_172 : decode cX12_copy 172 = .ok (.iadd, 1) := by decide +kernel
theorem dX12_copy_173 : decode cX12_copy 173 = .ok (.iload 7, 2) := by decide +kernel
theorem dX12_copy_175 : decode cX12_copy 175 = .ok (.iadd, 1) := by decide +kernel
theorem dX12_copy_176 : decode cX12_copy 176 = .ok (.iaload, 1) := by decide +kernel
theorem dX12_copy_177 : decode cX12_copy 177 = .ok (.iastore, 1) := by decide +kernel
theorem dX12_copy_178 : decode cX12_copy 178 = .ok (.iinc 6 1, 3) := by decide +kernel
theorem dX12_copy_181 : decode cX12_copy 181 = .ok (.goto (-59), 3) := by decide +kernel
theorem dX12_copy_184 : decode cX12_copy 184 = .ok (.iload 5, 2) := by decide +kernel
theorem dX12_copy_186 : decode cX12_copy 186 = .ok (.ireturn, 1) := by decide +kernel
theorem dX12_wrongKept_0 : decode cX12_wrongKept 0 = .ok (.iload_n 1, 1) := by decide +kernel
theorem dX12_wrongKept_1 : decode cX12_wrongKept 1 = .ok (.invokestatic 141, 3) := by decide +kernel
theorem dX12_wrongKept_4 : decode cX12_wrongKept 4 = .ok (.ifCond .ne 7, 3) := by decide +kernel
theorem dX12_wrongKept_7 : decode cX12_wrongKept 7 = .ok (.iconst (-1), 1) := by decide +kernel
theorem dX12_wrongKept_8 : decode cX12_wrongKept 8 = .ok (.goto 33, 3) := by decide +kernel
theorem dX12_wrongKept_11 : decode cX12_wrongKept 11 = .ok (.aload_n 0, 1) := by decide +kernel
theorem dX12_wrongKept_12 : decode cX12_wrongKept 12 = .ok (.getfield 23, 3) := by decide +kernel
theorem dX12_wrongKept_15 : decode cX12_wrongKept 15 = .ok (.iload_n 1, 1) := by decide +kernel
theorem dX12_wrongKept_16 : decode cX12_wrongKept 16 = .ok (.iaload, 1) := by decide +kernel
theorem dX12_wrongKept_17 : decode cX12_wrongKept 17 = .ok (.ifCond .ne 8, 3) := by decide +kernel
theorem dX12_wrongKept_20 : decode cX12_wrongKept 20 = .ok (.bipush (-11), 2) := by decide +kernel
theorem dX12_wrongKept_22 : decode cX12_wrongKept 22 = .ok (.goto 19, 3) := by decide +kernel
theorem dX12_wrongKept_25 : decode cX12_wrongKept 25 = .ok (.aload_n 0, 1) := by decide +kernel
theorem dX12_wrongKept_26 : decode cX12_wrongKept 26 = .ok (.getfield 23, 3) := by decide +kernel
theorem dX12_wrongKept_29 : decode cX12_wrongKept 29 = .ok (.iload_n 1, 1) := by decide +kernel
theorem dX12_wrongKept_30 : decode cX12_wrongKept 30 = .ok (.iaload, 1) := by decide +kernel
theorem dX12_wrongKept_31 : decode cX12_wrongKept 31 = .ok (.iconst 1, 1) := by decide +kernel
theorem dX12_wrongKept_32 : decode cX12_wrongKept 32 = .ok (.if_icmp .ne 7, 3) := by decide +kernel
theorem dX12_wrongKept_35 : decode cX12_wrongKept 35 = .ok (.iconst 0, 1) := by decide +kernel
theorem dX12_wrongKept_36 : decode cX12_wrongKept 36 = .ok (.goto 5, 3) := by decide +kernel
theorem dX12_wrongKept_39 : decode cX12_wrongKept 39 = .ok (.bipush (-12), 2) := by decide +kernel
theorem dX12_wrongKept_41 : decode cX12_wrongKept 41 = .ok (.ireturn, 1) := by decide +kernel
theorem dX12_gives_0 : decode cX12_gives 0 = .ok (.aload_n 0, 1) := by decide +kernel
theorem dX12_gives_1 : decode cX12_gives 1 = .ok (.iload_n 1, 1) := by decide +kernel
theorem dX12_gives_2 : decode cX12_gives 2 = .ok (.invokevirtual 293, 3) := by decide +kernel
theorem dX12_gives_5 : decode cX12_gives 5 = .ok (.istore_n 2, 1) := by decide +kernel
theorem dX12_gives_6 : decode cX12_gives 6 = .ok (.iload_n 2, 1) := by decide +kernel
theorem dX12_gives_7 : decode cX12_gives 7 = .ok (.ifCond .eq 7, 3) := by decide +kernel
theorem dX12_gives_10 : decode cX12_gives 10 = .ok (.iload_n 2, 1) := by decide +kernel
theorem dX12_gives_11 : decode cX12_gives 11 = .ok (.goto 24, 3) := by decide +kernel
theorem dX12_gives_14 : decode cX12_gives 14 = .ok (.aload_n 0, 1) := by decide +kernel
theorem dX12_gives_15 : decode cX12_gives 15 = .ok (.aload_n 0, 1) := by decide +kernel
theorem dX12_gives_16 : decode cX12_gives 16 = .ok (.getfield 35, 3) := by decide +kernel
theorem dX12_gives_19 : decode cX12_gives 19 = .ok (.iconst 5, 1) := by decide +kernel
theorem dX12_gives_20 : decode cX12_gives 20 = .ok (.iload_n 1, 1) := by decide +kernel
theorem dX12_gives_21 : decode cX12_gives 21 = .ok (.imul, 1) := by decide +kernel
theorem dX12_gives_22 : decode cX12_gives 22 = .ok (.aload_n 0, 1) := by decide +kernel
theorem dX12_gives_23 : decode cX12_gives 23 = .ok (.getfield 35, 3) := by decide +kernel
theorem dX12_gives_26 : decode cX12_gives 26 = .ok (.iconst 5, 1) := by decide +kernel
theorem dX12_gives_27 : decode cX12_gives 27 = .ok (.iload_n 1, 1) := by decide +kernel
theorem dX12_gives_28 : decode cX12_gives 28 = .ok (.imul, 1) := by decide +kernel
theorem dX12_gives_29 : decode cX12_gives 29 = .ok (.iconst 4, 1) := by decide +kernel
theorem dX12_gives_30 : decode cX12_gives 30 = .ok (.iadd, 1) := by decide +kernel
theorem dX12_gives_31 : decode cX12_gives 31 = .ok (.iaload, 1) := by decide +kernel
theorem dX12_gives_32 : decode cX12_gives 32 = .ok (.invokevirtual 87, 3) := by decide +kernel
theorem dX12_gives_35 : decode cX12_gives 35 = .ok (.ireturn, 1) := by decide +kernel
theorem dX12_toss_0 : decode cX12_toss 0 = .ok (.aload_n 0, 1) := by decide +kernel
theorem dX12_toss_1 : decode cX12_toss 1 = .ok (.iload_n 1, 1) := by decide +kernel
theorem dX12_toss_2 : decode cX12_toss 2 = .ok (.invokevirtual 293, 3) := by decide +kernel
theorem dX12_toss_5 : decode cX12_toss 5 = .ok (.istore_n 2, 1) := by decide +kernel
theorem dX12_toss_6 : decode cX12_toss 6 = .ok (.iload_n 2, 1) := by decide +kernel
theorem dX12_toss_7 : decode cX12_toss 7 = .ok (.ifCond .eq 7, 3) := by decide +kernel
theorem dX12_toss_10 : decode cX12_toss 10 = .ok (.iload_n 2, 1) := by decide +kernel
theorem dX12_toss_11 : decode cX12_toss 11 = .ok (.goto 9, 3) := by decide +kernel
theorem dX12_toss_14 : decode cX12_toss 14 = .ok (.aload_n 0, 1) := by decide +kernel
theorem dX12_toss_15 : decode cX12_toss 15 = .ok (.getfield 38, 3) := by decide +kernel
theorem dX12_toss_18 : decode cX12_toss 18 = .ok (.iload_n 1, 1) := by decide +kernel
theorem dX12_toss_19 : decode cX12_toss 19 = .ok (.iaload, 1) := by decide +kernel
theorem dX12_toss_20 : decode cX12_toss 20 = .ok (.ireturn, 1) := by decide +kernel
