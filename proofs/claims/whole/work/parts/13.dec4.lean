/-! DECODE ROWS -/
theorem d_TM_init_0 : decode b_TM_init 0 = .ok (.aload_n 0, 1) := by decide +kernel
theorem d_TM_init_1 : decode b_TM_init 1 = .ok (.invokespecial 1, 3) := by decide +kernel
theorem d_TM_init_4 : decode b_TM_init 4 = .ok (.aload_n 0, 1) := by decide +kernel
theorem d_TM_init_5 : decode b_TM_init 5 = .ok (.iconst 2, 1) := by decide +kernel
theorem d_TM_init_6 : decode b_TM_init 6 = .ok (.iconst 4, 1) := by decide +kernel
theorem d_TM_init_7 : decode b_TM_init 7 = .ok (.iload_n 1, 1) := by decide +kernel
theorem d_TM_init_8 : decode b_TM_init 8 = .ok (.invokestatic 9, 3) := by decide +kernel
theorem d_TM_init_11 : decode b_TM_init 11 = .ok (.invokestatic 15, 3) := by decide +kernel
theorem d_TM_init_14 : decode b_TM_init 14 = .ok (.putfield 18, 3) := by decide +kernel
theorem d_TM_init_17 : decode b_TM_init 17 = .ok (.aload_n 0, 1) := by decide +kernel
theorem d_TM_init_18 : decode b_TM_init 18 = .ok (.new 22, 3) := by decide +kernel
theorem d_TM_init_21 : decode b_TM_init 21 = .ok (.dup, 1) := by decide +kernel
theorem d_TM_init_22 : decode b_TM_init 22 = .ok (.invokespecial 24, 3) := by decide +kernel
theorem d_TM_init_25 : decode b_TM_init 25 = .ok (.putfield 25, 3) := by decide +kernel
theorem d_TM_init_28 : decode b_TM_init 28 = .ok (.aload_n 0, 1) := by decide +kernel
theorem d_TM_init_29 : decode b_TM_init 29 = .ok (.new 22, 3) := by decide +kernel
theorem d_TM_init_32 : decode b_TM_init 32 = .ok (.dup, 1) := by decide +kernel
theorem d_TM_init_33 : decode b_TM_init 33 = .ok (.invokespecial 24, 3) := by decide +kernel
theorem d_TM_init_36 : decode b_TM_init 36 = .ok (.putfield 29, 3) := by decide +kernel
theorem d_TM_init_39 : decode b_TM_init 39 = .ok (.aload_n 0, 1) := by decide +kernel
theorem d_TM_init_40 : decode b_TM_init 40 = .ok (.bipush 60, 2) := by decide +kernel
theorem d_TM_init_42 : decode b_TM_init 42 = .ok (.anewarray 32, 3) := by decide +kernel
theorem d_TM_init_45 : decode b_TM_init 45 = .ok (.putfield 34, 3) := by decide +kernel
theorem d_TM_init_48 : decode b_TM_init 48 = .ok (.iconst 0, 1) := by decide +kernel
theorem d_TM_init_49 : decode b_TM_init 49 = .ok (.istore_n 2, 1) := by decide +kernel
theorem d_TM_init_50 : decode b_TM_init 50 = .ok (.iload_n 2, 1) := by decide +kernel
theorem d_TM_init_51 : decode b_TM_init 51 = .ok (.bipush 60, 2) := by decide +kernel
theorem d_TM_init_53 : decode b_TM_init 53 = .ok (.if_icmp .ge 26, 3) := by decide +kernel
theorem d_TM_init_56 : decode b_TM_init 56 = .ok (.aload_n 0, 1) := by decide +kernel
theorem d_TM_init_57 : decode b_TM_init 57 = .ok (.getfield 34, 3) := by decide +kernel
theorem d_TM_init_60 : decode b_TM_init 60 = .ok (.iload_n 2, 1) := by decide +kernel
theorem d_TM_init_61 : decode b_TM_init 61 = .ok (.new 32, 3) := by decide +kernel
theorem d_TM_init_64 : decode b_TM_init 64 = .ok (.dup, 1) := by decide +kernel
theorem d_TM_init_65 : decode b_TM_init 65 = .ok (.aload_n 0, 1) := by decide +kernel
theorem d_TM_init_66 : decode b_TM_init 66 = .ok (.getfield 18, 3) := by decide +kernel
theorem d_TM_init_69 : decode b_TM_init 69 = .ok (.invokespecial 38, 3) := by decide +kernel
theorem d_TM_init_72 : decode b_TM_init 72 = .ok (.aastore, 1) := by decide +kernel
theorem d_TM_init_73 : decode b_TM_init 73 = .ok (.iinc 2 1, 3) := by decide +kernel
theorem d_TM_init_76 : decode b_TM_init 76 = .ok (.goto (-26), 3) := by decide +kernel
theorem d_TM_init_79 : decode b_TM_init 79 = .ok (.aload_n 0, 1) := by decide +kernel
theorem d_TM_init_80 : decode b_TM_init 80 = .ok (.new 41, 3) := by decide +kernel
theorem d_TM_init_83 : decode b_TM_init 83 = .ok (.dup, 1) := by decide +kernel
theorem d_TM_init_84 : decode b_TM_init 84 = .ok (.aload_n 0, 1) := by decide +kernel
theorem d_TM_init_85 : decode b_TM_init 85 = .ok (.getfield 18, 3) := by decide +kernel
theorem d_TM_init_88 : decode b_TM_init 88 = .ok (.invokespecial 43, 3) := by decide +kernel
theorem d_TM_init_91 : decode b_TM_init 91 = .ok (.putfield 44, 3) := by decide +kernel
theorem d_TM_init_94 : decode b_TM_init 94 = .ok (.aload_n 0, 1) := by decide +kernel
theorem d_TM_init_95 : decode b_TM_init 95 = .ok (.new 32, 3) := by decide +kernel
theorem d_TM_init_98 : decode b_TM_init 98 = .ok (.dup, 1) := by decide +kernel
theorem d_TM_init_99 : decode b_TM_init 99 = .ok (.aload_n 0, 1) := by decide +kernel
theorem d_TM_init_100 : decode b_TM_init 100 = .ok (.getfield 18, 3) := by decide +kernel
theorem d_TM_init_103 : decode b_TM_init 103 = .ok (.invokespecial 38, 3) := by decide +kernel
theorem d_TM_init_106 : decode b_TM_init 106 = .ok (.putfield 48, 3) := by decide +kernel
theorem d_TM_init_109 : decode b_TM_init 109 = .ok (.aload_n 0, 1) := by decide +kernel
theorem d_TM_init_110 : decode b_TM_init 110 = .ok (.new 32, 3) := by decide +kernel
theorem d_TM_init_113 : decode b_TM_init 113 = .ok (.dup, 1) := by decide +kernel
theorem d_TM_init_114 : decode b_TM_init 114 = .ok (.aload_n 0, 1) := by decide +kernel
theorem d_TM_init_115 : decode b_TM_init 115 = .ok (.getfield 18, 3) := by decide +kernel
theorem d_TM_init_118 : decode b_TM_init 118 = .ok (.invokespecial 38, 3) := by decide +kernel
theorem d_TM_init_121 : decode b_TM_init 121 = .ok (.putfield 52, 3) := by decide +kernel
theorem d_TM_init_124 : decode b_TM_init 124 = .ok (.aload_n 0, 1) := by decide +kernel
theorem d_TM_init_125 : decode b_TM_init 125 = .ok (.new 55, 3) := by decide +kernel
theorem d_TM_init_128 : decode b_TM_init 128 = .ok (.dup, 1) := by decide +kernel
theorem d_TM_init_129 : decode b_TM_init 129 = .ok (.aload_n 0, 1) := by decide +kernel
theorem d_TM_init_130 : decode b_TM_init 130 = .ok (.getfield 18, 3) := by decide +kernel
theorem d_TM_init_133 : decode b_TM_init 133 = .ok (.invokespecial 57, 3) := by decide +kernel
theorem d_TM_init_136 : decode b_TM_init 136 = .ok (.putfield 58, 3) := by decide +kernel
theorem d_TM_init_139 : decode b_TM_init 139 = .ok (.aload_n 0, 1) := by decide +kernel
theorem d_TM_init_140 : decode b_TM_init 140 = .ok (.new 62, 3) := by decide +kernel
theorem d_TM_init_143 : decode b_TM_init 143 = .ok (.dup, 1) := by decide +kernel
theorem d_TM_init_144 : decode b_TM_init 144 = .ok (.invokespecial 64, 3) := by decide +kernel
theorem d_TM_init_147 : decode b_TM_init 147 = .ok (.putfield 65, 3) := by decide +kernel
theorem d_TM_init_150 : decode b_TM_init 150 = .ok (.aload_n 0, 1) := by decide +kernel
theorem d_TM_init_151 : decode b_TM_init 151 = .ok (.new 69, 3) := by decide +kernel
theorem d_TM_init_154 : decode b_TM_init 154 = .ok (.dup, 1) := by decide +kernel
theorem d_TM_init_155 : decode b_TM_init 155 = .ok (.aload_n 0, 1) := by decide +kernel
theorem d_TM_init_156 : decode b_TM_init 156 = .ok (.getfield 18, 3) := by decide +kernel
theorem d_TM_init_159 : decode b_TM_init 159 = .ok (.invokespecial 71, 3) := by decide +kernel
theorem d_TM_init_162 : decode b_TM_init 162 = .ok (.putfield 72, 3) := by decide +kernel
theorem d_TM_init_165 : decode b_TM_init 165 = .ok (.aload_n 0, 1) := by decide +kernel
theorem d_TM_init_166 : decode b_TM_init 166 = .ok (.new 76, 3) := by decide +kernel
theorem d_TM_init_169 : decode b_TM_init 169 = .ok (.dup, 1) := by decide +kernel
theorem d_TM_init_170 : decode b_TM_init 170 = .ok (.aload_n 0, 1) := by decide +kernel
theorem d_TM_init_171 : decode b_TM_init 171 = .ok (.getfield 18, 3) := by decide +kernel
theorem d_TM_init_174 : decode b_TM_init 174 = .ok (.invokespecial 78, 3) := by decide +kernel
theorem d_TM_init_177 : decode b_TM_init 177 = .ok (.putfield 79, 3) := by decide +kernel
theorem d_TM_init_180 : decode b_TM_init 180 = .ok (.aload_n 0, 1) := by decide +kernel
theorem d_TM_init_181 : decode b_TM_init 181 = .ok (.new 83, 3) := by decide +kernel
theorem d_TM_init_184 : decode b_TM_init 184 = .ok (.dup, 1) := by decide +kernel
theorem d_TM_init_185 : decode b_TM_init 185 = .ok (.aload_n 0, 1) := by decide +kernel
theorem d_TM_init_186 : decode b_TM_init 186 = .ok (.getfield 18, 3) := by decide +kernel
theorem d_TM_init_189 : decode b_TM_init 189 = .ok (.invokespecial 85, 3) := by decide +kernel
theorem d_TM_init_192 : decode b_TM_init 192 = .ok (.putfield 86, 3) := by decide +kernel
theorem d_TM_init_195 : decode b_TM_init 195 = .ok (.aload_n 0, 1) := by decide +kernel
theorem d_TM_init_196 : decode b_TM_init 196 = .ok (.iconst 0, 1) := by decide +kernel
theorem d_TM_init_197 : decode b_TM_init 197 = .ok (.putfield 90, 3) := by decide +kernel
theorem d_TM_init_200 : decode b_TM_init 200 = .ok (.aload_n 0, 1) := by decide +kernel
theorem d_TM_init_201 : decode b_TM_init 201 = .ok (.iconst 0, 1) := by decide +kernel
theorem d_TM_init_202 : decode b_TM_init 202 = .ok (.putfield 93, 3) := by decide +kernel
theorem d_TM_init_205 : decode b_TM_init 205 = .ok (.return_, 1) := by decide +kernel
theorem d_TM_clear_0 : decode b_TM_clear 0 = .ok (.aload_n 0, 1) := by decide +kernel
theorem d_TM_clear_1 : decode b_TM_clear 1 = .ok (.getfield 90, 3) := by decide +kernel
theorem d_TM_clear_4 : decode b_TM_clear 4 = .ok (.istore_n 1, 1) := by decide +kernel
theorem d_TM_clear_5 : decode b_TM_clear 5 = .ok (.aload_n 0, 1) := by decide +kernel
theorem d_TM_clear_6 : decode b_TM_clear 6 = .ok (.iconst 0, 1) := by decide +kernel
theorem d_TM_clear_7 : decode b_TM_clear 7 = .ok (.putfield 90, 3) := by decide +kernel
theorem d_TM_clear_10 : decode b_TM_clear 10 = .ok (.aload_n 0, 1) := by decide +kernel
theorem d_TM_clear_11 : decode b_TM_clear 11 = .ok (.iconst 0, 1) := by decide +kernel
theorem d_TM_clear_12 : decode b_TM_clear 12 = .ok (.putfield 93, 3) := by decide +kernel
theorem d_TM_clear_15 : decode b_TM_clear 15 = .ok (.aload_n 0, 1) := by decide +kernel
theorem d_TM_clear_16 : decode b_TM_clear 16 = .ok (.getfield 25, 3) := by decide +kernel
theorem d_TM_clear_19 : decode b_TM_clear 19 = .ok (.iconst 0, 1) := by decide +kernel
theorem d_TM_clear_20 : decode b_TM_clear 20 = .ok (.invokevirtual 96, 3) := by decide +kernel
theorem d_TM_clear_23 : decode b_TM_clear 23 = .ok (.aload_n 0, 1) := by decide +kernel
theorem d_TM_clear_24 : decode b_TM_clear 24 = .ok (.getfield 29, 3) := by decide +kernel
theorem d_TM_clear_27 : decode b_TM_clear 27 = .ok (.iconst 0, 1) := by decide +kernel
theorem d_TM_clear_28 : decode b_TM_clear 28 = .ok (.invokevirtual 96, 3) := by decide +kernel
theorem d_TM_clear_31 : decode b_TM_clear 31 = .ok (.iload_n 1, 1) := by decide +kernel
theorem d_TM_clear_32 : decode b_TM_clear 32 = .ok (.ireturn, 1) := by decide +kernel
theorem d_TM_add_0 : decode b_TM_add 0 = .ok (.aload_n 0, 1) := by decide +kernel
theorem d_TM_add_1 : decode b_TM_add 1 = .ok (.iload_n 1, 1) := by decide +kernel
theorem d_TM_add_2 : decode b_TM_add 2 = .ok (.invokevirtual 99, 3) := by decide +kernel
theorem d_TM_add_5 : decode b_TM_add 5 = .ok (.ifCond .ne 6, 3) := by decide +kernel
theorem d_TM_add_8 : decode b_TM_add 8 = .ok (.bipush (-2), 2) := by decide +kernel
theorem d_TM_add_10 : decode b_TM_add 10 = .ok (.ireturn, 1) := by decide +kernel
theorem d_TM_add_11 : decode b_TM_add 11 = .ok (.aload_n 0, 1) := by decide +kernel
theorem d_TM_add_12 : decode b_TM_add 12 = .ok (.getfield 25, 3) := by decide +kernel
theorem d_TM_add_15 : decode b_TM_add 15 = .ok (.iload_n 1, 1) := by decide +kernel
theorem d_TM_add_16 : decode b_TM_add 16 = .ok (.invokevirtual 103, 3) := by decide +kernel
theorem d_TM_add_19 : decode b_TM_add 19 = .ok (.ifCond .eq 13, 3) := by decide +kernel
theorem d_TM_add_22 : decode b_TM_add 22 = .ok (.aload_n 0, 1) := by decide +kernel
theorem d_TM_add_23 : decode b_TM_add 23 = .ok (.getfield 25, 3) := by decide +kernel
theorem d_TM_add_26 : decode b_TM_add 26 = .ok (.getfield 106, 3) := by decide +kernel
theorem d_TM_add_29 : decode b_TM_add 29 = .ok (.goto 5, 3) := by decide +kernel
theorem d_TM_add_32 : decode b_TM_add 32 = .ok (.bipush (-3), 2) := by decide +kernel
theorem d_TM_add_34 : decode b_TM_add 34 = .ok (.ireturn, 1) := by decide +kernel
theorem d_TM_isLetter_0 : decode b_TM_isLetter 0 = .ok (.iload_n 1, 1) := by decide +kernel
theorem d_TM_isLetter_1 : decode b_TM_isLetter 1 = .ok (.ifCond .lt 15, 3) := by decide +kernel
theorem d_TM_isLetter_4 : decode b_TM_isLetter 4 = .ok (.iload_n 1, 1) := by decide +kernel
theorem d_TM_isLetter_5 : decode b_TM_isLetter 5 = .ok (.aload_n 0, 1) := by decide +kernel
theorem d_TM_isLetter_6 : decode b_TM_isLetter 6 = .ok (.getfield 18, 3) := by decide +kernel
theorem d_TM_isLetter_9 : decode b_TM_isLetter 9 = .ok (.if_icmp .ge 7, 3) := by decide +kernel
theorem d_TM_isLetter_12 : decode b_TM_isLetter 12 = .ok (.iconst 1, 1) := by decide +kernel
theorem d_TM_isLetter_13 : decode b_TM_isLetter 13 = .ok (.goto 4, 3) := by decide +kernel
theorem d_TM_isLetter_16 : decode b_TM_isLetter 16 = .ok (.iconst 0, 1) := by decide +kernel
theorem d_TM_isLetter_17 : decode b_TM_isLetter 17 = .ok (.ireturn, 1) := by decide +kernel
theorem d_TM_wipe_0 : decode b_TM_wipe 0 = .ok (.aload_n 0, 1) := by decide +kernel
theorem d_TM_wipe_1 : decode b_TM_wipe 1 = .ok (.getfield 25, 3) := by decide +kernel
theorem d_TM_wipe_4 : decode b_TM_wipe 4 = .ok (.getfield 106, 3) := by decide +kernel
theorem d_TM_wipe_7 : decode b_TM_wipe 7 = .ok (.istore_n 1, 1) := by decide +kernel
theorem d_TM_wipe_8 : decode b_TM_wipe 8 = .ok (.aload_n 0, 1) := by decide +kernel
theorem d_TM_wipe_9 : decode b_TM_wipe 9 = .ok (.getfield 25, 3) := by decide +kernel
theorem d_TM_wipe_12 : decode b_TM_wipe 12 = .ok (.iconst 0, 1) := by decide +kernel
theorem d_TM_wipe_13 : decode b_TM_wipe 13 = .ok (.invokevirtual 96, 3) := by decide +kernel
theorem d_TM_wipe_16 : decode b_TM_wipe 16 = .ok (.iload_n 1, 1) := by decide +kernel
theorem d_TM_wipe_17 : decode b_TM_wipe 17 = .ok (.ireturn, 1) := by decide +kernel
theorem d_TM_make_0 : decode b_TM_make 0 = .ok (.iload_n 1, 1) := by decide +kernel
theorem d_TM_make_1 : decode b_TM_make 1 = .ok (.ifCond .lt 8, 3) := by decide +kernel
theorem d_TM_make_4 : decode b_TM_make 4 = .ok (.iload_n 1, 1) := by decide +kernel
theorem d_TM_make_5 : decode b_TM_make 5 = .ok (.iconst 2, 1) := by decide +kernel
theorem d_TM_make_6 : decode b_TM_make 6 = .ok (.if_icmp .le 6, 3) := by decide +kernel
theorem d_TM_make_9 : decode b_TM_make 9 = .ok (.bipush (-2), 2) := by decide +kernel
theorem d_TM_make_11 : decode b_TM_make 11 = .ok (.ireturn, 1) := by decide +kernel
theorem d_TM_make_12 : decode b_TM_make 12 = .ok (.aload_n 0, 1) := by decide +kernel
theorem d_TM_make_13 : decode b_TM_make 13 = .ok (.iconst 0, 1) := by decide +kernel
theorem d_TM_make_14 : decode b_TM_make 14 = .ok (.putfield 93, 3) := by decide +kernel
theorem d_TM_make_17 : decode b_TM_make 17 = .ok (.iload_n 1, 1) := by decide +kernel
theorem d_TM_make_18 : decode b_TM_make 18 = .ok (.ifCond .ne 39, 3) := by decide +kernel
theorem d_TM_make_21 : decode b_TM_make 21 = .ok (.aload_n 0, 1) := by decide +kernel
theorem d_TM_make_22 : decode b_TM_make 22 = .ok (.getfield 65, 3) := by decide +kernel
theorem d_TM_make_25 : decode b_TM_make 25 = .ok (.iconst 0, 1) := by decide +kernel
theorem d_TM_make_26 : decode b_TM_make 26 = .ok (.aload_n 0, 1) := by decide +kernel
theorem d_TM_make_27 : decode b_TM_make 27 = .ok (.getfield 25, 3) := by decide +kernel
theorem d_TM_make_30 : decode b_TM_make 30 = .ok (.invokevirtual 109, 3) := by decide +kernel
theorem d_TM_make_33 : decode b_TM_make 33 = .ok (.aload_n 0, 1) := by decide +kernel
theorem d_TM_make_34 : decode b_TM_make 34 = .ok (.getfield 44, 3) := by decide +kernel
theorem d_TM_make_37 : decode b_TM_make 37 = .ok (.aload_n 0, 1) := by decide +kernel
theorem d_TM_make_38 : decode b_TM_make 38 = .ok (.getfield 65, 3) := by decide +kernel
theorem d_TM_make_41 : decode b_TM_make 41 = .ok (.invokevirtual 113, 3) := by decide +kernel
theorem d_TM_make_44 : decode b_TM_make 44 = .ok (.ifCond .eq 10, 3) := by decide +kernel
theorem d_TM_make_47 : decode b_TM_make 47 = .ok (.aload_n 0, 1) := by decide +kernel
theorem d_TM_make_48 : decode b_TM_make 48 = .ok (.invokevirtual 117, 3) := by decide +kernel
theorem d_TM_make_51 : decode b_TM_make 51 = .ok (.goto 5, 3) := by decide +kernel
theorem d_TM_make_54 : decode b_TM_make 54 = .ok (.bipush (-4), 2) := by decide +kernel
theorem d_TM_make_56 : decode b_TM_make 56 = .ok (.ireturn, 1) := by decide +kernel
theorem d_TM_make_57 : decode b_TM_make 57 = .ok (.aload_n 0, 1) := by decide +kernel
theorem d_TM_make_58 : decode b_TM_make 58 = .ok (.getfield 48, 3) := by decide +kernel
theorem d_TM_make_61 : decode b_TM_make 61 = .ok (.iconst 1, 1) := by decide +kernel
theorem d_TM_make_62 : decode b_TM_make 62 = .ok (.invokevirtual 121, 3) := by decide +kernel
theorem d_TM_make_65 : decode b_TM_make 65 = .ok (.aload_n 0, 1) := by decide +kernel
theorem d_TM_make_66 : decode b_TM_make 66 = .ok (.getfield 48, 3) := by decide +kernel
theorem d_TM_make_69 : decode b_TM_make 69 = .ok (.iload_n 1, 1) := by decide +kernel
theorem d_TM_make_70 : decode b_TM_make 70 = .ok (.iconst 1, 1) := by decide +kernel
theorem d_TM_make_71 : decode b_TM_make 71 = .ok (.if_icmp .ne 7, 3) := by decide +kernel
theorem d_TM_make_74 : decode b_TM_make 74 = .ok (.lconst 1, 1) := by decide +kernel
theorem d_TM_make_75 : decode b_TM_make 75 = .ok (.goto 4, 3) := by decide +kernel
theorem d_TM_make_78 : decode b_TM_make 78 = .ok (.lconst 0, 1) := by decide +kernel
theorem d_TM_make_79 : decode b_TM_make 79 = .ok (.invokevirtual 124, 3) := by decide +kernel
theorem d_TM_make_82 : decode b_TM_make 82 = .ok (.aload_n 0, 1) := by decide +kernel
theorem d_TM_make_83 : decode b_TM_make 83 = .ok (.aload_n 0, 1) := by decide +kernel
theorem d_TM_make_84 : decode b_TM_make 84 = .ok (.getfield 48, 3) := by decide +kernel
theorem d_TM_make_87 : decode b_TM_make 87 = .ok (.invokevirtual 128, 3) := by decide +kernel
theorem d_TM_make_90 : decode b_TM_make 90 = .ok (.ireturn, 1) := by decide +kernel
theorem d_TM_isIn_0 : decode b_TM_isIn 0 = .ok (.lload_n 0, 1) := by decide +kernel
theorem d_TM_isIn_1 : decode b_TM_isIn 1 = .ok (.iload_n 2, 1) := by decide +kernel
theorem d_TM_isIn_2 : decode b_TM_isIn 2 = .ok (.lushr, 1) := by decide +kernel
theorem d_TM_isIn_3 : decode b_TM_isIn 3 = .ok (.lconst 1, 1) := by decide +kernel
theorem d_TM_isIn_4 : decode b_TM_isIn 4 = .ok (.land, 1) := by decide +kernel
theorem d_TM_isIn_5 : decode b_TM_isIn 5 = .ok (.lconst 0, 1) := by decide +kernel
theorem d_TM_isIn_6 : decode b_TM_isIn 6 = .ok (.lcmp, 1) := by decide +kernel
theorem d_TM_isIn_7 : decode b_TM_isIn 7 = .ok (.ifCond .eq 7, 3) := by decide +kernel
theorem d_TM_isIn_10 : decode b_TM_isIn 10 = .ok (.iconst 1, 1) := by decide +kernel
theorem d_TM_isIn_11 : decode b_TM_isIn 11 = .ok (.goto 4, 3) := by decide +kernel
theorem d_TM_isIn_14 : decode b_TM_isIn 14 = .ok (.iconst 0, 1) := by decide +kernel
theorem d_TM_isIn_15 : decode b_TM_isIn 15 = .ok (.ireturn, 1) := by decide +kernel
theorem d_TM_isWanted_0 : decode b_TM_isWanted 0 = .ok (.iload_n 0, 1) := by decide +kernel
theorem d_TM_isWanted_1 : decode b_TM_isWanted 1 = .ok (.tableswitch 69 0 2 #[27, 41, 55], 27) := by decide +kernel
theorem d_TM_isWanted_28 : decode b_TM_isWanted 28 = .ok (.iload_n 1, 1) := by decide +kernel
theorem d_TM_isWanted_29 : decode b_TM_isWanted 29 = .ok (.ifCond .eq 11, 3) := by decide +kernel
theorem d_TM_isWanted_32 : decode b_TM_isWanted 32 = .ok (.iload_n 2, 1) := by decide +kernel
theorem d_TM_isWanted_33 : decode b_TM_isWanted 33 = .ok (.ifCond .eq 7, 3) := by decide +kernel
theorem d_TM_isWanted_36 : decode b_TM_isWanted 36 = .ok (.iconst 1, 1) := by decide +kernel
theorem d_TM_isWanted_37 : decode b_TM_isWanted 37 = .ok (.goto 4, 3) := by decide +kernel
theorem d_TM_isWanted_40 : decode b_TM_isWanted 40 = .ok (.iconst 0, 1) := by decide +kernel
theorem d_TM_isWanted_41 : decode b_TM_isWanted 41 = .ok (.ireturn, 1) := by decide +kernel
theorem d_TM_isWanted_42 : decode b_TM_isWanted 42 = .ok (.iload_n 1, 1) := by decide +kernel
theorem d_TM_isWanted_43 : decode b_TM_isWanted 43 = .ok (.ifCond .ne 7, 3) := by decide +kernel
theorem d_TM_isWanted_46 : decode b_TM_isWanted 46 = .ok (.iload_n 2, 1) := by decide +kernel
theorem d_TM_isWanted_47 : decode b_TM_isWanted 47 = .ok (.ifCond .eq 7, 3) := by decide +kernel
theorem d_TM_isWanted_50 : decode b_TM_isWanted 50 = .ok (.iconst 1, 1) := by decide +kernel
theorem d_TM_isWanted_51 : decode b_TM_isWanted 51 = .ok (.goto 4, 3) := by decide +kernel
theorem d_TM_isWanted_54 : decode b_TM_isWanted 54 = .ok (.iconst 0, 1) := by decide +kernel
theorem d_TM_isWanted_55 : decode b_TM_isWanted 55 = .ok (.ireturn, 1) := by decide +kernel
theorem d_TM_isWanted_56 : decode b_TM_isWanted 56 = .ok (.iload_n 1, 1) := by decide +kernel
theorem d_TM_isWanted_57 : decode b_TM_isWanted 57 = .ok (.ifCond .eq 11, 3) := by decide +kernel
theorem d_TM_isWanted_60 : decode b_TM_isWanted 60 = .ok (.iload_n 2, 1) := by decide +kernel
theorem d_TM_isWanted_61 : decode b_TM_isWanted 61 = .ok (.ifCond .ne 7, 3) := by decide +kernel
theorem d_TM_isWanted_64 : decode b_TM_isWanted 64 = .ok (.iconst 1, 1) := by decide +kernel
theorem d_TM_isWanted_65 : decode b_TM_isWanted 65 = .ok (.goto 4, 3) := by decide +kernel
theorem d_TM_isWanted_68 : decode b_TM_isWanted 68 = .ok (.iconst 0, 1) := by decide +kernel
theorem d_TM_isWanted_69 : decode b_TM_isWanted 69 = .ok (.ireturn, 1) := by decide +kernel
theorem d_TM_isWanted_70 : decode b_TM_isWanted 70 = .ok (.iload_n 1, 1) := by decide +kernel
theorem d_TM_isWanted_71 : decode b_TM_isWanted 71 = .ok (.iload_n 2, 1) := by decide +kernel
theorem d_TM_isWanted_72 : decode b_TM_isWanted 72 = .ok (.if_icmp .eq 7, 3) := by decide +kernel
theorem d_TM_isWanted_75 : decode b_TM_isWanted 75 = .ok (.iconst 1, 1) := by decide +kernel
theorem d_TM_isWanted_76 : decode b_TM_isWanted 76 = .ok (.goto 4, 3) := by decide +kernel
theorem d_TM_isWanted_79 : decode b_TM_isWanted 79 = .ok (.iconst 0, 1) := by decide +kernel
theorem d_TM_isWanted_80 : decode b_TM_isWanted 80 = .ok (.ireturn, 1) := by decide +kernel
theorem d_TM_keepLeast_0 : decode b_TM_keepLeast 0 = .ok (.aload_n 0, 1) := by decide +kernel
theorem d_TM_keepLeast_1 : decode b_TM_keepLeast 1 = .ok (.getfield 44, 3) := by decide +kernel
theorem d_TM_keepLeast_4 : decode b_TM_keepLeast 4 = .ok (.aload_n 0, 1) := by decide +kernel
theorem d_TM_keepLeast_5 : decode b_TM_keepLeast 5 = .ok (.getfield 48, 3) := by decide +kernel
theorem d_TM_keepLeast_8 : decode b_TM_keepLeast 8 = .ok (.invokevirtual 207, 3) := by decide +kernel
theorem d_TM_keepLeast_11 : decode b_TM_keepLeast 11 = .ok (.ifCond .eq 14, 3) := by decide +kernel
theorem d_TM_keepLeast_14 : decode b_TM_keepLeast 14 = .ok (.aload_n 0, 1) := by decide +kernel
theorem d_TM_keepLeast_15 : decode b_TM_keepLeast 15 = .ok (.aload_n 0, 1) := by decide +kernel
theorem d_TM_keepLeast_16 : decode b_TM_keepLeast 16 = .ok (.getfield 48, 3) := by decide +kernel
theorem d_TM_keepLeast_19 : decode b_TM_keepLeast 19 = .ok (.invokevirtual 128, 3) := by decide +kernel
theorem d_TM_keepLeast_22 : decode b_TM_keepLeast 22 = .ok (.goto 5, 3) := by decide +kernel
theorem d_TM_keepLeast_25 : decode b_TM_keepLeast 25 = .ok (.bipush (-4), 2) := by decide +kernel
theorem d_TM_keepLeast_27 : decode b_TM_keepLeast 27 = .ok (.ireturn, 1) := by decide +kernel
theorem d_TM_keep_0 : decode b_TM_keep 0 = .ok (.iconst 0, 1) := by decide +kernel
theorem d_TM_keep_1 : decode b_TM_keep 1 = .ok (.istore_n 2, 1) := by decide +kernel
theorem d_TM_keep_2 : decode b_TM_keep 2 = .ok (.iload_n 2, 1) := by decide +kernel
theorem d_TM_keep_3 : decode b_TM_keep 3 = .ok (.aload_n 0, 1) := by decide +kernel
theorem d_TM_keep_4 : decode b_TM_keep 4 = .ok (.getfield 90, 3) := by decide +kernel
theorem d_TM_keep_7 : decode b_TM_keep 7 = .ok (.if_icmp .ge 24, 3) := by decide +kernel
theorem d_TM_keep_10 : decode b_TM_keep 10 = .ok (.aload_n 0, 1) := by decide +kernel
theorem d_TM_keep_11 : decode b_TM_keep 11 = .ok (.getfield 34, 3) := by decide +kernel
theorem d_TM_keep_14 : decode b_TM_keep 14 = .ok (.iload_n 2, 1) := by decide +kernel
theorem d_TM_keep_15 : decode b_TM_keep 15 = .ok (.aaload, 1) := by decide +kernel
theorem d_TM_keep_16 : decode b_TM_keep 16 = .ok (.aload_n 1, 1) := by decide +kernel
theorem d_TM_keep_17 : decode b_TM_keep 17 = .ok (.invokevirtual 259, 3) := by decide +kernel
theorem d_TM_keep_20 : decode b_TM_keep 20 = .ok (.ifCond .eq 5, 3) := by decide +kernel
theorem d_TM_keep_23 : decode b_TM_keep 23 = .ok (.iload_n 2, 1) := by decide +kernel
theorem d_TM_keep_24 : decode b_TM_keep 24 = .ok (.ireturn, 1) := by decide +kernel
theorem d_TM_keep_25 : decode b_TM_keep 25 = .ok (.iinc 2 1, 3) := by decide +kernel
theorem d_TM_keep_28 : decode b_TM_keep 28 = .ok (.goto (-26), 3) := by decide +kernel
theorem d_TM_keep_31 : decode b_TM_keep 31 = .ok (.aload_n 0, 1) := by decide +kernel
theorem d_TM_keep_32 : decode b_TM_keep 32 = .ok (.getfield 90, 3) := by decide +kernel
theorem d_TM_keep_35 : decode b_TM_keep 35 = .ok (.bipush 60, 2) := by decide +kernel
theorem d_TM_keep_37 : decode b_TM_keep 37 = .ok (.if_icmp .lt 6, 3) := by decide +kernel
theorem d_TM_keep_40 : decode b_TM_keep 40 = .ok (.bipush (-3), 2) := by decide +kernel
theorem d_TM_keep_42 : decode b_TM_keep 42 = .ok (.ireturn, 1) := by decide +kernel
theorem d_TM_keep_43 : decode b_TM_keep 43 = .ok (.aload_n 0, 1) := by decide +kernel
theorem d_TM_keep_44 : decode b_TM_keep 44 = .ok (.getfield 34, 3) := by decide +kernel
theorem d_TM_keep_47 : decode b_TM_keep 47 = .ok (.aload_n 0, 1) := by decide +kernel
theorem d_TM_keep_48 : decode b_TM_keep 48 = .ok (.getfield 90, 3) := by decide +kernel
theorem d_TM_keep_51 : decode b_TM_keep 51 = .ok (.aaload, 1) := by decide +kernel
theorem d_TM_keep_52 : decode b_TM_keep 52 = .ok (.aload_n 1, 1) := by decide +kernel
theorem d_TM_keep_53 : decode b_TM_keep 53 = .ok (.invokevirtual 148, 3) := by decide +kernel
theorem d_TM_keep_56 : decode b_TM_keep 56 = .ok (.aload_n 0, 1) := by decide +kernel
theorem d_TM_keep_57 : decode b_TM_keep 57 = .ok (.dup, 1) := by decide +kernel
theorem d_TM_keep_58 : decode b_TM_keep 58 = .ok (.getfield 90, 3) := by decide +kernel
theorem d_TM_keep_61 : decode b_TM_keep 61 = .ok (.iconst 1, 1) := by decide +kernel
theorem d_TM_keep_62 : decode b_TM_keep 62 = .ok (.iadd, 1) := by decide +kernel
theorem d_TM_keep_63 : decode b_TM_keep 63 = .ok (.putfield 90, 3) := by decide +kernel
theorem d_TM_keep_66 : decode b_TM_keep 66 = .ok (.aload_n 0, 1) := by decide +kernel
theorem d_TM_keep_67 : decode b_TM_keep 67 = .ok (.getfield 90, 3) := by decide +kernel
theorem d_TM_keep_70 : decode b_TM_keep 70 = .ok (.iconst 1, 1) := by decide +kernel
theorem d_TM_keep_71 : decode b_TM_keep 71 = .ok (.isub, 1) := by decide +kernel
theorem d_TM_keep_72 : decode b_TM_keep 72 = .ok (.ireturn, 1) := by decide +kernel
theorem d_TM_pair_0 : decode b_TM_pair 0 = .ok (.iload_n 1, 1) := by decide +kernel
theorem d_TM_pair_1 : decode b_TM_pair 1 = .ok (.ifCond .lt 24, 3) := by decide +kernel
theorem d_TM_pair_4 : decode b_TM_pair 4 = .ok (.iload_n 1, 1) := by decide +kernel
theorem d_TM_pair_5 : decode b_TM_pair 5 = .ok (.iconst 3, 1) := by decide +kernel
theorem d_TM_pair_6 : decode b_TM_pair 6 = .ok (.if_icmp .gt 19, 3) := by decide +kernel
theorem d_TM_pair_9 : decode b_TM_pair 9 = .ok (.aload_n 0, 1) := by decide +kernel
theorem d_TM_pair_10 : decode b_TM_pair 10 = .ok (.iload_n 2, 1) := by decide +kernel
theorem d_TM_pair_11 : decode b_TM_pair 11 = .ok (.invokevirtual 132, 3) := by decide +kernel
theorem d_TM_pair_14 : decode b_TM_pair 14 = .ok (.ifCond .eq 11, 3) := by decide +kernel
theorem d_TM_pair_17 : decode b_TM_pair 17 = .ok (.aload_n 0, 1) := by decide +kernel
theorem d_TM_pair_18 : decode b_TM_pair 18 = .ok (.iload_n 3, 1) := by decide +kernel
theorem d_TM_pair_19 : decode b_TM_pair 19 = .ok (.invokevirtual 132, 3) := by decide +kernel
theorem d_TM_pair_22 : decode b_TM_pair 22 = .ok (.ifCond .ne 6, 3) := by decide +kernel
theorem d_TM_pair_25 : decode b_TM_pair 25 = .ok (.bipush (-2), 2) := by decide +kernel
theorem d_TM_pair_27 : decode b_TM_pair 27 = .ok (.ireturn, 1) := by decide +kernel
theorem d_TM_pair_28 : decode b_TM_pair 28 = .ok (.aload_n 0, 1) := by decide +kernel
theorem d_TM_pair_29 : decode b_TM_pair 29 = .ok (.new 135, 3) := by decide +kernel
theorem d_TM_pair_32 : decode b_TM_pair 32 = .ok (.dup, 1) := by decide +kernel
theorem d_TM_pair_33 : decode b_TM_pair 33 = .ok (.iload_n 1, 1) := by decide +kernel
theorem d_TM_pair_34 : decode b_TM_pair 34 = .ok (.aload_n 0, 1) := by decide +kernel
theorem d_TM_pair_35 : decode b_TM_pair 35 = .ok (.iload_n 2, 1) := by decide +kernel
theorem d_TM_pair_36 : decode b_TM_pair 36 = .ok (.invokevirtual 137, 3) := by decide +kernel
theorem d_TM_pair_39 : decode b_TM_pair 39 = .ok (.aload_n 0, 1) := by decide +kernel
theorem d_TM_pair_40 : decode b_TM_pair 40 = .ok (.iload_n 3, 1) := by decide +kernel
theorem d_TM_pair_41 : decode b_TM_pair 41 = .ok (.invokevirtual 137, 3) := by decide +kernel
theorem d_TM_pair_44 : decode b_TM_pair 44 = .ok (.invokespecial 141, 3) := by decide +kernel
theorem d_TM_pair_47 : decode b_TM_pair 47 = .ok (.invokevirtual 144, 3) := by decide +kernel
theorem d_TM_pair_50 : decode b_TM_pair 50 = .ok (.ireturn, 1) := by decide +kernel
theorem d_TM_isThere_0 : decode b_TM_isThere 0 = .ok (.iload_n 1, 1) := by decide +kernel
theorem d_TM_isThere_1 : decode b_TM_isThere 1 = .ok (.ifCond .lt 15, 3) := by decide +kernel
theorem d_TM_isThere_4 : decode b_TM_isThere 4 = .ok (.iload_n 1, 1) := by decide +kernel
theorem d_TM_isThere_5 : decode b_TM_isThere 5 = .ok (.aload_n 0, 1) := by decide +kernel
theorem d_TM_isThere_6 : decode b_TM_isThere 6 = .ok (.getfield 90, 3) := by decide +kernel
theorem d_TM_isThere_9 : decode b_TM_isThere 9 = .ok (.if_icmp .ge 7, 3) := by decide +kernel
theorem d_TM_isThere_12 : decode b_TM_isThere 12 = .ok (.iconst 1, 1) := by decide +kernel
theorem d_TM_isThere_13 : decode b_TM_isThere 13 = .ok (.goto 4, 3) := by decide +kernel
theorem d_TM_isThere_16 : decode b_TM_isThere 16 = .ok (.iconst 0, 1) := by decide +kernel
theorem d_TM_isThere_17 : decode b_TM_isThere 17 = .ok (.ireturn, 1) := by decide +kernel
theorem d_TM_machine_0 : decode b_TM_machine 0 = .ok (.aload_n 0, 1) := by decide +kernel
theorem d_TM_machine_1 : decode b_TM_machine 1 = .ok (.getfield 34, 3) := by decide +kernel
theorem d_TM_machine_4 : decode b_TM_machine 4 = .ok (.aload_n 0, 1) := by decide +kernel
theorem d_TM_machine_5 : decode b_TM_machine 5 = .ok (.iload_n 1, 1) := by decide +kernel
theorem d_TM_machine_6 : decode b_TM_machine 6 = .ok (.invokevirtual 132, 3) := by decide +kernel
theorem d_TM_machine_9 : decode b_TM_machine 9 = .ok (.ifCond .eq 7, 3) := by decide +kernel
theorem d_TM_machine_12 : decode b_TM_machine 12 = .ok (.iload_n 1, 1) := by decide +kernel
theorem d_TM_machine_13 : decode b_TM_machine 13 = .ok (.goto 4, 3) := by decide +kernel
theorem d_TM_machine_16 : decode b_TM_machine 16 = .ok (.iconst 0, 1) := by decide +kernel
theorem d_TM_machine_17 : decode b_TM_machine 17 = .ok (.aaload, 1) := by decide +kernel
theorem d_TM_machine_18 : decode b_TM_machine 18 = .ok (.areturn, 1) := by decide +kernel
theorem d_TM_keepPlacesOf_0 : decode b_TM_keepPlacesOf 0 = .ok (.aload_n 0, 1) := by decide +kernel
theorem d_TM_keepPlacesOf_1 : decode b_TM_keepPlacesOf 1 = .ok (.getfield 44, 3) := by decide +kernel
theorem d_TM_keepPlacesOf_4 : decode b_TM_keepPlacesOf 4 = .ok (.aload_n 1, 1) := by decide +kernel
theorem d_TM_keepPlacesOf_5 : decode b_TM_keepPlacesOf 5 = .ok (.invokevirtual 113, 3) := by decide +kernel
theorem d_TM_keepPlacesOf_8 : decode b_TM_keepPlacesOf 8 = .ok (.istore_n 2, 1) := by decide +kernel
theorem d_TM_keepPlacesOf_9 : decode b_TM_keepPlacesOf 9 = .ok (.aload_n 0, 1) := by decide +kernel
theorem d_TM_keepPlacesOf_10 : decode b_TM_keepPlacesOf 10 = .ok (.iload_n 2, 1) := by decide +kernel
theorem d_TM_keepPlacesOf_11 : decode b_TM_keepPlacesOf 11 = .ok (.ifCond .eq 13, 3) := by decide +kernel
theorem d_TM_keepPlacesOf_14 : decode b_TM_keepPlacesOf 14 = .ok (.aload_n 0, 1) := by decide +kernel
theorem d_TM_keepPlacesOf_15 : decode b_TM_keepPlacesOf 15 = .ok (.getfield 44, 3) := by decide +kernel
theorem d_TM_keepPlacesOf_18 : decode b_TM_keepPlacesOf 18 = .ok (.getfield 254, 3) := by decide +kernel
theorem d_TM_keepPlacesOf_21 : decode b_TM_keepPlacesOf 21 = .ok (.goto 6, 3) := by decide +kernel
theorem d_TM_keepPlacesOf_24 : decode b_TM_keepPlacesOf 24 = .ok (.sipush 201, 3) := by decide +kernel
theorem d_TM_keepPlacesOf_27 : decode b_TM_keepPlacesOf 27 = .ok (.putfield 93, 3) := by decide +kernel
theorem d_TM_keepPlacesOf_30 : decode b_TM_keepPlacesOf 30 = .ok (.iload_n 2, 1) := by decide +kernel
theorem d_TM_keepPlacesOf_31 : decode b_TM_keepPlacesOf 31 = .ok (.ifCond .eq 10, 3) := by decide +kernel
theorem d_TM_keepPlacesOf_34 : decode b_TM_keepPlacesOf 34 = .ok (.aload_n 0, 1) := by decide +kernel
theorem d_TM_keepPlacesOf_35 : decode b_TM_keepPlacesOf 35 = .ok (.invokevirtual 117, 3) := by decide +kernel
theorem d_TM_keepPlacesOf_38 : decode b_TM_keepPlacesOf 38 = .ok (.goto 5, 3) := by decide +kernel
theorem d_TM_keepPlacesOf_41 : decode b_TM_keepPlacesOf 41 = .ok (.bipush (-4), 2) := by decide +kernel
theorem d_TM_keepPlacesOf_43 : decode b_TM_keepPlacesOf 43 = .ok (.ireturn, 1) := by decide +kernel
theorem d_TM_not_0 : decode b_TM_not 0 = .ok (.aload_n 0, 1) := by decide +kernel
theorem d_TM_not_1 : decode b_TM_not 1 = .ok (.iload_n 1, 1) := by decide +kernel
theorem d_TM_not_2 : decode b_TM_not 2 = .ok (.invokevirtual 132, 3) := by decide +kernel
theorem d_TM_not_5 : decode b_TM_not 5 = .ok (.ifCond .ne 6, 3) := by decide +kernel
theorem d_TM_not_8 : decode b_TM_not 8 = .ok (.bipush (-2), 2) := by decide +kernel
theorem d_TM_not_10 : decode b_TM_not 10 = .ok (.ireturn, 1) := by decide +kernel
theorem d_TM_not_11 : decode b_TM_not 11 = .ok (.aload_n 0, 1) := by decide +kernel
theorem d_TM_not_12 : decode b_TM_not 12 = .ok (.iconst 0, 1) := by decide +kernel
theorem d_TM_not_13 : decode b_TM_not 13 = .ok (.putfield 93, 3) := by decide +kernel
theorem d_TM_not_16 : decode b_TM_not 16 = .ok (.aload_n 0, 1) := by decide +kernel
theorem d_TM_not_17 : decode b_TM_not 17 = .ok (.getfield 48, 3) := by decide +kernel
theorem d_TM_not_20 : decode b_TM_not 20 = .ok (.aload_n 0, 1) := by decide +kernel
theorem d_TM_not_21 : decode b_TM_not 21 = .ok (.iload_n 1, 1) := by decide +kernel
theorem d_TM_not_22 : decode b_TM_not 22 = .ok (.invokevirtual 137, 3) := by decide +kernel
theorem d_TM_not_25 : decode b_TM_not 25 = .ok (.invokevirtual 148, 3) := by decide +kernel
theorem d_TM_not_28 : decode b_TM_not 28 = .ok (.aload_n 0, 1) := by decide +kernel
theorem d_TM_not_29 : decode b_TM_not 29 = .ok (.getfield 48, 3) := by decide +kernel
theorem d_TM_not_32 : decode b_TM_not 32 = .ok (.aload_n 0, 1) := by decide +kernel
theorem d_TM_not_33 : decode b_TM_not 33 = .ok (.getfield 48, 3) := by decide +kernel
theorem d_TM_not_36 : decode b_TM_not 36 = .ok (.getfield 152, 3) := by decide +kernel
theorem d_TM_not_39 : decode b_TM_not 39 = .ok (.ldc2_w 156, 3) := by decide +kernel
theorem d_TM_not_42 : decode b_TM_not 42 = .ok (.lxor, 1) := by decide +kernel
theorem d_TM_not_43 : decode b_TM_not 43 = .ok (.invokevirtual 124, 3) := by decide +kernel
theorem d_TM_not_46 : decode b_TM_not 46 = .ok (.aload_n 0, 1) := by decide +kernel
theorem d_TM_not_47 : decode b_TM_not 47 = .ok (.aload_n 0, 1) := by decide +kernel
theorem d_TM_not_48 : decode b_TM_not 48 = .ok (.getfield 48, 3) := by decide +kernel
theorem d_TM_not_51 : decode b_TM_not 51 = .ok (.invokevirtual 128, 3) := by decide +kernel
theorem d_TM_not_54 : decode b_TM_not 54 = .ok (.ireturn, 1) := by decide +kernel
theorem d_TM_join_0 : decode b_TM_join 0 = .ok (.aload_n 0, 1) := by decide +kernel
theorem d_TM_join_1 : decode b_TM_join 1 = .ok (.iload_n 1, 1) := by decide +kernel
theorem d_TM_join_2 : decode b_TM_join 2 = .ok (.invokevirtual 132, 3) := by decide +kernel
theorem d_TM_join_5 : decode b_TM_join 5 = .ok (.ifCond .eq 11, 3) := by decide +kernel
theorem d_TM_join_8 : decode b_TM_join 8 = .ok (.aload_n 0, 1) := by decide +kernel
theorem d_TM_join_9 : decode b_TM_join 9 = .ok (.iload_n 2, 1) := by decide +kernel
theorem d_TM_join_10 : decode b_TM_join 10 = .ok (.invokevirtual 132, 3) := by decide +kernel
theorem d_TM_join_13 : decode b_TM_join 13 = .ok (.ifCond .ne 6, 3) := by decide +kernel
theorem d_TM_join_16 : decode b_TM_join 16 = .ok (.bipush (-2), 2) := by decide +kernel
theorem d_TM_join_18 : decode b_TM_join 18 = .ok (.ireturn, 1) := by decide +kernel
theorem d_TM_join_19 : decode b_TM_join 19 = .ok (.aload_n 0, 1) := by decide +kernel
theorem d_TM_join_20 : decode b_TM_join 20 = .ok (.new 158, 3) := by decide +kernel
theorem d_TM_join_23 : decode b_TM_join 23 = .ok (.dup, 1) := by decide +kernel
theorem d_TM_join_24 : decode b_TM_join 24 = .ok (.aload_n 0, 1) := by decide +kernel
theorem d_TM_join_25 : decode b_TM_join 25 = .ok (.iload_n 1, 1) := by decide +kernel
theorem d_TM_join_26 : decode b_TM_join 26 = .ok (.invokevirtual 137, 3) := by decide +kernel
theorem d_TM_join_29 : decode b_TM_join 29 = .ok (.aload_n 0, 1) := by decide +kernel
theorem d_TM_join_30 : decode b_TM_join 30 = .ok (.iload_n 2, 1) := by decide +kernel
theorem d_TM_join_31 : decode b_TM_join 31 = .ok (.invokevirtual 137, 3) := by decide +kernel
theorem d_TM_join_34 : decode b_TM_join 34 = .ok (.invokespecial 160, 3) := by decide +kernel
theorem d_TM_join_37 : decode b_TM_join 37 = .ok (.invokevirtual 144, 3) := by decide +kernel
theorem d_TM_join_40 : decode b_TM_join 40 = .ok (.ireturn, 1) := by decide +kernel
theorem d_TM_many_0 : decode b_TM_many 0 = .ok (.aload_n 0, 1) := by decide +kernel
theorem d_TM_many_1 : decode b_TM_many 1 = .ok (.iload_n 1, 1) := by decide +kernel
theorem d_TM_many_2 : decode b_TM_many 2 = .ok (.invokevirtual 132, 3) := by decide +kernel
theorem d_TM_many_5 : decode b_TM_many 5 = .ok (.ifCond .ne 6, 3) := by decide +kernel
theorem d_TM_many_8 : decode b_TM_many 8 = .ok (.bipush (-2), 2) := by decide +kernel
theorem d_TM_many_10 : decode b_TM_many 10 = .ok (.ireturn, 1) := by decide +kernel
theorem d_TM_many_11 : decode b_TM_many 11 = .ok (.aload_n 0, 1) := by decide +kernel
theorem d_TM_many_12 : decode b_TM_many 12 = .ok (.getfield 58, 3) := by decide +kernel
theorem d_TM_many_15 : decode b_TM_many 15 = .ok (.aload_n 0, 1) := by decide +kernel
theorem d_TM_many_16 : decode b_TM_many 16 = .ok (.iload_n 1, 1) := by decide +kernel
theorem d_TM_many_17 : decode b_TM_many 17 = .ok (.invokevirtual 137, 3) := by decide +kernel
theorem d_TM_many_20 : decode b_TM_many 20 = .ok (.invokevirtual 163, 3) := by decide +kernel
theorem d_TM_many_23 : decode b_TM_many 23 = .ok (.aload_n 0, 1) := by decide +kernel
theorem d_TM_many_24 : decode b_TM_many 24 = .ok (.aload_n 0, 1) := by decide +kernel
theorem d_TM_many_25 : decode b_TM_many 25 = .ok (.getfield 58, 3) := by decide +kernel
theorem d_TM_many_28 : decode b_TM_many 28 = .ok (.invokevirtual 144, 3) := by decide +kernel
theorem d_TM_many_31 : decode b_TM_many 31 = .ok (.ireturn, 1) := by decide +kernel
theorem d_TM_turn_0 : decode b_TM_turn 0 = .ok (.aload_n 0, 1) := by decide +kernel
theorem d_TM_turn_1 : decode b_TM_turn 1 = .ok (.iload_n 1, 1) := by decide +kernel
theorem d_TM_turn_2 : decode b_TM_turn 2 = .ok (.invokevirtual 132, 3) := by decide +kernel
theorem d_TM_turn_5 : decode b_TM_turn 5 = .ok (.ifCond .ne 6, 3) := by decide +kernel
theorem d_TM_turn_8 : decode b_TM_turn 8 = .ok (.bipush (-2), 2) := by decide +kernel
theorem d_TM_turn_10 : decode b_TM_turn 10 = .ok (.ireturn, 1) := by decide +kernel
theorem d_TM_turn_11 : decode b_TM_turn 11 = .ok (.aload_n 0, 1) := by decide +kernel
theorem d_TM_turn_12 : decode b_TM_turn 12 = .ok (.getfield 58, 3) := by decide +kernel
theorem d_TM_turn_15 : decode b_TM_turn 15 = .ok (.aload_n 0, 1) := by decide +kernel
theorem d_TM_turn_16 : decode b_TM_turn 16 = .ok (.iload_n 1, 1) := by decide +kernel
theorem d_TM_turn_17 : decode b_TM_turn 17 = .ok (.invokevirtual 137, 3) := by decide +kernel
theorem d_TM_turn_20 : decode b_TM_turn 20 = .ok (.invokevirtual 166, 3) := by decide +kernel
theorem d_TM_turn_23 : decode b_TM_turn 23 = .ok (.aload_n 0, 1) := by decide +kernel
theorem d_TM_turn_24 : decode b_TM_turn 24 = .ok (.aload_n 0, 1) := by decide +kernel
theorem d_TM_turn_25 : decode b_TM_turn 25 = .ok (.getfield 58, 3) := by decide +kernel
theorem d_TM_turn_28 : decode b_TM_turn 28 = .ok (.invokevirtual 144, 3) := by decide +kernel
theorem d_TM_turn_31 : decode b_TM_turn 31 = .ok (.ireturn, 1) := by decide +kernel
theorem d_TM_become_0 : decode b_TM_become 0 = .ok (.aload_n 0, 1) := by decide +kernel
theorem d_TM_become_1 : decode b_TM_become 1 = .ok (.iload_n 1, 1) := by decide +kernel
theorem d_TM_become_2 : decode b_TM_become 2 = .ok (.invokevirtual 132, 3) := by decide +kernel
theorem d_TM_become_5 : decode b_TM_become 5 = .ok (.ifCond .eq 19, 3) := by decide +kernel
theorem d_TM_become_8 : decode b_TM_become 8 = .ok (.aload_n 0, 1) := by decide +kernel
theorem d_TM_become_9 : decode b_TM_become 9 = .ok (.iload_n 2, 1) := by decide +kernel
theorem d_TM_become_10 : decode b_TM_become 10 = .ok (.invokevirtual 99, 3) := by decide +kernel
theorem d_TM_become_13 : decode b_TM_become 13 = .ok (.ifCond .eq 11, 3) := by decide +kernel
theorem d_TM_become_16 : decode b_TM_become 16 = .ok (.aload_n 0, 1) := by decide +kernel
theorem d_TM_become_17 : decode b_TM_become 17 = .ok (.iload_n 3, 1) := by decide +kernel
theorem d_TM_become_18 : decode b_TM_become 18 = .ok (.invokevirtual 99, 3) := by decide +kernel
theorem d_TM_become_21 : decode b_TM_become 21 = .ok (.ifCond .ne 6, 3) := by decide +kernel
theorem d_TM_become_24 : decode b_TM_become 24 = .ok (.bipush (-2), 2) := by decide +kernel
theorem d_TM_become_26 : decode b_TM_become 26 = .ok (.ireturn, 1) := by decide +kernel
theorem d_TM_become_27 : decode b_TM_become 27 = .ok (.aload_n 0, 1) := by decide +kernel
theorem d_TM_become_28 : decode b_TM_become 28 = .ok (.getfield 58, 3) := by decide +kernel
theorem d_TM_become_31 : decode b_TM_become 31 = .ok (.aload_n 0, 1) := by decide +kernel
theorem d_TM_become_32 : decode b_TM_become 32 = .ok (.iload_n 1, 1) := by decide +kernel
theorem d_TM_become_33 : decode b_TM_become 33 = .ok (.invokevirtual 137, 3) := by decide +kernel
theorem d_TM_become_36 : decode b_TM_become 36 = .ok (.invokevirtual 169, 3) := by decide +kernel
theorem d_TM_become_39 : decode b_TM_become 39 = .ok (.aload_n 0, 1) := by decide +kernel
theorem d_TM_become_40 : decode b_TM_become 40 = .ok (.getfield 58, 3) := by decide +kernel
theorem d_TM_become_43 : decode b_TM_become 43 = .ok (.iload_n 2, 1) := by decide +kernel
theorem d_TM_become_44 : decode b_TM_become 44 = .ok (.iload_n 3, 1) := by decide +kernel
theorem d_TM_become_45 : decode b_TM_become 45 = .ok (.invokevirtual 172, 3) := by decide +kernel
theorem d_TM_become_48 : decode b_TM_become 48 = .ok (.aload_n 0, 1) := by decide +kernel
theorem d_TM_become_49 : decode b_TM_become 49 = .ok (.aload_n 0, 1) := by decide +kernel
theorem d_TM_become_50 : decode b_TM_become 50 = .ok (.getfield 58, 3) := by decide +kernel
theorem d_TM_become_53 : decode b_TM_become 53 = .ok (.invokevirtual 144, 3) := by decide +kernel
theorem d_TM_become_56 : decode b_TM_become 56 = .ok (.ireturn, 1) := by decide +kernel
theorem d_TM_drop_0 : decode b_TM_drop 0 = .ok (.aload_n 0, 1) := by decide +kernel
theorem d_TM_drop_1 : decode b_TM_drop 1 = .ok (.iload_n 1, 1) := by decide +kernel
theorem d_TM_drop_2 : decode b_TM_drop 2 = .ok (.invokevirtual 132, 3) := by decide +kernel
theorem d_TM_drop_5 : decode b_TM_drop 5 = .ok (.ifCond .eq 11, 3) := by decide +kernel
theorem d_TM_drop_8 : decode b_TM_drop 8 = .ok (.aload_n 0, 1) := by decide +kernel
theorem d_TM_drop_9 : decode b_TM_drop 9 = .ok (.iload_n 2, 1) := by decide +kernel
theorem d_TM_drop_10 : decode b_TM_drop 10 = .ok (.invokevirtual 99, 3) := by decide +kernel
theorem d_TM_drop_13 : decode b_TM_drop 13 = .ok (.ifCond .ne 6, 3) := by decide +kernel
theorem d_TM_drop_16 : decode b_TM_drop 16 = .ok (.bipush (-2), 2) := by decide +kernel
theorem d_TM_drop_18 : decode b_TM_drop 18 = .ok (.ireturn, 1) := by decide +kernel
theorem d_TM_drop_19 : decode b_TM_drop 19 = .ok (.aload_n 0, 1) := by decide +kernel
theorem d_TM_drop_20 : decode b_TM_drop 20 = .ok (.getfield 58, 3) := by decide +kernel
theorem d_TM_drop_23 : decode b_TM_drop 23 = .ok (.aload_n 0, 1) := by decide +kernel
theorem d_TM_drop_24 : decode b_TM_drop 24 = .ok (.iload_n 1, 1) := by decide +kernel
theorem d_TM_drop_25 : decode b_TM_drop 25 = .ok (.invokevirtual 137, 3) := by decide +kernel
theorem d_TM_drop_28 : decode b_TM_drop 28 = .ok (.iload_n 2, 1) := by decide +kernel
theorem d_TM_drop_29 : decode b_TM_drop 29 = .ok (.invokevirtual 176, 3) := by decide +kernel
theorem d_TM_drop_32 : decode b_TM_drop 32 = .ok (.aload_n 0, 1) := by decide +kernel
theorem d_TM_drop_33 : decode b_TM_drop 33 = .ok (.aload_n 0, 1) := by decide +kernel
theorem d_TM_drop_34 : decode b_TM_drop 34 = .ok (.getfield 58, 3) := by decide +kernel
theorem d_TM_drop_37 : decode b_TM_drop 37 = .ok (.invokevirtual 144, 3) := by decide +kernel
theorem d_TM_drop_40 : decode b_TM_drop 40 = .ok (.ireturn, 1) := by decide +kernel
theorem d_TM_cut_0 : decode b_TM_cut 0 = .ok (.aload_n 0, 1) := by decide +kernel
theorem d_TM_cut_1 : decode b_TM_cut 1 = .ok (.iload_n 1, 1) := by decide +kernel
theorem d_TM_cut_2 : decode b_TM_cut 2 = .ok (.invokevirtual 132, 3) := by decide +kernel
theorem d_TM_cut_5 : decode b_TM_cut 5 = .ok (.ifCond .eq 13, 3) := by decide +kernel
theorem d_TM_cut_8 : decode b_TM_cut 8 = .ok (.iload_n 2, 1) := by decide +kernel
theorem d_TM_cut_9 : decode b_TM_cut 9 = .ok (.ifCond .lt 9, 3) := by decide +kernel
theorem d_TM_cut_12 : decode b_TM_cut 12 = .ok (.iload_n 2, 1) := by decide +kernel
theorem d_TM_cut_13 : decode b_TM_cut 13 = .ok (.bipush 100, 2) := by decide +kernel
theorem d_TM_cut_15 : decode b_TM_cut 15 = .ok (.if_icmp .le 6, 3) := by decide +kernel
theorem d_TM_cut_18 : decode b_TM_cut 18 = .ok (.bipush (-2), 2) := by decide +kernel
theorem d_TM_cut_20 : decode b_TM_cut 20 = .ok (.ireturn, 1) := by decide +kernel
theorem d_TM_cut_21 : decode b_TM_cut 21 = .ok (.aload_n 0, 1) := by decide +kernel
theorem d_TM_cut_22 : decode b_TM_cut 22 = .ok (.iload_n 1, 1) := by decide +kernel
theorem d_TM_cut_23 : decode b_TM_cut 23 = .ok (.invokevirtual 137, 3) := by decide +kernel
theorem d_TM_cut_26 : decode b_TM_cut 26 = .ok (.astore_n 3, 1) := by decide +kernel
theorem d_TM_cut_27 : decode b_TM_cut 27 = .ok (.aload_n 0, 1) := by decide +kernel
theorem d_TM_cut_28 : decode b_TM_cut 28 = .ok (.getfield 58, 3) := by decide +kernel
theorem d_TM_cut_31 : decode b_TM_cut 31 = .ok (.aload_n 3, 1) := by decide +kernel
theorem d_TM_cut_32 : decode b_TM_cut 32 = .ok (.invokevirtual 169, 3) := by decide +kernel
theorem d_TM_cut_35 : decode b_TM_cut 35 = .ok (.aload_n 0, 1) := by decide +kernel
theorem d_TM_cut_36 : decode b_TM_cut 36 = .ok (.getfield 58, 3) := by decide +kernel
theorem d_TM_cut_39 : decode b_TM_cut 39 = .ok (.aload_n 3, 1) := by decide +kernel
theorem d_TM_cut_40 : decode b_TM_cut 40 = .ok (.iload_n 2, 1) := by decide +kernel
theorem d_TM_cut_41 : decode b_TM_cut 41 = .ok (.invokevirtual 180, 3) := by decide +kernel
theorem d_TM_cut_44 : decode b_TM_cut 44 = .ok (.invokevirtual 184, 3) := by decide +kernel
theorem d_TM_cut_47 : decode b_TM_cut 47 = .ok (.aload_n 0, 1) := by decide +kernel
theorem d_TM_cut_48 : decode b_TM_cut 48 = .ok (.aload_n 0, 1) := by decide +kernel
theorem d_TM_cut_49 : decode b_TM_cut 49 = .ok (.getfield 58, 3) := by decide +kernel
theorem d_TM_cut_52 : decode b_TM_cut 52 = .ok (.invokevirtual 144, 3) := by decide +kernel
theorem d_TM_cut_55 : decode b_TM_cut 55 = .ok (.ireturn, 1) := by decide +kernel
theorem d_TM_trim_0 : decode b_TM_trim 0 = .ok (.aload_n 0, 1) := by decide +kernel
theorem d_TM_trim_1 : decode b_TM_trim 1 = .ok (.iload_n 1, 1) := by decide +kernel
theorem d_TM_trim_2 : decode b_TM_trim 2 = .ok (.invokevirtual 132, 3) := by decide +kernel
theorem d_TM_trim_5 : decode b_TM_trim 5 = .ok (.ifCond .eq 13, 3) := by decide +kernel
theorem d_TM_trim_8 : decode b_TM_trim 8 = .ok (.iload_n 2, 1) := by decide +kernel
theorem d_TM_trim_9 : decode b_TM_trim 9 = .ok (.ifCond .lt 9, 3) := by decide +kernel
theorem d_TM_trim_12 : decode b_TM_trim 12 = .ok (.iload_n 2, 1) := by decide +kernel
theorem d_TM_trim_13 : decode b_TM_trim 13 = .ok (.bipush 100, 2) := by decide +kernel
theorem d_TM_trim_15 : decode b_TM_trim 15 = .ok (.if_icmp .le 6, 3) := by decide +kernel
theorem d_TM_trim_18 : decode b_TM_trim 18 = .ok (.bipush (-2), 2) := by decide +kernel
theorem d_TM_trim_20 : decode b_TM_trim 20 = .ok (.ireturn, 1) := by decide +kernel
theorem d_TM_trim_21 : decode b_TM_trim 21 = .ok (.aload_n 0, 1) := by decide +kernel
theorem d_TM_trim_22 : decode b_TM_trim 22 = .ok (.iload_n 1, 1) := by decide +kernel
theorem d_TM_trim_23 : decode b_TM_trim 23 = .ok (.invokevirtual 137, 3) := by decide +kernel
theorem d_TM_trim_26 : decode b_TM_trim 26 = .ok (.astore_n 3, 1) := by decide +kernel
theorem d_TM_trim_27 : decode b_TM_trim 27 = .ok (.aload_n 0, 1) := by decide +kernel
theorem d_TM_trim_28 : decode b_TM_trim 28 = .ok (.aload_n 3, 1) := by decide +kernel
theorem d_TM_trim_29 : decode b_TM_trim 29 = .ok (.aload_n 3, 1) := by decide +kernel
theorem d_TM_trim_30 : decode b_TM_trim 30 = .ok (.iload_n 2, 1) := by decide +kernel
theorem d_TM_trim_31 : decode b_TM_trim 31 = .ok (.invokevirtual 187, 3) := by decide +kernel
theorem d_TM_trim_34 : decode b_TM_trim 34 = .ok (.invokevirtual 190, 3) := by decide +kernel
theorem d_TM_trim_37 : decode b_TM_trim 37 = .ok (.ireturn, 1) := by decide +kernel
theorem d_TM_keepWithEnds_0 : decode b_TM_keepWithEnds 0 = .ok (.aload_n 0, 1) := by decide +kernel
theorem d_TM_keepWithEnds_1 : decode b_TM_keepWithEnds 1 = .ok (.iconst 0, 1) := by decide +kernel
theorem d_TM_keepWithEnds_2 : decode b_TM_keepWithEnds 2 = .ok (.putfield 93, 3) := by decide +kernel
theorem d_TM_keepWithEnds_5 : decode b_TM_keepWithEnds 5 = .ok (.aload_n 0, 1) := by decide +kernel
theorem d_TM_keepWithEnds_6 : decode b_TM_keepWithEnds 6 = .ok (.getfield 44, 3) := by decide +kernel
theorem d_TM_keepWithEnds_9 : decode b_TM_keepWithEnds 9 = .ok (.aload_n 1, 1) := by decide +kernel
theorem d_TM_keepWithEnds_10 : decode b_TM_keepWithEnds 10 = .ok (.lload_n 2, 1) := by decide +kernel
theorem d_TM_keepWithEnds_11 : decode b_TM_keepWithEnds 11 = .ok (.invokevirtual 255, 3) := by decide +kernel
theorem d_TM_keepWithEnds_14 : decode b_TM_keepWithEnds 14 = .ok (.aload_n 0, 1) := by decide +kernel
theorem d_TM_keepWithEnds_15 : decode b_TM_keepWithEnds 15 = .ok (.invokevirtual 117, 3) := by decide +kernel
theorem d_TM_keepWithEnds_18 : decode b_TM_keepWithEnds 18 = .ok (.ireturn, 1) := by decide +kernel
theorem d_TM_part_0 : decode b_TM_part 0 = .ok (.aload_n 0, 1) := by decide +kernel
theorem d_TM_part_1 : decode b_TM_part 1 = .ok (.iload_n 1, 1) := by decide +kernel
theorem d_TM_part_2 : decode b_TM_part 2 = .ok (.invokevirtual 132, 3) := by decide +kernel
theorem d_TM_part_5 : decode b_TM_part 5 = .ok (.ifCond .eq 12, 3) := by decide +kernel
theorem d_TM_part_8 : decode b_TM_part 8 = .ok (.iload_n 2, 1) := by decide +kernel
theorem d_TM_part_9 : decode b_TM_part 9 = .ok (.ifCond .lt 8, 3) := by decide +kernel
theorem d_TM_part_12 : decode b_TM_part 12 = .ok (.iload_n 2, 1) := by decide +kernel
theorem d_TM_part_13 : decode b_TM_part 13 = .ok (.iconst 2, 1) := by decide +kernel
theorem d_TM_part_14 : decode b_TM_part 14 = .ok (.if_icmp .le 6, 3) := by decide +kernel
theorem d_TM_part_17 : decode b_TM_part 17 = .ok (.bipush (-2), 2) := by decide +kernel
theorem d_TM_part_19 : decode b_TM_part 19 = .ok (.ireturn, 1) := by decide +kernel
theorem d_TM_part_20 : decode b_TM_part 20 = .ok (.aload_n 0, 1) := by decide +kernel
theorem d_TM_part_21 : decode b_TM_part 21 = .ok (.iload_n 1, 1) := by decide +kernel
theorem d_TM_part_22 : decode b_TM_part 22 = .ok (.invokevirtual 137, 3) := by decide +kernel
theorem d_TM_part_25 : decode b_TM_part 25 = .ok (.astore_n 3, 1) := by decide +kernel
theorem d_TM_part_26 : decode b_TM_part 26 = .ok (.iload_n 2, 1) := by decide +kernel
theorem d_TM_part_27 : decode b_TM_part 27 = .ok (.ifCond .ne 13, 3) := by decide +kernel
theorem d_TM_part_30 : decode b_TM_part 30 = .ok (.aload_n 0, 1) := by decide +kernel
theorem d_TM_part_31 : decode b_TM_part 31 = .ok (.aload_n 3, 1) := by decide +kernel
theorem d_TM_part_32 : decode b_TM_part 32 = .ok (.aload_n 3, 1) := by decide +kernel
theorem d_TM_part_33 : decode b_TM_part 33 = .ok (.invokevirtual 194, 3) := by decide +kernel
theorem d_TM_part_36 : decode b_TM_part 36 = .ok (.invokevirtual 190, 3) := by decide +kernel
theorem d_TM_part_39 : decode b_TM_part 39 = .ok (.ireturn, 1) := by decide +kernel
theorem d_TM_part_40 : decode b_TM_part 40 = .ok (.aload_n 0, 1) := by decide +kernel
theorem d_TM_part_41 : decode b_TM_part 41 = .ok (.getfield 58, 3) := by decide +kernel
theorem d_TM_part_44 : decode b_TM_part 44 = .ok (.aload_n 3, 1) := by decide +kernel
theorem d_TM_part_45 : decode b_TM_part 45 = .ok (.invokevirtual 169, 3) := by decide +kernel
theorem d_TM_part_48 : decode b_TM_part 48 = .ok (.aload_n 0, 1) := by decide +kernel
theorem d_TM_part_49 : decode b_TM_part 49 = .ok (.getfield 58, 3) := by decide +kernel
theorem d_TM_part_52 : decode b_TM_part 52 = .ok (.aload_n 3, 1) := by decide +kernel
theorem d_TM_part_53 : decode b_TM_part 53 = .ok (.invokevirtual 198, 3) := by decide +kernel
theorem d_TM_part_56 : decode b_TM_part 56 = .ok (.invokevirtual 184, 3) := by decide +kernel
theorem d_TM_part_59 : decode b_TM_part 59 = .ok (.iload_n 2, 1) := by decide +kernel
theorem d_TM_part_60 : decode b_TM_part 60 = .ok (.iconst 2, 1) := by decide +kernel
theorem d_TM_part_61 : decode b_TM_part 61 = .ok (.if_icmp .ne 14, 3) := by decide +kernel
theorem d_TM_part_64 : decode b_TM_part 64 = .ok (.aload_n 0, 1) := by decide +kernel
theorem d_TM_part_65 : decode b_TM_part 65 = .ok (.getfield 58, 3) := by decide +kernel
theorem d_TM_part_68 : decode b_TM_part 68 = .ok (.aload_n 3, 1) := by decide +kernel
theorem d_TM_part_69 : decode b_TM_part 69 = .ok (.invokevirtual 194, 3) := by decide +kernel
theorem d_TM_part_72 : decode b_TM_part 72 = .ok (.invokevirtual 201, 3) := by decide +kernel
theorem d_TM_part_75 : decode b_TM_part 75 = .ok (.aload_n 0, 1) := by decide +kernel
theorem d_TM_part_76 : decode b_TM_part 76 = .ok (.aload_n 0, 1) := by decide +kernel
theorem d_TM_part_77 : decode b_TM_part 77 = .ok (.getfield 58, 3) := by decide +kernel
theorem d_TM_part_80 : decode b_TM_part 80 = .ok (.invokevirtual 144, 3) := by decide +kernel
theorem d_TM_part_83 : decode b_TM_part 83 = .ok (.ireturn, 1) := by decide +kernel
theorem d_TM_widen_0 : decode b_TM_widen 0 = .ok (.aload_n 0, 1) := by decide +kernel
theorem d_TM_widen_1 : decode b_TM_widen 1 = .ok (.iload_n 1, 1) := by decide +kernel
theorem d_TM_widen_2 : decode b_TM_widen 2 = .ok (.invokevirtual 132, 3) := by decide +kernel
theorem d_TM_widen_5 : decode b_TM_widen 5 = .ok (.ifCond .eq 13, 3) := by decide +kernel
theorem d_TM_widen_8 : decode b_TM_widen 8 = .ok (.iload_n 2, 1) := by decide +kernel
theorem d_TM_widen_9 : decode b_TM_widen 9 = .ok (.ifCond .lt 9, 3) := by decide +kernel
theorem d_TM_widen_12 : decode b_TM_widen 12 = .ok (.iload_n 2, 1) := by decide +kernel
theorem d_TM_widen_13 : decode b_TM_widen 13 = .ok (.bipush 40, 2) := by decide +kernel
theorem d_TM_widen_15 : decode b_TM_widen 15 = .ok (.if_icmp .le 6, 3) := by decide +kernel
theorem d_TM_widen_18 : decode b_TM_widen 18 = .ok (.bipush (-2), 2) := by decide +kernel
theorem d_TM_widen_20 : decode b_TM_widen 20 = .ok (.ireturn, 1) := by decide +kernel
theorem d_TM_widen_21 : decode b_TM_widen 21 = .ok (.aload_n 0, 1) := by decide +kernel
theorem d_TM_widen_22 : decode b_TM_widen 22 = .ok (.getfield 58, 3) := by decide +kernel
theorem d_TM_widen_25 : decode b_TM_widen 25 = .ok (.aload_n 0, 1) := by decide +kernel
theorem d_TM_widen_26 : decode b_TM_widen 26 = .ok (.iload_n 1, 1) := by decide +kernel
theorem d_TM_widen_27 : decode b_TM_widen 27 = .ok (.invokevirtual 137, 3) := by decide +kernel
theorem d_TM_widen_30 : decode b_TM_widen 30 = .ok (.iload_n 2, 1) := by decide +kernel
theorem d_TM_widen_31 : decode b_TM_widen 31 = .ok (.invokevirtual 204, 3) := by decide +kernel
theorem d_TM_widen_34 : decode b_TM_widen 34 = .ok (.aload_n 0, 1) := by decide +kernel
theorem d_TM_widen_35 : decode b_TM_widen 35 = .ok (.aload_n 0, 1) := by decide +kernel
theorem d_TM_widen_36 : decode b_TM_widen 36 = .ok (.getfield 58, 3) := by decide +kernel
theorem d_TM_widen_39 : decode b_TM_widen 39 = .ok (.invokevirtual 144, 3) := by decide +kernel
theorem d_TM_widen_42 : decode b_TM_widen 42 = .ok (.ireturn, 1) := by decide +kernel
theorem d_TM_when_0 : decode b_TM_when 0 = .ok (.iload_n 1, 1) := by decide +kernel
theorem d_TM_when_1 : decode b_TM_when 1 = .ok (.ifCond .lt 16, 3) := by decide +kernel
theorem d_TM_when_4 : decode b_TM_when 4 = .ok (.iload_n 1, 1) := by decide +kernel
theorem d_TM_when_5 : decode b_TM_when 5 = .ok (.iconst 3, 1) := by decide +kernel
theorem d_TM_when_6 : decode b_TM_when 6 = .ok (.if_icmp .gt 11, 3) := by decide +kernel
theorem d_TM_when_9 : decode b_TM_when 9 = .ok (.aload_n 0, 1) := by decide +kernel
theorem d_TM_when_10 : decode b_TM_when 10 = .ok (.iload_n 2, 1) := by decide +kernel
theorem d_TM_when_11 : decode b_TM_when 11 = .ok (.invokevirtual 132, 3) := by decide +kernel
theorem d_TM_when_14 : decode b_TM_when 14 = .ok (.ifCond .ne 6, 3) := by decide +kernel
theorem d_TM_when_17 : decode b_TM_when 17 = .ok (.bipush (-2), 2) := by decide +kernel
theorem d_TM_when_19 : decode b_TM_when 19 = .ok (.ireturn, 1) := by decide +kernel
theorem d_TM_when_20 : decode b_TM_when 20 = .ok (.aload_n 0, 1) := by decide +kernel
theorem d_TM_when_21 : decode b_TM_when 21 = .ok (.iconst 0, 1) := by decide +kernel
theorem d_TM_when_22 : decode b_TM_when 22 = .ok (.putfield 93, 3) := by decide +kernel
theorem d_TM_when_25 : decode b_TM_when 25 = .ok (.aload_n 0, 1) := by decide +kernel
theorem d_TM_when_26 : decode b_TM_when 26 = .ok (.getfield 65, 3) := by decide +kernel
theorem d_TM_when_29 : decode b_TM_when 29 = .ok (.iload_n 1, 1) := by decide +kernel
theorem d_TM_when_30 : decode b_TM_when 30 = .ok (.aload_n 0, 1) := by decide +kernel
theorem d_TM_when_31 : decode b_TM_when 31 = .ok (.getfield 25, 3) := by decide +kernel
theorem d_TM_when_34 : decode b_TM_when 34 = .ok (.invokevirtual 109, 3) := by decide +kernel
theorem d_TM_when_37 : decode b_TM_when 37 = .ok (.aload_n 0, 1) := by decide +kernel
theorem d_TM_when_38 : decode b_TM_when 38 = .ok (.getfield 44, 3) := by decide +kernel
theorem d_TM_when_41 : decode b_TM_when 41 = .ok (.aload_n 0, 1) := by decide +kernel
theorem d_TM_when_42 : decode b_TM_when 42 = .ok (.getfield 65, 3) := by decide +kernel
theorem d_TM_when_45 : decode b_TM_when 45 = .ok (.invokevirtual 113, 3) := by decide +kernel
theorem d_TM_when_48 : decode b_TM_when 48 = .ok (.ifCond .eq 17, 3) := by decide +kernel
theorem d_TM_when_51 : decode b_TM_when 51 = .ok (.aload_n 0, 1) := by decide +kernel
theorem d_TM_when_52 : decode b_TM_when 52 = .ok (.getfield 44, 3) := by decide +kernel
theorem d_TM_when_55 : decode b_TM_when 55 = .ok (.aload_n 0, 1) := by decide +kernel
theorem d_TM_when_56 : decode b_TM_when 56 = .ok (.getfield 52, 3) := by decide +kernel
theorem d_TM_when_59 : decode b_TM_when 59 = .ok (.invokevirtual 207, 3) := by decide +kernel
theorem d_TM_when_62 : decode b_TM_when 62 = .ok (.ifCond .ne 6, 3) := by decide +kernel
theorem d_TM_when_65 : decode b_TM_when 65 = .ok (.bipush (-4), 2) := by decide +kernel
theorem d_TM_when_67 : decode b_TM_when 67 = .ok (.ireturn, 1) := by decide +kernel
theorem d_TM_when_68 : decode b_TM_when 68 = .ok (.aload_n 0, 1) := by decide +kernel
theorem d_TM_when_69 : decode b_TM_when 69 = .ok (.new 135, 3) := by decide +kernel
theorem d_TM_when_72 : decode b_TM_when 72 = .ok (.dup, 1) := by decide +kernel
theorem d_TM_when_73 : decode b_TM_when 73 = .ok (.iload_n 3, 1) := by decide +kernel
theorem d_TM_when_74 : decode b_TM_when 74 = .ok (.ifCond .eq 7, 3) := by decide +kernel
theorem d_TM_when_77 : decode b_TM_when 77 = .ok (.iconst 0, 1) := by decide +kernel
theorem d_TM_when_78 : decode b_TM_when 78 = .ok (.goto 4, 3) := by decide +kernel
theorem d_TM_when_81 : decode b_TM_when 81 = .ok (.iconst 2, 1) := by decide +kernel
theorem d_TM_when_82 : decode b_TM_when 82 = .ok (.aload_n 0, 1) := by decide +kernel
theorem d_TM_when_83 : decode b_TM_when 83 = .ok (.iload_n 2, 1) := by decide +kernel
theorem d_TM_when_84 : decode b_TM_when 84 = .ok (.invokevirtual 137, 3) := by decide +kernel
theorem d_TM_when_87 : decode b_TM_when 87 = .ok (.aload_n 0, 1) := by decide +kernel
theorem d_TM_when_88 : decode b_TM_when 88 = .ok (.getfield 52, 3) := by decide +kernel
theorem d_TM_when_91 : decode b_TM_when 91 = .ok (.invokespecial 141, 3) := by decide +kernel
theorem d_TM_when_94 : decode b_TM_when 94 = .ok (.invokevirtual 144, 3) := by decide +kernel
theorem d_TM_when_97 : decode b_TM_when 97 = .ok (.ireturn, 1) := by decide +kernel
theorem d_TM_numerals_0 : decode b_TM_numerals 0 = .ok (.iload_n 1, 1) := by decide +kernel
theorem d_TM_numerals_1 : decode b_TM_numerals 1 = .ok (.ifCond .lt 14, 3) := by decide +kernel
theorem d_TM_numerals_4 : decode b_TM_numerals 4 = .ok (.iload_n 2, 1) := by decide +kernel
theorem d_TM_numerals_5 : decode b_TM_numerals 5 = .ok (.ldc 211, 2) := by decide +kernel
theorem d_TM_numerals_7 : decode b_TM_numerals 7 = .ok (.if_icmp .gt 8, 3) := by decide +kernel
theorem d_TM_numerals_10 : decode b_TM_numerals 10 = .ok (.iload_n 1, 1) := by decide +kernel
theorem d_TM_numerals_11 : decode b_TM_numerals 11 = .ok (.iload_n 2, 1) := by decide +kernel
theorem d_TM_numerals_12 : decode b_TM_numerals 12 = .ok (.if_icmp .le 6, 3) := by decide +kernel
theorem d_TM_numerals_15 : decode b_TM_numerals 15 = .ok (.bipush (-2), 2) := by decide +kernel
theorem d_TM_numerals_17 : decode b_TM_numerals 17 = .ok (.ireturn, 1) := by decide +kernel
theorem d_TM_numerals_18 : decode b_TM_numerals 18 = .ok (.aload_n 0, 1) := by decide +kernel
theorem d_TM_numerals_19 : decode b_TM_numerals 19 = .ok (.iconst 0, 1) := by decide +kernel
theorem d_TM_numerals_20 : decode b_TM_numerals 20 = .ok (.putfield 93, 3) := by decide +kernel
theorem d_TM_numerals_23 : decode b_TM_numerals 23 = .ok (.aload_n 0, 1) := by decide +kernel
theorem d_TM_numerals_24 : decode b_TM_numerals 24 = .ok (.getfield 72, 3) := by decide +kernel
theorem d_TM_numerals_27 : decode b_TM_numerals 27 = .ok (.iload_n 1, 1) := by decide +kernel
theorem d_TM_numerals_28 : decode b_TM_numerals 28 = .ok (.iload_n 2, 1) := by decide +kernel
theorem d_TM_numerals_29 : decode b_TM_numerals 29 = .ok (.invokevirtual 212, 3) := by decide +kernel
theorem d_TM_numerals_32 : decode b_TM_numerals 32 = .ok (.aload_n 0, 1) := by decide +kernel
theorem d_TM_numerals_33 : decode b_TM_numerals 33 = .ok (.getfield 44, 3) := by decide +kernel
theorem d_TM_numerals_36 : decode b_TM_numerals 36 = .ok (.aload_n 0, 1) := by decide +kernel
theorem d_TM_numerals_37 : decode b_TM_numerals 37 = .ok (.getfield 72, 3) := by decide +kernel
theorem d_TM_numerals_40 : decode b_TM_numerals 40 = .ok (.invokevirtual 113, 3) := by decide +kernel
theorem d_TM_numerals_43 : decode b_TM_numerals 43 = .ok (.ifCond .eq 10, 3) := by decide +kernel
theorem d_TM_numerals_46 : decode b_TM_numerals 46 = .ok (.aload_n 0, 1) := by decide +kernel
theorem d_TM_numerals_47 : decode b_TM_numerals 47 = .ok (.invokevirtual 117, 3) := by decide +kernel
theorem d_TM_numerals_50 : decode b_TM_numerals 50 = .ok (.goto 5, 3) := by decide +kernel
theorem d_TM_numerals_53 : decode b_TM_numerals 53 = .ok (.bipush (-4), 2) := by decide +kernel
theorem d_TM_numerals_55 : decode b_TM_numerals 55 = .ok (.ireturn, 1) := by decide +kernel
theorem d_TM_states_0 : decode b_TM_states 0 = .ok (.aload_n 0, 1) := by decide +kernel
theorem d_TM_states_1 : decode b_TM_states 1 = .ok (.iload_n 1, 1) := by decide +kernel
theorem d_TM_states_2 : decode b_TM_states 2 = .ok (.invokevirtual 132, 3) := by decide +kernel
theorem d_TM_states_5 : decode b_TM_states 5 = .ok (.ifCond .eq 14, 3) := by decide +kernel
theorem d_TM_states_8 : decode b_TM_states 8 = .ok (.aload_n 0, 1) := by decide +kernel
theorem d_TM_states_9 : decode b_TM_states 9 = .ok (.iload_n 1, 1) := by decide +kernel
theorem d_TM_states_10 : decode b_TM_states 10 = .ok (.invokevirtual 137, 3) := by decide +kernel
theorem d_TM_states_13 : decode b_TM_states 13 = .ok (.getfield 215, 3) := by decide +kernel
theorem d_TM_states_16 : decode b_TM_states 16 = .ok (.goto 5, 3) := by decide +kernel
theorem d_TM_states_19 : decode b_TM_states 19 = .ok (.bipush (-2), 2) := by decide +kernel
theorem d_TM_states_21 : decode b_TM_states 21 = .ok (.ireturn, 1) := by decide +kernel
theorem d_TM_next_0 : decode b_TM_next 0 = .ok (.aload_n 0, 1) := by decide +kernel
theorem d_TM_next_1 : decode b_TM_next 1 = .ok (.iload_n 1, 1) := by decide +kernel
theorem d_TM_next_2 : decode b_TM_next 2 = .ok (.iload_n 2, 1) := by decide +kernel
theorem d_TM_next_3 : decode b_TM_next 3 = .ok (.invokevirtual 216, 3) := by decide +kernel
theorem d_TM_next_6 : decode b_TM_next 6 = .ok (.ifCond .eq 11, 3) := by decide +kernel
theorem d_TM_next_9 : decode b_TM_next 9 = .ok (.aload_n 0, 1) := by decide +kernel
theorem d_TM_next_10 : decode b_TM_next 10 = .ok (.iload_n 3, 1) := by decide +kernel
theorem d_TM_next_11 : decode b_TM_next 11 = .ok (.invokevirtual 99, 3) := by decide +kernel
theorem d_TM_next_14 : decode b_TM_next 14 = .ok (.ifCond .ne 6, 3) := by decide +kernel
theorem d_TM_next_17 : decode b_TM_next 17 = .ok (.bipush (-2), 2) := by decide +kernel
theorem d_TM_next_19 : decode b_TM_next 19 = .ok (.ireturn, 1) := by decide +kernel
theorem d_TM_next_20 : decode b_TM_next 20 = .ok (.aload_n 0, 1) := by decide +kernel
theorem d_TM_next_21 : decode b_TM_next 21 = .ok (.iload_n 1, 1) := by decide +kernel
theorem d_TM_next_22 : decode b_TM_next 22 = .ok (.invokevirtual 137, 3) := by decide +kernel
theorem d_TM_next_25 : decode b_TM_next 25 = .ok (.iload_n 2, 1) := by decide +kernel
theorem d_TM_next_26 : decode b_TM_next 26 = .ok (.iload_n 3, 1) := by decide +kernel
theorem d_TM_next_27 : decode b_TM_next 27 = .ok (.invokevirtual 220, 3) := by decide +kernel
theorem d_TM_next_30 : decode b_TM_next 30 = .ok (.ireturn, 1) := by decide +kernel
theorem d_TM_isState_0 : decode b_TM_isState 0 = .ok (.aload_n 0, 1) := by decide +kernel
theorem d_TM_isState_1 : decode b_TM_isState 1 = .ok (.iload_n 1, 1) := by decide +kernel
theorem d_TM_isState_2 : decode b_TM_isState 2 = .ok (.invokevirtual 132, 3) := by decide +kernel
theorem d_TM_isState_5 : decode b_TM_isState 5 = .ok (.ifCond .eq 23, 3) := by decide +kernel
theorem d_TM_isState_8 : decode b_TM_isState 8 = .ok (.iload_n 2, 1) := by decide +kernel
theorem d_TM_isState_9 : decode b_TM_isState 9 = .ok (.ifCond .lt 19, 3) := by decide +kernel
theorem d_TM_isState_12 : decode b_TM_isState 12 = .ok (.iload_n 2, 1) := by decide +kernel
theorem d_TM_isState_13 : decode b_TM_isState 13 = .ok (.aload_n 0, 1) := by decide +kernel
theorem d_TM_isState_14 : decode b_TM_isState 14 = .ok (.iload_n 1, 1) := by decide +kernel
theorem d_TM_isState_15 : decode b_TM_isState 15 = .ok (.invokevirtual 137, 3) := by decide +kernel
theorem d_TM_isState_18 : decode b_TM_isState 18 = .ok (.getfield 215, 3) := by decide +kernel
theorem d_TM_isState_21 : decode b_TM_isState 21 = .ok (.if_icmp .ge 7, 3) := by decide +kernel
theorem d_TM_isState_24 : decode b_TM_isState 24 = .ok (.iconst 1, 1) := by decide +kernel
theorem d_TM_isState_25 : decode b_TM_isState 25 = .ok (.goto 4, 3) := by decide +kernel
theorem d_TM_isState_28 : decode b_TM_isState 28 = .ok (.iconst 0, 1) := by decide +kernel
theorem d_TM_isState_29 : decode b_TM_isState 29 = .ok (.ireturn, 1) := by decide +kernel
theorem d_TM_end_0 : decode b_TM_end 0 = .ok (.aload_n 0, 1) := by decide +kernel
theorem d_TM_end_1 : decode b_TM_end 1 = .ok (.iload_n 1, 1) := by decide +kernel
theorem d_TM_end_2 : decode b_TM_end 2 = .ok (.iload_n 2, 1) := by decide +kernel
theorem d_TM_end_3 : decode b_TM_end 3 = .ok (.invokevirtual 216, 3) := by decide +kernel
theorem d_TM_end_6 : decode b_TM_end 6 = .ok (.ifCond .ne 6, 3) := by decide +kernel
theorem d_TM_end_9 : decode b_TM_end 9 = .ok (.bipush (-2), 2) := by decide +kernel
theorem d_TM_end_11 : decode b_TM_end 11 = .ok (.ireturn, 1) := by decide +kernel
theorem d_TM_end_12 : decode b_TM_end 12 = .ok (.aload_n 0, 1) := by decide +kernel
theorem d_TM_end_13 : decode b_TM_end 13 = .ok (.iload_n 1, 1) := by decide +kernel
theorem d_TM_end_14 : decode b_TM_end 14 = .ok (.invokevirtual 137, 3) := by decide +kernel
theorem d_TM_end_17 : decode b_TM_end 17 = .ok (.iload_n 2, 1) := by decide +kernel
theorem d_TM_end_18 : decode b_TM_end 18 = .ok (.invokevirtual 223, 3) := by decide +kernel
theorem d_TM_end_21 : decode b_TM_end 21 = .ok (.ifCond .eq 7, 3) := by decide +kernel
theorem d_TM_end_24 : decode b_TM_end 24 = .ok (.iconst 1, 1) := by decide +kernel
theorem d_TM_end_25 : decode b_TM_end 25 = .ok (.goto 4, 3) := by decide +kernel
theorem d_TM_end_28 : decode b_TM_end 28 = .ok (.iconst 0, 1) := by decide +kernel
theorem d_TM_end_29 : decode b_TM_end 29 = .ok (.ireturn, 1) := by decide +kernel
theorem d_TM_has_0 : decode b_TM_has 0 = .ok (.aload_n 0, 1) := by decide +kernel
theorem d_TM_has_1 : decode b_TM_has 1 = .ok (.iload_n 1, 1) := by decide +kernel
theorem d_TM_has_2 : decode b_TM_has 2 = .ok (.invokevirtual 132, 3) := by decide +kernel
theorem d_TM_has_5 : decode b_TM_has 5 = .ok (.ifCond .ne 6, 3) := by decide +kernel
theorem d_TM_has_8 : decode b_TM_has 8 = .ok (.bipush (-2), 2) := by decide +kernel
theorem d_TM_has_10 : decode b_TM_has 10 = .ok (.ireturn, 1) := by decide +kernel
theorem d_TM_has_11 : decode b_TM_has 11 = .ok (.aload_n 0, 1) := by decide +kernel
theorem d_TM_has_12 : decode b_TM_has 12 = .ok (.iload_n 1, 1) := by decide +kernel
theorem d_TM_has_13 : decode b_TM_has 13 = .ok (.invokevirtual 137, 3) := by decide +kernel
theorem d_TM_has_16 : decode b_TM_has 16 = .ok (.astore_n 2, 1) := by decide +kernel
theorem d_TM_has_17 : decode b_TM_has 17 = .ok (.aload_n 2, 1) := by decide +kernel
theorem d_TM_has_18 : decode b_TM_has 18 = .ok (.aload_n 2, 1) := by decide +kernel
theorem d_TM_has_19 : decode b_TM_has 19 = .ok (.aload_n 0, 1) := by decide +kernel
theorem d_TM_has_20 : decode b_TM_has 20 = .ok (.getfield 25, 3) := by decide +kernel
theorem d_TM_has_23 : decode b_TM_has 23 = .ok (.invokevirtual 226, 3) := by decide +kernel
theorem d_TM_has_26 : decode b_TM_has 26 = .ok (.invokevirtual 223, 3) := by decide +kernel
theorem d_TM_has_29 : decode b_TM_has 29 = .ok (.ifCond .eq 7, 3) := by decide +kernel
theorem d_TM_has_32 : decode b_TM_has 32 = .ok (.iconst 1, 1) := by decide +kernel
theorem d_TM_has_33 : decode b_TM_has 33 = .ok (.goto 4, 3) := by decide +kernel
theorem d_TM_has_36 : decode b_TM_has 36 = .ok (.iconst 0, 1) := by decide +kernel
theorem d_TM_has_37 : decode b_TM_has 37 = .ok (.ireturn, 1) := by decide +kernel
theorem d_TM_within_0 : decode b_TM_within 0 = .ok (.aload_n 0, 1) := by decide +kernel
theorem d_TM_within_1 : decode b_TM_within 1 = .ok (.iload_n 1, 1) := by decide +kernel
theorem d_TM_within_2 : decode b_TM_within 2 = .ok (.invokevirtual 132, 3) := by decide +kernel
theorem d_TM_within_5 : decode b_TM_within 5 = .ok (.ifCond .eq 11, 3) := by decide +kernel
theorem d_TM_within_8 : decode b_TM_within 8 = .ok (.aload_n 0, 1) := by decide +kernel
theorem d_TM_within_9 : decode b_TM_within 9 = .ok (.iload_n 2, 1) := by decide +kernel
theorem d_TM_within_10 : decode b_TM_within 10 = .ok (.invokevirtual 132, 3) := by decide +kernel
theorem d_TM_within_13 : decode b_TM_within 13 = .ok (.ifCond .ne 6, 3) := by decide +kernel
theorem d_TM_within_16 : decode b_TM_within 16 = .ok (.bipush (-2), 2) := by decide +kernel
theorem d_TM_within_18 : decode b_TM_within 18 = .ok (.ireturn, 1) := by decide +kernel
theorem d_TM_within_19 : decode b_TM_within 19 = .ok (.aload_n 0, 1) := by decide +kernel
theorem d_TM_within_20 : decode b_TM_within 20 = .ok (.getfield 79, 3) := by decide +kernel
theorem d_TM_within_23 : decode b_TM_within 23 = .ok (.iconst 2, 1) := by decide +kernel
theorem d_TM_within_24 : decode b_TM_within 24 = .ok (.aload_n 0, 1) := by decide +kernel
theorem d_TM_within_25 : decode b_TM_within 25 = .ok (.iload_n 1, 1) := by decide +kernel
theorem d_TM_within_26 : decode b_TM_within 26 = .ok (.invokevirtual 137, 3) := by decide +kernel
theorem d_TM_within_29 : decode b_TM_within 29 = .ok (.aload_n 0, 1) := by decide +kernel
theorem d_TM_within_30 : decode b_TM_within 30 = .ok (.iload_n 2, 1) := by decide +kernel
theorem d_TM_within_31 : decode b_TM_within 31 = .ok (.invokevirtual 137, 3) := by decide +kernel
theorem d_TM_within_34 : decode b_TM_within 34 = .ok (.invokevirtual 230, 3) := by decide +kernel
theorem d_TM_within_37 : decode b_TM_within 37 = .ok (.iconst (-1), 1) := by decide +kernel
theorem d_TM_within_38 : decode b_TM_within 38 = .ok (.if_icmp .ne 7, 3) := by decide +kernel
theorem d_TM_within_41 : decode b_TM_within 41 = .ok (.iconst 1, 1) := by decide +kernel
theorem d_TM_within_42 : decode b_TM_within 42 = .ok (.goto 4, 3) := by decide +kernel
theorem d_TM_within_45 : decode b_TM_within 45 = .ok (.iconst 0, 1) := by decide +kernel
theorem d_TM_within_46 : decode b_TM_within 46 = .ok (.ireturn, 1) := by decide +kernel
theorem d_TM_differ_0 : decode b_TM_differ 0 = .ok (.aload_n 0, 1) := by decide +kernel
theorem d_TM_differ_1 : decode b_TM_differ 1 = .ok (.iload_n 1, 1) := by decide +kernel
theorem d_TM_differ_2 : decode b_TM_differ 2 = .ok (.invokevirtual 132, 3) := by decide +kernel
theorem d_TM_differ_5 : decode b_TM_differ 5 = .ok (.ifCond .eq 11, 3) := by decide +kernel
theorem d_TM_differ_8 : decode b_TM_differ 8 = .ok (.aload_n 0, 1) := by decide +kernel
theorem d_TM_differ_9 : decode b_TM_differ 9 = .ok (.iload_n 2, 1) := by decide +kernel
theorem d_TM_differ_10 : decode b_TM_differ 10 = .ok (.invokevirtual 132, 3) := by decide +kernel
theorem d_TM_differ_13 : decode b_TM_differ 13 = .ok (.ifCond .ne 6, 3) := by decide +kernel
theorem d_TM_differ_16 : decode b_TM_differ 16 = .ok (.bipush (-2), 2) := by decide +kernel
theorem d_TM_differ_18 : decode b_TM_differ 18 = .ok (.ireturn, 1) := by decide +kernel
theorem d_TM_differ_19 : decode b_TM_differ 19 = .ok (.aload_n 0, 1) := by decide +kernel
theorem d_TM_differ_20 : decode b_TM_differ 20 = .ok (.getfield 79, 3) := by decide +kernel
theorem d_TM_differ_23 : decode b_TM_differ 23 = .ok (.iconst 3, 1) := by decide +kernel
theorem d_TM_differ_24 : decode b_TM_differ 24 = .ok (.aload_n 0, 1) := by decide +kernel
theorem d_TM_differ_25 : decode b_TM_differ 25 = .ok (.iload_n 1, 1) := by decide +kernel
theorem d_TM_differ_26 : decode b_TM_differ 26 = .ok (.invokevirtual 137, 3) := by decide +kernel
theorem d_TM_differ_29 : decode b_TM_differ 29 = .ok (.aload_n 0, 1) := by decide +kernel
theorem d_TM_differ_30 : decode b_TM_differ 30 = .ok (.iload_n 2, 1) := by decide +kernel
theorem d_TM_differ_31 : decode b_TM_differ 31 = .ok (.invokevirtual 137, 3) := by decide +kernel
theorem d_TM_differ_34 : decode b_TM_differ 34 = .ok (.invokevirtual 230, 3) := by decide +kernel
theorem d_TM_differ_37 : decode b_TM_differ 37 = .ok (.istore_n 3, 1) := by decide +kernel
theorem d_TM_differ_38 : decode b_TM_differ 38 = .ok (.iload_n 3, 1) := by decide +kernel
theorem d_TM_differ_39 : decode b_TM_differ 39 = .ok (.iconst (-1), 1) := by decide +kernel
theorem d_TM_differ_40 : decode b_TM_differ 40 = .ok (.if_icmp .ne 5, 3) := by decide +kernel
theorem d_TM_differ_43 : decode b_TM_differ 43 = .ok (.iconst (-1), 1) := by decide +kernel
theorem d_TM_differ_44 : decode b_TM_differ 44 = .ok (.ireturn, 1) := by decide +kernel
theorem d_TM_differ_45 : decode b_TM_differ 45 = .ok (.aload_n 0, 1) := by decide +kernel
theorem d_TM_differ_46 : decode b_TM_differ 46 = .ok (.getfield 79, 3) := by decide +kernel
theorem d_TM_differ_49 : decode b_TM_differ 49 = .ok (.iload_n 3, 1) := by decide +kernel
theorem d_TM_differ_50 : decode b_TM_differ 50 = .ok (.aload_n 0, 1) := by decide +kernel
theorem d_TM_differ_51 : decode b_TM_differ 51 = .ok (.getfield 29, 3) := by decide +kernel
theorem d_TM_differ_54 : decode b_TM_differ 54 = .ok (.invokevirtual 234, 3) := by decide +kernel
theorem d_TM_differ_57 : decode b_TM_differ 57 = .ok (.aload_n 0, 1) := by decide +kernel
theorem d_TM_differ_58 : decode b_TM_differ 58 = .ok (.getfield 29, 3) := by decide +kernel
theorem d_TM_differ_61 : decode b_TM_differ 61 = .ok (.getfield 106, 3) := by decide +kernel
theorem d_TM_differ_64 : decode b_TM_differ 64 = .ok (.ireturn, 1) := by decide +kernel
theorem d_TM_count_0 : decode b_TM_count 0 = .ok (.aload_n 0, 1) := by decide +kernel
theorem d_TM_count_1 : decode b_TM_count 1 = .ok (.iload_n 1, 1) := by decide +kernel
theorem d_TM_count_2 : decode b_TM_count 2 = .ok (.invokevirtual 132, 3) := by decide +kernel
theorem d_TM_count_5 : decode b_TM_count 5 = .ok (.ifCond .eq 13, 3) := by decide +kernel
theorem d_TM_count_8 : decode b_TM_count 8 = .ok (.iload_n 2, 1) := by decide +kernel
theorem d_TM_count_9 : decode b_TM_count 9 = .ok (.ifCond .lt 9, 3) := by decide +kernel
theorem d_TM_count_12 : decode b_TM_count 12 = .ok (.iload_n 2, 1) := by decide +kernel
theorem d_TM_count_13 : decode b_TM_count 13 = .ok (.bipush 100, 2) := by decide +kernel
theorem d_TM_count_15 : decode b_TM_count 15 = .ok (.if_icmp .le 7, 3) := by decide +kernel
theorem d_TM_count_18 : decode b_TM_count 18 = .ok (.ldc2_w 237, 3) := by decide +kernel
theorem d_TM_count_21 : decode b_TM_count 21 = .ok (.lreturn, 1) := by decide +kernel
theorem d_TM_count_22 : decode b_TM_count 22 = .ok (.aload_n 0, 1) := by decide +kernel
theorem d_TM_count_23 : decode b_TM_count 23 = .ok (.getfield 86, 3) := by decide +kernel
theorem d_TM_count_26 : decode b_TM_count 26 = .ok (.aload_n 0, 1) := by decide +kernel
theorem d_TM_count_27 : decode b_TM_count 27 = .ok (.iload_n 1, 1) := by decide +kernel
theorem d_TM_count_28 : decode b_TM_count 28 = .ok (.invokevirtual 137, 3) := by decide +kernel
theorem d_TM_count_31 : decode b_TM_count 31 = .ok (.iload_n 2, 1) := by decide +kernel
theorem d_TM_count_32 : decode b_TM_count 32 = .ok (.invokevirtual 239, 3) := by decide +kernel
theorem d_TM_count_35 : decode b_TM_count 35 = .ok (.lreturn, 1) := by decide +kernel
theorem d_TM_pick_0 : decode b_TM_pick 0 = .ok (.aload_n 0, 1) := by decide +kernel
theorem d_TM_pick_1 : decode b_TM_pick 1 = .ok (.iload_n 1, 1) := by decide +kernel
theorem d_TM_pick_2 : decode b_TM_pick 2 = .ok (.invokevirtual 132, 3) := by decide +kernel
theorem d_TM_pick_5 : decode b_TM_pick 5 = .ok (.ifCond .eq 7, 3) := by decide +kernel
theorem d_TM_pick_8 : decode b_TM_pick 8 = .ok (.iload_n 2, 1) := by decide +kernel
theorem d_TM_pick_9 : decode b_TM_pick 9 = .ok (.ifCond .ge 6, 3) := by decide +kernel
theorem d_TM_pick_12 : decode b_TM_pick 12 = .ok (.bipush (-2), 2) := by decide +kernel
theorem d_TM_pick_14 : decode b_TM_pick 14 = .ok (.ireturn, 1) := by decide +kernel
theorem d_TM_pick_15 : decode b_TM_pick 15 = .ok (.aload_n 0, 1) := by decide +kernel
theorem d_TM_pick_16 : decode b_TM_pick 16 = .ok (.getfield 86, 3) := by decide +kernel
theorem d_TM_pick_19 : decode b_TM_pick 19 = .ok (.aload_n 0, 1) := by decide +kernel
theorem d_TM_pick_20 : decode b_TM_pick 20 = .ok (.iload_n 1, 1) := by decide +kernel
theorem d_TM_pick_21 : decode b_TM_pick 21 = .ok (.invokevirtual 137, 3) := by decide +kernel
theorem d_TM_pick_24 : decode b_TM_pick 24 = .ok (.iload_n 2, 1) := by decide +kernel
theorem d_TM_pick_25 : decode b_TM_pick 25 = .ok (.aload_n 0, 1) := by decide +kernel
theorem d_TM_pick_26 : decode b_TM_pick 26 = .ok (.getfield 29, 3) := by decide +kernel
theorem d_TM_pick_29 : decode b_TM_pick 29 = .ok (.invokevirtual 243, 3) := by decide +kernel
theorem d_TM_pick_32 : decode b_TM_pick 32 = .ok (.ifCond .eq 13, 3) := by decide +kernel
theorem d_TM_pick_35 : decode b_TM_pick 35 = .ok (.aload_n 0, 1) := by decide +kernel
theorem d_TM_pick_36 : decode b_TM_pick 36 = .ok (.getfield 29, 3) := by decide +kernel
theorem d_TM_pick_39 : decode b_TM_pick 39 = .ok (.getfield 106, 3) := by decide +kernel
theorem d_TM_pick_42 : decode b_TM_pick 42 = .ok (.goto 4, 3) := by decide +kernel
theorem d_TM_pick_45 : decode b_TM_pick 45 = .ok (.iconst (-1), 1) := by decide +kernel
theorem d_TM_pick_46 : decode b_TM_pick 46 = .ok (.ireturn, 1) := by decide +kernel
theorem d_TM_told_0 : decode b_TM_told 0 = .ok (.aload_n 0, 1) := by decide +kernel
theorem d_TM_told_1 : decode b_TM_told 1 = .ok (.getfield 29, 3) := by decide +kernel
theorem d_TM_told_4 : decode b_TM_told 4 = .ok (.iload_n 1, 1) := by decide +kernel
theorem d_TM_told_5 : decode b_TM_told 5 = .ok (.invokevirtual 247, 3) := by decide +kernel
theorem d_TM_told_8 : decode b_TM_told 8 = .ok (.ireturn, 1) := by decide +kernel
theorem d_TM_longest_0 : decode b_TM_longest 0 = .ok (.aload_n 0, 1) := by decide +kernel
theorem d_TM_longest_1 : decode b_TM_longest 1 = .ok (.iload_n 1, 1) := by decide +kernel
theorem d_TM_longest_2 : decode b_TM_longest 2 = .ok (.invokevirtual 132, 3) := by decide +kernel
theorem d_TM_longest_5 : decode b_TM_longest 5 = .ok (.ifCond .eq 14, 3) := by decide +kernel
theorem d_TM_longest_8 : decode b_TM_longest 8 = .ok (.aload_n 0, 1) := by decide +kernel
theorem d_TM_longest_9 : decode b_TM_longest 9 = .ok (.iload_n 1, 1) := by decide +kernel
theorem d_TM_longest_10 : decode b_TM_longest 10 = .ok (.invokevirtual 137, 3) := by decide +kernel
theorem d_TM_longest_13 : decode b_TM_longest 13 = .ok (.invokevirtual 251, 3) := by decide +kernel
theorem d_TM_longest_16 : decode b_TM_longest 16 = .ok (.goto 5, 3) := by decide +kernel
theorem d_TM_longest_19 : decode b_TM_longest 19 = .ok (.bipush (-2), 2) := by decide +kernel
theorem d_TM_longest_21 : decode b_TM_longest 21 = .ok (.ireturn, 1) := by decide +kernel
theorem d_TM_of_0 : decode b_TM_of 0 = .ok (.iload_n 1, 1) := by decide +kernel
theorem d_TM_of_1 : decode b_TM_of 1 = .ok (.tableswitch 54 0 3 #[31, 36, 44, 49], 31) := by decide +kernel
theorem d_TM_of_32 : decode b_TM_of 32 = .ok (.aload_n 0, 1) := by decide +kernel
theorem d_TM_of_33 : decode b_TM_of 33 = .ok (.getfield 90, 3) := by decide +kernel
theorem d_TM_of_36 : decode b_TM_of 36 = .ok (.ireturn, 1) := by decide +kernel
theorem d_TM_of_37 : decode b_TM_of 37 = .ok (.aload_n 0, 1) := by decide +kernel
theorem d_TM_of_38 : decode b_TM_of 38 = .ok (.getfield 25, 3) := by decide +kernel
theorem d_TM_of_41 : decode b_TM_of 41 = .ok (.getfield 106, 3) := by decide +kernel
theorem d_TM_of_44 : decode b_TM_of 44 = .ok (.ireturn, 1) := by decide +kernel
theorem d_TM_of_45 : decode b_TM_of 45 = .ok (.aload_n 0, 1) := by decide +kernel
theorem d_TM_of_46 : decode b_TM_of 46 = .ok (.getfield 93, 3) := by decide +kernel
theorem d_TM_of_49 : decode b_TM_of 49 = .ok (.ireturn, 1) := by decide +kernel
theorem d_TM_of_50 : decode b_TM_of 50 = .ok (.aload_n 0, 1) := by decide +kernel
theorem d_TM_of_51 : decode b_TM_of 51 = .ok (.getfield 18, 3) := by decide +kernel
theorem d_TM_of_54 : decode b_TM_of 54 = .ok (.ireturn, 1) := by decide +kernel
theorem d_TM_of_55 : decode b_TM_of 55 = .ok (.bipush (-2), 2) := by decide +kernel
theorem d_TM_of_57 : decode b_TM_of 57 = .ok (.ireturn, 1) := by decide +kernel
