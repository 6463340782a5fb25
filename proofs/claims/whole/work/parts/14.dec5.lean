/-! DECODE ROWS -/
theorem d_Ref_init_0 : decode b_Ref_init 0 = .ok (.aload_n 0, 1) := by decide +kernel
theorem d_Ref_init_1 : decode b_Ref_init 1 = .ok (.invokespecial 1, 3) := by decide +kernel
theorem d_Ref_init_4 : decode b_Ref_init 4 = .ok (.aload_n 0, 1) := by decide +kernel
theorem d_Ref_init_5 : decode b_Ref_init 5 = .ok (.bipush 60, 2) := by decide +kernel
theorem d_Ref_init_7 : decode b_Ref_init 7 = .ok (.newarray .int, 2) := by decide +kernel
theorem d_Ref_init_9 : decode b_Ref_init 9 = .ok (.putfield 7, 3) := by decide +kernel
theorem d_Ref_init_12 : decode b_Ref_init 12 = .ok (.aload_n 0, 1) := by decide +kernel
theorem d_Ref_init_13 : decode b_Ref_init 13 = .ok (.sipush 9600, 3) := by decide +kernel
theorem d_Ref_init_16 : decode b_Ref_init 16 = .ok (.newarray .int, 2) := by decide +kernel
theorem d_Ref_init_18 : decode b_Ref_init 18 = .ok (.putfield 13, 3) := by decide +kernel
theorem d_Ref_init_21 : decode b_Ref_init 21 = .ok (.aload_n 0, 1) := by decide +kernel
theorem d_Ref_init_22 : decode b_Ref_init 22 = .ok (.bipush 60, 2) := by decide +kernel
theorem d_Ref_init_24 : decode b_Ref_init 24 = .ok (.newarray .long, 2) := by decide +kernel
theorem d_Ref_init_26 : decode b_Ref_init 26 = .ok (.putfield 16, 3) := by decide +kernel
theorem d_Ref_init_29 : decode b_Ref_init 29 = .ok (.aload_n 0, 1) := by decide +kernel
theorem d_Ref_init_30 : decode b_Ref_init 30 = .ok (.bipush 100, 2) := by decide +kernel
theorem d_Ref_init_32 : decode b_Ref_init 32 = .ok (.newarray .int, 2) := by decide +kernel
theorem d_Ref_init_34 : decode b_Ref_init 34 = .ok (.putfield 20, 3) := by decide +kernel
theorem d_Ref_init_37 : decode b_Ref_init 37 = .ok (.aload_n 0, 1) := by decide +kernel
theorem d_Ref_init_38 : decode b_Ref_init 38 = .ok (.bipush 100, 2) := by decide +kernel
theorem d_Ref_init_40 : decode b_Ref_init 40 = .ok (.newarray .int, 2) := by decide +kernel
theorem d_Ref_init_42 : decode b_Ref_init 42 = .ok (.putfield 23, 3) := by decide +kernel
theorem d_Ref_init_45 : decode b_Ref_init 45 = .ok (.aload_n 0, 1) := by decide +kernel
theorem d_Ref_init_46 : decode b_Ref_init 46 = .ok (.sipush 300, 3) := by decide +kernel
theorem d_Ref_init_49 : decode b_Ref_init 49 = .ok (.newarray .int, 2) := by decide +kernel
theorem d_Ref_init_51 : decode b_Ref_init 51 = .ok (.putfield 26, 3) := by decide +kernel
theorem d_Ref_init_54 : decode b_Ref_init 54 = .ok (.aload_n 0, 1) := by decide +kernel
theorem d_Ref_init_55 : decode b_Ref_init 55 = .ok (.sipush 300, 3) := by decide +kernel
theorem d_Ref_init_58 : decode b_Ref_init 58 = .ok (.newarray .long, 2) := by decide +kernel
theorem d_Ref_init_60 : decode b_Ref_init 60 = .ok (.putfield 29, 3) := by decide +kernel
theorem d_Ref_init_63 : decode b_Ref_init 63 = .ok (.aload_n 0, 1) := by decide +kernel
theorem d_Ref_init_64 : decode b_Ref_init 64 = .ok (.sipush 1200, 3) := by decide +kernel
theorem d_Ref_init_67 : decode b_Ref_init 67 = .ok (.newarray .int, 2) := by decide +kernel
theorem d_Ref_init_69 : decode b_Ref_init 69 = .ok (.putfield 32, 3) := by decide +kernel
theorem d_Ref_init_72 : decode b_Ref_init 72 = .ok (.aload_n 0, 1) := by decide +kernel
theorem d_Ref_init_73 : decode b_Ref_init 73 = .ok (.sipush 300, 3) := by decide +kernel
theorem d_Ref_init_76 : decode b_Ref_init 76 = .ok (.newarray .boolean, 2) := by decide +kernel
theorem d_Ref_init_78 : decode b_Ref_init 78 = .ok (.putfield 35, 3) := by decide +kernel
theorem d_Ref_init_81 : decode b_Ref_init 81 = .ok (.aload_n 0, 1) := by decide +kernel
theorem d_Ref_init_82 : decode b_Ref_init 82 = .ok (.bipush 40, 2) := by decide +kernel
theorem d_Ref_init_84 : decode b_Ref_init 84 = .ok (.newarray .int, 2) := by decide +kernel
theorem d_Ref_init_86 : decode b_Ref_init 86 = .ok (.putfield 39, 3) := by decide +kernel
theorem d_Ref_init_89 : decode b_Ref_init 89 = .ok (.aload_n 0, 1) := by decide +kernel
theorem d_Ref_init_90 : decode b_Ref_init 90 = .ok (.bipush 40, 2) := by decide +kernel
theorem d_Ref_init_92 : decode b_Ref_init 92 = .ok (.newarray .int, 2) := by decide +kernel
theorem d_Ref_init_94 : decode b_Ref_init 94 = .ok (.putfield 42, 3) := by decide +kernel
theorem d_Ref_init_97 : decode b_Ref_init 97 = .ok (.aload_n 0, 1) := by decide +kernel
theorem d_Ref_init_98 : decode b_Ref_init 98 = .ok (.sipush 300, 3) := by decide +kernel
theorem d_Ref_init_101 : decode b_Ref_init 101 = .ok (.newarray .boolean, 2) := by decide +kernel
theorem d_Ref_init_103 : decode b_Ref_init 103 = .ok (.putfield 45, 3) := by decide +kernel
theorem d_Ref_init_106 : decode b_Ref_init 106 = .ok (.aload_n 0, 1) := by decide +kernel
theorem d_Ref_init_107 : decode b_Ref_init 107 = .ok (.sipush 300, 3) := by decide +kernel
theorem d_Ref_init_110 : decode b_Ref_init 110 = .ok (.newarray .int, 2) := by decide +kernel
theorem d_Ref_init_112 : decode b_Ref_init 112 = .ok (.putfield 48, 3) := by decide +kernel
theorem d_Ref_init_115 : decode b_Ref_init 115 = .ok (.aload_n 0, 1) := by decide +kernel
theorem d_Ref_init_116 : decode b_Ref_init 116 = .ok (.sipush 300, 3) := by decide +kernel
theorem d_Ref_init_119 : decode b_Ref_init 119 = .ok (.newarray .int, 2) := by decide +kernel
theorem d_Ref_init_121 : decode b_Ref_init 121 = .ok (.putfield 51, 3) := by decide +kernel
theorem d_Ref_init_124 : decode b_Ref_init 124 = .ok (.aload_n 0, 1) := by decide +kernel
theorem d_Ref_init_125 : decode b_Ref_init 125 = .ok (.sipush 300, 3) := by decide +kernel
theorem d_Ref_init_128 : decode b_Ref_init 128 = .ok (.newarray .int, 2) := by decide +kernel
theorem d_Ref_init_130 : decode b_Ref_init 130 = .ok (.putfield 54, 3) := by decide +kernel
theorem d_Ref_init_133 : decode b_Ref_init 133 = .ok (.aload_n 0, 1) := by decide +kernel
theorem d_Ref_init_134 : decode b_Ref_init 134 = .ok (.bipush 41, 2) := by decide +kernel
theorem d_Ref_init_136 : decode b_Ref_init 136 = .ok (.newarray .int, 2) := by decide +kernel
theorem d_Ref_init_138 : decode b_Ref_init 138 = .ok (.putfield 57, 3) := by decide +kernel
theorem d_Ref_init_141 : decode b_Ref_init 141 = .ok (.aload_n 0, 1) := by decide +kernel
theorem d_Ref_init_142 : decode b_Ref_init 142 = .ok (.bipush 41, 2) := by decide +kernel
theorem d_Ref_init_144 : decode b_Ref_init 144 = .ok (.newarray .int, 2) := by decide +kernel
theorem d_Ref_init_146 : decode b_Ref_init 146 = .ok (.putfield 60, 3) := by decide +kernel
theorem d_Ref_init_149 : decode b_Ref_init 149 = .ok (.aload_n 0, 1) := by decide +kernel
theorem d_Ref_init_150 : decode b_Ref_init 150 = .ok (.bipush 41, 2) := by decide +kernel
theorem d_Ref_init_152 : decode b_Ref_init 152 = .ok (.newarray .int, 2) := by decide +kernel
theorem d_Ref_init_154 : decode b_Ref_init 154 = .ok (.putfield 63, 3) := by decide +kernel
theorem d_Ref_init_157 : decode b_Ref_init 157 = .ok (.aload_n 0, 1) := by decide +kernel
theorem d_Ref_init_158 : decode b_Ref_init 158 = .ok (.sipush 160, 3) := by decide +kernel
theorem d_Ref_init_161 : decode b_Ref_init 161 = .ok (.newarray .int, 2) := by decide +kernel
theorem d_Ref_init_163 : decode b_Ref_init 163 = .ok (.putfield 66, 3) := by decide +kernel
theorem d_Ref_init_166 : decode b_Ref_init 166 = .ok (.aload_n 0, 1) := by decide +kernel
theorem d_Ref_init_167 : decode b_Ref_init 167 = .ok (.bipush 32, 2) := by decide +kernel
theorem d_Ref_init_169 : decode b_Ref_init 169 = .ok (.newarray .int, 2) := by decide +kernel
theorem d_Ref_init_171 : decode b_Ref_init 171 = .ok (.putfield 69, 3) := by decide +kernel
theorem d_Ref_init_174 : decode b_Ref_init 174 = .ok (.aload_n 0, 1) := by decide +kernel
theorem d_Ref_init_175 : decode b_Ref_init 175 = .ok (.bipush 32, 2) := by decide +kernel
theorem d_Ref_init_177 : decode b_Ref_init 177 = .ok (.newarray .int, 2) := by decide +kernel
theorem d_Ref_init_179 : decode b_Ref_init 179 = .ok (.putfield 72, 3) := by decide +kernel
theorem d_Ref_init_182 : decode b_Ref_init 182 = .ok (.aload_n 0, 1) := by decide +kernel
theorem d_Ref_init_183 : decode b_Ref_init 183 = .ok (.sipush 164, 3) := by decide +kernel
theorem d_Ref_init_186 : decode b_Ref_init 186 = .ok (.newarray .int, 2) := by decide +kernel
theorem d_Ref_init_188 : decode b_Ref_init 188 = .ok (.putfield 75, 3) := by decide +kernel
theorem d_Ref_init_191 : decode b_Ref_init 191 = .ok (.aload_n 0, 1) := by decide +kernel
theorem d_Ref_init_192 : decode b_Ref_init 192 = .ok (.sipush 1600, 3) := by decide +kernel
theorem d_Ref_init_195 : decode b_Ref_init 195 = .ok (.newarray .boolean, 2) := by decide +kernel
theorem d_Ref_init_197 : decode b_Ref_init 197 = .ok (.putfield 78, 3) := by decide +kernel
theorem d_Ref_init_200 : decode b_Ref_init 200 = .ok (.aload_n 0, 1) := by decide +kernel
theorem d_Ref_init_201 : decode b_Ref_init 201 = .ok (.sipush 1600, 3) := by decide +kernel
theorem d_Ref_init_204 : decode b_Ref_init 204 = .ok (.newarray .int, 2) := by decide +kernel
theorem d_Ref_init_206 : decode b_Ref_init 206 = .ok (.putfield 81, 3) := by decide +kernel
theorem d_Ref_init_209 : decode b_Ref_init 209 = .ok (.aload_n 0, 1) := by decide +kernel
theorem d_Ref_init_210 : decode b_Ref_init 210 = .ok (.sipush 1600, 3) := by decide +kernel
theorem d_Ref_init_213 : decode b_Ref_init 213 = .ok (.newarray .int, 2) := by decide +kernel
theorem d_Ref_init_215 : decode b_Ref_init 215 = .ok (.putfield 84, 3) := by decide +kernel
theorem d_Ref_init_218 : decode b_Ref_init 218 = .ok (.aload_n 0, 1) := by decide +kernel
theorem d_Ref_init_219 : decode b_Ref_init 219 = .ok (.sipush 1600, 3) := by decide +kernel
theorem d_Ref_init_222 : decode b_Ref_init 222 = .ok (.newarray .int, 2) := by decide +kernel
theorem d_Ref_init_224 : decode b_Ref_init 224 = .ok (.putfield 87, 3) := by decide +kernel
theorem d_Ref_init_227 : decode b_Ref_init 227 = .ok (.aload_n 0, 1) := by decide +kernel
theorem d_Ref_init_228 : decode b_Ref_init 228 = .ok (.sipush 4040, 3) := by decide +kernel
theorem d_Ref_init_231 : decode b_Ref_init 231 = .ok (.newarray .long, 2) := by decide +kernel
theorem d_Ref_init_233 : decode b_Ref_init 233 = .ok (.putfield 90, 3) := by decide +kernel
theorem d_Ref_init_236 : decode b_Ref_init 236 = .ok (.aload_n 0, 1) := by decide +kernel
theorem d_Ref_init_237 : decode b_Ref_init 237 = .ok (.iload_n 1, 1) := by decide +kernel
theorem d_Ref_init_238 : decode b_Ref_init 238 = .ok (.iconst 2, 1) := by decide +kernel
theorem d_Ref_init_239 : decode b_Ref_init 239 = .ok (.if_icmp .ge 7, 3) := by decide +kernel
theorem d_Ref_init_242 : decode b_Ref_init 242 = .ok (.iconst 2, 1) := by decide +kernel
theorem d_Ref_init_243 : decode b_Ref_init 243 = .ok (.goto 13, 3) := by decide +kernel
theorem d_Ref_init_246 : decode b_Ref_init 246 = .ok (.iload_n 1, 1) := by decide +kernel
theorem d_Ref_init_247 : decode b_Ref_init 247 = .ok (.iconst 4, 1) := by decide +kernel
theorem d_Ref_init_248 : decode b_Ref_init 248 = .ok (.if_icmp .le 7, 3) := by decide +kernel
theorem d_Ref_init_251 : decode b_Ref_init 251 = .ok (.iconst 4, 1) := by decide +kernel
theorem d_Ref_init_252 : decode b_Ref_init 252 = .ok (.goto 4, 3) := by decide +kernel
theorem d_Ref_init_255 : decode b_Ref_init 255 = .ok (.iload_n 1, 1) := by decide +kernel
theorem d_Ref_init_256 : decode b_Ref_init 256 = .ok (.putfield 93, 3) := by decide +kernel
theorem d_Ref_init_259 : decode b_Ref_init 259 = .ok (.return_, 1) := by decide +kernel
theorem d_Ref_clear_0 : decode b_Ref_clear 0 = .ok (.aload_n 0, 1) := by decide +kernel
theorem d_Ref_clear_1 : decode b_Ref_clear 1 = .ok (.getfield 97, 3) := by decide +kernel
theorem d_Ref_clear_4 : decode b_Ref_clear 4 = .ok (.istore_n 1, 1) := by decide +kernel
theorem d_Ref_clear_5 : decode b_Ref_clear 5 = .ok (.aload_n 0, 1) := by decide +kernel
theorem d_Ref_clear_6 : decode b_Ref_clear 6 = .ok (.iconst 0, 1) := by decide +kernel
theorem d_Ref_clear_7 : decode b_Ref_clear 7 = .ok (.putfield 97, 3) := by decide +kernel
theorem d_Ref_clear_10 : decode b_Ref_clear 10 = .ok (.aload_n 0, 1) := by decide +kernel
theorem d_Ref_clear_11 : decode b_Ref_clear 11 = .ok (.iconst 0, 1) := by decide +kernel
theorem d_Ref_clear_12 : decode b_Ref_clear 12 = .ok (.putfield 104, 3) := by decide +kernel
theorem d_Ref_clear_15 : decode b_Ref_clear 15 = .ok (.aload_n 0, 1) := by decide +kernel
theorem d_Ref_clear_16 : decode b_Ref_clear 16 = .ok (.iconst 0, 1) := by decide +kernel
theorem d_Ref_clear_17 : decode b_Ref_clear 17 = .ok (.putfield 107, 3) := by decide +kernel
theorem d_Ref_clear_20 : decode b_Ref_clear 20 = .ok (.aload_n 0, 1) := by decide +kernel
theorem d_Ref_clear_21 : decode b_Ref_clear 21 = .ok (.iconst 0, 1) := by decide +kernel
theorem d_Ref_clear_22 : decode b_Ref_clear 22 = .ok (.putfield 110, 3) := by decide +kernel
theorem d_Ref_clear_25 : decode b_Ref_clear 25 = .ok (.iload_n 1, 1) := by decide +kernel
theorem d_Ref_clear_26 : decode b_Ref_clear 26 = .ok (.ireturn, 1) := by decide +kernel
theorem d_Ref_add_0 : decode b_Ref_add 0 = .ok (.iload_n 1, 1) := by decide +kernel
theorem d_Ref_add_1 : decode b_Ref_add 1 = .ok (.i2l, 1) := by decide +kernel
theorem d_Ref_add_2 : decode b_Ref_add 2 = .ok (.lconst 0, 1) := by decide +kernel
theorem d_Ref_add_3 : decode b_Ref_add 3 = .ok (.aload_n 0, 1) := by decide +kernel
theorem d_Ref_add_4 : decode b_Ref_add 4 = .ok (.getfield 93, 3) := by decide +kernel
theorem d_Ref_add_7 : decode b_Ref_add 7 = .ok (.iconst 1, 1) := by decide +kernel
theorem d_Ref_add_8 : decode b_Ref_add 8 = .ok (.isub, 1) := by decide +kernel
theorem d_Ref_add_9 : decode b_Ref_add 9 = .ok (.i2l, 1) := by decide +kernel
theorem d_Ref_add_10 : decode b_Ref_add 10 = .ok (.invokestatic 100, 3) := by decide +kernel
theorem d_Ref_add_13 : decode b_Ref_add 13 = .ok (.ifCond .ne 6, 3) := by decide +kernel
theorem d_Ref_add_16 : decode b_Ref_add 16 = .ok (.bipush (-2), 2) := by decide +kernel
theorem d_Ref_add_18 : decode b_Ref_add 18 = .ok (.ireturn, 1) := by decide +kernel
theorem d_Ref_add_19 : decode b_Ref_add 19 = .ok (.aload_n 0, 1) := by decide +kernel
theorem d_Ref_add_20 : decode b_Ref_add 20 = .ok (.getfield 104, 3) := by decide +kernel
theorem d_Ref_add_23 : decode b_Ref_add 23 = .ok (.bipush 100, 2) := by decide +kernel
theorem d_Ref_add_25 : decode b_Ref_add 25 = .ok (.if_icmp .ne 6, 3) := by decide +kernel
theorem d_Ref_add_28 : decode b_Ref_add 28 = .ok (.bipush (-3), 2) := by decide +kernel
theorem d_Ref_add_30 : decode b_Ref_add 30 = .ok (.ireturn, 1) := by decide +kernel
theorem d_Ref_add_31 : decode b_Ref_add 31 = .ok (.aload_n 0, 1) := by decide +kernel
theorem d_Ref_add_32 : decode b_Ref_add 32 = .ok (.getfield 20, 3) := by decide +kernel
theorem d_Ref_add_35 : decode b_Ref_add 35 = .ok (.aload_n 0, 1) := by decide +kernel
theorem d_Ref_add_36 : decode b_Ref_add 36 = .ok (.getfield 104, 3) := by decide +kernel
theorem d_Ref_add_39 : decode b_Ref_add 39 = .ok (.iload_n 1, 1) := by decide +kernel
theorem d_Ref_add_40 : decode b_Ref_add 40 = .ok (.iastore, 1) := by decide +kernel
theorem d_Ref_add_41 : decode b_Ref_add 41 = .ok (.aload_n 0, 1) := by decide +kernel
theorem d_Ref_add_42 : decode b_Ref_add 42 = .ok (.dup, 1) := by decide +kernel
theorem d_Ref_add_43 : decode b_Ref_add 43 = .ok (.getfield 104, 3) := by decide +kernel
theorem d_Ref_add_46 : decode b_Ref_add 46 = .ok (.iconst 1, 1) := by decide +kernel
theorem d_Ref_add_47 : decode b_Ref_add 47 = .ok (.iadd, 1) := by decide +kernel
theorem d_Ref_add_48 : decode b_Ref_add 48 = .ok (.putfield 104, 3) := by decide +kernel
theorem d_Ref_add_51 : decode b_Ref_add 51 = .ok (.aload_n 0, 1) := by decide +kernel
theorem d_Ref_add_52 : decode b_Ref_add 52 = .ok (.getfield 104, 3) := by decide +kernel
theorem d_Ref_add_55 : decode b_Ref_add 55 = .ok (.ireturn, 1) := by decide +kernel
theorem d_Ref_lies_0 : decode b_Ref_lies 0 = .ok (.lload_n 0, 1) := by decide +kernel
theorem d_Ref_lies_1 : decode b_Ref_lies 1 = .ok (.lload_n 2, 1) := by decide +kernel
theorem d_Ref_lies_2 : decode b_Ref_lies 2 = .ok (.lcmp, 1) := by decide +kernel
theorem d_Ref_lies_3 : decode b_Ref_lies 3 = .ok (.ifCond .lt 14, 3) := by decide +kernel
theorem d_Ref_lies_6 : decode b_Ref_lies 6 = .ok (.lload_n 0, 1) := by decide +kernel
theorem d_Ref_lies_7 : decode b_Ref_lies 7 = .ok (.lload 4, 2) := by decide +kernel
theorem d_Ref_lies_9 : decode b_Ref_lies 9 = .ok (.lcmp, 1) := by decide +kernel
theorem d_Ref_lies_10 : decode b_Ref_lies 10 = .ok (.ifCond .gt 7, 3) := by decide +kernel
theorem d_Ref_lies_13 : decode b_Ref_lies 13 = .ok (.iconst 1, 1) := by decide +kernel
theorem d_Ref_lies_14 : decode b_Ref_lies 14 = .ok (.goto 4, 3) := by decide +kernel
theorem d_Ref_lies_17 : decode b_Ref_lies 17 = .ok (.iconst 0, 1) := by decide +kernel
theorem d_Ref_lies_18 : decode b_Ref_lies 18 = .ok (.ireturn, 1) := by decide +kernel
theorem d_Ref_wipe_0 : decode b_Ref_wipe 0 = .ok (.aload_n 0, 1) := by decide +kernel
theorem d_Ref_wipe_1 : decode b_Ref_wipe 1 = .ok (.getfield 104, 3) := by decide +kernel
theorem d_Ref_wipe_4 : decode b_Ref_wipe 4 = .ok (.istore_n 1, 1) := by decide +kernel
theorem d_Ref_wipe_5 : decode b_Ref_wipe 5 = .ok (.aload_n 0, 1) := by decide +kernel
theorem d_Ref_wipe_6 : decode b_Ref_wipe 6 = .ok (.iconst 0, 1) := by decide +kernel
theorem d_Ref_wipe_7 : decode b_Ref_wipe 7 = .ok (.putfield 104, 3) := by decide +kernel
theorem d_Ref_wipe_10 : decode b_Ref_wipe 10 = .ok (.iload_n 1, 1) := by decide +kernel
theorem d_Ref_wipe_11 : decode b_Ref_wipe 11 = .ok (.ireturn, 1) := by decide +kernel
theorem d_Ref_make_0 : decode b_Ref_make 0 = .ok (.iload_n 1, 1) := by decide +kernel
theorem d_Ref_make_1 : decode b_Ref_make 1 = .ok (.i2l, 1) := by decide +kernel
theorem d_Ref_make_2 : decode b_Ref_make 2 = .ok (.lconst 0, 1) := by decide +kernel
theorem d_Ref_make_3 : decode b_Ref_make 3 = .ok (.ldc2_w 202, 3) := by decide +kernel
theorem d_Ref_make_6 : decode b_Ref_make 6 = .ok (.invokestatic 100, 3) := by decide +kernel
theorem d_Ref_make_9 : decode b_Ref_make 9 = .ok (.ifCond .ne 6, 3) := by decide +kernel
theorem d_Ref_make_12 : decode b_Ref_make 12 = .ok (.bipush (-2), 2) := by decide +kernel
theorem d_Ref_make_14 : decode b_Ref_make 14 = .ok (.ireturn, 1) := by decide +kernel
theorem d_Ref_make_15 : decode b_Ref_make 15 = .ok (.aload_n 0, 1) := by decide +kernel
theorem d_Ref_make_16 : decode b_Ref_make 16 = .ok (.iconst 0, 1) := by decide +kernel
theorem d_Ref_make_17 : decode b_Ref_make 17 = .ok (.putfield 110, 3) := by decide +kernel
theorem d_Ref_make_20 : decode b_Ref_make 20 = .ok (.iload_n 1, 1) := by decide +kernel
theorem d_Ref_make_21 : decode b_Ref_make 21 = .ok (.ifCond .ne 10, 3) := by decide +kernel
theorem d_Ref_make_24 : decode b_Ref_make 24 = .ok (.aload_n 0, 1) := by decide +kernel
theorem d_Ref_make_25 : decode b_Ref_make 25 = .ok (.getfield 104, 3) := by decide +kernel
theorem d_Ref_make_28 : decode b_Ref_make 28 = .ok (.goto 4, 3) := by decide +kernel
theorem d_Ref_make_31 : decode b_Ref_make 31 = .ok (.iconst 0, 1) := by decide +kernel
theorem d_Ref_make_32 : decode b_Ref_make 32 = .ok (.istore_n 2, 1) := by decide +kernel
theorem d_Ref_make_33 : decode b_Ref_make 33 = .ok (.aload_n 0, 1) := by decide +kernel
theorem d_Ref_make_34 : decode b_Ref_make 34 = .ok (.iload_n 1, 1) := by decide +kernel
theorem d_Ref_make_35 : decode b_Ref_make 35 = .ok (.ifCond .ne 9, 3) := by decide +kernel
theorem d_Ref_make_38 : decode b_Ref_make 38 = .ok (.iload_n 2, 1) := by decide +kernel
theorem d_Ref_make_39 : decode b_Ref_make 39 = .ok (.iconst 2, 1) := by decide +kernel
theorem d_Ref_make_40 : decode b_Ref_make 40 = .ok (.iadd, 1) := by decide +kernel
theorem d_Ref_make_41 : decode b_Ref_make 41 = .ok (.goto 4, 3) := by decide +kernel
theorem d_Ref_make_44 : decode b_Ref_make 44 = .ok (.iconst 1, 1) := by decide +kernel
theorem d_Ref_make_45 : decode b_Ref_make 45 = .ok (.putfield 113, 3) := by decide +kernel
theorem d_Ref_make_48 : decode b_Ref_make 48 = .ok (.iconst 0, 1) := by decide +kernel
theorem d_Ref_make_49 : decode b_Ref_make 49 = .ok (.istore_n 3, 1) := by decide +kernel
theorem d_Ref_make_50 : decode b_Ref_make 50 = .ok (.iload_n 3, 1) := by decide +kernel
theorem d_Ref_make_51 : decode b_Ref_make 51 = .ok (.aload_n 0, 1) := by decide +kernel
theorem d_Ref_make_52 : decode b_Ref_make 52 = .ok (.getfield 113, 3) := by decide +kernel
theorem d_Ref_make_55 : decode b_Ref_make 55 = .ok (.if_icmp .ge 76, 3) := by decide +kernel
theorem d_Ref_make_58 : decode b_Ref_make 58 = .ok (.aload_n 0, 1) := by decide +kernel
theorem d_Ref_make_59 : decode b_Ref_make 59 = .ok (.getfield 35, 3) := by decide +kernel
theorem d_Ref_make_62 : decode b_Ref_make 62 = .ok (.iload_n 3, 1) := by decide +kernel
theorem d_Ref_make_63 : decode b_Ref_make 63 = .ok (.iload_n 1, 1) := by decide +kernel
theorem d_Ref_make_64 : decode b_Ref_make 64 = .ok (.ifCond .ne 16, 3) := by decide +kernel
theorem d_Ref_make_67 : decode b_Ref_make 67 = .ok (.iload_n 3, 1) := by decide +kernel
theorem d_Ref_make_68 : decode b_Ref_make 68 = .ok (.iload_n 2, 1) := by decide +kernel
theorem d_Ref_make_69 : decode b_Ref_make 69 = .ok (.if_icmp .ne 7, 3) := by decide +kernel
theorem d_Ref_make_72 : decode b_Ref_make 72 = .ok (.iconst 1, 1) := by decide +kernel
theorem d_Ref_make_73 : decode b_Ref_make 73 = .ok (.goto 17, 3) := by decide +kernel
theorem d_Ref_make_76 : decode b_Ref_make 76 = .ok (.iconst 0, 1) := by decide +kernel
theorem d_Ref_make_77 : decode b_Ref_make 77 = .ok (.goto 13, 3) := by decide +kernel
theorem d_Ref_make_80 : decode b_Ref_make 80 = .ok (.iload_n 1, 1) := by decide +kernel
theorem d_Ref_make_81 : decode b_Ref_make 81 = .ok (.iconst 1, 1) := by decide +kernel
theorem d_Ref_make_82 : decode b_Ref_make 82 = .ok (.if_icmp .ne 7, 3) := by decide +kernel
theorem d_Ref_make_85 : decode b_Ref_make 85 = .ok (.iconst 1, 1) := by decide +kernel
theorem d_Ref_make_86 : decode b_Ref_make 86 = .ok (.goto 4, 3) := by decide +kernel
theorem d_Ref_make_89 : decode b_Ref_make 89 = .ok (.iconst 0, 1) := by decide +kernel
theorem d_Ref_make_90 : decode b_Ref_make 90 = .ok (.bastore, 1) := by decide +kernel
theorem d_Ref_make_91 : decode b_Ref_make 91 = .ok (.aload_n 0, 1) := by decide +kernel
theorem d_Ref_make_92 : decode b_Ref_make 92 = .ok (.iload_n 3, 1) := by decide +kernel
theorem d_Ref_make_93 : decode b_Ref_make 93 = .ok (.aload_n 0, 1) := by decide +kernel
theorem d_Ref_make_94 : decode b_Ref_make 94 = .ok (.getfield 113, 3) := by decide +kernel
theorem d_Ref_make_97 : decode b_Ref_make 97 = .ok (.iconst 1, 1) := by decide +kernel
theorem d_Ref_make_98 : decode b_Ref_make 98 = .ok (.isub, 1) := by decide +kernel
theorem d_Ref_make_99 : decode b_Ref_make 99 = .ok (.invokevirtual 204, 3) := by decide +kernel
theorem d_Ref_make_102 : decode b_Ref_make 102 = .ok (.iload_n 3, 1) := by decide +kernel
theorem d_Ref_make_103 : decode b_Ref_make 103 = .ok (.iload_n 2, 1) := by decide +kernel
theorem d_Ref_make_104 : decode b_Ref_make 104 = .ok (.if_icmp .ge 21, 3) := by decide +kernel
theorem d_Ref_make_107 : decode b_Ref_make 107 = .ok (.aload_n 0, 1) := by decide +kernel
theorem d_Ref_make_108 : decode b_Ref_make 108 = .ok (.getfield 32, 3) := by decide +kernel
theorem d_Ref_make_111 : decode b_Ref_make 111 = .ok (.iconst 4, 1) := by decide +kernel
theorem d_Ref_make_112 : decode b_Ref_make 112 = .ok (.iload_n 3, 1) := by decide +kernel
theorem d_Ref_make_113 : decode b_Ref_make 113 = .ok (.imul, 1) := by decide +kernel
theorem d_Ref_make_114 : decode b_Ref_make 114 = .ok (.aload_n 0, 1) := by decide +kernel
theorem d_Ref_make_115 : decode b_Ref_make 115 = .ok (.getfield 20, 3) := by decide +kernel
theorem d_Ref_make_118 : decode b_Ref_make 118 = .ok (.iload_n 3, 1) := by decide +kernel
theorem d_Ref_make_119 : decode b_Ref_make 119 = .ok (.iaload, 1) := by decide +kernel
theorem d_Ref_make_120 : decode b_Ref_make 120 = .ok (.iadd, 1) := by decide +kernel
theorem d_Ref_make_121 : decode b_Ref_make 121 = .ok (.iload_n 3, 1) := by decide +kernel
theorem d_Ref_make_122 : decode b_Ref_make 122 = .ok (.iconst 1, 1) := by decide +kernel
theorem d_Ref_make_123 : decode b_Ref_make 123 = .ok (.iadd, 1) := by decide +kernel
theorem d_Ref_make_124 : decode b_Ref_make 124 = .ok (.iastore, 1) := by decide +kernel
theorem d_Ref_make_125 : decode b_Ref_make 125 = .ok (.iinc 3 1, 3) := by decide +kernel
theorem d_Ref_make_128 : decode b_Ref_make 128 = .ok (.goto (-78), 3) := by decide +kernel
theorem d_Ref_make_131 : decode b_Ref_make 131 = .ok (.aload_n 0, 1) := by decide +kernel
theorem d_Ref_make_132 : decode b_Ref_make 132 = .ok (.invokevirtual 131, 3) := by decide +kernel
theorem d_Ref_make_135 : decode b_Ref_make 135 = .ok (.ireturn, 1) := by decide +kernel
theorem d_Ref_leadsAll_0 : decode b_Ref_leadsAll 0 = .ok (.iconst 0, 1) := by decide +kernel
theorem d_Ref_leadsAll_1 : decode b_Ref_leadsAll 1 = .ok (.istore_n 3, 1) := by decide +kernel
theorem d_Ref_leadsAll_2 : decode b_Ref_leadsAll 2 = .ok (.iload_n 3, 1) := by decide +kernel
theorem d_Ref_leadsAll_3 : decode b_Ref_leadsAll 3 = .ok (.aload_n 0, 1) := by decide +kernel
theorem d_Ref_leadsAll_4 : decode b_Ref_leadsAll 4 = .ok (.getfield 93, 3) := by decide +kernel
theorem d_Ref_leadsAll_7 : decode b_Ref_leadsAll 7 = .ok (.if_icmp .ge 20, 3) := by decide +kernel
theorem d_Ref_leadsAll_10 : decode b_Ref_leadsAll 10 = .ok (.aload_n 0, 1) := by decide +kernel
theorem d_Ref_leadsAll_11 : decode b_Ref_leadsAll 11 = .ok (.getfield 32, 3) := by decide +kernel
theorem d_Ref_leadsAll_14 : decode b_Ref_leadsAll 14 = .ok (.iconst 4, 1) := by decide +kernel
theorem d_Ref_leadsAll_15 : decode b_Ref_leadsAll 15 = .ok (.iload_n 1, 1) := by decide +kernel
theorem d_Ref_leadsAll_16 : decode b_Ref_leadsAll 16 = .ok (.imul, 1) := by decide +kernel
theorem d_Ref_leadsAll_17 : decode b_Ref_leadsAll 17 = .ok (.iload_n 3, 1) := by decide +kernel
theorem d_Ref_leadsAll_18 : decode b_Ref_leadsAll 18 = .ok (.iadd, 1) := by decide +kernel
theorem d_Ref_leadsAll_19 : decode b_Ref_leadsAll 19 = .ok (.iload_n 2, 1) := by decide +kernel
theorem d_Ref_leadsAll_20 : decode b_Ref_leadsAll 20 = .ok (.iastore, 1) := by decide +kernel
theorem d_Ref_leadsAll_21 : decode b_Ref_leadsAll 21 = .ok (.iinc 3 1, 3) := by decide +kernel
theorem d_Ref_leadsAll_24 : decode b_Ref_leadsAll 24 = .ok (.goto (-22), 3) := by decide +kernel
theorem d_Ref_leadsAll_27 : decode b_Ref_leadsAll 27 = .ok (.return_, 1) := by decide +kernel
theorem d_Ref_least_0 : decode b_Ref_least 0 = .ok (.aload_n 0, 1) := by decide +kernel
theorem d_Ref_least_1 : decode b_Ref_least 1 = .ok (.invokevirtual 189, 3) := by decide +kernel
theorem d_Ref_least_4 : decode b_Ref_least 4 = .ok (.istore_n 1, 1) := by decide +kernel
theorem d_Ref_least_5 : decode b_Ref_least 5 = .ok (.aload_n 0, 1) := by decide +kernel
theorem d_Ref_least_6 : decode b_Ref_least 6 = .ok (.iload_n 1, 1) := by decide +kernel
theorem d_Ref_least_7 : decode b_Ref_least 7 = .ok (.invokevirtual 192, 3) := by decide +kernel
theorem d_Ref_least_10 : decode b_Ref_least 10 = .ok (.ifCond .ne 6, 3) := by decide +kernel
theorem d_Ref_least_13 : decode b_Ref_least 13 = .ok (.bipush (-4), 2) := by decide +kernel
theorem d_Ref_least_15 : decode b_Ref_least 15 = .ok (.ireturn, 1) := by decide +kernel
theorem d_Ref_least_16 : decode b_Ref_least 16 = .ok (.iconst 0, 1) := by decide +kernel
theorem d_Ref_least_17 : decode b_Ref_least 17 = .ok (.istore_n 2, 1) := by decide +kernel
theorem d_Ref_least_18 : decode b_Ref_least 18 = .ok (.iload_n 2, 1) := by decide +kernel
theorem d_Ref_least_19 : decode b_Ref_least 19 = .ok (.aload_n 0, 1) := by decide +kernel
theorem d_Ref_least_20 : decode b_Ref_least 20 = .ok (.getfield 183, 3) := by decide +kernel
theorem d_Ref_least_23 : decode b_Ref_least 23 = .ok (.if_icmp .ge 16, 3) := by decide +kernel
theorem d_Ref_least_26 : decode b_Ref_least 26 = .ok (.aload_n 0, 1) := by decide +kernel
theorem d_Ref_least_27 : decode b_Ref_least 27 = .ok (.getfield 60, 3) := by decide +kernel
theorem d_Ref_least_30 : decode b_Ref_least 30 = .ok (.iload_n 2, 1) := by decide +kernel
theorem d_Ref_least_31 : decode b_Ref_least 31 = .ok (.iconst (-1), 1) := by decide +kernel
theorem d_Ref_least_32 : decode b_Ref_least 32 = .ok (.iastore, 1) := by decide +kernel
theorem d_Ref_least_33 : decode b_Ref_least 33 = .ok (.iinc 2 1, 3) := by decide +kernel
theorem d_Ref_least_36 : decode b_Ref_least 36 = .ok (.goto (-18), 3) := by decide +kernel
theorem d_Ref_least_39 : decode b_Ref_least 39 = .ok (.iconst 1, 1) := by decide +kernel
theorem d_Ref_least_40 : decode b_Ref_least 40 = .ok (.istore_n 2, 1) := by decide +kernel
theorem d_Ref_least_41 : decode b_Ref_least 41 = .ok (.aload_n 0, 1) := by decide +kernel
theorem d_Ref_least_42 : decode b_Ref_least 42 = .ok (.getfield 63, 3) := by decide +kernel
theorem d_Ref_least_45 : decode b_Ref_least 45 = .ok (.iconst 0, 1) := by decide +kernel
theorem d_Ref_least_46 : decode b_Ref_least 46 = .ok (.aload_n 0, 1) := by decide +kernel
theorem d_Ref_least_47 : decode b_Ref_least 47 = .ok (.getfield 51, 3) := by decide +kernel
theorem d_Ref_least_50 : decode b_Ref_least 50 = .ok (.iconst 0, 1) := by decide +kernel
theorem d_Ref_least_51 : decode b_Ref_least 51 = .ok (.iaload, 1) := by decide +kernel
theorem d_Ref_least_52 : decode b_Ref_least 52 = .ok (.iastore, 1) := by decide +kernel
theorem d_Ref_least_53 : decode b_Ref_least 53 = .ok (.aload_n 0, 1) := by decide +kernel
theorem d_Ref_least_54 : decode b_Ref_least 54 = .ok (.getfield 60, 3) := by decide +kernel
theorem d_Ref_least_57 : decode b_Ref_least 57 = .ok (.aload_n 0, 1) := by decide +kernel
theorem d_Ref_least_58 : decode b_Ref_least 58 = .ok (.getfield 51, 3) := by decide +kernel
theorem d_Ref_least_61 : decode b_Ref_least 61 = .ok (.iconst 0, 1) := by decide +kernel
theorem d_Ref_least_62 : decode b_Ref_least 62 = .ok (.iaload, 1) := by decide +kernel
theorem d_Ref_least_63 : decode b_Ref_least 63 = .ok (.iconst 0, 1) := by decide +kernel
theorem d_Ref_least_64 : decode b_Ref_least 64 = .ok (.iastore, 1) := by decide +kernel
theorem d_Ref_least_65 : decode b_Ref_least 65 = .ok (.iconst 0, 1) := by decide +kernel
theorem d_Ref_least_66 : decode b_Ref_least 66 = .ok (.istore_n 3, 1) := by decide +kernel
theorem d_Ref_least_67 : decode b_Ref_least 67 = .ok (.iload_n 3, 1) := by decide +kernel
theorem d_Ref_least_68 : decode b_Ref_least 68 = .ok (.iload_n 2, 1) := by decide +kernel
theorem d_Ref_least_69 : decode b_Ref_least 69 = .ok (.if_icmp .ge 84, 3) := by decide +kernel
theorem d_Ref_least_72 : decode b_Ref_least 72 = .ok (.iconst 0, 1) := by decide +kernel
theorem d_Ref_least_73 : decode b_Ref_least 73 = .ok (.istore 4, 2) := by decide +kernel
theorem d_Ref_least_75 : decode b_Ref_least 75 = .ok (.iload 4, 2) := by decide +kernel
theorem d_Ref_least_77 : decode b_Ref_least 77 = .ok (.aload_n 0, 1) := by decide +kernel
theorem d_Ref_least_78 : decode b_Ref_least 78 = .ok (.getfield 93, 3) := by decide +kernel
theorem d_Ref_least_81 : decode b_Ref_least 81 = .ok (.if_icmp .ge 66, 3) := by decide +kernel
theorem d_Ref_least_84 : decode b_Ref_least 84 = .ok (.aload_n 0, 1) := by decide +kernel
theorem d_Ref_least_85 : decode b_Ref_least 85 = .ok (.getfield 51, 3) := by decide +kernel
theorem d_Ref_least_88 : decode b_Ref_least 88 = .ok (.aload_n 0, 1) := by decide +kernel
theorem d_Ref_least_89 : decode b_Ref_least 89 = .ok (.getfield 32, 3) := by decide +kernel
theorem d_Ref_least_92 : decode b_Ref_least 92 = .ok (.iconst 4, 1) := by decide +kernel
theorem d_Ref_least_93 : decode b_Ref_least 93 = .ok (.aload_n 0, 1) := by decide +kernel
theorem d_Ref_least_94 : decode b_Ref_least 94 = .ok (.getfield 57, 3) := by decide +kernel
theorem d_Ref_least_97 : decode b_Ref_least 97 = .ok (.aload_n 0, 1) := by decide +kernel
theorem d_Ref_least_98 : decode b_Ref_least 98 = .ok (.getfield 63, 3) := by decide +kernel
theorem d_Ref_least_101 : decode b_Ref_least 101 = .ok (.iload_n 3, 1) := by decide +kernel
theorem d_Ref_least_102 : decode b_Ref_least 102 = .ok (.iaload, 1) := by decide +kernel
theorem d_Ref_least_103 : decode b_Ref_least 103 = .ok (.iaload, 1) := by decide +kernel
theorem d_Ref_least_104 : decode b_Ref_least 104 = .ok (.imul, 1) := by decide +kernel
theorem d_Ref_least_105 : decode b_Ref_least 105 = .ok (.iload 4, 2) := by decide +kernel
theorem d_Ref_least_107 : decode b_Ref_least 107 = .ok (.iadd, 1) := by decide +kernel
theorem d_Ref_least_108 : decode b_Ref_least 108 = .ok (.iaload, 1) := by decide +kernel
theorem d_Ref_least_109 : decode b_Ref_least 109 = .ok (.iaload, 1) := by decide +kernel
theorem d_Ref_least_110 : decode b_Ref_least 110 = .ok (.istore 5, 2) := by decide +kernel
theorem d_Ref_least_112 : decode b_Ref_least 112 = .ok (.aload_n 0, 1) := by decide +kernel
theorem d_Ref_least_113 : decode b_Ref_least 113 = .ok (.getfield 60, 3) := by decide +kernel
theorem d_Ref_least_116 : decode b_Ref_least 116 = .ok (.iload 5, 2) := by decide +kernel
theorem d_Ref_least_118 : decode b_Ref_least 118 = .ok (.iaload, 1) := by decide +kernel
theorem d_Ref_least_119 : decode b_Ref_least 119 = .ok (.ifCond .ge 22, 3) := by decide +kernel
theorem d_Ref_least_122 : decode b_Ref_least 122 = .ok (.aload_n 0, 1) := by decide +kernel
theorem d_Ref_least_123 : decode b_Ref_least 123 = .ok (.getfield 60, 3) := by decide +kernel
theorem d_Ref_least_126 : decode b_Ref_least 126 = .ok (.iload 5, 2) := by decide +kernel
theorem d_Ref_least_128 : decode b_Ref_least 128 = .ok (.iload_n 2, 1) := by decide +kernel
theorem d_Ref_least_129 : decode b_Ref_least 129 = .ok (.iastore, 1) := by decide +kernel
theorem d_Ref_least_130 : decode b_Ref_least 130 = .ok (.aload_n 0, 1) := by decide +kernel
theorem d_Ref_least_131 : decode b_Ref_least 131 = .ok (.getfield 63, 3) := by decide +kernel
theorem d_Ref_least_134 : decode b_Ref_least 134 = .ok (.iload_n 2, 1) := by decide +kernel
theorem d_Ref_least_135 : decode b_Ref_least 135 = .ok (.iload 5, 2) := by decide +kernel
theorem d_Ref_least_137 : decode b_Ref_least 137 = .ok (.iastore, 1) := by decide +kernel
theorem d_Ref_least_138 : decode b_Ref_least 138 = .ok (.iinc 2 1, 3) := by decide +kernel
theorem d_Ref_least_141 : decode b_Ref_least 141 = .ok (.iinc 4 1, 3) := by decide +kernel
theorem d_Ref_least_144 : decode b_Ref_least 144 = .ok (.goto (-69), 3) := by decide +kernel
theorem d_Ref_least_147 : decode b_Ref_least 147 = .ok (.iinc 3 1, 3) := by decide +kernel
theorem d_Ref_least_150 : decode b_Ref_least 150 = .ok (.goto (-83), 3) := by decide +kernel
theorem d_Ref_least_153 : decode b_Ref_least 153 = .ok (.aload_n 0, 1) := by decide +kernel
theorem d_Ref_least_154 : decode b_Ref_least 154 = .ok (.invokevirtual 196, 3) := by decide +kernel
theorem d_Ref_least_157 : decode b_Ref_least 157 = .ok (.ireturn, 1) := by decide +kernel
theorem d_Ref_comeTo_0 : decode b_Ref_comeTo 0 = .ok (.iconst 0, 1) := by decide +kernel
theorem d_Ref_comeTo_1 : decode b_Ref_comeTo 1 = .ok (.istore_n 1, 1) := by decide +kernel
theorem d_Ref_comeTo_2 : decode b_Ref_comeTo 2 = .ok (.iload_n 1, 1) := by decide +kernel
theorem d_Ref_comeTo_3 : decode b_Ref_comeTo 3 = .ok (.aload_n 0, 1) := by decide +kernel
theorem d_Ref_comeTo_4 : decode b_Ref_comeTo 4 = .ok (.getfield 113, 3) := by decide +kernel
theorem d_Ref_comeTo_7 : decode b_Ref_comeTo 7 = .ok (.if_icmp .ge 24, 3) := by decide +kernel
theorem d_Ref_comeTo_10 : decode b_Ref_comeTo 10 = .ok (.aload_n 0, 1) := by decide +kernel
theorem d_Ref_comeTo_11 : decode b_Ref_comeTo 11 = .ok (.getfield 45, 3) := by decide +kernel
theorem d_Ref_comeTo_14 : decode b_Ref_comeTo 14 = .ok (.iload_n 1, 1) := by decide +kernel
theorem d_Ref_comeTo_15 : decode b_Ref_comeTo 15 = .ok (.iload_n 1, 1) := by decide +kernel
theorem d_Ref_comeTo_16 : decode b_Ref_comeTo 16 = .ok (.ifCond .ne 7, 3) := by decide +kernel
theorem d_Ref_comeTo_19 : decode b_Ref_comeTo 19 = .ok (.iconst 1, 1) := by decide +kernel
theorem d_Ref_comeTo_20 : decode b_Ref_comeTo 20 = .ok (.goto 4, 3) := by decide +kernel
theorem d_Ref_comeTo_23 : decode b_Ref_comeTo 23 = .ok (.iconst 0, 1) := by decide +kernel
theorem d_Ref_comeTo_24 : decode b_Ref_comeTo 24 = .ok (.bastore, 1) := by decide +kernel
theorem d_Ref_comeTo_25 : decode b_Ref_comeTo 25 = .ok (.iinc 1 1, 3) := by decide +kernel
theorem d_Ref_comeTo_28 : decode b_Ref_comeTo 28 = .ok (.goto (-26), 3) := by decide +kernel
theorem d_Ref_comeTo_31 : decode b_Ref_comeTo 31 = .ok (.iconst 1, 1) := by decide +kernel
theorem d_Ref_comeTo_32 : decode b_Ref_comeTo 32 = .ok (.istore_n 1, 1) := by decide +kernel
theorem d_Ref_comeTo_33 : decode b_Ref_comeTo 33 = .ok (.aload_n 0, 1) := by decide +kernel
theorem d_Ref_comeTo_34 : decode b_Ref_comeTo 34 = .ok (.getfield 48, 3) := by decide +kernel
theorem d_Ref_comeTo_37 : decode b_Ref_comeTo 37 = .ok (.iconst 0, 1) := by decide +kernel
theorem d_Ref_comeTo_38 : decode b_Ref_comeTo 38 = .ok (.iconst 0, 1) := by decide +kernel
theorem d_Ref_comeTo_39 : decode b_Ref_comeTo 39 = .ok (.iastore, 1) := by decide +kernel
theorem d_Ref_comeTo_40 : decode b_Ref_comeTo 40 = .ok (.iconst 0, 1) := by decide +kernel
theorem d_Ref_comeTo_41 : decode b_Ref_comeTo 41 = .ok (.istore_n 2, 1) := by decide +kernel
theorem d_Ref_comeTo_42 : decode b_Ref_comeTo 42 = .ok (.iload_n 2, 1) := by decide +kernel
theorem d_Ref_comeTo_43 : decode b_Ref_comeTo 43 = .ok (.iload_n 1, 1) := by decide +kernel
theorem d_Ref_comeTo_44 : decode b_Ref_comeTo 44 = .ok (.if_icmp .ge 71, 3) := by decide +kernel
theorem d_Ref_comeTo_47 : decode b_Ref_comeTo 47 = .ok (.iconst 0, 1) := by decide +kernel
theorem d_Ref_comeTo_48 : decode b_Ref_comeTo 48 = .ok (.istore_n 3, 1) := by decide +kernel
theorem d_Ref_comeTo_49 : decode b_Ref_comeTo 49 = .ok (.iload_n 3, 1) := by decide +kernel
theorem d_Ref_comeTo_50 : decode b_Ref_comeTo 50 = .ok (.aload_n 0, 1) := by decide +kernel
theorem d_Ref_comeTo_51 : decode b_Ref_comeTo 51 = .ok (.getfield 93, 3) := by decide +kernel
theorem d_Ref_comeTo_54 : decode b_Ref_comeTo 54 = .ok (.if_icmp .ge 55, 3) := by decide +kernel
theorem d_Ref_comeTo_57 : decode b_Ref_comeTo 57 = .ok (.aload_n 0, 1) := by decide +kernel
theorem d_Ref_comeTo_58 : decode b_Ref_comeTo 58 = .ok (.getfield 32, 3) := by decide +kernel
theorem d_Ref_comeTo_61 : decode b_Ref_comeTo 61 = .ok (.iconst 4, 1) := by decide +kernel
theorem d_Ref_comeTo_62 : decode b_Ref_comeTo 62 = .ok (.aload_n 0, 1) := by decide +kernel
theorem d_Ref_comeTo_63 : decode b_Ref_comeTo 63 = .ok (.getfield 48, 3) := by decide +kernel
theorem d_Ref_comeTo_66 : decode b_Ref_comeTo 66 = .ok (.iload_n 2, 1) := by decide +kernel
theorem d_Ref_comeTo_67 : decode b_Ref_comeTo 67 = .ok (.iaload, 1) := by decide +kernel
theorem d_Ref_comeTo_68 : decode b_Ref_comeTo 68 = .ok (.imul, 1) := by decide +kernel
theorem d_Ref_comeTo_69 : decode b_Ref_comeTo 69 = .ok (.iload_n 3, 1) := by decide +kernel
theorem d_Ref_comeTo_70 : decode b_Ref_comeTo 70 = .ok (.iadd, 1) := by decide +kernel
theorem d_Ref_comeTo_71 : decode b_Ref_comeTo 71 = .ok (.iaload, 1) := by decide +kernel
theorem d_Ref_comeTo_72 : decode b_Ref_comeTo 72 = .ok (.istore 4, 2) := by decide +kernel
theorem d_Ref_comeTo_74 : decode b_Ref_comeTo 74 = .ok (.aload_n 0, 1) := by decide +kernel
theorem d_Ref_comeTo_75 : decode b_Ref_comeTo 75 = .ok (.getfield 45, 3) := by decide +kernel
theorem d_Ref_comeTo_78 : decode b_Ref_comeTo 78 = .ok (.iload 4, 2) := by decide +kernel
theorem d_Ref_comeTo_80 : decode b_Ref_comeTo 80 = .ok (.baload, 1) := by decide +kernel
theorem d_Ref_comeTo_81 : decode b_Ref_comeTo 81 = .ok (.ifCond .ne 22, 3) := by decide +kernel
theorem d_Ref_comeTo_84 : decode b_Ref_comeTo 84 = .ok (.aload_n 0, 1) := by decide +kernel
theorem d_Ref_comeTo_85 : decode b_Ref_comeTo 85 = .ok (.getfield 45, 3) := by decide +kernel
theorem d_Ref_comeTo_88 : decode b_Ref_comeTo 88 = .ok (.iload 4, 2) := by decide +kernel
theorem d_Ref_comeTo_90 : decode b_Ref_comeTo 90 = .ok (.iconst 1, 1) := by decide +kernel
theorem d_Ref_comeTo_91 : decode b_Ref_comeTo 91 = .ok (.bastore, 1) := by decide +kernel
theorem d_Ref_comeTo_92 : decode b_Ref_comeTo 92 = .ok (.aload_n 0, 1) := by decide +kernel
theorem d_Ref_comeTo_93 : decode b_Ref_comeTo 93 = .ok (.getfield 48, 3) := by decide +kernel
theorem d_Ref_comeTo_96 : decode b_Ref_comeTo 96 = .ok (.iload_n 1, 1) := by decide +kernel
theorem d_Ref_comeTo_97 : decode b_Ref_comeTo 97 = .ok (.iload 4, 2) := by decide +kernel
theorem d_Ref_comeTo_99 : decode b_Ref_comeTo 99 = .ok (.iastore, 1) := by decide +kernel
theorem d_Ref_comeTo_100 : decode b_Ref_comeTo 100 = .ok (.iinc 1 1, 3) := by decide +kernel
theorem d_Ref_comeTo_103 : decode b_Ref_comeTo 103 = .ok (.iinc 3 1, 3) := by decide +kernel
theorem d_Ref_comeTo_106 : decode b_Ref_comeTo 106 = .ok (.goto (-57), 3) := by decide +kernel
theorem d_Ref_comeTo_109 : decode b_Ref_comeTo 109 = .ok (.iinc 2 1, 3) := by decide +kernel
theorem d_Ref_comeTo_112 : decode b_Ref_comeTo 112 = .ok (.goto (-70), 3) := by decide +kernel
theorem d_Ref_comeTo_115 : decode b_Ref_comeTo 115 = .ok (.iload_n 1, 1) := by decide +kernel
theorem d_Ref_comeTo_116 : decode b_Ref_comeTo 116 = .ok (.ireturn, 1) := by decide +kernel
theorem d_Ref_parts_0 : decode b_Ref_parts 0 = .ok (.iconst 0, 1) := by decide +kernel
theorem d_Ref_parts_1 : decode b_Ref_parts 1 = .ok (.istore_n 2, 1) := by decide +kernel
theorem d_Ref_parts_2 : decode b_Ref_parts 2 = .ok (.iload_n 2, 1) := by decide +kernel
theorem d_Ref_parts_3 : decode b_Ref_parts 3 = .ok (.iload_n 1, 1) := by decide +kernel
theorem d_Ref_parts_4 : decode b_Ref_parts 4 = .ok (.if_icmp .ge 39, 3) := by decide +kernel
theorem d_Ref_parts_7 : decode b_Ref_parts 7 = .ok (.aload_n 0, 1) := by decide +kernel
theorem d_Ref_parts_8 : decode b_Ref_parts 8 = .ok (.getfield 51, 3) := by decide +kernel
theorem d_Ref_parts_11 : decode b_Ref_parts 11 = .ok (.aload_n 0, 1) := by decide +kernel
theorem d_Ref_parts_12 : decode b_Ref_parts 12 = .ok (.getfield 48, 3) := by decide +kernel
theorem d_Ref_parts_15 : decode b_Ref_parts 15 = .ok (.iload_n 2, 1) := by decide +kernel
theorem d_Ref_parts_16 : decode b_Ref_parts 16 = .ok (.iaload, 1) := by decide +kernel
theorem d_Ref_parts_17 : decode b_Ref_parts 17 = .ok (.aload_n 0, 1) := by decide +kernel
theorem d_Ref_parts_18 : decode b_Ref_parts 18 = .ok (.getfield 35, 3) := by decide +kernel
theorem d_Ref_parts_21 : decode b_Ref_parts 21 = .ok (.aload_n 0, 1) := by decide +kernel
theorem d_Ref_parts_22 : decode b_Ref_parts 22 = .ok (.getfield 48, 3) := by decide +kernel
theorem d_Ref_parts_25 : decode b_Ref_parts 25 = .ok (.iload_n 2, 1) := by decide +kernel
theorem d_Ref_parts_26 : decode b_Ref_parts 26 = .ok (.iaload, 1) := by decide +kernel
theorem d_Ref_parts_27 : decode b_Ref_parts 27 = .ok (.baload, 1) := by decide +kernel
theorem d_Ref_parts_28 : decode b_Ref_parts 28 = .ok (.ifCond .eq 7, 3) := by decide +kernel
theorem d_Ref_parts_31 : decode b_Ref_parts 31 = .ok (.iconst 1, 1) := by decide +kernel
theorem d_Ref_parts_32 : decode b_Ref_parts 32 = .ok (.goto 4, 3) := by decide +kernel
theorem d_Ref_parts_35 : decode b_Ref_parts 35 = .ok (.iconst 0, 1) := by decide +kernel
theorem d_Ref_parts_36 : decode b_Ref_parts 36 = .ok (.iastore, 1) := by decide +kernel
theorem d_Ref_parts_37 : decode b_Ref_parts 37 = .ok (.iinc 2 1, 3) := by decide +kernel
theorem d_Ref_parts_40 : decode b_Ref_parts 40 = .ok (.goto (-38), 3) := by decide +kernel
theorem d_Ref_parts_43 : decode b_Ref_parts 43 = .ok (.iconst 0, 1) := by decide +kernel
theorem d_Ref_parts_44 : decode b_Ref_parts 44 = .ok (.istore_n 2, 1) := by decide +kernel
theorem d_Ref_parts_45 : decode b_Ref_parts 45 = .ok (.aload_n 0, 1) := by decide +kernel
theorem d_Ref_parts_46 : decode b_Ref_parts 46 = .ok (.iconst 1, 1) := by decide +kernel
theorem d_Ref_parts_47 : decode b_Ref_parts 47 = .ok (.putfield 183, 3) := by decide +kernel
theorem d_Ref_parts_50 : decode b_Ref_parts 50 = .ok (.aload_n 0, 1) := by decide +kernel
theorem d_Ref_parts_51 : decode b_Ref_parts 51 = .ok (.getfield 183, 3) := by decide +kernel
theorem d_Ref_parts_54 : decode b_Ref_parts 54 = .ok (.iload_n 2, 1) := by decide +kernel
theorem d_Ref_parts_55 : decode b_Ref_parts 55 = .ok (.if_icmp .eq 156, 3) := by decide +kernel
theorem d_Ref_parts_58 : decode b_Ref_parts 58 = .ok (.aload_n 0, 1) := by decide +kernel
theorem d_Ref_parts_59 : decode b_Ref_parts 59 = .ok (.getfield 183, 3) := by decide +kernel
theorem d_Ref_parts_62 : decode b_Ref_parts 62 = .ok (.istore_n 2, 1) := by decide +kernel
theorem d_Ref_parts_63 : decode b_Ref_parts 63 = .ok (.aload_n 0, 1) := by decide +kernel
theorem d_Ref_parts_64 : decode b_Ref_parts 64 = .ok (.iconst 0, 1) := by decide +kernel
theorem d_Ref_parts_65 : decode b_Ref_parts 65 = .ok (.putfield 183, 3) := by decide +kernel
theorem d_Ref_parts_68 : decode b_Ref_parts 68 = .ok (.iconst 0, 1) := by decide +kernel
theorem d_Ref_parts_69 : decode b_Ref_parts 69 = .ok (.istore_n 3, 1) := by decide +kernel
theorem d_Ref_parts_70 : decode b_Ref_parts 70 = .ok (.iload_n 3, 1) := by decide +kernel
theorem d_Ref_parts_71 : decode b_Ref_parts 71 = .ok (.iload_n 1, 1) := by decide +kernel
theorem d_Ref_parts_72 : decode b_Ref_parts 72 = .ok (.if_icmp .ge 101, 3) := by decide +kernel
theorem d_Ref_parts_75 : decode b_Ref_parts 75 = .ok (.iconst 0, 1) := by decide +kernel
theorem d_Ref_parts_76 : decode b_Ref_parts 76 = .ok (.istore 4, 2) := by decide +kernel
theorem d_Ref_parts_78 : decode b_Ref_parts 78 = .ok (.iload 4, 2) := by decide +kernel
theorem d_Ref_parts_80 : decode b_Ref_parts 80 = .ok (.aload_n 0, 1) := by decide +kernel
theorem d_Ref_parts_81 : decode b_Ref_parts 81 = .ok (.getfield 183, 3) := by decide +kernel
theorem d_Ref_parts_84 : decode b_Ref_parts 84 = .ok (.if_icmp .ge 29, 3) := by decide +kernel
theorem d_Ref_parts_87 : decode b_Ref_parts 87 = .ok (.aload_n 0, 1) := by decide +kernel
theorem d_Ref_parts_88 : decode b_Ref_parts 88 = .ok (.aload_n 0, 1) := by decide +kernel
theorem d_Ref_parts_89 : decode b_Ref_parts 89 = .ok (.getfield 48, 3) := by decide +kernel
theorem d_Ref_parts_92 : decode b_Ref_parts 92 = .ok (.iload_n 3, 1) := by decide +kernel
theorem d_Ref_parts_93 : decode b_Ref_parts 93 = .ok (.iaload, 1) := by decide +kernel
theorem d_Ref_parts_94 : decode b_Ref_parts 94 = .ok (.aload_n 0, 1) := by decide +kernel
theorem d_Ref_parts_95 : decode b_Ref_parts 95 = .ok (.getfield 57, 3) := by decide +kernel
theorem d_Ref_parts_98 : decode b_Ref_parts 98 = .ok (.iload 4, 2) := by decide +kernel
theorem d_Ref_parts_100 : decode b_Ref_parts 100 = .ok (.iaload, 1) := by decide +kernel
theorem d_Ref_parts_101 : decode b_Ref_parts 101 = .ok (.invokevirtual 186, 3) := by decide +kernel
theorem d_Ref_parts_104 : decode b_Ref_parts 104 = .ok (.ifCond .ne 9, 3) := by decide +kernel
theorem d_Ref_parts_107 : decode b_Ref_parts 107 = .ok (.iinc 4 1, 3) := by decide +kernel
theorem d_Ref_parts_110 : decode b_Ref_parts 110 = .ok (.goto (-32), 3) := by decide +kernel
theorem d_Ref_parts_113 : decode b_Ref_parts 113 = .ok (.iload 4, 2) := by decide +kernel
theorem d_Ref_parts_115 : decode b_Ref_parts 115 = .ok (.bipush 40, 2) := by decide +kernel
theorem d_Ref_parts_117 : decode b_Ref_parts 117 = .ok (.if_icmp .ne 5, 3) := by decide +kernel
theorem d_Ref_parts_120 : decode b_Ref_parts 120 = .ok (.iconst 0, 1) := by decide +kernel
theorem d_Ref_parts_121 : decode b_Ref_parts 121 = .ok (.ireturn, 1) := by decide +kernel
theorem d_Ref_parts_122 : decode b_Ref_parts 122 = .ok (.iload 4, 2) := by decide +kernel
theorem d_Ref_parts_124 : decode b_Ref_parts 124 = .ok (.aload_n 0, 1) := by decide +kernel
theorem d_Ref_parts_125 : decode b_Ref_parts 125 = .ok (.getfield 183, 3) := by decide +kernel
theorem d_Ref_parts_128 : decode b_Ref_parts 128 = .ok (.if_icmp .ne 26, 3) := by decide +kernel
theorem d_Ref_parts_131 : decode b_Ref_parts 131 = .ok (.aload_n 0, 1) := by decide +kernel
theorem d_Ref_parts_132 : decode b_Ref_parts 132 = .ok (.getfield 57, 3) := by decide +kernel
theorem d_Ref_parts_135 : decode b_Ref_parts 135 = .ok (.iload 4, 2) := by decide +kernel
theorem d_Ref_parts_137 : decode b_Ref_parts 137 = .ok (.aload_n 0, 1) := by decide +kernel
theorem d_Ref_parts_138 : decode b_Ref_parts 138 = .ok (.getfield 48, 3) := by decide +kernel
theorem d_Ref_parts_141 : decode b_Ref_parts 141 = .ok (.iload_n 3, 1) := by decide +kernel
theorem d_Ref_parts_142 : decode b_Ref_parts 142 = .ok (.iaload, 1) := by decide +kernel
theorem d_Ref_parts_143 : decode b_Ref_parts 143 = .ok (.iastore, 1) := by decide +kernel
theorem d_Ref_parts_144 : decode b_Ref_parts 144 = .ok (.aload_n 0, 1) := by decide +kernel
theorem d_Ref_parts_145 : decode b_Ref_parts 145 = .ok (.dup, 1) := by decide +kernel
theorem d_Ref_parts_146 : decode b_Ref_parts 146 = .ok (.getfield 183, 3) := by decide +kernel
theorem d_Ref_parts_149 : decode b_Ref_parts 149 = .ok (.iconst 1, 1) := by decide +kernel
theorem d_Ref_parts_150 : decode b_Ref_parts 150 = .ok (.iadd, 1) := by decide +kernel
theorem d_Ref_parts_151 : decode b_Ref_parts 151 = .ok (.putfield 183, 3) := by decide +kernel
theorem d_Ref_parts_154 : decode b_Ref_parts 154 = .ok (.aload_n 0, 1) := by decide +kernel
theorem d_Ref_parts_155 : decode b_Ref_parts 155 = .ok (.getfield 54, 3) := by decide +kernel
theorem d_Ref_parts_158 : decode b_Ref_parts 158 = .ok (.aload_n 0, 1) := by decide +kernel
theorem d_Ref_parts_159 : decode b_Ref_parts 159 = .ok (.getfield 48, 3) := by decide +kernel
theorem d_Ref_parts_162 : decode b_Ref_parts 162 = .ok (.iload_n 3, 1) := by decide +kernel
theorem d_Ref_parts_163 : decode b_Ref_parts 163 = .ok (.iaload, 1) := by decide +kernel
theorem d_Ref_parts_164 : decode b_Ref_parts 164 = .ok (.iload 4, 2) := by decide +kernel
theorem d_Ref_parts_166 : decode b_Ref_parts 166 = .ok (.iastore, 1) := by decide +kernel
theorem d_Ref_parts_167 : decode b_Ref_parts 167 = .ok (.iinc 3 1, 3) := by decide +kernel
theorem d_Ref_parts_170 : decode b_Ref_parts 170 = .ok (.goto (-100), 3) := by decide +kernel
theorem d_Ref_parts_173 : decode b_Ref_parts 173 = .ok (.iconst 0, 1) := by decide +kernel
theorem d_Ref_parts_174 : decode b_Ref_parts 174 = .ok (.istore_n 3, 1) := by decide +kernel
theorem d_Ref_parts_175 : decode b_Ref_parts 175 = .ok (.iload_n 3, 1) := by decide +kernel
theorem d_Ref_parts_176 : decode b_Ref_parts 176 = .ok (.iload_n 1, 1) := by decide +kernel
theorem d_Ref_parts_177 : decode b_Ref_parts 177 = .ok (.if_icmp .ge 31, 3) := by decide +kernel
theorem d_Ref_parts_180 : decode b_Ref_parts 180 = .ok (.aload_n 0, 1) := by decide +kernel
theorem d_Ref_parts_181 : decode b_Ref_parts 181 = .ok (.getfield 51, 3) := by decide +kernel
theorem d_Ref_parts_184 : decode b_Ref_parts 184 = .ok (.aload_n 0, 1) := by decide +kernel
theorem d_Ref_parts_185 : decode b_Ref_parts 185 = .ok (.getfield 48, 3) := by decide +kernel
theorem d_Ref_parts_188 : decode b_Ref_parts 188 = .ok (.iload_n 3, 1) := by decide +kernel
theorem d_Ref_parts_189 : decode b_Ref_parts 189 = .ok (.iaload, 1) := by decide +kernel
theorem d_Ref_parts_190 : decode b_Ref_parts 190 = .ok (.aload_n 0, 1) := by decide +kernel
theorem d_Ref_parts_191 : decode b_Ref_parts 191 = .ok (.getfield 54, 3) := by decide +kernel
theorem d_Ref_parts_194 : decode b_Ref_parts 194 = .ok (.aload_n 0, 1) := by decide +kernel
theorem d_Ref_parts_195 : decode b_Ref_parts 195 = .ok (.getfield 48, 3) := by decide +kernel
theorem d_Ref_parts_198 : decode b_Ref_parts 198 = .ok (.iload_n 3, 1) := by decide +kernel
theorem d_Ref_parts_199 : decode b_Ref_parts 199 = .ok (.iaload, 1) := by decide +kernel
theorem d_Ref_parts_200 : decode b_Ref_parts 200 = .ok (.iaload, 1) := by decide +kernel
theorem d_Ref_parts_201 : decode b_Ref_parts 201 = .ok (.iastore, 1) := by decide +kernel
theorem d_Ref_parts_202 : decode b_Ref_parts 202 = .ok (.iinc 3 1, 3) := by decide +kernel
theorem d_Ref_parts_205 : decode b_Ref_parts 205 = .ok (.goto (-30), 3) := by decide +kernel
theorem d_Ref_parts_208 : decode b_Ref_parts 208 = .ok (.goto (-158), 3) := by decide +kernel
theorem d_Ref_parts_211 : decode b_Ref_parts 211 = .ok (.iconst 1, 1) := by decide +kernel
theorem d_Ref_parts_212 : decode b_Ref_parts 212 = .ok (.ireturn, 1) := by decide +kernel
theorem d_Ref_isSameClass_0 : decode b_Ref_isSameClass 0 = .ok (.aload_n 0, 1) := by decide +kernel
theorem d_Ref_isSameClass_1 : decode b_Ref_isSameClass 1 = .ok (.getfield 51, 3) := by decide +kernel
theorem d_Ref_isSameClass_4 : decode b_Ref_isSameClass 4 = .ok (.iload_n 1, 1) := by decide +kernel
theorem d_Ref_isSameClass_5 : decode b_Ref_isSameClass 5 = .ok (.iaload, 1) := by decide +kernel
theorem d_Ref_isSameClass_6 : decode b_Ref_isSameClass 6 = .ok (.aload_n 0, 1) := by decide +kernel
theorem d_Ref_isSameClass_7 : decode b_Ref_isSameClass 7 = .ok (.getfield 51, 3) := by decide +kernel
theorem d_Ref_isSameClass_10 : decode b_Ref_isSameClass 10 = .ok (.iload_n 2, 1) := by decide +kernel
theorem d_Ref_isSameClass_11 : decode b_Ref_isSameClass 11 = .ok (.iaload, 1) := by decide +kernel
theorem d_Ref_isSameClass_12 : decode b_Ref_isSameClass 12 = .ok (.if_icmp .ne 7, 3) := by decide +kernel
theorem d_Ref_isSameClass_15 : decode b_Ref_isSameClass 15 = .ok (.iconst 1, 1) := by decide +kernel
theorem d_Ref_isSameClass_16 : decode b_Ref_isSameClass 16 = .ok (.goto 4, 3) := by decide +kernel
theorem d_Ref_isSameClass_19 : decode b_Ref_isSameClass 19 = .ok (.iconst 0, 1) := by decide +kernel
theorem d_Ref_isSameClass_20 : decode b_Ref_isSameClass 20 = .ok (.istore_n 3, 1) := by decide +kernel
theorem d_Ref_isSameClass_21 : decode b_Ref_isSameClass 21 = .ok (.iconst 0, 1) := by decide +kernel
theorem d_Ref_isSameClass_22 : decode b_Ref_isSameClass 22 = .ok (.istore 4, 2) := by decide +kernel
theorem d_Ref_isSameClass_24 : decode b_Ref_isSameClass 24 = .ok (.iload 4, 2) := by decide +kernel
theorem d_Ref_isSameClass_26 : decode b_Ref_isSameClass 26 = .ok (.aload_n 0, 1) := by decide +kernel
theorem d_Ref_isSameClass_27 : decode b_Ref_isSameClass 27 = .ok (.getfield 93, 3) := by decide +kernel
theorem d_Ref_isSameClass_30 : decode b_Ref_isSameClass 30 = .ok (.if_icmp .ge 54, 3) := by decide +kernel
theorem d_Ref_isSameClass_33 : decode b_Ref_isSameClass 33 = .ok (.iload_n 3, 1) := by decide +kernel
theorem d_Ref_isSameClass_34 : decode b_Ref_isSameClass 34 = .ok (.ifCond .eq 50, 3) := by decide +kernel
theorem d_Ref_isSameClass_37 : decode b_Ref_isSameClass 37 = .ok (.aload_n 0, 1) := by decide +kernel
theorem d_Ref_isSameClass_38 : decode b_Ref_isSameClass 38 = .ok (.getfield 51, 3) := by decide +kernel
theorem d_Ref_isSameClass_41 : decode b_Ref_isSameClass 41 = .ok (.aload_n 0, 1) := by decide +kernel
theorem d_Ref_isSameClass_42 : decode b_Ref_isSameClass 42 = .ok (.getfield 32, 3) := by decide +kernel
theorem d_Ref_isSameClass_45 : decode b_Ref_isSameClass 45 = .ok (.iconst 4, 1) := by decide +kernel
theorem d_Ref_isSameClass_46 : decode b_Ref_isSameClass 46 = .ok (.iload_n 1, 1) := by decide +kernel
theorem d_Ref_isSameClass_47 : decode b_Ref_isSameClass 47 = .ok (.imul, 1) := by decide +kernel
theorem d_Ref_isSameClass_48 : decode b_Ref_isSameClass 48 = .ok (.iload 4, 2) := by decide +kernel
theorem d_Ref_isSameClass_50 : decode b_Ref_isSameClass 50 = .ok (.iadd, 1) := by decide +kernel
theorem d_Ref_isSameClass_51 : decode b_Ref_isSameClass 51 = .ok (.iaload, 1) := by decide +kernel
theorem d_Ref_isSameClass_52 : decode b_Ref_isSameClass 52 = .ok (.iaload, 1) := by decide +kernel
theorem d_Ref_isSameClass_53 : decode b_Ref_isSameClass 53 = .ok (.aload_n 0, 1) := by decide +kernel
theorem d_Ref_isSameClass_54 : decode b_Ref_isSameClass 54 = .ok (.getfield 51, 3) := by decide +kernel
theorem d_Ref_isSameClass_57 : decode b_Ref_isSameClass 57 = .ok (.aload_n 0, 1) := by decide +kernel
theorem d_Ref_isSameClass_58 : decode b_Ref_isSameClass 58 = .ok (.getfield 32, 3) := by decide +kernel
theorem d_Ref_isSameClass_61 : decode b_Ref_isSameClass 61 = .ok (.iconst 4, 1) := by decide +kernel
theorem d_Ref_isSameClass_62 : decode b_Ref_isSameClass 62 = .ok (.iload_n 2, 1) := by decide +kernel
theorem d_Ref_isSameClass_63 : decode b_Ref_isSameClass 63 = .ok (.imul, 1) := by decide +kernel
theorem d_Ref_isSameClass_64 : decode b_Ref_isSameClass 64 = .ok (.iload 4, 2) := by decide +kernel
theorem d_Ref_isSameClass_66 : decode b_Ref_isSameClass 66 = .ok (.iadd, 1) := by decide +kernel
theorem d_Ref_isSameClass_67 : decode b_Ref_isSameClass 67 = .ok (.iaload, 1) := by decide +kernel
theorem d_Ref_isSameClass_68 : decode b_Ref_isSameClass 68 = .ok (.iaload, 1) := by decide +kernel
theorem d_Ref_isSameClass_69 : decode b_Ref_isSameClass 69 = .ok (.if_icmp .ne 7, 3) := by decide +kernel
theorem d_Ref_isSameClass_72 : decode b_Ref_isSameClass 72 = .ok (.iconst 1, 1) := by decide +kernel
theorem d_Ref_isSameClass_73 : decode b_Ref_isSameClass 73 = .ok (.goto 4, 3) := by decide +kernel
theorem d_Ref_isSameClass_76 : decode b_Ref_isSameClass 76 = .ok (.iconst 0, 1) := by decide +kernel
theorem d_Ref_isSameClass_77 : decode b_Ref_isSameClass 77 = .ok (.istore_n 3, 1) := by decide +kernel
theorem d_Ref_isSameClass_78 : decode b_Ref_isSameClass 78 = .ok (.iinc 4 1, 3) := by decide +kernel
theorem d_Ref_isSameClass_81 : decode b_Ref_isSameClass 81 = .ok (.goto (-57), 3) := by decide +kernel
theorem d_Ref_isSameClass_84 : decode b_Ref_isSameClass 84 = .ok (.iload_n 3, 1) := by decide +kernel
theorem d_Ref_isSameClass_85 : decode b_Ref_isSameClass 85 = .ok (.ireturn, 1) := by decide +kernel
theorem d_Ref_lay_0 : decode b_Ref_lay 0 = .ok (.lconst 0, 1) := by decide +kernel
theorem d_Ref_lay_1 : decode b_Ref_lay 1 = .ok (.lstore_n 1, 1) := by decide +kernel
theorem d_Ref_lay_2 : decode b_Ref_lay 2 = .ok (.iconst 0, 1) := by decide +kernel
theorem d_Ref_lay_3 : decode b_Ref_lay 3 = .ok (.istore_n 3, 1) := by decide +kernel
theorem d_Ref_lay_4 : decode b_Ref_lay 4 = .ok (.iload_n 3, 1) := by decide +kernel
theorem d_Ref_lay_5 : decode b_Ref_lay 5 = .ok (.aload_n 0, 1) := by decide +kernel
theorem d_Ref_lay_6 : decode b_Ref_lay 6 = .ok (.getfield 183, 3) := by decide +kernel
theorem d_Ref_lay_9 : decode b_Ref_lay 9 = .ok (.if_icmp .ge 93, 3) := by decide +kernel
theorem d_Ref_lay_12 : decode b_Ref_lay 12 = .ok (.aload_n 0, 1) := by decide +kernel
theorem d_Ref_lay_13 : decode b_Ref_lay 13 = .ok (.getfield 57, 3) := by decide +kernel
theorem d_Ref_lay_16 : decode b_Ref_lay 16 = .ok (.aload_n 0, 1) := by decide +kernel
theorem d_Ref_lay_17 : decode b_Ref_lay 17 = .ok (.getfield 63, 3) := by decide +kernel
theorem d_Ref_lay_20 : decode b_Ref_lay 20 = .ok (.iload_n 3, 1) := by decide +kernel
theorem d_Ref_lay_21 : decode b_Ref_lay 21 = .ok (.iaload, 1) := by decide +kernel
theorem d_Ref_lay_22 : decode b_Ref_lay 22 = .ok (.iaload, 1) := by decide +kernel
theorem d_Ref_lay_23 : decode b_Ref_lay 23 = .ok (.istore 4, 2) := by decide +kernel
theorem d_Ref_lay_25 : decode b_Ref_lay 25 = .ok (.lload_n 1, 1) := by decide +kernel
theorem d_Ref_lay_26 : decode b_Ref_lay 26 = .ok (.aload_n 0, 1) := by decide +kernel
theorem d_Ref_lay_27 : decode b_Ref_lay 27 = .ok (.getfield 35, 3) := by decide +kernel
theorem d_Ref_lay_30 : decode b_Ref_lay 30 = .ok (.iload 4, 2) := by decide +kernel
theorem d_Ref_lay_32 : decode b_Ref_lay 32 = .ok (.baload, 1) := by decide +kernel
theorem d_Ref_lay_33 : decode b_Ref_lay 33 = .ok (.ifCond .eq 9, 3) := by decide +kernel
theorem d_Ref_lay_36 : decode b_Ref_lay 36 = .ok (.lconst 1, 1) := by decide +kernel
theorem d_Ref_lay_37 : decode b_Ref_lay 37 = .ok (.iload_n 3, 1) := by decide +kernel
theorem d_Ref_lay_38 : decode b_Ref_lay 38 = .ok (.lshl, 1) := by decide +kernel
theorem d_Ref_lay_39 : decode b_Ref_lay 39 = .ok (.goto 4, 3) := by decide +kernel
theorem d_Ref_lay_42 : decode b_Ref_lay 42 = .ok (.lconst 0, 1) := by decide +kernel
theorem d_Ref_lay_43 : decode b_Ref_lay 43 = .ok (.lor, 1) := by decide +kernel
theorem d_Ref_lay_44 : decode b_Ref_lay 44 = .ok (.lstore_n 1, 1) := by decide +kernel
theorem d_Ref_lay_45 : decode b_Ref_lay 45 = .ok (.iconst 0, 1) := by decide +kernel
theorem d_Ref_lay_46 : decode b_Ref_lay 46 = .ok (.istore 5, 2) := by decide +kernel
theorem d_Ref_lay_48 : decode b_Ref_lay 48 = .ok (.iload 5, 2) := by decide +kernel
theorem d_Ref_lay_50 : decode b_Ref_lay 50 = .ok (.aload_n 0, 1) := by decide +kernel
theorem d_Ref_lay_51 : decode b_Ref_lay 51 = .ok (.getfield 93, 3) := by decide +kernel
theorem d_Ref_lay_54 : decode b_Ref_lay 54 = .ok (.if_icmp .ge 42, 3) := by decide +kernel
theorem d_Ref_lay_57 : decode b_Ref_lay 57 = .ok (.aload_n 0, 1) := by decide +kernel
theorem d_Ref_lay_58 : decode b_Ref_lay 58 = .ok (.getfield 66, 3) := by decide +kernel
theorem d_Ref_lay_61 : decode b_Ref_lay 61 = .ok (.iconst 4, 1) := by decide +kernel
theorem d_Ref_lay_62 : decode b_Ref_lay 62 = .ok (.iload_n 3, 1) := by decide +kernel
theorem d_Ref_lay_63 : decode b_Ref_lay 63 = .ok (.imul, 1) := by decide +kernel
theorem d_Ref_lay_64 : decode b_Ref_lay 64 = .ok (.iload 5, 2) := by decide +kernel
theorem d_Ref_lay_66 : decode b_Ref_lay 66 = .ok (.iadd, 1) := by decide +kernel
theorem d_Ref_lay_67 : decode b_Ref_lay 67 = .ok (.aload_n 0, 1) := by decide +kernel
theorem d_Ref_lay_68 : decode b_Ref_lay 68 = .ok (.getfield 60, 3) := by decide +kernel
theorem d_Ref_lay_71 : decode b_Ref_lay 71 = .ok (.aload_n 0, 1) := by decide +kernel
theorem d_Ref_lay_72 : decode b_Ref_lay 72 = .ok (.getfield 51, 3) := by decide +kernel
theorem d_Ref_lay_75 : decode b_Ref_lay 75 = .ok (.aload_n 0, 1) := by decide +kernel
theorem d_Ref_lay_76 : decode b_Ref_lay 76 = .ok (.getfield 32, 3) := by decide +kernel
theorem d_Ref_lay_79 : decode b_Ref_lay 79 = .ok (.iconst 4, 1) := by decide +kernel
theorem d_Ref_lay_80 : decode b_Ref_lay 80 = .ok (.iload 4, 2) := by decide +kernel
theorem d_Ref_lay_82 : decode b_Ref_lay 82 = .ok (.imul, 1) := by decide +kernel
theorem d_Ref_lay_83 : decode b_Ref_lay 83 = .ok (.iload 5, 2) := by decide +kernel
theorem d_Ref_lay_85 : decode b_Ref_lay 85 = .ok (.iadd, 1) := by decide +kernel
theorem d_Ref_lay_86 : decode b_Ref_lay 86 = .ok (.iaload, 1) := by decide +kernel
theorem d_Ref_lay_87 : decode b_Ref_lay 87 = .ok (.iaload, 1) := by decide +kernel
theorem d_Ref_lay_88 : decode b_Ref_lay 88 = .ok (.iaload, 1) := by decide +kernel
theorem d_Ref_lay_89 : decode b_Ref_lay 89 = .ok (.iastore, 1) := by decide +kernel
theorem d_Ref_lay_90 : decode b_Ref_lay 90 = .ok (.iinc 5 1, 3) := by decide +kernel
theorem d_Ref_lay_93 : decode b_Ref_lay 93 = .ok (.goto (-45), 3) := by decide +kernel
theorem d_Ref_lay_96 : decode b_Ref_lay 96 = .ok (.iinc 3 1, 3) := by decide +kernel
theorem d_Ref_lay_99 : decode b_Ref_lay 99 = .ok (.goto (-95), 3) := by decide +kernel
theorem d_Ref_lay_102 : decode b_Ref_lay 102 = .ok (.iconst 0, 1) := by decide +kernel
theorem d_Ref_lay_103 : decode b_Ref_lay 103 = .ok (.istore_n 3, 1) := by decide +kernel
theorem d_Ref_lay_104 : decode b_Ref_lay 104 = .ok (.iload_n 3, 1) := by decide +kernel
theorem d_Ref_lay_105 : decode b_Ref_lay 105 = .ok (.aload_n 0, 1) := by decide +kernel
theorem d_Ref_lay_106 : decode b_Ref_lay 106 = .ok (.getfield 97, 3) := by decide +kernel
theorem d_Ref_lay_109 : decode b_Ref_lay 109 = .ok (.if_icmp .ge 20, 3) := by decide +kernel
theorem d_Ref_lay_112 : decode b_Ref_lay 112 = .ok (.aload_n 0, 1) := by decide +kernel
theorem d_Ref_lay_113 : decode b_Ref_lay 113 = .ok (.iload_n 3, 1) := by decide +kernel
theorem d_Ref_lay_114 : decode b_Ref_lay 114 = .ok (.lload_n 1, 1) := by decide +kernel
theorem d_Ref_lay_115 : decode b_Ref_lay 115 = .ok (.invokevirtual 199, 3) := by decide +kernel
theorem d_Ref_lay_118 : decode b_Ref_lay 118 = .ok (.ifCond .eq 5, 3) := by decide +kernel
theorem d_Ref_lay_121 : decode b_Ref_lay 121 = .ok (.iload_n 3, 1) := by decide +kernel
theorem d_Ref_lay_122 : decode b_Ref_lay 122 = .ok (.ireturn, 1) := by decide +kernel
theorem d_Ref_lay_123 : decode b_Ref_lay 123 = .ok (.iinc 3 1, 3) := by decide +kernel
theorem d_Ref_lay_126 : decode b_Ref_lay 126 = .ok (.goto (-22), 3) := by decide +kernel
theorem d_Ref_lay_129 : decode b_Ref_lay 129 = .ok (.aload_n 0, 1) := by decide +kernel
theorem d_Ref_lay_130 : decode b_Ref_lay 130 = .ok (.getfield 97, 3) := by decide +kernel
theorem d_Ref_lay_133 : decode b_Ref_lay 133 = .ok (.bipush 60, 2) := by decide +kernel
theorem d_Ref_lay_135 : decode b_Ref_lay 135 = .ok (.if_icmp .ne 6, 3) := by decide +kernel
theorem d_Ref_lay_138 : decode b_Ref_lay 138 = .ok (.bipush (-3), 2) := by decide +kernel
theorem d_Ref_lay_140 : decode b_Ref_lay 140 = .ok (.ireturn, 1) := by decide +kernel
theorem d_Ref_lay_141 : decode b_Ref_lay 141 = .ok (.aload_n 0, 1) := by decide +kernel
theorem d_Ref_lay_142 : decode b_Ref_lay 142 = .ok (.getfield 7, 3) := by decide +kernel
theorem d_Ref_lay_145 : decode b_Ref_lay 145 = .ok (.aload_n 0, 1) := by decide +kernel
theorem d_Ref_lay_146 : decode b_Ref_lay 146 = .ok (.getfield 97, 3) := by decide +kernel
theorem d_Ref_lay_149 : decode b_Ref_lay 149 = .ok (.aload_n 0, 1) := by decide +kernel
theorem d_Ref_lay_150 : decode b_Ref_lay 150 = .ok (.getfield 183, 3) := by decide +kernel
theorem d_Ref_lay_153 : decode b_Ref_lay 153 = .ok (.iastore, 1) := by decide +kernel
theorem d_Ref_lay_154 : decode b_Ref_lay 154 = .ok (.aload_n 0, 1) := by decide +kernel
theorem d_Ref_lay_155 : decode b_Ref_lay 155 = .ok (.getfield 16, 3) := by decide +kernel
theorem d_Ref_lay_158 : decode b_Ref_lay 158 = .ok (.aload_n 0, 1) := by decide +kernel
theorem d_Ref_lay_159 : decode b_Ref_lay 159 = .ok (.getfield 97, 3) := by decide +kernel
theorem d_Ref_lay_162 : decode b_Ref_lay 162 = .ok (.lload_n 1, 1) := by decide +kernel
theorem d_Ref_lay_163 : decode b_Ref_lay 163 = .ok (.lastore, 1) := by decide +kernel
theorem d_Ref_lay_164 : decode b_Ref_lay 164 = .ok (.iconst 0, 1) := by decide +kernel
theorem d_Ref_lay_165 : decode b_Ref_lay 165 = .ok (.istore_n 3, 1) := by decide +kernel
theorem d_Ref_lay_166 : decode b_Ref_lay 166 = .ok (.iload_n 3, 1) := by decide +kernel
theorem d_Ref_lay_167 : decode b_Ref_lay 167 = .ok (.iconst 4, 1) := by decide +kernel
theorem d_Ref_lay_168 : decode b_Ref_lay 168 = .ok (.aload_n 0, 1) := by decide +kernel
theorem d_Ref_lay_169 : decode b_Ref_lay 169 = .ok (.getfield 183, 3) := by decide +kernel
theorem d_Ref_lay_172 : decode b_Ref_lay 172 = .ok (.imul, 1) := by decide +kernel
theorem d_Ref_lay_173 : decode b_Ref_lay 173 = .ok (.if_icmp .ge 30, 3) := by decide +kernel
theorem d_Ref_lay_176 : decode b_Ref_lay 176 = .ok (.aload_n 0, 1) := by decide +kernel
theorem d_Ref_lay_177 : decode b_Ref_lay 177 = .ok (.getfield 13, 3) := by decide +kernel
theorem d_Ref_lay_180 : decode b_Ref_lay 180 = .ok (.sipush 160, 3) := by decide +kernel
theorem d_Ref_lay_183 : decode b_Ref_lay 183 = .ok (.aload_n 0, 1) := by decide +kernel
theorem d_Ref_lay_184 : decode b_Ref_lay 184 = .ok (.getfield 97, 3) := by decide +kernel
theorem d_Ref_lay_187 : decode b_Ref_lay 187 = .ok (.imul, 1) := by decide +kernel
theorem d_Ref_lay_188 : decode b_Ref_lay 188 = .ok (.iload_n 3, 1) := by decide +kernel
theorem d_Ref_lay_189 : decode b_Ref_lay 189 = .ok (.iadd, 1) := by decide +kernel
theorem d_Ref_lay_190 : decode b_Ref_lay 190 = .ok (.aload_n 0, 1) := by decide +kernel
theorem d_Ref_lay_191 : decode b_Ref_lay 191 = .ok (.getfield 66, 3) := by decide +kernel
theorem d_Ref_lay_194 : decode b_Ref_lay 194 = .ok (.iload_n 3, 1) := by decide +kernel
theorem d_Ref_lay_195 : decode b_Ref_lay 195 = .ok (.iaload, 1) := by decide +kernel
theorem d_Ref_lay_196 : decode b_Ref_lay 196 = .ok (.iastore, 1) := by decide +kernel
theorem d_Ref_lay_197 : decode b_Ref_lay 197 = .ok (.iinc 3 1, 3) := by decide +kernel
theorem d_Ref_lay_200 : decode b_Ref_lay 200 = .ok (.goto (-34), 3) := by decide +kernel
theorem d_Ref_lay_203 : decode b_Ref_lay 203 = .ok (.aload_n 0, 1) := by decide +kernel
theorem d_Ref_lay_204 : decode b_Ref_lay 204 = .ok (.dup, 1) := by decide +kernel
theorem d_Ref_lay_205 : decode b_Ref_lay 205 = .ok (.getfield 97, 3) := by decide +kernel
theorem d_Ref_lay_208 : decode b_Ref_lay 208 = .ok (.iconst 1, 1) := by decide +kernel
theorem d_Ref_lay_209 : decode b_Ref_lay 209 = .ok (.iadd, 1) := by decide +kernel
theorem d_Ref_lay_210 : decode b_Ref_lay 210 = .ok (.putfield 97, 3) := by decide +kernel
theorem d_Ref_lay_213 : decode b_Ref_lay 213 = .ok (.aload_n 0, 1) := by decide +kernel
theorem d_Ref_lay_214 : decode b_Ref_lay 214 = .ok (.getfield 97, 3) := by decide +kernel
theorem d_Ref_lay_217 : decode b_Ref_lay 217 = .ok (.iconst 1, 1) := by decide +kernel
theorem d_Ref_lay_218 : decode b_Ref_lay 218 = .ok (.isub, 1) := by decide +kernel
theorem d_Ref_lay_219 : decode b_Ref_lay 219 = .ok (.ireturn, 1) := by decide +kernel
theorem d_Ref_isThat_0 : decode b_Ref_isThat 0 = .ok (.aload_n 0, 1) := by decide +kernel
theorem d_Ref_isThat_1 : decode b_Ref_isThat 1 = .ok (.getfield 7, 3) := by decide +kernel
theorem d_Ref_isThat_4 : decode b_Ref_isThat 4 = .ok (.iload_n 1, 1) := by decide +kernel
theorem d_Ref_isThat_5 : decode b_Ref_isThat 5 = .ok (.iaload, 1) := by decide +kernel
theorem d_Ref_isThat_6 : decode b_Ref_isThat 6 = .ok (.aload_n 0, 1) := by decide +kernel
theorem d_Ref_isThat_7 : decode b_Ref_isThat 7 = .ok (.getfield 183, 3) := by decide +kernel
theorem d_Ref_isThat_10 : decode b_Ref_isThat 10 = .ok (.if_icmp .ne 18, 3) := by decide +kernel
theorem d_Ref_isThat_13 : decode b_Ref_isThat 13 = .ok (.aload_n 0, 1) := by decide +kernel
theorem d_Ref_isThat_14 : decode b_Ref_isThat 14 = .ok (.getfield 16, 3) := by decide +kernel
theorem d_Ref_isThat_17 : decode b_Ref_isThat 17 = .ok (.iload_n 1, 1) := by decide +kernel
theorem d_Ref_isThat_18 : decode b_Ref_isThat 18 = .ok (.laload, 1) := by decide +kernel
theorem d_Ref_isThat_19 : decode b_Ref_isThat 19 = .ok (.lload_n 2, 1) := by decide +kernel
theorem d_Ref_isThat_20 : decode b_Ref_isThat 20 = .ok (.lcmp, 1) := by decide +kernel
theorem d_Ref_isThat_21 : decode b_Ref_isThat 21 = .ok (.ifCond .ne 7, 3) := by decide +kernel
theorem d_Ref_isThat_24 : decode b_Ref_isThat 24 = .ok (.iconst 1, 1) := by decide +kernel
theorem d_Ref_isThat_25 : decode b_Ref_isThat 25 = .ok (.goto 4, 3) := by decide +kernel
theorem d_Ref_isThat_28 : decode b_Ref_isThat 28 = .ok (.iconst 0, 1) := by decide +kernel
theorem d_Ref_isThat_29 : decode b_Ref_isThat 29 = .ok (.istore 4, 2) := by decide +kernel
theorem d_Ref_isThat_31 : decode b_Ref_isThat 31 = .ok (.iconst 0, 1) := by decide +kernel
theorem d_Ref_isThat_32 : decode b_Ref_isThat 32 = .ok (.istore 5, 2) := by decide +kernel
theorem d_Ref_isThat_34 : decode b_Ref_isThat 34 = .ok (.iload 5, 2) := by decide +kernel
theorem d_Ref_isThat_36 : decode b_Ref_isThat 36 = .ok (.aload_n 0, 1) := by decide +kernel
theorem d_Ref_isThat_37 : decode b_Ref_isThat 37 = .ok (.getfield 183, 3) := by decide +kernel
theorem d_Ref_isThat_40 : decode b_Ref_isThat 40 = .ok (.if_icmp .ge 68, 3) := by decide +kernel
theorem d_Ref_isThat_43 : decode b_Ref_isThat 43 = .ok (.iload 4, 2) := by decide +kernel
theorem d_Ref_isThat_45 : decode b_Ref_isThat 45 = .ok (.ifCond .eq 63, 3) := by decide +kernel
theorem d_Ref_isThat_48 : decode b_Ref_isThat 48 = .ok (.iconst 0, 1) := by decide +kernel
theorem d_Ref_isThat_49 : decode b_Ref_isThat 49 = .ok (.istore 6, 2) := by decide +kernel
theorem d_Ref_isThat_51 : decode b_Ref_isThat 51 = .ok (.iload 6, 2) := by decide +kernel
theorem d_Ref_isThat_53 : decode b_Ref_isThat 53 = .ok (.aload_n 0, 1) := by decide +kernel
theorem d_Ref_isThat_54 : decode b_Ref_isThat 54 = .ok (.getfield 93, 3) := by decide +kernel
theorem d_Ref_isThat_57 : decode b_Ref_isThat 57 = .ok (.if_icmp .ge 45, 3) := by decide +kernel
theorem d_Ref_isThat_60 : decode b_Ref_isThat 60 = .ok (.iload 4, 2) := by decide +kernel
theorem d_Ref_isThat_62 : decode b_Ref_isThat 62 = .ok (.ifCond .eq 31, 3) := by decide +kernel
theorem d_Ref_isThat_65 : decode b_Ref_isThat 65 = .ok (.aload_n 0, 1) := by decide +kernel
theorem d_Ref_isThat_66 : decode b_Ref_isThat 66 = .ok (.getfield 66, 3) := by decide +kernel
theorem d_Ref_isThat_69 : decode b_Ref_isThat 69 = .ok (.iconst 4, 1) := by decide +kernel
theorem d_Ref_isThat_70 : decode b_Ref_isThat 70 = .ok (.iload 5, 2) := by decide +kernel
theorem d_Ref_isThat_72 : decode b_Ref_isThat 72 = .ok (.imul, 1) := by decide +kernel
theorem d_Ref_isThat_73 : decode b_Ref_isThat 73 = .ok (.iload 6, 2) := by decide +kernel
theorem d_Ref_isThat_75 : decode b_Ref_isThat 75 = .ok (.iadd, 1) := by decide +kernel
theorem d_Ref_isThat_76 : decode b_Ref_isThat 76 = .ok (.iaload, 1) := by decide +kernel
theorem d_Ref_isThat_77 : decode b_Ref_isThat 77 = .ok (.aload_n 0, 1) := by decide +kernel
theorem d_Ref_isThat_78 : decode b_Ref_isThat 78 = .ok (.iload_n 1, 1) := by decide +kernel
theorem d_Ref_isThat_79 : decode b_Ref_isThat 79 = .ok (.iload 5, 2) := by decide +kernel
theorem d_Ref_isThat_81 : decode b_Ref_isThat 81 = .ok (.iload 6, 2) := by decide +kernel
theorem d_Ref_isThat_83 : decode b_Ref_isThat 83 = .ok (.invokevirtual 135, 3) := by decide +kernel
theorem d_Ref_isThat_86 : decode b_Ref_isThat 86 = .ok (.if_icmp .ne 7, 3) := by decide +kernel
theorem d_Ref_isThat_89 : decode b_Ref_isThat 89 = .ok (.iconst 1, 1) := by decide +kernel
theorem d_Ref_isThat_90 : decode b_Ref_isThat 90 = .ok (.goto 4, 3) := by decide +kernel
theorem d_Ref_isThat_93 : decode b_Ref_isThat 93 = .ok (.iconst 0, 1) := by decide +kernel
theorem d_Ref_isThat_94 : decode b_Ref_isThat 94 = .ok (.istore 4, 2) := by decide +kernel
theorem d_Ref_isThat_96 : decode b_Ref_isThat 96 = .ok (.iinc 6 1, 3) := by decide +kernel
theorem d_Ref_isThat_99 : decode b_Ref_isThat 99 = .ok (.goto (-48), 3) := by decide +kernel
theorem d_Ref_isThat_102 : decode b_Ref_isThat 102 = .ok (.iinc 5 1, 3) := by decide +kernel
theorem d_Ref_isThat_105 : decode b_Ref_isThat 105 = .ok (.goto (-71), 3) := by decide +kernel
theorem d_Ref_isThat_108 : decode b_Ref_isThat 108 = .ok (.iload 4, 2) := by decide +kernel
theorem d_Ref_isThat_110 : decode b_Ref_isThat 110 = .ok (.ireturn, 1) := by decide +kernel
theorem d_Ref_nextOf_0 : decode b_Ref_nextOf 0 = .ok (.aload_n 0, 1) := by decide +kernel
theorem d_Ref_nextOf_1 : decode b_Ref_nextOf 1 = .ok (.getfield 13, 3) := by decide +kernel
theorem d_Ref_nextOf_4 : decode b_Ref_nextOf 4 = .ok (.sipush 160, 3) := by decide +kernel
theorem d_Ref_nextOf_7 : decode b_Ref_nextOf 7 = .ok (.iload_n 1, 1) := by decide +kernel
theorem d_Ref_nextOf_8 : decode b_Ref_nextOf 8 = .ok (.imul, 1) := by decide +kernel
theorem d_Ref_nextOf_9 : decode b_Ref_nextOf 9 = .ok (.iconst 4, 1) := by decide +kernel
theorem d_Ref_nextOf_10 : decode b_Ref_nextOf 10 = .ok (.iload_n 2, 1) := by decide +kernel
theorem d_Ref_nextOf_11 : decode b_Ref_nextOf 11 = .ok (.imul, 1) := by decide +kernel
theorem d_Ref_nextOf_12 : decode b_Ref_nextOf 12 = .ok (.iadd, 1) := by decide +kernel
theorem d_Ref_nextOf_13 : decode b_Ref_nextOf 13 = .ok (.iload_n 3, 1) := by decide +kernel
theorem d_Ref_nextOf_14 : decode b_Ref_nextOf 14 = .ok (.iadd, 1) := by decide +kernel
theorem d_Ref_nextOf_15 : decode b_Ref_nextOf 15 = .ok (.iaload, 1) := by decide +kernel
theorem d_Ref_nextOf_16 : decode b_Ref_nextOf 16 = .ok (.ireturn, 1) := by decide +kernel
theorem d_Ref_not_0 : decode b_Ref_not 0 = .ok (.aload_n 0, 1) := by decide +kernel
theorem d_Ref_not_1 : decode b_Ref_not 1 = .ok (.iload_n 1, 1) := by decide +kernel
theorem d_Ref_not_2 : decode b_Ref_not 2 = .ok (.invokevirtual 208, 3) := by decide +kernel
theorem d_Ref_not_5 : decode b_Ref_not 5 = .ok (.ifCond .eq 21, 3) := by decide +kernel
theorem d_Ref_not_8 : decode b_Ref_not 8 = .ok (.aload_n 0, 1) := by decide +kernel
theorem d_Ref_not_9 : decode b_Ref_not 9 = .ok (.iload_n 1, 1) := by decide +kernel
theorem d_Ref_not_10 : decode b_Ref_not 10 = .ok (.aload_n 0, 1) := by decide +kernel
theorem d_Ref_not_11 : decode b_Ref_not 11 = .ok (.getfield 16, 3) := by decide +kernel
theorem d_Ref_not_14 : decode b_Ref_not 14 = .ok (.iload_n 1, 1) := by decide +kernel
theorem d_Ref_not_15 : decode b_Ref_not 15 = .ok (.laload, 1) := by decide +kernel
theorem d_Ref_not_16 : decode b_Ref_not 16 = .ok (.ldc2_w 178, 3) := by decide +kernel
theorem d_Ref_not_19 : decode b_Ref_not 19 = .ok (.lxor, 1) := by decide +kernel
theorem d_Ref_not_20 : decode b_Ref_not 20 = .ok (.invokevirtual 211, 3) := by decide +kernel
theorem d_Ref_not_23 : decode b_Ref_not 23 = .ok (.goto 5, 3) := by decide +kernel
theorem d_Ref_not_26 : decode b_Ref_not 26 = .ok (.bipush (-2), 2) := by decide +kernel
theorem d_Ref_not_28 : decode b_Ref_not 28 = .ok (.ireturn, 1) := by decide +kernel
theorem d_Ref_is_0 : decode b_Ref_is 0 = .ok (.iload_n 1, 1) := by decide +kernel
theorem d_Ref_is_1 : decode b_Ref_is 1 = .ok (.i2l, 1) := by decide +kernel
theorem d_Ref_is_2 : decode b_Ref_is 2 = .ok (.lconst 0, 1) := by decide +kernel
theorem d_Ref_is_3 : decode b_Ref_is 3 = .ok (.aload_n 0, 1) := by decide +kernel
theorem d_Ref_is_4 : decode b_Ref_is 4 = .ok (.getfield 97, 3) := by decide +kernel
theorem d_Ref_is_7 : decode b_Ref_is 7 = .ok (.iconst 1, 1) := by decide +kernel
theorem d_Ref_is_8 : decode b_Ref_is 8 = .ok (.isub, 1) := by decide +kernel
theorem d_Ref_is_9 : decode b_Ref_is 9 = .ok (.i2l, 1) := by decide +kernel
theorem d_Ref_is_10 : decode b_Ref_is 10 = .ok (.invokestatic 100, 3) := by decide +kernel
theorem d_Ref_is_13 : decode b_Ref_is 13 = .ok (.ireturn, 1) := by decide +kernel
theorem d_Ref_withEnds_0 : decode b_Ref_withEnds 0 = .ok (.aload_n 0, 1) := by decide +kernel
theorem d_Ref_withEnds_1 : decode b_Ref_withEnds 1 = .ok (.iconst 0, 1) := by decide +kernel
theorem d_Ref_withEnds_2 : decode b_Ref_withEnds 2 = .ok (.putfield 110, 3) := by decide +kernel
theorem d_Ref_withEnds_5 : decode b_Ref_withEnds 5 = .ok (.aload_n 0, 1) := by decide +kernel
theorem d_Ref_withEnds_6 : decode b_Ref_withEnds 6 = .ok (.aload_n 0, 1) := by decide +kernel
theorem d_Ref_withEnds_7 : decode b_Ref_withEnds 7 = .ok (.getfield 7, 3) := by decide +kernel
theorem d_Ref_withEnds_10 : decode b_Ref_withEnds 10 = .ok (.iload_n 1, 1) := by decide +kernel
theorem d_Ref_withEnds_11 : decode b_Ref_withEnds 11 = .ok (.iaload, 1) := by decide +kernel
theorem d_Ref_withEnds_12 : decode b_Ref_withEnds 12 = .ok (.putfield 113, 3) := by decide +kernel
theorem d_Ref_withEnds_15 : decode b_Ref_withEnds 15 = .ok (.iconst 0, 1) := by decide +kernel
theorem d_Ref_withEnds_16 : decode b_Ref_withEnds 16 = .ok (.istore 4, 2) := by decide +kernel
theorem d_Ref_withEnds_18 : decode b_Ref_withEnds 18 = .ok (.iload 4, 2) := by decide +kernel
theorem d_Ref_withEnds_20 : decode b_Ref_withEnds 20 = .ok (.aload_n 0, 1) := by decide +kernel
theorem d_Ref_withEnds_21 : decode b_Ref_withEnds 21 = .ok (.getfield 113, 3) := by decide +kernel
theorem d_Ref_withEnds_24 : decode b_Ref_withEnds 24 = .ok (.if_icmp .ge 71, 3) := by decide +kernel
theorem d_Ref_withEnds_27 : decode b_Ref_withEnds 27 = .ok (.aload_n 0, 1) := by decide +kernel
theorem d_Ref_withEnds_28 : decode b_Ref_withEnds 28 = .ok (.getfield 35, 3) := by decide +kernel
theorem d_Ref_withEnds_31 : decode b_Ref_withEnds 31 = .ok (.iload 4, 2) := by decide +kernel
theorem d_Ref_withEnds_33 : decode b_Ref_withEnds 33 = .ok (.lload_n 2, 1) := by decide +kernel
theorem d_Ref_withEnds_34 : decode b_Ref_withEnds 34 = .ok (.iload 4, 2) := by decide +kernel
theorem d_Ref_withEnds_36 : decode b_Ref_withEnds 36 = .ok (.lshr, 1) := by decide +kernel
theorem d_Ref_withEnds_37 : decode b_Ref_withEnds 37 = .ok (.lconst 1, 1) := by decide +kernel
theorem d_Ref_withEnds_38 : decode b_Ref_withEnds 38 = .ok (.land, 1) := by decide +kernel
theorem d_Ref_withEnds_39 : decode b_Ref_withEnds 39 = .ok (.lconst 1, 1) := by decide +kernel
theorem d_Ref_withEnds_40 : decode b_Ref_withEnds 40 = .ok (.lcmp, 1) := by decide +kernel
theorem d_Ref_withEnds_41 : decode b_Ref_withEnds 41 = .ok (.ifCond .ne 7, 3) := by decide +kernel
theorem d_Ref_withEnds_44 : decode b_Ref_withEnds 44 = .ok (.iconst 1, 1) := by decide +kernel
theorem d_Ref_withEnds_45 : decode b_Ref_withEnds 45 = .ok (.goto 4, 3) := by decide +kernel
theorem d_Ref_withEnds_48 : decode b_Ref_withEnds 48 = .ok (.iconst 0, 1) := by decide +kernel
theorem d_Ref_withEnds_49 : decode b_Ref_withEnds 49 = .ok (.bastore, 1) := by decide +kernel
theorem d_Ref_withEnds_50 : decode b_Ref_withEnds 50 = .ok (.iconst 0, 1) := by decide +kernel
theorem d_Ref_withEnds_51 : decode b_Ref_withEnds 51 = .ok (.istore 5, 2) := by decide +kernel
theorem d_Ref_withEnds_53 : decode b_Ref_withEnds 53 = .ok (.iload 5, 2) := by decide +kernel
theorem d_Ref_withEnds_55 : decode b_Ref_withEnds 55 = .ok (.aload_n 0, 1) := by decide +kernel
theorem d_Ref_withEnds_56 : decode b_Ref_withEnds 56 = .ok (.getfield 93, 3) := by decide +kernel
theorem d_Ref_withEnds_59 : decode b_Ref_withEnds 59 = .ok (.if_icmp .ge 30, 3) := by decide +kernel
theorem d_Ref_withEnds_62 : decode b_Ref_withEnds 62 = .ok (.aload_n 0, 1) := by decide +kernel
theorem d_Ref_withEnds_63 : decode b_Ref_withEnds 63 = .ok (.getfield 32, 3) := by decide +kernel
theorem d_Ref_withEnds_66 : decode b_Ref_withEnds 66 = .ok (.iconst 4, 1) := by decide +kernel
theorem d_Ref_withEnds_67 : decode b_Ref_withEnds 67 = .ok (.iload 4, 2) := by decide +kernel
theorem d_Ref_withEnds_69 : decode b_Ref_withEnds 69 = .ok (.imul, 1) := by decide +kernel
theorem d_Ref_withEnds_70 : decode b_Ref_withEnds 70 = .ok (.iload 5, 2) := by decide +kernel
theorem d_Ref_withEnds_72 : decode b_Ref_withEnds 72 = .ok (.iadd, 1) := by decide +kernel
theorem d_Ref_withEnds_73 : decode b_Ref_withEnds 73 = .ok (.aload_n 0, 1) := by decide +kernel
theorem d_Ref_withEnds_74 : decode b_Ref_withEnds 74 = .ok (.iload_n 1, 1) := by decide +kernel
theorem d_Ref_withEnds_75 : decode b_Ref_withEnds 75 = .ok (.iload 4, 2) := by decide +kernel
theorem d_Ref_withEnds_77 : decode b_Ref_withEnds 77 = .ok (.iload 5, 2) := by decide +kernel
theorem d_Ref_withEnds_79 : decode b_Ref_withEnds 79 = .ok (.invokevirtual 135, 3) := by decide +kernel
theorem d_Ref_withEnds_82 : decode b_Ref_withEnds 82 = .ok (.iastore, 1) := by decide +kernel
theorem d_Ref_withEnds_83 : decode b_Ref_withEnds 83 = .ok (.iinc 5 1, 3) := by decide +kernel
theorem d_Ref_withEnds_86 : decode b_Ref_withEnds 86 = .ok (.goto (-33), 3) := by decide +kernel
theorem d_Ref_withEnds_89 : decode b_Ref_withEnds 89 = .ok (.iinc 4 1, 3) := by decide +kernel
theorem d_Ref_withEnds_92 : decode b_Ref_withEnds 92 = .ok (.goto (-74), 3) := by decide +kernel
theorem d_Ref_withEnds_95 : decode b_Ref_withEnds 95 = .ok (.aload_n 0, 1) := by decide +kernel
theorem d_Ref_withEnds_96 : decode b_Ref_withEnds 96 = .ok (.invokevirtual 131, 3) := by decide +kernel
theorem d_Ref_withEnds_99 : decode b_Ref_withEnds 99 = .ok (.ireturn, 1) := by decide +kernel
theorem d_Ref_trim_0 : decode b_Ref_trim 0 = .ok (.aload_n 0, 1) := by decide +kernel
theorem d_Ref_trim_1 : decode b_Ref_trim 1 = .ok (.iload_n 1, 1) := by decide +kernel
theorem d_Ref_trim_2 : decode b_Ref_trim 2 = .ok (.invokevirtual 208, 3) := by decide +kernel
theorem d_Ref_trim_5 : decode b_Ref_trim 5 = .ok (.ifCond .eq 15, 3) := by decide +kernel
theorem d_Ref_trim_8 : decode b_Ref_trim 8 = .ok (.iload_n 2, 1) := by decide +kernel
theorem d_Ref_trim_9 : decode b_Ref_trim 9 = .ok (.i2l, 1) := by decide +kernel
theorem d_Ref_trim_10 : decode b_Ref_trim 10 = .ok (.lconst 0, 1) := by decide +kernel
theorem d_Ref_trim_11 : decode b_Ref_trim 11 = .ok (.ldc2_w 215, 3) := by decide +kernel
theorem d_Ref_trim_14 : decode b_Ref_trim 14 = .ok (.invokestatic 100, 3) := by decide +kernel
theorem d_Ref_trim_17 : decode b_Ref_trim 17 = .ok (.ifCond .ne 6, 3) := by decide +kernel
theorem d_Ref_trim_20 : decode b_Ref_trim 20 = .ok (.bipush (-2), 2) := by decide +kernel
theorem d_Ref_trim_22 : decode b_Ref_trim 22 = .ok (.ireturn, 1) := by decide +kernel
theorem d_Ref_trim_23 : decode b_Ref_trim 23 = .ok (.aload_n 0, 1) := by decide +kernel
theorem d_Ref_trim_24 : decode b_Ref_trim 24 = .ok (.getfield 16, 3) := by decide +kernel
theorem d_Ref_trim_27 : decode b_Ref_trim 27 = .ok (.iload_n 1, 1) := by decide +kernel
theorem d_Ref_trim_28 : decode b_Ref_trim 28 = .ok (.laload, 1) := by decide +kernel
theorem d_Ref_trim_29 : decode b_Ref_trim 29 = .ok (.lstore_n 3, 1) := by decide +kernel
theorem d_Ref_trim_30 : decode b_Ref_trim 30 = .ok (.iconst 0, 1) := by decide +kernel
theorem d_Ref_trim_31 : decode b_Ref_trim 31 = .ok (.istore 5, 2) := by decide +kernel
theorem d_Ref_trim_33 : decode b_Ref_trim 33 = .ok (.iload 5, 2) := by decide +kernel
theorem d_Ref_trim_35 : decode b_Ref_trim 35 = .ok (.iload_n 2, 1) := by decide +kernel
theorem d_Ref_trim_36 : decode b_Ref_trim 36 = .ok (.if_icmp .ge 16, 3) := by decide +kernel
theorem d_Ref_trim_39 : decode b_Ref_trim 39 = .ok (.aload_n 0, 1) := by decide +kernel
theorem d_Ref_trim_40 : decode b_Ref_trim 40 = .ok (.iload_n 1, 1) := by decide +kernel
theorem d_Ref_trim_41 : decode b_Ref_trim 41 = .ok (.lload_n 3, 1) := by decide +kernel
theorem d_Ref_trim_42 : decode b_Ref_trim 42 = .ok (.invokevirtual 217, 3) := by decide +kernel
theorem d_Ref_trim_45 : decode b_Ref_trim 45 = .ok (.lstore_n 3, 1) := by decide +kernel
theorem d_Ref_trim_46 : decode b_Ref_trim 46 = .ok (.iinc 5 1, 3) := by decide +kernel
theorem d_Ref_trim_49 : decode b_Ref_trim 49 = .ok (.goto (-16), 3) := by decide +kernel
theorem d_Ref_trim_52 : decode b_Ref_trim 52 = .ok (.aload_n 0, 1) := by decide +kernel
theorem d_Ref_trim_53 : decode b_Ref_trim 53 = .ok (.iload_n 1, 1) := by decide +kernel
theorem d_Ref_trim_54 : decode b_Ref_trim 54 = .ok (.lload_n 3, 1) := by decide +kernel
theorem d_Ref_trim_55 : decode b_Ref_trim 55 = .ok (.invokevirtual 211, 3) := by decide +kernel
theorem d_Ref_trim_58 : decode b_Ref_trim 58 = .ok (.ireturn, 1) := by decide +kernel
theorem d_Ref_ahead_0 : decode b_Ref_ahead 0 = .ok (.lconst 0, 1) := by decide +kernel
theorem d_Ref_ahead_1 : decode b_Ref_ahead 1 = .ok (.lstore 4, 2) := by decide +kernel
theorem d_Ref_ahead_3 : decode b_Ref_ahead 3 = .ok (.iconst 0, 1) := by decide +kernel
theorem d_Ref_ahead_4 : decode b_Ref_ahead 4 = .ok (.istore 6, 2) := by decide +kernel
theorem d_Ref_ahead_6 : decode b_Ref_ahead 6 = .ok (.iload 6, 2) := by decide +kernel
theorem d_Ref_ahead_8 : decode b_Ref_ahead 8 = .ok (.aload_n 0, 1) := by decide +kernel
theorem d_Ref_ahead_9 : decode b_Ref_ahead 9 = .ok (.getfield 7, 3) := by decide +kernel
theorem d_Ref_ahead_12 : decode b_Ref_ahead 12 = .ok (.iload_n 1, 1) := by decide +kernel
theorem d_Ref_ahead_13 : decode b_Ref_ahead 13 = .ok (.iaload, 1) := by decide +kernel
theorem d_Ref_ahead_14 : decode b_Ref_ahead 14 = .ok (.if_icmp .ge 48, 3) := by decide +kernel
theorem d_Ref_ahead_17 : decode b_Ref_ahead 17 = .ok (.iconst 0, 1) := by decide +kernel
theorem d_Ref_ahead_18 : decode b_Ref_ahead 18 = .ok (.istore 7, 2) := by decide +kernel
theorem d_Ref_ahead_20 : decode b_Ref_ahead 20 = .ok (.iload 7, 2) := by decide +kernel
theorem d_Ref_ahead_22 : decode b_Ref_ahead 22 = .ok (.aload_n 0, 1) := by decide +kernel
theorem d_Ref_ahead_23 : decode b_Ref_ahead 23 = .ok (.getfield 93, 3) := by decide +kernel
theorem d_Ref_ahead_26 : decode b_Ref_ahead 26 = .ok (.if_icmp .ge 30, 3) := by decide +kernel
theorem d_Ref_ahead_29 : decode b_Ref_ahead 29 = .ok (.lload 4, 2) := by decide +kernel
theorem d_Ref_ahead_31 : decode b_Ref_ahead 31 = .ok (.lload_n 2, 1) := by decide +kernel
theorem d_Ref_ahead_32 : decode b_Ref_ahead 32 = .ok (.aload_n 0, 1) := by decide +kernel
theorem d_Ref_ahead_33 : decode b_Ref_ahead 33 = .ok (.iload_n 1, 1) := by decide +kernel
theorem d_Ref_ahead_34 : decode b_Ref_ahead 34 = .ok (.iload 6, 2) := by decide +kernel
theorem d_Ref_ahead_36 : decode b_Ref_ahead 36 = .ok (.iload 7, 2) := by decide +kernel
theorem d_Ref_ahead_38 : decode b_Ref_ahead 38 = .ok (.invokevirtual 135, 3) := by decide +kernel
theorem d_Ref_ahead_41 : decode b_Ref_ahead 41 = .ok (.lshr, 1) := by decide +kernel
theorem d_Ref_ahead_42 : decode b_Ref_ahead 42 = .ok (.lconst 1, 1) := by decide +kernel
theorem d_Ref_ahead_43 : decode b_Ref_ahead 43 = .ok (.land, 1) := by decide +kernel
theorem d_Ref_ahead_44 : decode b_Ref_ahead 44 = .ok (.iload 6, 2) := by decide +kernel
theorem d_Ref_ahead_46 : decode b_Ref_ahead 46 = .ok (.lshl, 1) := by decide +kernel
theorem d_Ref_ahead_47 : decode b_Ref_ahead 47 = .ok (.lor, 1) := by decide +kernel
theorem d_Ref_ahead_48 : decode b_Ref_ahead 48 = .ok (.lstore 4, 2) := by decide +kernel
theorem d_Ref_ahead_50 : decode b_Ref_ahead 50 = .ok (.iinc 7 1, 3) := by decide +kernel
theorem d_Ref_ahead_53 : decode b_Ref_ahead 53 = .ok (.goto (-33), 3) := by decide +kernel
theorem d_Ref_ahead_56 : decode b_Ref_ahead 56 = .ok (.iinc 6 1, 3) := by decide +kernel
theorem d_Ref_ahead_59 : decode b_Ref_ahead 59 = .ok (.goto (-53), 3) := by decide +kernel
theorem d_Ref_ahead_62 : decode b_Ref_ahead 62 = .ok (.lload 4, 2) := by decide +kernel
theorem d_Ref_ahead_64 : decode b_Ref_ahead 64 = .ok (.lreturn, 1) := by decide +kernel
theorem d_Ref_numerals_0 : decode b_Ref_numerals 0 = .ok (.iload_n 1, 1) := by decide +kernel
theorem d_Ref_numerals_1 : decode b_Ref_numerals 1 = .ok (.ifCond .lt 14, 3) := by decide +kernel
theorem d_Ref_numerals_4 : decode b_Ref_numerals 4 = .ok (.iload_n 2, 1) := by decide +kernel
theorem d_Ref_numerals_5 : decode b_Ref_numerals 5 = .ok (.iload_n 1, 1) := by decide +kernel
theorem d_Ref_numerals_6 : decode b_Ref_numerals 6 = .ok (.if_icmp .lt 9, 3) := by decide +kernel
theorem d_Ref_numerals_9 : decode b_Ref_numerals 9 = .ok (.iload_n 2, 1) := by decide +kernel
theorem d_Ref_numerals_10 : decode b_Ref_numerals 10 = .ok (.ldc 240, 2) := by decide +kernel
theorem d_Ref_numerals_12 : decode b_Ref_numerals 12 = .ok (.if_icmp .le 6, 3) := by decide +kernel
theorem d_Ref_numerals_15 : decode b_Ref_numerals 15 = .ok (.bipush (-2), 2) := by decide +kernel
theorem d_Ref_numerals_17 : decode b_Ref_numerals 17 = .ok (.ireturn, 1) := by decide +kernel
theorem d_Ref_numerals_18 : decode b_Ref_numerals 18 = .ok (.aload_n 0, 1) := by decide +kernel
theorem d_Ref_numerals_19 : decode b_Ref_numerals 19 = .ok (.iconst 0, 1) := by decide +kernel
theorem d_Ref_numerals_20 : decode b_Ref_numerals 20 = .ok (.putfield 110, 3) := by decide +kernel
theorem d_Ref_numerals_23 : decode b_Ref_numerals 23 = .ok (.aload_n 0, 1) := by decide +kernel
theorem d_Ref_numerals_24 : decode b_Ref_numerals 24 = .ok (.iload_n 1, 1) := by decide +kernel
theorem d_Ref_numerals_25 : decode b_Ref_numerals 25 = .ok (.ifCond .ne 7, 3) := by decide +kernel
theorem d_Ref_numerals_28 : decode b_Ref_numerals 28 = .ok (.iconst 1, 1) := by decide +kernel
theorem d_Ref_numerals_29 : decode b_Ref_numerals 29 = .ok (.goto 4, 3) := by decide +kernel
theorem d_Ref_numerals_32 : decode b_Ref_numerals 32 = .ok (.iload_n 1, 1) := by decide +kernel
theorem d_Ref_numerals_33 : decode b_Ref_numerals 33 = .ok (.putfield 221, 3) := by decide +kernel
theorem d_Ref_numerals_36 : decode b_Ref_numerals 36 = .ok (.aload_n 0, 1) := by decide +kernel
theorem d_Ref_numerals_37 : decode b_Ref_numerals 37 = .ok (.iload_n 2, 1) := by decide +kernel
theorem d_Ref_numerals_38 : decode b_Ref_numerals 38 = .ok (.putfield 227, 3) := by decide +kernel
theorem d_Ref_numerals_41 : decode b_Ref_numerals 41 = .ok (.aload_n 0, 1) := by decide +kernel
theorem d_Ref_numerals_42 : decode b_Ref_numerals 42 = .ok (.aload_n 0, 1) := by decide +kernel
theorem d_Ref_numerals_43 : decode b_Ref_numerals 43 = .ok (.aload_n 0, 1) := by decide +kernel
theorem d_Ref_numerals_44 : decode b_Ref_numerals 44 = .ok (.getfield 221, 3) := by decide +kernel
theorem d_Ref_numerals_47 : decode b_Ref_numerals 47 = .ok (.invokevirtual 241, 3) := by decide +kernel
theorem d_Ref_numerals_50 : decode b_Ref_numerals 50 = .ok (.putfield 224, 3) := by decide +kernel
theorem d_Ref_numerals_53 : decode b_Ref_numerals 53 = .ok (.aload_n 0, 1) := by decide +kernel
theorem d_Ref_numerals_54 : decode b_Ref_numerals 54 = .ok (.aload_n 0, 1) := by decide +kernel
theorem d_Ref_numerals_55 : decode b_Ref_numerals 55 = .ok (.iload_n 2, 1) := by decide +kernel
theorem d_Ref_numerals_56 : decode b_Ref_numerals 56 = .ok (.invokevirtual 241, 3) := by decide +kernel
theorem d_Ref_numerals_59 : decode b_Ref_numerals 59 = .ok (.putfield 230, 3) := by decide +kernel
theorem d_Ref_numerals_62 : decode b_Ref_numerals 62 = .ok (.aload_n 0, 1) := by decide +kernel
theorem d_Ref_numerals_63 : decode b_Ref_numerals 63 = .ok (.invokevirtual 245, 3) := by decide +kernel
theorem d_Ref_numerals_66 : decode b_Ref_numerals 66 = .ok (.aload_n 0, 1) := by decide +kernel
theorem d_Ref_numerals_67 : decode b_Ref_numerals 67 = .ok (.iconst 3, 1) := by decide +kernel
theorem d_Ref_numerals_68 : decode b_Ref_numerals 68 = .ok (.bipush 9, 2) := by decide +kernel
theorem d_Ref_numerals_70 : decode b_Ref_numerals 70 = .ok (.aload_n 0, 1) := by decide +kernel
theorem d_Ref_numerals_71 : decode b_Ref_numerals 71 = .ok (.getfield 230, 3) := by decide +kernel
theorem d_Ref_numerals_74 : decode b_Ref_numerals 74 = .ok (.imul, 1) := by decide +kernel
theorem d_Ref_numerals_75 : decode b_Ref_numerals 75 = .ok (.iadd, 1) := by decide +kernel
theorem d_Ref_numerals_76 : decode b_Ref_numerals 76 = .ok (.putfield 113, 3) := by decide +kernel
theorem d_Ref_numerals_79 : decode b_Ref_numerals 79 = .ok (.aload_n 0, 1) := by decide +kernel
theorem d_Ref_numerals_80 : decode b_Ref_numerals 80 = .ok (.getfield 35, 3) := by decide +kernel
theorem d_Ref_numerals_83 : decode b_Ref_numerals 83 = .ok (.iconst 0, 1) := by decide +kernel
theorem d_Ref_numerals_84 : decode b_Ref_numerals 84 = .ok (.iconst 0, 1) := by decide +kernel
theorem d_Ref_numerals_85 : decode b_Ref_numerals 85 = .ok (.bastore, 1) := by decide +kernel
theorem d_Ref_numerals_86 : decode b_Ref_numerals 86 = .ok (.aload_n 0, 1) := by decide +kernel
theorem d_Ref_numerals_87 : decode b_Ref_numerals 87 = .ok (.getfield 35, 3) := by decide +kernel
theorem d_Ref_numerals_90 : decode b_Ref_numerals 90 = .ok (.iconst 1, 1) := by decide +kernel
theorem d_Ref_numerals_91 : decode b_Ref_numerals 91 = .ok (.iload_n 1, 1) := by decide +kernel
theorem d_Ref_numerals_92 : decode b_Ref_numerals 92 = .ok (.ifCond .ne 7, 3) := by decide +kernel
theorem d_Ref_numerals_95 : decode b_Ref_numerals 95 = .ok (.iconst 1, 1) := by decide +kernel
theorem d_Ref_numerals_96 : decode b_Ref_numerals 96 = .ok (.goto 4, 3) := by decide +kernel
theorem d_Ref_numerals_99 : decode b_Ref_numerals 99 = .ok (.iconst 0, 1) := by decide +kernel
theorem d_Ref_numerals_100 : decode b_Ref_numerals 100 = .ok (.bastore, 1) := by decide +kernel
theorem d_Ref_numerals_101 : decode b_Ref_numerals 101 = .ok (.aload_n 0, 1) := by decide +kernel
theorem d_Ref_numerals_102 : decode b_Ref_numerals 102 = .ok (.getfield 35, 3) := by decide +kernel
theorem d_Ref_numerals_105 : decode b_Ref_numerals 105 = .ok (.iconst 2, 1) := by decide +kernel
theorem d_Ref_numerals_106 : decode b_Ref_numerals 106 = .ok (.iconst 0, 1) := by decide +kernel
theorem d_Ref_numerals_107 : decode b_Ref_numerals 107 = .ok (.bastore, 1) := by decide +kernel
theorem d_Ref_numerals_108 : decode b_Ref_numerals 108 = .ok (.aload_n 0, 1) := by decide +kernel
theorem d_Ref_numerals_109 : decode b_Ref_numerals 109 = .ok (.iconst 0, 1) := by decide +kernel
theorem d_Ref_numerals_110 : decode b_Ref_numerals 110 = .ok (.iconst 2, 1) := by decide +kernel
theorem d_Ref_numerals_111 : decode b_Ref_numerals 111 = .ok (.invokevirtual 204, 3) := by decide +kernel
theorem d_Ref_numerals_114 : decode b_Ref_numerals 114 = .ok (.aload_n 0, 1) := by decide +kernel
theorem d_Ref_numerals_115 : decode b_Ref_numerals 115 = .ok (.iconst 1, 1) := by decide +kernel
theorem d_Ref_numerals_116 : decode b_Ref_numerals 116 = .ok (.iconst 2, 1) := by decide +kernel
theorem d_Ref_numerals_117 : decode b_Ref_numerals 117 = .ok (.invokevirtual 204, 3) := by decide +kernel
theorem d_Ref_numerals_120 : decode b_Ref_numerals 120 = .ok (.aload_n 0, 1) := by decide +kernel
theorem d_Ref_numerals_121 : decode b_Ref_numerals 121 = .ok (.iconst 2, 1) := by decide +kernel
theorem d_Ref_numerals_122 : decode b_Ref_numerals 122 = .ok (.iconst 2, 1) := by decide +kernel
theorem d_Ref_numerals_123 : decode b_Ref_numerals 123 = .ok (.invokevirtual 204, 3) := by decide +kernel
theorem d_Ref_numerals_126 : decode b_Ref_numerals 126 = .ok (.aload_n 0, 1) := by decide +kernel
theorem d_Ref_numerals_127 : decode b_Ref_numerals 127 = .ok (.getfield 32, 3) := by decide +kernel
theorem d_Ref_numerals_130 : decode b_Ref_numerals 130 = .ok (.iconst 0, 1) := by decide +kernel
theorem d_Ref_numerals_131 : decode b_Ref_numerals 131 = .ok (.iconst 1, 1) := by decide +kernel
theorem d_Ref_numerals_132 : decode b_Ref_numerals 132 = .ok (.iastore, 1) := by decide +kernel
theorem d_Ref_numerals_133 : decode b_Ref_numerals 133 = .ok (.iconst 1, 1) := by decide +kernel
theorem d_Ref_numerals_134 : decode b_Ref_numerals 134 = .ok (.istore_n 3, 1) := by decide +kernel
theorem d_Ref_numerals_135 : decode b_Ref_numerals 135 = .ok (.iload_n 3, 1) := by decide +kernel
theorem d_Ref_numerals_136 : decode b_Ref_numerals 136 = .ok (.aload_n 0, 1) := by decide +kernel
theorem d_Ref_numerals_137 : decode b_Ref_numerals 137 = .ok (.getfield 93, 3) := by decide +kernel
theorem d_Ref_numerals_140 : decode b_Ref_numerals 140 = .ok (.if_icmp .ge 46, 3) := by decide +kernel
theorem d_Ref_numerals_143 : decode b_Ref_numerals 143 = .ok (.aload_n 0, 1) := by decide +kernel
theorem d_Ref_numerals_144 : decode b_Ref_numerals 144 = .ok (.getfield 230, 3) := by decide +kernel
theorem d_Ref_numerals_147 : decode b_Ref_numerals 147 = .ok (.ifCond .le 39, 3) := by decide +kernel
theorem d_Ref_numerals_150 : decode b_Ref_numerals 150 = .ok (.aload_n 0, 1) := by decide +kernel
theorem d_Ref_numerals_151 : decode b_Ref_numerals 151 = .ok (.getfield 32, 3) := by decide +kernel
theorem d_Ref_numerals_154 : decode b_Ref_numerals 154 = .ok (.iload_n 3, 1) := by decide +kernel
theorem d_Ref_numerals_155 : decode b_Ref_numerals 155 = .ok (.iconst 1, 1) := by decide +kernel
theorem d_Ref_numerals_156 : decode b_Ref_numerals 156 = .ok (.iload_n 3, 1) := by decide +kernel
theorem d_Ref_numerals_157 : decode b_Ref_numerals 157 = .ok (.aload_n 0, 1) := by decide +kernel
theorem d_Ref_numerals_158 : decode b_Ref_numerals 158 = .ok (.getfield 69, 3) := by decide +kernel
theorem d_Ref_numerals_161 : decode b_Ref_numerals 161 = .ok (.iconst 0, 1) := by decide +kernel
theorem d_Ref_numerals_162 : decode b_Ref_numerals 162 = .ok (.iaload, 1) := by decide +kernel
theorem d_Ref_numerals_163 : decode b_Ref_numerals 163 = .ok (.invokestatic 236, 3) := by decide +kernel
theorem d_Ref_numerals_166 : decode b_Ref_numerals 166 = .ok (.iload_n 3, 1) := by decide +kernel
theorem d_Ref_numerals_167 : decode b_Ref_numerals 167 = .ok (.aload_n 0, 1) := by decide +kernel
theorem d_Ref_numerals_168 : decode b_Ref_numerals 168 = .ok (.getfield 72, 3) := by decide +kernel
theorem d_Ref_numerals_171 : decode b_Ref_numerals 171 = .ok (.iconst 0, 1) := by decide +kernel
theorem d_Ref_numerals_172 : decode b_Ref_numerals 172 = .ok (.iaload, 1) := by decide +kernel
theorem d_Ref_numerals_173 : decode b_Ref_numerals 173 = .ok (.invokestatic 236, 3) := by decide +kernel
theorem d_Ref_numerals_176 : decode b_Ref_numerals 176 = .ok (.invokestatic 233, 3) := by decide +kernel
theorem d_Ref_numerals_179 : decode b_Ref_numerals 179 = .ok (.iastore, 1) := by decide +kernel
theorem d_Ref_numerals_180 : decode b_Ref_numerals 180 = .ok (.iinc 3 1, 3) := by decide +kernel
theorem d_Ref_numerals_183 : decode b_Ref_numerals 183 = .ok (.goto (-48), 3) := by decide +kernel
theorem d_Ref_numerals_186 : decode b_Ref_numerals 186 = .ok (.iconst 1, 1) := by decide +kernel
theorem d_Ref_numerals_187 : decode b_Ref_numerals 187 = .ok (.istore_n 3, 1) := by decide +kernel
theorem d_Ref_numerals_188 : decode b_Ref_numerals 188 = .ok (.iload_n 3, 1) := by decide +kernel
theorem d_Ref_numerals_189 : decode b_Ref_numerals 189 = .ok (.aload_n 0, 1) := by decide +kernel
theorem d_Ref_numerals_190 : decode b_Ref_numerals 190 = .ok (.getfield 230, 3) := by decide +kernel
theorem d_Ref_numerals_193 : decode b_Ref_numerals 193 = .ok (.if_icmp .gt 42, 3) := by decide +kernel
theorem d_Ref_numerals_196 : decode b_Ref_numerals 196 = .ok (.iconst 0, 1) := by decide +kernel
theorem d_Ref_numerals_197 : decode b_Ref_numerals 197 = .ok (.istore 4, 2) := by decide +kernel
theorem d_Ref_numerals_199 : decode b_Ref_numerals 199 = .ok (.iload 4, 2) := by decide +kernel
theorem d_Ref_numerals_201 : decode b_Ref_numerals 201 = .ok (.bipush 9, 2) := by decide +kernel
theorem d_Ref_numerals_203 : decode b_Ref_numerals 203 = .ok (.if_icmp .ge 26, 3) := by decide +kernel
theorem d_Ref_numerals_206 : decode b_Ref_numerals 206 = .ok (.aload_n 0, 1) := by decide +kernel
theorem d_Ref_numerals_207 : decode b_Ref_numerals 207 = .ok (.iload_n 3, 1) := by decide +kernel
theorem d_Ref_numerals_208 : decode b_Ref_numerals 208 = .ok (.iload 4, 2) := by decide +kernel
theorem d_Ref_numerals_210 : decode b_Ref_numerals 210 = .ok (.iconst 3, 1) := by decide +kernel
theorem d_Ref_numerals_211 : decode b_Ref_numerals 211 = .ok (.idiv, 1) := by decide +kernel
theorem d_Ref_numerals_212 : decode b_Ref_numerals 212 = .ok (.iconst 1, 1) := by decide +kernel
theorem d_Ref_numerals_213 : decode b_Ref_numerals 213 = .ok (.isub, 1) := by decide +kernel
theorem d_Ref_numerals_214 : decode b_Ref_numerals 214 = .ok (.iload 4, 2) := by decide +kernel
theorem d_Ref_numerals_216 : decode b_Ref_numerals 216 = .ok (.iconst 3, 1) := by decide +kernel
theorem d_Ref_numerals_217 : decode b_Ref_numerals 217 = .ok (.irem, 1) := by decide +kernel
theorem d_Ref_numerals_218 : decode b_Ref_numerals 218 = .ok (.iconst 1, 1) := by decide +kernel
theorem d_Ref_numerals_219 : decode b_Ref_numerals 219 = .ok (.isub, 1) := by decide +kernel
theorem d_Ref_numerals_220 : decode b_Ref_numerals 220 = .ok (.invokevirtual 248, 3) := by decide +kernel
theorem d_Ref_numerals_223 : decode b_Ref_numerals 223 = .ok (.iinc 4 1, 3) := by decide +kernel
theorem d_Ref_numerals_226 : decode b_Ref_numerals 226 = .ok (.goto (-27), 3) := by decide +kernel
theorem d_Ref_numerals_229 : decode b_Ref_numerals 229 = .ok (.iinc 3 1, 3) := by decide +kernel
theorem d_Ref_numerals_232 : decode b_Ref_numerals 232 = .ok (.goto (-44), 3) := by decide +kernel
theorem d_Ref_numerals_235 : decode b_Ref_numerals 235 = .ok (.aload_n 0, 1) := by decide +kernel
theorem d_Ref_numerals_236 : decode b_Ref_numerals 236 = .ok (.invokevirtual 131, 3) := by decide +kernel
theorem d_Ref_numerals_239 : decode b_Ref_numerals 239 = .ok (.ireturn, 1) := by decide +kernel
