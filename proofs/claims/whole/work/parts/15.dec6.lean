/-! DECODE ROWS -/
theorem d_Ref_sizeOf_0 : decode b_Ref_sizeOf 0 = .ok (.iconst 0, 1) := by decide +kernel
theorem d_Ref_sizeOf_1 : decode b_Ref_sizeOf 1 = .ok (.istore_n 2, 1) := by decide +kernel
theorem d_Ref_sizeOf_2 : decode b_Ref_sizeOf 2 = .ok (.iload_n 1, 1) := by decide +kernel
theorem d_Ref_sizeOf_3 : decode b_Ref_sizeOf 3 = .ok (.istore_n 3, 1) := by decide +kernel
theorem d_Ref_sizeOf_4 : decode b_Ref_sizeOf 4 = .ok (.iload_n 3, 1) := by decide +kernel
theorem d_Ref_sizeOf_5 : decode b_Ref_sizeOf 5 = .ok (.ifCond .le 16, 3) := by decide +kernel
theorem d_Ref_sizeOf_8 : decode b_Ref_sizeOf 8 = .ok (.iinc 2 1, 3) := by decide +kernel
theorem d_Ref_sizeOf_11 : decode b_Ref_sizeOf 11 = .ok (.iload_n 3, 1) := by decide +kernel
theorem d_Ref_sizeOf_12 : decode b_Ref_sizeOf 12 = .ok (.aload_n 0, 1) := by decide +kernel
theorem d_Ref_sizeOf_13 : decode b_Ref_sizeOf 13 = .ok (.getfield 93, 3) := by decide +kernel
theorem d_Ref_sizeOf_16 : decode b_Ref_sizeOf 16 = .ok (.idiv, 1) := by decide +kernel
theorem d_Ref_sizeOf_17 : decode b_Ref_sizeOf 17 = .ok (.istore_n 3, 1) := by decide +kernel
theorem d_Ref_sizeOf_18 : decode b_Ref_sizeOf 18 = .ok (.goto (-14), 3) := by decide +kernel
theorem d_Ref_sizeOf_21 : decode b_Ref_sizeOf 21 = .ok (.iload_n 2, 1) := by decide +kernel
theorem d_Ref_sizeOf_22 : decode b_Ref_sizeOf 22 = .ok (.ireturn, 1) := by decide +kernel
theorem d_Ref_digits_0 : decode b_Ref_digits 0 = .ok (.aload_n 0, 1) := by decide +kernel
theorem d_Ref_digits_1 : decode b_Ref_digits 1 = .ok (.getfield 221, 3) := by decide +kernel
theorem d_Ref_digits_4 : decode b_Ref_digits 4 = .ok (.istore_n 1, 1) := by decide +kernel
theorem d_Ref_digits_5 : decode b_Ref_digits 5 = .ok (.aload_n 0, 1) := by decide +kernel
theorem d_Ref_digits_6 : decode b_Ref_digits 6 = .ok (.getfield 224, 3) := by decide +kernel
theorem d_Ref_digits_9 : decode b_Ref_digits 9 = .ok (.iconst 1, 1) := by decide +kernel
theorem d_Ref_digits_10 : decode b_Ref_digits 10 = .ok (.isub, 1) := by decide +kernel
theorem d_Ref_digits_11 : decode b_Ref_digits 11 = .ok (.istore_n 2, 1) := by decide +kernel
theorem d_Ref_digits_12 : decode b_Ref_digits 12 = .ok (.iload_n 2, 1) := by decide +kernel
theorem d_Ref_digits_13 : decode b_Ref_digits 13 = .ok (.ifCond .lt 28, 3) := by decide +kernel
theorem d_Ref_digits_16 : decode b_Ref_digits 16 = .ok (.aload_n 0, 1) := by decide +kernel
theorem d_Ref_digits_17 : decode b_Ref_digits 17 = .ok (.getfield 69, 3) := by decide +kernel
theorem d_Ref_digits_20 : decode b_Ref_digits 20 = .ok (.iload_n 2, 1) := by decide +kernel
theorem d_Ref_digits_21 : decode b_Ref_digits 21 = .ok (.iload_n 1, 1) := by decide +kernel
theorem d_Ref_digits_22 : decode b_Ref_digits 22 = .ok (.aload_n 0, 1) := by decide +kernel
theorem d_Ref_digits_23 : decode b_Ref_digits 23 = .ok (.getfield 93, 3) := by decide +kernel
theorem d_Ref_digits_26 : decode b_Ref_digits 26 = .ok (.irem, 1) := by decide +kernel
theorem d_Ref_digits_27 : decode b_Ref_digits 27 = .ok (.iastore, 1) := by decide +kernel
theorem d_Ref_digits_28 : decode b_Ref_digits 28 = .ok (.iload_n 1, 1) := by decide +kernel
theorem d_Ref_digits_29 : decode b_Ref_digits 29 = .ok (.aload_n 0, 1) := by decide +kernel
theorem d_Ref_digits_30 : decode b_Ref_digits 30 = .ok (.getfield 93, 3) := by decide +kernel
theorem d_Ref_digits_33 : decode b_Ref_digits 33 = .ok (.idiv, 1) := by decide +kernel
theorem d_Ref_digits_34 : decode b_Ref_digits 34 = .ok (.istore_n 1, 1) := by decide +kernel
theorem d_Ref_digits_35 : decode b_Ref_digits 35 = .ok (.iinc 2 (-1), 3) := by decide +kernel
theorem d_Ref_digits_38 : decode b_Ref_digits 38 = .ok (.goto (-26), 3) := by decide +kernel
theorem d_Ref_digits_41 : decode b_Ref_digits 41 = .ok (.aload_n 0, 1) := by decide +kernel
theorem d_Ref_digits_42 : decode b_Ref_digits 42 = .ok (.getfield 227, 3) := by decide +kernel
theorem d_Ref_digits_45 : decode b_Ref_digits 45 = .ok (.istore_n 1, 1) := by decide +kernel
theorem d_Ref_digits_46 : decode b_Ref_digits 46 = .ok (.aload_n 0, 1) := by decide +kernel
theorem d_Ref_digits_47 : decode b_Ref_digits 47 = .ok (.getfield 230, 3) := by decide +kernel
theorem d_Ref_digits_50 : decode b_Ref_digits 50 = .ok (.iconst 1, 1) := by decide +kernel
theorem d_Ref_digits_51 : decode b_Ref_digits 51 = .ok (.isub, 1) := by decide +kernel
theorem d_Ref_digits_52 : decode b_Ref_digits 52 = .ok (.istore_n 2, 1) := by decide +kernel
theorem d_Ref_digits_53 : decode b_Ref_digits 53 = .ok (.iload_n 2, 1) := by decide +kernel
theorem d_Ref_digits_54 : decode b_Ref_digits 54 = .ok (.ifCond .lt 28, 3) := by decide +kernel
theorem d_Ref_digits_57 : decode b_Ref_digits 57 = .ok (.aload_n 0, 1) := by decide +kernel
theorem d_Ref_digits_58 : decode b_Ref_digits 58 = .ok (.getfield 72, 3) := by decide +kernel
theorem d_Ref_digits_61 : decode b_Ref_digits 61 = .ok (.iload_n 2, 1) := by decide +kernel
theorem d_Ref_digits_62 : decode b_Ref_digits 62 = .ok (.iload_n 1, 1) := by decide +kernel
theorem d_Ref_digits_63 : decode b_Ref_digits 63 = .ok (.aload_n 0, 1) := by decide +kernel
theorem d_Ref_digits_64 : decode b_Ref_digits 64 = .ok (.getfield 93, 3) := by decide +kernel
theorem d_Ref_digits_67 : decode b_Ref_digits 67 = .ok (.irem, 1) := by decide +kernel
theorem d_Ref_digits_68 : decode b_Ref_digits 68 = .ok (.iastore, 1) := by decide +kernel
theorem d_Ref_digits_69 : decode b_Ref_digits 69 = .ok (.iload_n 1, 1) := by decide +kernel
theorem d_Ref_digits_70 : decode b_Ref_digits 70 = .ok (.aload_n 0, 1) := by decide +kernel
theorem d_Ref_digits_71 : decode b_Ref_digits 71 = .ok (.getfield 93, 3) := by decide +kernel
theorem d_Ref_digits_74 : decode b_Ref_digits 74 = .ok (.idiv, 1) := by decide +kernel
theorem d_Ref_digits_75 : decode b_Ref_digits 75 = .ok (.istore_n 1, 1) := by decide +kernel
theorem d_Ref_digits_76 : decode b_Ref_digits 76 = .ok (.iinc 2 (-1), 3) := by decide +kernel
theorem d_Ref_digits_79 : decode b_Ref_digits 79 = .ok (.goto (-26), 3) := by decide +kernel
theorem d_Ref_digits_82 : decode b_Ref_digits 82 = .ok (.return_, 1) := by decide +kernel
theorem d_Ref_against_0 : decode b_Ref_against 0 = .ok (.iload_n 0, 1) := by decide +kernel
theorem d_Ref_against_1 : decode b_Ref_against 1 = .ok (.iload_n 1, 1) := by decide +kernel
theorem d_Ref_against_2 : decode b_Ref_against 2 = .ok (.if_icmp .ge 7, 3) := by decide +kernel
theorem d_Ref_against_5 : decode b_Ref_against 5 = .ok (.iconst (-1), 1) := by decide +kernel
theorem d_Ref_against_6 : decode b_Ref_against 6 = .ok (.goto 13, 3) := by decide +kernel
theorem d_Ref_against_9 : decode b_Ref_against 9 = .ok (.iload_n 0, 1) := by decide +kernel
theorem d_Ref_against_10 : decode b_Ref_against 10 = .ok (.iload_n 1, 1) := by decide +kernel
theorem d_Ref_against_11 : decode b_Ref_against 11 = .ok (.if_icmp .le 7, 3) := by decide +kernel
theorem d_Ref_against_14 : decode b_Ref_against 14 = .ok (.iconst 1, 1) := by decide +kernel
theorem d_Ref_against_15 : decode b_Ref_against 15 = .ok (.goto 4, 3) := by decide +kernel
theorem d_Ref_against_18 : decode b_Ref_against 18 = .ok (.iconst 0, 1) := by decide +kernel
theorem d_Ref_against_19 : decode b_Ref_against 19 = .ok (.ireturn, 1) := by decide +kernel
theorem d_Ref_placeOf_0 : decode b_Ref_placeOf 0 = .ok (.iconst 3, 1) := by decide +kernel
theorem d_Ref_placeOf_1 : decode b_Ref_placeOf 1 = .ok (.bipush 9, 2) := by decide +kernel
theorem d_Ref_placeOf_3 : decode b_Ref_placeOf 3 = .ok (.iload_n 0, 1) := by decide +kernel
theorem d_Ref_placeOf_4 : decode b_Ref_placeOf 4 = .ok (.iconst 1, 1) := by decide +kernel
theorem d_Ref_placeOf_5 : decode b_Ref_placeOf 5 = .ok (.isub, 1) := by decide +kernel
theorem d_Ref_placeOf_6 : decode b_Ref_placeOf 6 = .ok (.imul, 1) := by decide +kernel
theorem d_Ref_placeOf_7 : decode b_Ref_placeOf 7 = .ok (.iadd, 1) := by decide +kernel
theorem d_Ref_placeOf_8 : decode b_Ref_placeOf 8 = .ok (.iconst 3, 1) := by decide +kernel
theorem d_Ref_placeOf_9 : decode b_Ref_placeOf 9 = .ok (.iload_n 1, 1) := by decide +kernel
theorem d_Ref_placeOf_10 : decode b_Ref_placeOf 10 = .ok (.iconst 1, 1) := by decide +kernel
theorem d_Ref_placeOf_11 : decode b_Ref_placeOf 11 = .ok (.iadd, 1) := by decide +kernel
theorem d_Ref_placeOf_12 : decode b_Ref_placeOf 12 = .ok (.imul, 1) := by decide +kernel
theorem d_Ref_placeOf_13 : decode b_Ref_placeOf 13 = .ok (.iadd, 1) := by decide +kernel
theorem d_Ref_placeOf_14 : decode b_Ref_placeOf 14 = .ok (.iload_n 2, 1) := by decide +kernel
theorem d_Ref_placeOf_15 : decode b_Ref_placeOf 15 = .ok (.iadd, 1) := by decide +kernel
theorem d_Ref_placeOf_16 : decode b_Ref_placeOf 16 = .ok (.iconst 1, 1) := by decide +kernel
theorem d_Ref_placeOf_17 : decode b_Ref_placeOf 17 = .ok (.iadd, 1) := by decide +kernel
theorem d_Ref_placeOf_18 : decode b_Ref_placeOf 18 = .ok (.ireturn, 1) := by decide +kernel
theorem d_Ref_leadNumeral_0 : decode b_Ref_leadNumeral 0 = .ok (.iload_n 1, 1) := by decide +kernel
theorem d_Ref_leadNumeral_1 : decode b_Ref_leadNumeral 1 = .ok (.iload_n 2, 1) := by decide +kernel
theorem d_Ref_leadNumeral_2 : decode b_Ref_leadNumeral 2 = .ok (.iload_n 3, 1) := by decide +kernel
theorem d_Ref_leadNumeral_3 : decode b_Ref_leadNumeral 3 = .ok (.invokestatic 233, 3) := by decide +kernel
theorem d_Ref_leadNumeral_6 : decode b_Ref_leadNumeral 6 = .ok (.istore 4, 2) := by decide +kernel
theorem d_Ref_leadNumeral_8 : decode b_Ref_leadNumeral 8 = .ok (.aload_n 0, 1) := by decide +kernel
theorem d_Ref_leadNumeral_9 : decode b_Ref_leadNumeral 9 = .ok (.getfield 35, 3) := by decide +kernel
theorem d_Ref_leadNumeral_12 : decode b_Ref_leadNumeral 12 = .ok (.iload 4, 2) := by decide +kernel
theorem d_Ref_leadNumeral_14 : decode b_Ref_leadNumeral 14 = .ok (.iload_n 1, 1) := by decide +kernel
theorem d_Ref_leadNumeral_15 : decode b_Ref_leadNumeral 15 = .ok (.aload_n 0, 1) := by decide +kernel
theorem d_Ref_leadNumeral_16 : decode b_Ref_leadNumeral 16 = .ok (.getfield 224, 3) := by decide +kernel
theorem d_Ref_leadNumeral_19 : decode b_Ref_leadNumeral 19 = .ok (.if_icmp .lt 31, 3) := by decide +kernel
theorem d_Ref_leadNumeral_22 : decode b_Ref_leadNumeral 22 = .ok (.iload_n 1, 1) := by decide +kernel
theorem d_Ref_leadNumeral_23 : decode b_Ref_leadNumeral 23 = .ok (.aload_n 0, 1) := by decide +kernel
theorem d_Ref_leadNumeral_24 : decode b_Ref_leadNumeral 24 = .ok (.getfield 224, 3) := by decide +kernel
theorem d_Ref_leadNumeral_27 : decode b_Ref_leadNumeral 27 = .ok (.if_icmp .gt 7, 3) := by decide +kernel
theorem d_Ref_leadNumeral_30 : decode b_Ref_leadNumeral 30 = .ok (.iload_n 2, 1) := by decide +kernel
theorem d_Ref_leadNumeral_31 : decode b_Ref_leadNumeral 31 = .ok (.ifCond .lt 19, 3) := by decide +kernel
theorem d_Ref_leadNumeral_34 : decode b_Ref_leadNumeral 34 = .ok (.iload_n 1, 1) := by decide +kernel
theorem d_Ref_leadNumeral_35 : decode b_Ref_leadNumeral 35 = .ok (.aload_n 0, 1) := by decide +kernel
theorem d_Ref_leadNumeral_36 : decode b_Ref_leadNumeral 36 = .ok (.getfield 230, 3) := by decide +kernel
theorem d_Ref_leadNumeral_39 : decode b_Ref_leadNumeral 39 = .ok (.if_icmp .lt 7, 3) := by decide +kernel
theorem d_Ref_leadNumeral_42 : decode b_Ref_leadNumeral 42 = .ok (.iload_n 3, 1) := by decide +kernel
theorem d_Ref_leadNumeral_43 : decode b_Ref_leadNumeral 43 = .ok (.ifCond .gt 7, 3) := by decide +kernel
theorem d_Ref_leadNumeral_46 : decode b_Ref_leadNumeral 46 = .ok (.iconst 1, 1) := by decide +kernel
theorem d_Ref_leadNumeral_47 : decode b_Ref_leadNumeral 47 = .ok (.goto 4, 3) := by decide +kernel
theorem d_Ref_leadNumeral_50 : decode b_Ref_leadNumeral 50 = .ok (.iconst 0, 1) := by decide +kernel
theorem d_Ref_leadNumeral_51 : decode b_Ref_leadNumeral 51 = .ok (.bastore, 1) := by decide +kernel
theorem d_Ref_leadNumeral_52 : decode b_Ref_leadNumeral 52 = .ok (.iconst 0, 1) := by decide +kernel
theorem d_Ref_leadNumeral_53 : decode b_Ref_leadNumeral 53 = .ok (.istore 5, 2) := by decide +kernel
theorem d_Ref_leadNumeral_55 : decode b_Ref_leadNumeral 55 = .ok (.iload 5, 2) := by decide +kernel
theorem d_Ref_leadNumeral_57 : decode b_Ref_leadNumeral 57 = .ok (.aload_n 0, 1) := by decide +kernel
theorem d_Ref_leadNumeral_58 : decode b_Ref_leadNumeral 58 = .ok (.getfield 93, 3) := by decide +kernel
theorem d_Ref_leadNumeral_61 : decode b_Ref_leadNumeral 61 = .ok (.if_icmp .ge 101, 3) := by decide +kernel
theorem d_Ref_leadNumeral_64 : decode b_Ref_leadNumeral 64 = .ok (.iload_n 2, 1) := by decide +kernel
theorem d_Ref_leadNumeral_65 : decode b_Ref_leadNumeral 65 = .ok (.ifCond .ne 25, 3) := by decide +kernel
theorem d_Ref_leadNumeral_68 : decode b_Ref_leadNumeral 68 = .ok (.iload_n 1, 1) := by decide +kernel
theorem d_Ref_leadNumeral_69 : decode b_Ref_leadNumeral 69 = .ok (.aload_n 0, 1) := by decide +kernel
theorem d_Ref_leadNumeral_70 : decode b_Ref_leadNumeral 70 = .ok (.getfield 224, 3) := by decide +kernel
theorem d_Ref_leadNumeral_73 : decode b_Ref_leadNumeral 73 = .ok (.if_icmp .ge 17, 3) := by decide +kernel
theorem d_Ref_leadNumeral_76 : decode b_Ref_leadNumeral 76 = .ok (.iload 5, 2) := by decide +kernel
theorem d_Ref_leadNumeral_78 : decode b_Ref_leadNumeral 78 = .ok (.aload_n 0, 1) := by decide +kernel
theorem d_Ref_leadNumeral_79 : decode b_Ref_leadNumeral 79 = .ok (.getfield 69, 3) := by decide +kernel
theorem d_Ref_leadNumeral_82 : decode b_Ref_leadNumeral 82 = .ok (.iload_n 1, 1) := by decide +kernel
theorem d_Ref_leadNumeral_83 : decode b_Ref_leadNumeral 83 = .ok (.iaload, 1) := by decide +kernel
theorem d_Ref_leadNumeral_84 : decode b_Ref_leadNumeral 84 = .ok (.invokestatic 236, 3) := by decide +kernel
theorem d_Ref_leadNumeral_87 : decode b_Ref_leadNumeral 87 = .ok (.goto 4, 3) := by decide +kernel
theorem d_Ref_leadNumeral_90 : decode b_Ref_leadNumeral 90 = .ok (.iload_n 2, 1) := by decide +kernel
theorem d_Ref_leadNumeral_91 : decode b_Ref_leadNumeral 91 = .ok (.istore 6, 2) := by decide +kernel
theorem d_Ref_leadNumeral_93 : decode b_Ref_leadNumeral 93 = .ok (.iload_n 3, 1) := by decide +kernel
theorem d_Ref_leadNumeral_94 : decode b_Ref_leadNumeral 94 = .ok (.ifCond .ne 25, 3) := by decide +kernel
theorem d_Ref_leadNumeral_97 : decode b_Ref_leadNumeral 97 = .ok (.iload_n 1, 1) := by decide +kernel
theorem d_Ref_leadNumeral_98 : decode b_Ref_leadNumeral 98 = .ok (.aload_n 0, 1) := by decide +kernel
theorem d_Ref_leadNumeral_99 : decode b_Ref_leadNumeral 99 = .ok (.getfield 230, 3) := by decide +kernel
theorem d_Ref_leadNumeral_102 : decode b_Ref_leadNumeral 102 = .ok (.if_icmp .ge 17, 3) := by decide +kernel
theorem d_Ref_leadNumeral_105 : decode b_Ref_leadNumeral 105 = .ok (.iload 5, 2) := by decide +kernel
theorem d_Ref_leadNumeral_107 : decode b_Ref_leadNumeral 107 = .ok (.aload_n 0, 1) := by decide +kernel
theorem d_Ref_leadNumeral_108 : decode b_Ref_leadNumeral 108 = .ok (.getfield 72, 3) := by decide +kernel
theorem d_Ref_leadNumeral_111 : decode b_Ref_leadNumeral 111 = .ok (.iload_n 1, 1) := by decide +kernel
theorem d_Ref_leadNumeral_112 : decode b_Ref_leadNumeral 112 = .ok (.iaload, 1) := by decide +kernel
theorem d_Ref_leadNumeral_113 : decode b_Ref_leadNumeral 113 = .ok (.invokestatic 236, 3) := by decide +kernel
theorem d_Ref_leadNumeral_116 : decode b_Ref_leadNumeral 116 = .ok (.goto 4, 3) := by decide +kernel
theorem d_Ref_leadNumeral_119 : decode b_Ref_leadNumeral 119 = .ok (.iload_n 3, 1) := by decide +kernel
theorem d_Ref_leadNumeral_120 : decode b_Ref_leadNumeral 120 = .ok (.istore 7, 2) := by decide +kernel
theorem d_Ref_leadNumeral_122 : decode b_Ref_leadNumeral 122 = .ok (.aload_n 0, 1) := by decide +kernel
theorem d_Ref_leadNumeral_123 : decode b_Ref_leadNumeral 123 = .ok (.getfield 32, 3) := by decide +kernel
theorem d_Ref_leadNumeral_126 : decode b_Ref_leadNumeral 126 = .ok (.iconst 4, 1) := by decide +kernel
theorem d_Ref_leadNumeral_127 : decode b_Ref_leadNumeral 127 = .ok (.iload 4, 2) := by decide +kernel
theorem d_Ref_leadNumeral_129 : decode b_Ref_leadNumeral 129 = .ok (.imul, 1) := by decide +kernel
theorem d_Ref_leadNumeral_130 : decode b_Ref_leadNumeral 130 = .ok (.iload 5, 2) := by decide +kernel
theorem d_Ref_leadNumeral_132 : decode b_Ref_leadNumeral 132 = .ok (.iadd, 1) := by decide +kernel
theorem d_Ref_leadNumeral_133 : decode b_Ref_leadNumeral 133 = .ok (.iload_n 1, 1) := by decide +kernel
theorem d_Ref_leadNumeral_134 : decode b_Ref_leadNumeral 134 = .ok (.aload_n 0, 1) := by decide +kernel
theorem d_Ref_leadNumeral_135 : decode b_Ref_leadNumeral 135 = .ok (.getfield 230, 3) := by decide +kernel
theorem d_Ref_leadNumeral_138 : decode b_Ref_leadNumeral 138 = .ok (.if_icmp .ne 7, 3) := by decide +kernel
theorem d_Ref_leadNumeral_141 : decode b_Ref_leadNumeral 141 = .ok (.iconst 2, 1) := by decide +kernel
theorem d_Ref_leadNumeral_142 : decode b_Ref_leadNumeral 142 = .ok (.goto 13, 3) := by decide +kernel
theorem d_Ref_leadNumeral_145 : decode b_Ref_leadNumeral 145 = .ok (.iload_n 1, 1) := by decide +kernel
theorem d_Ref_leadNumeral_146 : decode b_Ref_leadNumeral 146 = .ok (.iconst 1, 1) := by decide +kernel
theorem d_Ref_leadNumeral_147 : decode b_Ref_leadNumeral 147 = .ok (.iadd, 1) := by decide +kernel
theorem d_Ref_leadNumeral_148 : decode b_Ref_leadNumeral 148 = .ok (.iload 6, 2) := by decide +kernel
theorem d_Ref_leadNumeral_150 : decode b_Ref_leadNumeral 150 = .ok (.iload 7, 2) := by decide +kernel
theorem d_Ref_leadNumeral_152 : decode b_Ref_leadNumeral 152 = .ok (.invokestatic 233, 3) := by decide +kernel
theorem d_Ref_leadNumeral_155 : decode b_Ref_leadNumeral 155 = .ok (.iastore, 1) := by decide +kernel
theorem d_Ref_leadNumeral_156 : decode b_Ref_leadNumeral 156 = .ok (.iinc 5 1, 3) := by decide +kernel
theorem d_Ref_leadNumeral_159 : decode b_Ref_leadNumeral 159 = .ok (.goto (-104), 3) := by decide +kernel
theorem d_Ref_leadNumeral_162 : decode b_Ref_leadNumeral 162 = .ok (.return_, 1) := by decide +kernel
theorem d_Ref_pair_0 : decode b_Ref_pair 0 = .ok (.iload_n 1, 1) := by decide +kernel
theorem d_Ref_pair_1 : decode b_Ref_pair 1 = .ok (.i2l, 1) := by decide +kernel
theorem d_Ref_pair_2 : decode b_Ref_pair 2 = .ok (.lconst 0, 1) := by decide +kernel
theorem d_Ref_pair_3 : decode b_Ref_pair 3 = .ok (.ldc2_w 252, 3) := by decide +kernel
theorem d_Ref_pair_6 : decode b_Ref_pair 6 = .ok (.invokestatic 100, 3) := by decide +kernel
theorem d_Ref_pair_9 : decode b_Ref_pair 9 = .ok (.ifCond .eq 19, 3) := by decide +kernel
theorem d_Ref_pair_12 : decode b_Ref_pair 12 = .ok (.aload_n 0, 1) := by decide +kernel
theorem d_Ref_pair_13 : decode b_Ref_pair 13 = .ok (.iload_n 2, 1) := by decide +kernel
theorem d_Ref_pair_14 : decode b_Ref_pair 14 = .ok (.invokevirtual 208, 3) := by decide +kernel
theorem d_Ref_pair_17 : decode b_Ref_pair 17 = .ok (.ifCond .eq 11, 3) := by decide +kernel
theorem d_Ref_pair_20 : decode b_Ref_pair 20 = .ok (.aload_n 0, 1) := by decide +kernel
theorem d_Ref_pair_21 : decode b_Ref_pair 21 = .ok (.iload_n 3, 1) := by decide +kernel
theorem d_Ref_pair_22 : decode b_Ref_pair 22 = .ok (.invokevirtual 208, 3) := by decide +kernel
theorem d_Ref_pair_25 : decode b_Ref_pair 25 = .ok (.ifCond .ne 6, 3) := by decide +kernel
theorem d_Ref_pair_28 : decode b_Ref_pair 28 = .ok (.bipush (-2), 2) := by decide +kernel
theorem d_Ref_pair_30 : decode b_Ref_pair 30 = .ok (.ireturn, 1) := by decide +kernel
theorem d_Ref_pair_31 : decode b_Ref_pair 31 = .ok (.aload_n 0, 1) := by decide +kernel
theorem d_Ref_pair_32 : decode b_Ref_pair 32 = .ok (.iconst 1, 1) := by decide +kernel
theorem d_Ref_pair_33 : decode b_Ref_pair 33 = .ok (.iload_n 2, 1) := by decide +kernel
theorem d_Ref_pair_34 : decode b_Ref_pair 34 = .ok (.iload_n 3, 1) := by decide +kernel
theorem d_Ref_pair_35 : decode b_Ref_pair 35 = .ok (.iload_n 1, 1) := by decide +kernel
theorem d_Ref_pair_36 : decode b_Ref_pair 36 = .ok (.invokevirtual 254, 3) := by decide +kernel
theorem d_Ref_pair_39 : decode b_Ref_pair 39 = .ok (.aload_n 0, 1) := by decide +kernel
theorem d_Ref_pair_40 : decode b_Ref_pair 40 = .ok (.iconst 0, 1) := by decide +kernel
theorem d_Ref_pair_41 : decode b_Ref_pair 41 = .ok (.lconst 0, 1) := by decide +kernel
theorem d_Ref_pair_42 : decode b_Ref_pair 42 = .ok (.invokevirtual 258, 3) := by decide +kernel
theorem d_Ref_pair_45 : decode b_Ref_pair 45 = .ok (.ireturn, 1) := by decide +kernel
theorem d_Ref_set_0 : decode b_Ref_set 0 = .ok (.aload_n 0, 1) := by decide +kernel
theorem d_Ref_set_1 : decode b_Ref_set 1 = .ok (.iload_n 1, 1) := by decide +kernel
theorem d_Ref_set_2 : decode b_Ref_set 2 = .ok (.putfield 139, 3) := by decide +kernel
theorem d_Ref_set_5 : decode b_Ref_set 5 = .ok (.aload_n 0, 1) := by decide +kernel
theorem d_Ref_set_6 : decode b_Ref_set 6 = .ok (.iload_n 2, 1) := by decide +kernel
theorem d_Ref_set_7 : decode b_Ref_set 7 = .ok (.putfield 142, 3) := by decide +kernel
theorem d_Ref_set_10 : decode b_Ref_set 10 = .ok (.aload_n 0, 1) := by decide +kernel
theorem d_Ref_set_11 : decode b_Ref_set 11 = .ok (.iload_n 3, 1) := by decide +kernel
theorem d_Ref_set_12 : decode b_Ref_set 12 = .ok (.putfield 145, 3) := by decide +kernel
theorem d_Ref_set_15 : decode b_Ref_set 15 = .ok (.aload_n 0, 1) := by decide +kernel
theorem d_Ref_set_16 : decode b_Ref_set 16 = .ok (.iload 4, 2) := by decide +kernel
theorem d_Ref_set_18 : decode b_Ref_set 18 = .ok (.putfield 172, 3) := by decide +kernel
theorem d_Ref_set_21 : decode b_Ref_set 21 = .ok (.return_, 1) := by decide +kernel
theorem d_Ref_explore_0 : decode b_Ref_explore 0 = .ok (.aload_n 0, 1) := by decide +kernel
theorem d_Ref_explore_1 : decode b_Ref_explore 1 = .ok (.iconst 1, 1) := by decide +kernel
theorem d_Ref_explore_2 : decode b_Ref_explore 2 = .ok (.putfield 113, 3) := by decide +kernel
theorem d_Ref_explore_5 : decode b_Ref_explore 5 = .ok (.aload_n 0, 1) := by decide +kernel
theorem d_Ref_explore_6 : decode b_Ref_explore 6 = .ok (.getfield 26, 3) := by decide +kernel
theorem d_Ref_explore_9 : decode b_Ref_explore 9 = .ok (.iconst 0, 1) := by decide +kernel
theorem d_Ref_explore_10 : decode b_Ref_explore 10 = .ok (.iload_n 1, 1) := by decide +kernel
theorem d_Ref_explore_11 : decode b_Ref_explore 11 = .ok (.iastore, 1) := by decide +kernel
theorem d_Ref_explore_12 : decode b_Ref_explore 12 = .ok (.aload_n 0, 1) := by decide +kernel
theorem d_Ref_explore_13 : decode b_Ref_explore 13 = .ok (.getfield 29, 3) := by decide +kernel
theorem d_Ref_explore_16 : decode b_Ref_explore 16 = .ok (.iconst 0, 1) := by decide +kernel
theorem d_Ref_explore_17 : decode b_Ref_explore 17 = .ok (.lload_n 2, 1) := by decide +kernel
theorem d_Ref_explore_18 : decode b_Ref_explore 18 = .ok (.lastore, 1) := by decide +kernel
theorem d_Ref_explore_19 : decode b_Ref_explore 19 = .ok (.iconst 0, 1) := by decide +kernel
theorem d_Ref_explore_20 : decode b_Ref_explore 20 = .ok (.istore 4, 2) := by decide +kernel
theorem d_Ref_explore_22 : decode b_Ref_explore 22 = .ok (.iload 4, 2) := by decide +kernel
theorem d_Ref_explore_24 : decode b_Ref_explore 24 = .ok (.aload_n 0, 1) := by decide +kernel
theorem d_Ref_explore_25 : decode b_Ref_explore 25 = .ok (.getfield 113, 3) := by decide +kernel
theorem d_Ref_explore_28 : decode b_Ref_explore 28 = .ok (.if_icmp .ge 199, 3) := by decide +kernel
theorem d_Ref_explore_31 : decode b_Ref_explore 31 = .ok (.aload_n 0, 1) := by decide +kernel
theorem d_Ref_explore_32 : decode b_Ref_explore 32 = .ok (.getfield 35, 3) := by decide +kernel
theorem d_Ref_explore_35 : decode b_Ref_explore 35 = .ok (.iload 4, 2) := by decide +kernel
theorem d_Ref_explore_37 : decode b_Ref_explore 37 = .ok (.aload_n 0, 1) := by decide +kernel
theorem d_Ref_explore_38 : decode b_Ref_explore 38 = .ok (.aload_n 0, 1) := by decide +kernel
theorem d_Ref_explore_39 : decode b_Ref_explore 39 = .ok (.getfield 26, 3) := by decide +kernel
theorem d_Ref_explore_42 : decode b_Ref_explore 42 = .ok (.iload 4, 2) := by decide +kernel
theorem d_Ref_explore_44 : decode b_Ref_explore 44 = .ok (.iaload, 1) := by decide +kernel
theorem d_Ref_explore_45 : decode b_Ref_explore 45 = .ok (.aload_n 0, 1) := by decide +kernel
theorem d_Ref_explore_46 : decode b_Ref_explore 46 = .ok (.getfield 29, 3) := by decide +kernel
theorem d_Ref_explore_49 : decode b_Ref_explore 49 = .ok (.iload 4, 2) := by decide +kernel
theorem d_Ref_explore_51 : decode b_Ref_explore 51 = .ok (.laload, 1) := by decide +kernel
theorem d_Ref_explore_52 : decode b_Ref_explore 52 = .ok (.invokevirtual 116, 3) := by decide +kernel
theorem d_Ref_explore_55 : decode b_Ref_explore 55 = .ok (.bastore, 1) := by decide +kernel
theorem d_Ref_explore_56 : decode b_Ref_explore 56 = .ok (.iconst 0, 1) := by decide +kernel
theorem d_Ref_explore_57 : decode b_Ref_explore 57 = .ok (.istore 5, 2) := by decide +kernel
theorem d_Ref_explore_59 : decode b_Ref_explore 59 = .ok (.iload 5, 2) := by decide +kernel
theorem d_Ref_explore_61 : decode b_Ref_explore 61 = .ok (.aload_n 0, 1) := by decide +kernel
theorem d_Ref_explore_62 : decode b_Ref_explore 62 = .ok (.getfield 93, 3) := by decide +kernel
theorem d_Ref_explore_65 : decode b_Ref_explore 65 = .ok (.if_icmp .ge 156, 3) := by decide +kernel
theorem d_Ref_explore_68 : decode b_Ref_explore 68 = .ok (.aload_n 0, 1) := by decide +kernel
theorem d_Ref_explore_69 : decode b_Ref_explore 69 = .ok (.aload_n 0, 1) := by decide +kernel
theorem d_Ref_explore_70 : decode b_Ref_explore 70 = .ok (.getfield 26, 3) := by decide +kernel
theorem d_Ref_explore_73 : decode b_Ref_explore 73 = .ok (.iload 4, 2) := by decide +kernel
theorem d_Ref_explore_75 : decode b_Ref_explore 75 = .ok (.iaload, 1) := by decide +kernel
theorem d_Ref_explore_76 : decode b_Ref_explore 76 = .ok (.aload_n 0, 1) := by decide +kernel
theorem d_Ref_explore_77 : decode b_Ref_explore 77 = .ok (.getfield 29, 3) := by decide +kernel
theorem d_Ref_explore_80 : decode b_Ref_explore 80 = .ok (.iload 4, 2) := by decide +kernel
theorem d_Ref_explore_82 : decode b_Ref_explore 82 = .ok (.laload, 1) := by decide +kernel
theorem d_Ref_explore_83 : decode b_Ref_explore 83 = .ok (.iload 5, 2) := by decide +kernel
theorem d_Ref_explore_85 : decode b_Ref_explore 85 = .ok (.invokevirtual 120, 3) := by decide +kernel
theorem d_Ref_explore_88 : decode b_Ref_explore 88 = .ok (.iconst 0, 1) := by decide +kernel
theorem d_Ref_explore_89 : decode b_Ref_explore 89 = .ok (.istore 6, 2) := by decide +kernel
theorem d_Ref_explore_91 : decode b_Ref_explore 91 = .ok (.iload 6, 2) := by decide +kernel
theorem d_Ref_explore_93 : decode b_Ref_explore 93 = .ok (.aload_n 0, 1) := by decide +kernel
theorem d_Ref_explore_94 : decode b_Ref_explore 94 = .ok (.getfield 113, 3) := by decide +kernel
theorem d_Ref_explore_97 : decode b_Ref_explore 97 = .ok (.if_icmp .ge 38, 3) := by decide +kernel
theorem d_Ref_explore_100 : decode b_Ref_explore 100 = .ok (.aload_n 0, 1) := by decide +kernel
theorem d_Ref_explore_101 : decode b_Ref_explore 101 = .ok (.getfield 26, 3) := by decide +kernel
theorem d_Ref_explore_104 : decode b_Ref_explore 104 = .ok (.iload 6, 2) := by decide +kernel
theorem d_Ref_explore_106 : decode b_Ref_explore 106 = .ok (.iaload, 1) := by decide +kernel
theorem d_Ref_explore_107 : decode b_Ref_explore 107 = .ok (.aload_n 0, 1) := by decide +kernel
theorem d_Ref_explore_108 : decode b_Ref_explore 108 = .ok (.getfield 124, 3) := by decide +kernel
theorem d_Ref_explore_111 : decode b_Ref_explore 111 = .ok (.if_icmp .ne 18, 3) := by decide +kernel
theorem d_Ref_explore_114 : decode b_Ref_explore 114 = .ok (.aload_n 0, 1) := by decide +kernel
theorem d_Ref_explore_115 : decode b_Ref_explore 115 = .ok (.getfield 29, 3) := by decide +kernel
theorem d_Ref_explore_118 : decode b_Ref_explore 118 = .ok (.iload 6, 2) := by decide +kernel
theorem d_Ref_explore_120 : decode b_Ref_explore 120 = .ok (.laload, 1) := by decide +kernel
theorem d_Ref_explore_121 : decode b_Ref_explore 121 = .ok (.aload_n 0, 1) := by decide +kernel
theorem d_Ref_explore_122 : decode b_Ref_explore 122 = .ok (.getfield 127, 3) := by decide +kernel
theorem d_Ref_explore_125 : decode b_Ref_explore 125 = .ok (.lcmp, 1) := by decide +kernel
theorem d_Ref_explore_126 : decode b_Ref_explore 126 = .ok (.ifCond .eq 9, 3) := by decide +kernel
theorem d_Ref_explore_129 : decode b_Ref_explore 129 = .ok (.iinc 6 1, 3) := by decide +kernel
theorem d_Ref_explore_132 : decode b_Ref_explore 132 = .ok (.goto (-41), 3) := by decide +kernel
theorem d_Ref_explore_135 : decode b_Ref_explore 135 = .ok (.iload 6, 2) := by decide +kernel
theorem d_Ref_explore_137 : decode b_Ref_explore 137 = .ok (.sipush 200, 3) := by decide +kernel
theorem d_Ref_explore_140 : decode b_Ref_explore 140 = .ok (.if_icmp .ne 13, 3) := by decide +kernel
theorem d_Ref_explore_143 : decode b_Ref_explore 143 = .ok (.aload_n 0, 1) := by decide +kernel
theorem d_Ref_explore_144 : decode b_Ref_explore 144 = .ok (.sipush 201, 3) := by decide +kernel
theorem d_Ref_explore_147 : decode b_Ref_explore 147 = .ok (.putfield 110, 3) := by decide +kernel
theorem d_Ref_explore_150 : decode b_Ref_explore 150 = .ok (.bipush (-4), 2) := by decide +kernel
theorem d_Ref_explore_152 : decode b_Ref_explore 152 = .ok (.ireturn, 1) := by decide +kernel
theorem d_Ref_explore_153 : decode b_Ref_explore 153 = .ok (.aload_n 0, 1) := by decide +kernel
theorem d_Ref_explore_154 : decode b_Ref_explore 154 = .ok (.getfield 26, 3) := by decide +kernel
theorem d_Ref_explore_157 : decode b_Ref_explore 157 = .ok (.iload 6, 2) := by decide +kernel
theorem d_Ref_explore_159 : decode b_Ref_explore 159 = .ok (.aload_n 0, 1) := by decide +kernel
theorem d_Ref_explore_160 : decode b_Ref_explore 160 = .ok (.getfield 124, 3) := by decide +kernel
theorem d_Ref_explore_163 : decode b_Ref_explore 163 = .ok (.iastore, 1) := by decide +kernel
theorem d_Ref_explore_164 : decode b_Ref_explore 164 = .ok (.aload_n 0, 1) := by decide +kernel
theorem d_Ref_explore_165 : decode b_Ref_explore 165 = .ok (.getfield 29, 3) := by decide +kernel
theorem d_Ref_explore_168 : decode b_Ref_explore 168 = .ok (.iload 6, 2) := by decide +kernel
theorem d_Ref_explore_170 : decode b_Ref_explore 170 = .ok (.aload_n 0, 1) := by decide +kernel
theorem d_Ref_explore_171 : decode b_Ref_explore 171 = .ok (.getfield 127, 3) := by decide +kernel
theorem d_Ref_explore_174 : decode b_Ref_explore 174 = .ok (.lastore, 1) := by decide +kernel
theorem d_Ref_explore_175 : decode b_Ref_explore 175 = .ok (.aload_n 0, 1) := by decide +kernel
theorem d_Ref_explore_176 : decode b_Ref_explore 176 = .ok (.iload 6, 2) := by decide +kernel
theorem d_Ref_explore_178 : decode b_Ref_explore 178 = .ok (.aload_n 0, 1) := by decide +kernel
theorem d_Ref_explore_179 : decode b_Ref_explore 179 = .ok (.getfield 113, 3) := by decide +kernel
theorem d_Ref_explore_182 : decode b_Ref_explore 182 = .ok (.if_icmp .ne 12, 3) := by decide +kernel
theorem d_Ref_explore_185 : decode b_Ref_explore 185 = .ok (.aload_n 0, 1) := by decide +kernel
theorem d_Ref_explore_186 : decode b_Ref_explore 186 = .ok (.getfield 113, 3) := by decide +kernel
theorem d_Ref_explore_189 : decode b_Ref_explore 189 = .ok (.iconst 1, 1) := by decide +kernel
theorem d_Ref_explore_190 : decode b_Ref_explore 190 = .ok (.iadd, 1) := by decide +kernel
theorem d_Ref_explore_191 : decode b_Ref_explore 191 = .ok (.goto 7, 3) := by decide +kernel
theorem d_Ref_explore_194 : decode b_Ref_explore 194 = .ok (.aload_n 0, 1) := by decide +kernel
theorem d_Ref_explore_195 : decode b_Ref_explore 195 = .ok (.getfield 113, 3) := by decide +kernel
theorem d_Ref_explore_198 : decode b_Ref_explore 198 = .ok (.putfield 113, 3) := by decide +kernel
theorem d_Ref_explore_201 : decode b_Ref_explore 201 = .ok (.aload_n 0, 1) := by decide +kernel
theorem d_Ref_explore_202 : decode b_Ref_explore 202 = .ok (.getfield 32, 3) := by decide +kernel
theorem d_Ref_explore_205 : decode b_Ref_explore 205 = .ok (.iconst 4, 1) := by decide +kernel
theorem d_Ref_explore_206 : decode b_Ref_explore 206 = .ok (.iload 4, 2) := by decide +kernel
theorem d_Ref_explore_208 : decode b_Ref_explore 208 = .ok (.imul, 1) := by decide +kernel
theorem d_Ref_explore_209 : decode b_Ref_explore 209 = .ok (.iload 5, 2) := by decide +kernel
theorem d_Ref_explore_211 : decode b_Ref_explore 211 = .ok (.iadd, 1) := by decide +kernel
theorem d_Ref_explore_212 : decode b_Ref_explore 212 = .ok (.iload 6, 2) := by decide +kernel
theorem d_Ref_explore_214 : decode b_Ref_explore 214 = .ok (.iastore, 1) := by decide +kernel
theorem d_Ref_explore_215 : decode b_Ref_explore 215 = .ok (.iinc 5 1, 3) := by decide +kernel
theorem d_Ref_explore_218 : decode b_Ref_explore 218 = .ok (.goto (-159), 3) := by decide +kernel
theorem d_Ref_explore_221 : decode b_Ref_explore 221 = .ok (.iinc 4 1, 3) := by decide +kernel
theorem d_Ref_explore_224 : decode b_Ref_explore 224 = .ok (.goto (-202), 3) := by decide +kernel
theorem d_Ref_explore_227 : decode b_Ref_explore 227 = .ok (.aload_n 0, 1) := by decide +kernel
theorem d_Ref_explore_228 : decode b_Ref_explore 228 = .ok (.aload_n 0, 1) := by decide +kernel
theorem d_Ref_explore_229 : decode b_Ref_explore 229 = .ok (.getfield 113, 3) := by decide +kernel
theorem d_Ref_explore_232 : decode b_Ref_explore 232 = .ok (.putfield 110, 3) := by decide +kernel
theorem d_Ref_explore_235 : decode b_Ref_explore 235 = .ok (.aload_n 0, 1) := by decide +kernel
theorem d_Ref_explore_236 : decode b_Ref_explore 236 = .ok (.invokevirtual 131, 3) := by decide +kernel
theorem d_Ref_explore_239 : decode b_Ref_explore 239 = .ok (.ireturn, 1) := by decide +kernel
theorem d_Ref_isEndAt_0 : decode b_Ref_isEndAt 0 = .ok (.aload_n 0, 1) := by decide +kernel
theorem d_Ref_isEndAt_1 : decode b_Ref_isEndAt 1 = .ok (.getfield 139, 3) := by decide +kernel
theorem d_Ref_isEndAt_4 : decode b_Ref_isEndAt 4 = .ok (.iconst 1, 1) := by decide +kernel
theorem d_Ref_isEndAt_5 : decode b_Ref_isEndAt 5 = .ok (.if_icmp .eq 12, 3) := by decide +kernel
theorem d_Ref_isEndAt_8 : decode b_Ref_isEndAt 8 = .ok (.aload_n 0, 1) := by decide +kernel
theorem d_Ref_isEndAt_9 : decode b_Ref_isEndAt 9 = .ok (.getfield 139, 3) := by decide +kernel
theorem d_Ref_isEndAt_12 : decode b_Ref_isEndAt 12 = .ok (.bipush 9, 2) := by decide +kernel
theorem d_Ref_isEndAt_14 : decode b_Ref_isEndAt 14 = .ok (.if_icmp .ne 146, 3) := by decide +kernel
theorem d_Ref_isEndAt_17 : decode b_Ref_isEndAt 17 = .ok (.aload_n 0, 1) := by decide +kernel
theorem d_Ref_isEndAt_18 : decode b_Ref_isEndAt 18 = .ok (.aload_n 0, 1) := by decide +kernel
theorem d_Ref_isEndAt_19 : decode b_Ref_isEndAt 19 = .ok (.getfield 142, 3) := by decide +kernel
theorem d_Ref_isEndAt_22 : decode b_Ref_isEndAt 22 = .ok (.iload_n 1, 1) := by decide +kernel
theorem d_Ref_isEndAt_23 : decode b_Ref_isEndAt 23 = .ok (.invokevirtual 152, 3) := by decide +kernel
theorem d_Ref_isEndAt_26 : decode b_Ref_isEndAt 26 = .ok (.istore 4, 2) := by decide +kernel
theorem d_Ref_isEndAt_28 : decode b_Ref_isEndAt 28 = .ok (.aload_n 0, 1) := by decide +kernel
theorem d_Ref_isEndAt_29 : decode b_Ref_isEndAt 29 = .ok (.getfield 139, 3) := by decide +kernel
theorem d_Ref_isEndAt_32 : decode b_Ref_isEndAt 32 = .ok (.iconst 1, 1) := by decide +kernel
theorem d_Ref_isEndAt_33 : decode b_Ref_isEndAt 33 = .ok (.if_icmp .ne 16, 3) := by decide +kernel
theorem d_Ref_isEndAt_36 : decode b_Ref_isEndAt 36 = .ok (.aload_n 0, 1) := by decide +kernel
theorem d_Ref_isEndAt_37 : decode b_Ref_isEndAt 37 = .ok (.aload_n 0, 1) := by decide +kernel
theorem d_Ref_isEndAt_38 : decode b_Ref_isEndAt 38 = .ok (.getfield 145, 3) := by decide +kernel
theorem d_Ref_isEndAt_41 : decode b_Ref_isEndAt 41 = .ok (.lload_n 2, 1) := by decide +kernel
theorem d_Ref_isEndAt_42 : decode b_Ref_isEndAt 42 = .ok (.l2i, 1) := by decide +kernel
theorem d_Ref_isEndAt_43 : decode b_Ref_isEndAt 43 = .ok (.invokevirtual 152, 3) := by decide +kernel
theorem d_Ref_isEndAt_46 : decode b_Ref_isEndAt 46 = .ok (.goto 22, 3) := by decide +kernel
theorem d_Ref_isEndAt_49 : decode b_Ref_isEndAt 49 = .ok (.aload_n 0, 1) := by decide +kernel
theorem d_Ref_isEndAt_50 : decode b_Ref_isEndAt 50 = .ok (.getfield 169, 3) := by decide +kernel
theorem d_Ref_isEndAt_53 : decode b_Ref_isEndAt 53 = .ok (.lload_n 2, 1) := by decide +kernel
theorem d_Ref_isEndAt_54 : decode b_Ref_isEndAt 54 = .ok (.l2i, 1) := by decide +kernel
theorem d_Ref_isEndAt_55 : decode b_Ref_isEndAt 55 = .ok (.lshr, 1) := by decide +kernel
theorem d_Ref_isEndAt_56 : decode b_Ref_isEndAt 56 = .ok (.lconst 1, 1) := by decide +kernel
theorem d_Ref_isEndAt_57 : decode b_Ref_isEndAt 57 = .ok (.land, 1) := by decide +kernel
theorem d_Ref_isEndAt_58 : decode b_Ref_isEndAt 58 = .ok (.lconst 1, 1) := by decide +kernel
theorem d_Ref_isEndAt_59 : decode b_Ref_isEndAt 59 = .ok (.lcmp, 1) := by decide +kernel
theorem d_Ref_isEndAt_60 : decode b_Ref_isEndAt 60 = .ok (.ifCond .ne 7, 3) := by decide +kernel
theorem d_Ref_isEndAt_63 : decode b_Ref_isEndAt 63 = .ok (.iconst 1, 1) := by decide +kernel
theorem d_Ref_isEndAt_64 : decode b_Ref_isEndAt 64 = .ok (.goto 4, 3) := by decide +kernel
theorem d_Ref_isEndAt_67 : decode b_Ref_isEndAt 67 = .ok (.iconst 0, 1) := by decide +kernel
theorem d_Ref_isEndAt_68 : decode b_Ref_isEndAt 68 = .ok (.istore 5, 2) := by decide +kernel
theorem d_Ref_isEndAt_70 : decode b_Ref_isEndAt 70 = .ok (.aload_n 0, 1) := by decide +kernel
theorem d_Ref_isEndAt_71 : decode b_Ref_isEndAt 71 = .ok (.getfield 172, 3) := by decide +kernel
theorem d_Ref_isEndAt_74 : decode b_Ref_isEndAt 74 = .ok (.ifCond .ne 21, 3) := by decide +kernel
theorem d_Ref_isEndAt_77 : decode b_Ref_isEndAt 77 = .ok (.iload 4, 2) := by decide +kernel
theorem d_Ref_isEndAt_79 : decode b_Ref_isEndAt 79 = .ok (.ifCond .eq 12, 3) := by decide +kernel
theorem d_Ref_isEndAt_82 : decode b_Ref_isEndAt 82 = .ok (.iload 5, 2) := by decide +kernel
theorem d_Ref_isEndAt_84 : decode b_Ref_isEndAt 84 = .ok (.ifCond .eq 7, 3) := by decide +kernel
theorem d_Ref_isEndAt_87 : decode b_Ref_isEndAt 87 = .ok (.iconst 1, 1) := by decide +kernel
theorem d_Ref_isEndAt_88 : decode b_Ref_isEndAt 88 = .ok (.goto 71, 3) := by decide +kernel
theorem d_Ref_isEndAt_91 : decode b_Ref_isEndAt 91 = .ok (.iconst 0, 1) := by decide +kernel
theorem d_Ref_isEndAt_92 : decode b_Ref_isEndAt 92 = .ok (.goto 67, 3) := by decide +kernel
theorem d_Ref_isEndAt_95 : decode b_Ref_isEndAt 95 = .ok (.aload_n 0, 1) := by decide +kernel
theorem d_Ref_isEndAt_96 : decode b_Ref_isEndAt 96 = .ok (.getfield 172, 3) := by decide +kernel
theorem d_Ref_isEndAt_99 : decode b_Ref_isEndAt 99 = .ok (.iconst 1, 1) := by decide +kernel
theorem d_Ref_isEndAt_100 : decode b_Ref_isEndAt 100 = .ok (.if_icmp .ne 21, 3) := by decide +kernel
theorem d_Ref_isEndAt_103 : decode b_Ref_isEndAt 103 = .ok (.iload 4, 2) := by decide +kernel
theorem d_Ref_isEndAt_105 : decode b_Ref_isEndAt 105 = .ok (.ifCond .ne 8, 3) := by decide +kernel
theorem d_Ref_isEndAt_108 : decode b_Ref_isEndAt 108 = .ok (.iload 5, 2) := by decide +kernel
theorem d_Ref_isEndAt_110 : decode b_Ref_isEndAt 110 = .ok (.ifCond .eq 7, 3) := by decide +kernel
theorem d_Ref_isEndAt_113 : decode b_Ref_isEndAt 113 = .ok (.iconst 1, 1) := by decide +kernel
theorem d_Ref_isEndAt_114 : decode b_Ref_isEndAt 114 = .ok (.goto 45, 3) := by decide +kernel
theorem d_Ref_isEndAt_117 : decode b_Ref_isEndAt 117 = .ok (.iconst 0, 1) := by decide +kernel
theorem d_Ref_isEndAt_118 : decode b_Ref_isEndAt 118 = .ok (.goto 41, 3) := by decide +kernel
theorem d_Ref_isEndAt_121 : decode b_Ref_isEndAt 121 = .ok (.aload_n 0, 1) := by decide +kernel
theorem d_Ref_isEndAt_122 : decode b_Ref_isEndAt 122 = .ok (.getfield 172, 3) := by decide +kernel
theorem d_Ref_isEndAt_125 : decode b_Ref_isEndAt 125 = .ok (.iconst 2, 1) := by decide +kernel
theorem d_Ref_isEndAt_126 : decode b_Ref_isEndAt 126 = .ok (.if_icmp .ne 21, 3) := by decide +kernel
theorem d_Ref_isEndAt_129 : decode b_Ref_isEndAt 129 = .ok (.iload 4, 2) := by decide +kernel
theorem d_Ref_isEndAt_131 : decode b_Ref_isEndAt 131 = .ok (.ifCond .eq 12, 3) := by decide +kernel
theorem d_Ref_isEndAt_134 : decode b_Ref_isEndAt 134 = .ok (.iload 5, 2) := by decide +kernel
theorem d_Ref_isEndAt_136 : decode b_Ref_isEndAt 136 = .ok (.ifCond .ne 7, 3) := by decide +kernel
theorem d_Ref_isEndAt_139 : decode b_Ref_isEndAt 139 = .ok (.iconst 1, 1) := by decide +kernel
theorem d_Ref_isEndAt_140 : decode b_Ref_isEndAt 140 = .ok (.goto 19, 3) := by decide +kernel
theorem d_Ref_isEndAt_143 : decode b_Ref_isEndAt 143 = .ok (.iconst 0, 1) := by decide +kernel
theorem d_Ref_isEndAt_144 : decode b_Ref_isEndAt 144 = .ok (.goto 15, 3) := by decide +kernel
theorem d_Ref_isEndAt_147 : decode b_Ref_isEndAt 147 = .ok (.iload 4, 2) := by decide +kernel
theorem d_Ref_isEndAt_149 : decode b_Ref_isEndAt 149 = .ok (.iload 5, 2) := by decide +kernel
theorem d_Ref_isEndAt_151 : decode b_Ref_isEndAt 151 = .ok (.if_icmp .eq 7, 3) := by decide +kernel
theorem d_Ref_isEndAt_154 : decode b_Ref_isEndAt 154 = .ok (.iconst 1, 1) := by decide +kernel
theorem d_Ref_isEndAt_155 : decode b_Ref_isEndAt 155 = .ok (.goto 4, 3) := by decide +kernel
theorem d_Ref_isEndAt_158 : decode b_Ref_isEndAt 158 = .ok (.iconst 0, 1) := by decide +kernel
theorem d_Ref_isEndAt_159 : decode b_Ref_isEndAt 159 = .ok (.ireturn, 1) := by decide +kernel
theorem d_Ref_isEndAt_160 : decode b_Ref_isEndAt 160 = .ok (.aload_n 0, 1) := by decide +kernel
theorem d_Ref_isEndAt_161 : decode b_Ref_isEndAt 161 = .ok (.getfield 139, 3) := by decide +kernel
theorem d_Ref_isEndAt_164 : decode b_Ref_isEndAt 164 = .ok (.iconst 4, 1) := by decide +kernel
theorem d_Ref_isEndAt_165 : decode b_Ref_isEndAt 165 = .ok (.if_icmp .ne 17, 3) := by decide +kernel
theorem d_Ref_isEndAt_168 : decode b_Ref_isEndAt 168 = .ok (.lload_n 2, 1) := by decide +kernel
theorem d_Ref_isEndAt_169 : decode b_Ref_isEndAt 169 = .ok (.lconst 1, 1) := by decide +kernel
theorem d_Ref_isEndAt_170 : decode b_Ref_isEndAt 170 = .ok (.land, 1) := by decide +kernel
theorem d_Ref_isEndAt_171 : decode b_Ref_isEndAt 171 = .ok (.lconst 1, 1) := by decide +kernel
theorem d_Ref_isEndAt_172 : decode b_Ref_isEndAt 172 = .ok (.lcmp, 1) := by decide +kernel
theorem d_Ref_isEndAt_173 : decode b_Ref_isEndAt 173 = .ok (.ifCond .ne 7, 3) := by decide +kernel
theorem d_Ref_isEndAt_176 : decode b_Ref_isEndAt 176 = .ok (.iconst 1, 1) := by decide +kernel
theorem d_Ref_isEndAt_177 : decode b_Ref_isEndAt 177 = .ok (.goto 4, 3) := by decide +kernel
theorem d_Ref_isEndAt_180 : decode b_Ref_isEndAt 180 = .ok (.iconst 0, 1) := by decide +kernel
theorem d_Ref_isEndAt_181 : decode b_Ref_isEndAt 181 = .ok (.ireturn, 1) := by decide +kernel
theorem d_Ref_isEndAt_182 : decode b_Ref_isEndAt 182 = .ok (.iload_n 1, 1) := by decide +kernel
theorem d_Ref_isEndAt_183 : decode b_Ref_isEndAt 183 = .ok (.bipush 100, 2) := by decide +kernel
theorem d_Ref_isEndAt_185 : decode b_Ref_isEndAt 185 = .ok (.if_icmp .ne 5, 3) := by decide +kernel
theorem d_Ref_isEndAt_188 : decode b_Ref_isEndAt 188 = .ok (.iconst 1, 1) := by decide +kernel
theorem d_Ref_isEndAt_189 : decode b_Ref_isEndAt 189 = .ok (.ireturn, 1) := by decide +kernel
theorem d_Ref_isEndAt_190 : decode b_Ref_isEndAt 190 = .ok (.lload_n 2, 1) := by decide +kernel
theorem d_Ref_isEndAt_191 : decode b_Ref_isEndAt 191 = .ok (.aload_n 0, 1) := by decide +kernel
theorem d_Ref_isEndAt_192 : decode b_Ref_isEndAt 192 = .ok (.getfield 139, 3) := by decide +kernel
theorem d_Ref_isEndAt_195 : decode b_Ref_isEndAt 195 = .ok (.iconst 2, 1) := by decide +kernel
theorem d_Ref_isEndAt_196 : decode b_Ref_isEndAt 196 = .ok (.if_icmp .ne 15, 3) := by decide +kernel
theorem d_Ref_isEndAt_199 : decode b_Ref_isEndAt 199 = .ok (.aload_n 0, 1) := by decide +kernel
theorem d_Ref_isEndAt_200 : decode b_Ref_isEndAt 200 = .ok (.getfield 16, 3) := by decide +kernel
theorem d_Ref_isEndAt_203 : decode b_Ref_isEndAt 203 = .ok (.aload_n 0, 1) := by decide +kernel
theorem d_Ref_isEndAt_204 : decode b_Ref_isEndAt 204 = .ok (.getfield 145, 3) := by decide +kernel
theorem d_Ref_isEndAt_207 : decode b_Ref_isEndAt 207 = .ok (.laload, 1) := by decide +kernel
theorem d_Ref_isEndAt_208 : decode b_Ref_isEndAt 208 = .ok (.goto 27, 3) := by decide +kernel
theorem d_Ref_isEndAt_211 : decode b_Ref_isEndAt 211 = .ok (.aload_n 0, 1) := by decide +kernel
theorem d_Ref_isEndAt_212 : decode b_Ref_isEndAt 212 = .ok (.getfield 172, 3) := by decide +kernel
theorem d_Ref_isEndAt_215 : decode b_Ref_isEndAt 215 = .ok (.iconst 2, 1) := by decide +kernel
theorem d_Ref_isEndAt_216 : decode b_Ref_isEndAt 216 = .ok (.if_icmp .ne 10, 3) := by decide +kernel
theorem d_Ref_isEndAt_219 : decode b_Ref_isEndAt 219 = .ok (.aload_n 0, 1) := by decide +kernel
theorem d_Ref_isEndAt_220 : decode b_Ref_isEndAt 220 = .ok (.getfield 175, 3) := by decide +kernel
theorem d_Ref_isEndAt_223 : decode b_Ref_isEndAt 223 = .ok (.goto 12, 3) := by decide +kernel
theorem d_Ref_isEndAt_226 : decode b_Ref_isEndAt 226 = .ok (.aload_n 0, 1) := by decide +kernel
theorem d_Ref_isEndAt_227 : decode b_Ref_isEndAt 227 = .ok (.getfield 16, 3) := by decide +kernel
theorem d_Ref_isEndAt_230 : decode b_Ref_isEndAt 230 = .ok (.aload_n 0, 1) := by decide +kernel
theorem d_Ref_isEndAt_231 : decode b_Ref_isEndAt 231 = .ok (.getfield 142, 3) := by decide +kernel
theorem d_Ref_isEndAt_234 : decode b_Ref_isEndAt 234 = .ok (.laload, 1) := by decide +kernel
theorem d_Ref_isEndAt_235 : decode b_Ref_isEndAt 235 = .ok (.land, 1) := by decide +kernel
theorem d_Ref_isEndAt_236 : decode b_Ref_isEndAt 236 = .ok (.lconst 0, 1) := by decide +kernel
theorem d_Ref_isEndAt_237 : decode b_Ref_isEndAt 237 = .ok (.lcmp, 1) := by decide +kernel
theorem d_Ref_isEndAt_238 : decode b_Ref_isEndAt 238 = .ok (.ifCond .eq 7, 3) := by decide +kernel
theorem d_Ref_isEndAt_241 : decode b_Ref_isEndAt 241 = .ok (.iconst 1, 1) := by decide +kernel
theorem d_Ref_isEndAt_242 : decode b_Ref_isEndAt 242 = .ok (.goto 4, 3) := by decide +kernel
theorem d_Ref_isEndAt_245 : decode b_Ref_isEndAt 245 = .ok (.iconst 0, 1) := by decide +kernel
theorem d_Ref_isEndAt_246 : decode b_Ref_isEndAt 246 = .ok (.ireturn, 1) := by decide +kernel
theorem d_Ref_isEnd_0 : decode b_Ref_isEnd 0 = .ok (.aload_n 0, 1) := by decide +kernel
theorem d_Ref_isEnd_1 : decode b_Ref_isEnd 1 = .ok (.getfield 16, 3) := by decide +kernel
theorem d_Ref_isEnd_4 : decode b_Ref_isEnd 4 = .ok (.iload_n 1, 1) := by decide +kernel
theorem d_Ref_isEnd_5 : decode b_Ref_isEnd 5 = .ok (.laload, 1) := by decide +kernel
theorem d_Ref_isEnd_6 : decode b_Ref_isEnd 6 = .ok (.iload_n 2, 1) := by decide +kernel
theorem d_Ref_isEnd_7 : decode b_Ref_isEnd 7 = .ok (.lshr, 1) := by decide +kernel
theorem d_Ref_isEnd_8 : decode b_Ref_isEnd 8 = .ok (.lconst 1, 1) := by decide +kernel
theorem d_Ref_isEnd_9 : decode b_Ref_isEnd 9 = .ok (.land, 1) := by decide +kernel
theorem d_Ref_isEnd_10 : decode b_Ref_isEnd 10 = .ok (.lconst 1, 1) := by decide +kernel
theorem d_Ref_isEnd_11 : decode b_Ref_isEnd 11 = .ok (.lcmp, 1) := by decide +kernel
theorem d_Ref_isEnd_12 : decode b_Ref_isEnd 12 = .ok (.ifCond .ne 7, 3) := by decide +kernel
theorem d_Ref_isEnd_15 : decode b_Ref_isEnd 15 = .ok (.iconst 1, 1) := by decide +kernel
theorem d_Ref_isEnd_16 : decode b_Ref_isEnd 16 = .ok (.goto 4, 3) := by decide +kernel
theorem d_Ref_isEnd_19 : decode b_Ref_isEnd 19 = .ok (.iconst 0, 1) := by decide +kernel
theorem d_Ref_isEnd_20 : decode b_Ref_isEnd 20 = .ok (.ireturn, 1) := by decide +kernel
theorem d_Ref_lead_0 : decode b_Ref_lead 0 = .ok (.aload_n 0, 1) := by decide +kernel
theorem d_Ref_lead_1 : decode b_Ref_lead 1 = .ok (.iconst 0, 1) := by decide +kernel
theorem d_Ref_lead_2 : decode b_Ref_lead 2 = .ok (.putfield 124, 3) := by decide +kernel
theorem d_Ref_lead_5 : decode b_Ref_lead 5 = .ok (.aload_n 0, 1) := by decide +kernel
theorem d_Ref_lead_6 : decode b_Ref_lead 6 = .ok (.lconst 0, 1) := by decide +kernel
theorem d_Ref_lead_7 : decode b_Ref_lead 7 = .ok (.putfield 127, 3) := by decide +kernel
theorem d_Ref_lead_10 : decode b_Ref_lead 10 = .ok (.aload_n 0, 1) := by decide +kernel
theorem d_Ref_lead_11 : decode b_Ref_lead 11 = .ok (.getfield 139, 3) := by decide +kernel
theorem d_Ref_lead_14 : decode b_Ref_lead 14 = .ok (.tableswitch 416 1 9 #[50, 120, 174, 235, 289, 359, 416, 394, 85], 50) := by decide +kernel
theorem d_Ref_lead_64 : decode b_Ref_lead 64 = .ok (.aload_n 0, 1) := by decide +kernel
theorem d_Ref_lead_65 : decode b_Ref_lead 65 = .ok (.aload_n 0, 1) := by decide +kernel
theorem d_Ref_lead_66 : decode b_Ref_lead 66 = .ok (.aload_n 0, 1) := by decide +kernel
theorem d_Ref_lead_67 : decode b_Ref_lead 67 = .ok (.getfield 142, 3) := by decide +kernel
theorem d_Ref_lead_70 : decode b_Ref_lead 70 = .ok (.iload_n 1, 1) := by decide +kernel
theorem d_Ref_lead_71 : decode b_Ref_lead 71 = .ok (.iload 4, 2) := by decide +kernel
theorem d_Ref_lead_73 : decode b_Ref_lead 73 = .ok (.invokevirtual 135, 3) := by decide +kernel
theorem d_Ref_lead_76 : decode b_Ref_lead 76 = .ok (.putfield 124, 3) := by decide +kernel
theorem d_Ref_lead_79 : decode b_Ref_lead 79 = .ok (.aload_n 0, 1) := by decide +kernel
theorem d_Ref_lead_80 : decode b_Ref_lead 80 = .ok (.aload_n 0, 1) := by decide +kernel
theorem d_Ref_lead_81 : decode b_Ref_lead 81 = .ok (.aload_n 0, 1) := by decide +kernel
theorem d_Ref_lead_82 : decode b_Ref_lead 82 = .ok (.getfield 145, 3) := by decide +kernel
theorem d_Ref_lead_85 : decode b_Ref_lead 85 = .ok (.lload_n 2, 1) := by decide +kernel
theorem d_Ref_lead_86 : decode b_Ref_lead 86 = .ok (.l2i, 1) := by decide +kernel
theorem d_Ref_lead_87 : decode b_Ref_lead 87 = .ok (.iload 4, 2) := by decide +kernel
theorem d_Ref_lead_89 : decode b_Ref_lead 89 = .ok (.invokevirtual 135, 3) := by decide +kernel
theorem d_Ref_lead_92 : decode b_Ref_lead 92 = .ok (.i2l, 1) := by decide +kernel
theorem d_Ref_lead_93 : decode b_Ref_lead 93 = .ok (.putfield 127, 3) := by decide +kernel
theorem d_Ref_lead_96 : decode b_Ref_lead 96 = .ok (.goto 349, 3) := by decide +kernel
theorem d_Ref_lead_99 : decode b_Ref_lead 99 = .ok (.aload_n 0, 1) := by decide +kernel
theorem d_Ref_lead_100 : decode b_Ref_lead 100 = .ok (.aload_n 0, 1) := by decide +kernel
theorem d_Ref_lead_101 : decode b_Ref_lead 101 = .ok (.aload_n 0, 1) := by decide +kernel
theorem d_Ref_lead_102 : decode b_Ref_lead 102 = .ok (.getfield 142, 3) := by decide +kernel
theorem d_Ref_lead_105 : decode b_Ref_lead 105 = .ok (.iload_n 1, 1) := by decide +kernel
theorem d_Ref_lead_106 : decode b_Ref_lead 106 = .ok (.iload 4, 2) := by decide +kernel
theorem d_Ref_lead_108 : decode b_Ref_lead 108 = .ok (.invokevirtual 135, 3) := by decide +kernel
theorem d_Ref_lead_111 : decode b_Ref_lead 111 = .ok (.putfield 124, 3) := by decide +kernel
theorem d_Ref_lead_114 : decode b_Ref_lead 114 = .ok (.aload_n 0, 1) := by decide +kernel
theorem d_Ref_lead_115 : decode b_Ref_lead 115 = .ok (.aload_n 0, 1) := by decide +kernel
theorem d_Ref_lead_116 : decode b_Ref_lead 116 = .ok (.getfield 75, 3) := by decide +kernel
theorem d_Ref_lead_119 : decode b_Ref_lead 119 = .ok (.iconst 4, 1) := by decide +kernel
theorem d_Ref_lead_120 : decode b_Ref_lead 120 = .ok (.lload_n 2, 1) := by decide +kernel
theorem d_Ref_lead_121 : decode b_Ref_lead 121 = .ok (.l2i, 1) := by decide +kernel
theorem d_Ref_lead_122 : decode b_Ref_lead 122 = .ok (.imul, 1) := by decide +kernel
theorem d_Ref_lead_123 : decode b_Ref_lead 123 = .ok (.iload 4, 2) := by decide +kernel
theorem d_Ref_lead_125 : decode b_Ref_lead 125 = .ok (.iadd, 1) := by decide +kernel
theorem d_Ref_lead_126 : decode b_Ref_lead 126 = .ok (.iaload, 1) := by decide +kernel
theorem d_Ref_lead_127 : decode b_Ref_lead 127 = .ok (.i2l, 1) := by decide +kernel
theorem d_Ref_lead_128 : decode b_Ref_lead 128 = .ok (.putfield 127, 3) := by decide +kernel
theorem d_Ref_lead_131 : decode b_Ref_lead 131 = .ok (.goto 314, 3) := by decide +kernel
theorem d_Ref_lead_134 : decode b_Ref_lead 134 = .ok (.aload_n 0, 1) := by decide +kernel
theorem d_Ref_lead_135 : decode b_Ref_lead 135 = .ok (.aload_n 0, 1) := by decide +kernel
theorem d_Ref_lead_136 : decode b_Ref_lead 136 = .ok (.aload_n 0, 1) := by decide +kernel
theorem d_Ref_lead_137 : decode b_Ref_lead 137 = .ok (.getfield 142, 3) := by decide +kernel
theorem d_Ref_lead_140 : decode b_Ref_lead 140 = .ok (.iload_n 1, 1) := by decide +kernel
theorem d_Ref_lead_141 : decode b_Ref_lead 141 = .ok (.iload 4, 2) := by decide +kernel
theorem d_Ref_lead_143 : decode b_Ref_lead 143 = .ok (.invokevirtual 135, 3) := by decide +kernel
theorem d_Ref_lead_146 : decode b_Ref_lead 146 = .ok (.putfield 124, 3) := by decide +kernel
theorem d_Ref_lead_149 : decode b_Ref_lead 149 = .ok (.aload_n 0, 1) := by decide +kernel
theorem d_Ref_lead_150 : decode b_Ref_lead 150 = .ok (.aload_n 0, 1) := by decide +kernel
theorem d_Ref_lead_151 : decode b_Ref_lead 151 = .ok (.aload_n 0, 1) := by decide +kernel
theorem d_Ref_lead_152 : decode b_Ref_lead 152 = .ok (.getfield 145, 3) := by decide +kernel
theorem d_Ref_lead_155 : decode b_Ref_lead 155 = .ok (.lload_n 2, 1) := by decide +kernel
theorem d_Ref_lead_156 : decode b_Ref_lead 156 = .ok (.iload 4, 2) := by decide +kernel
theorem d_Ref_lead_158 : decode b_Ref_lead 158 = .ok (.invokevirtual 148, 3) := by decide +kernel
theorem d_Ref_lead_161 : decode b_Ref_lead 161 = .ok (.aload_n 0, 1) := by decide +kernel
theorem d_Ref_lead_162 : decode b_Ref_lead 162 = .ok (.aload_n 0, 1) := by decide +kernel
theorem d_Ref_lead_163 : decode b_Ref_lead 163 = .ok (.getfield 142, 3) := by decide +kernel
theorem d_Ref_lead_166 : decode b_Ref_lead 166 = .ok (.aload_n 0, 1) := by decide +kernel
theorem d_Ref_lead_167 : decode b_Ref_lead 167 = .ok (.getfield 124, 3) := by decide +kernel
theorem d_Ref_lead_170 : decode b_Ref_lead 170 = .ok (.invokevirtual 152, 3) := by decide +kernel
theorem d_Ref_lead_173 : decode b_Ref_lead 173 = .ok (.ifCond .eq 7, 3) := by decide +kernel
theorem d_Ref_lead_176 : decode b_Ref_lead 176 = .ok (.lconst 1, 1) := by decide +kernel
theorem d_Ref_lead_177 : decode b_Ref_lead 177 = .ok (.goto 4, 3) := by decide +kernel
theorem d_Ref_lead_180 : decode b_Ref_lead 180 = .ok (.lconst 0, 1) := by decide +kernel
theorem d_Ref_lead_181 : decode b_Ref_lead 181 = .ok (.lor, 1) := by decide +kernel
theorem d_Ref_lead_182 : decode b_Ref_lead 182 = .ok (.putfield 127, 3) := by decide +kernel
theorem d_Ref_lead_185 : decode b_Ref_lead 185 = .ok (.goto 260, 3) := by decide +kernel
theorem d_Ref_lead_188 : decode b_Ref_lead 188 = .ok (.aload_n 0, 1) := by decide +kernel
theorem d_Ref_lead_189 : decode b_Ref_lead 189 = .ok (.aload_n 0, 1) := by decide +kernel
theorem d_Ref_lead_190 : decode b_Ref_lead 190 = .ok (.aload_n 0, 1) := by decide +kernel
theorem d_Ref_lead_191 : decode b_Ref_lead 191 = .ok (.getfield 142, 3) := by decide +kernel
theorem d_Ref_lead_194 : decode b_Ref_lead 194 = .ok (.iload_n 1, 1) := by decide +kernel
theorem d_Ref_lead_195 : decode b_Ref_lead 195 = .ok (.bipush 100, 2) := by decide +kernel
theorem d_Ref_lead_197 : decode b_Ref_lead 197 = .ok (.if_icmp .ne 7, 3) := by decide +kernel
theorem d_Ref_lead_200 : decode b_Ref_lead 200 = .ok (.lconst 1, 1) := by decide +kernel
theorem d_Ref_lead_201 : decode b_Ref_lead 201 = .ok (.goto 4, 3) := by decide +kernel
theorem d_Ref_lead_204 : decode b_Ref_lead 204 = .ok (.lload_n 2, 1) := by decide +kernel
theorem d_Ref_lead_205 : decode b_Ref_lead 205 = .ok (.iload 4, 2) := by decide +kernel
theorem d_Ref_lead_207 : decode b_Ref_lead 207 = .ok (.invokevirtual 148, 3) := by decide +kernel
theorem d_Ref_lead_210 : decode b_Ref_lead 210 = .ok (.putfield 127, 3) := by decide +kernel
theorem d_Ref_lead_213 : decode b_Ref_lead 213 = .ok (.aload_n 0, 1) := by decide +kernel
theorem d_Ref_lead_214 : decode b_Ref_lead 214 = .ok (.dup, 1) := by decide +kernel
theorem d_Ref_lead_215 : decode b_Ref_lead 215 = .ok (.getfield 127, 3) := by decide +kernel
theorem d_Ref_lead_218 : decode b_Ref_lead 218 = .ok (.aload_n 0, 1) := by decide +kernel
theorem d_Ref_lead_219 : decode b_Ref_lead 219 = .ok (.getfield 127, 3) := by decide +kernel
theorem d_Ref_lead_222 : decode b_Ref_lead 222 = .ok (.aload_n 0, 1) := by decide +kernel
theorem d_Ref_lead_223 : decode b_Ref_lead 223 = .ok (.getfield 16, 3) := by decide +kernel
theorem d_Ref_lead_226 : decode b_Ref_lead 226 = .ok (.aload_n 0, 1) := by decide +kernel
theorem d_Ref_lead_227 : decode b_Ref_lead 227 = .ok (.getfield 142, 3) := by decide +kernel
theorem d_Ref_lead_230 : decode b_Ref_lead 230 = .ok (.laload, 1) := by decide +kernel
theorem d_Ref_lead_231 : decode b_Ref_lead 231 = .ok (.land, 1) := by decide +kernel
theorem d_Ref_lead_232 : decode b_Ref_lead 232 = .ok (.lconst 0, 1) := by decide +kernel
theorem d_Ref_lead_233 : decode b_Ref_lead 233 = .ok (.lcmp, 1) := by decide +kernel
theorem d_Ref_lead_234 : decode b_Ref_lead 234 = .ok (.ifCond .eq 7, 3) := by decide +kernel
theorem d_Ref_lead_237 : decode b_Ref_lead 237 = .ok (.lconst 1, 1) := by decide +kernel
theorem d_Ref_lead_238 : decode b_Ref_lead 238 = .ok (.goto 4, 3) := by decide +kernel
theorem d_Ref_lead_241 : decode b_Ref_lead 241 = .ok (.lconst 0, 1) := by decide +kernel
theorem d_Ref_lead_242 : decode b_Ref_lead 242 = .ok (.lor, 1) := by decide +kernel
theorem d_Ref_lead_243 : decode b_Ref_lead 243 = .ok (.putfield 127, 3) := by decide +kernel
theorem d_Ref_lead_246 : decode b_Ref_lead 246 = .ok (.goto 199, 3) := by decide +kernel
theorem d_Ref_lead_249 : decode b_Ref_lead 249 = .ok (.iconst 0, 1) := by decide +kernel
theorem d_Ref_lead_250 : decode b_Ref_lead 250 = .ok (.istore 5, 2) := by decide +kernel
theorem d_Ref_lead_252 : decode b_Ref_lead 252 = .ok (.iload 5, 2) := by decide +kernel
theorem d_Ref_lead_254 : decode b_Ref_lead 254 = .ok (.aload_n 0, 1) := by decide +kernel
theorem d_Ref_lead_255 : decode b_Ref_lead 255 = .ok (.getfield 7, 3) := by decide +kernel
theorem d_Ref_lead_258 : decode b_Ref_lead 258 = .ok (.aload_n 0, 1) := by decide +kernel
theorem d_Ref_lead_259 : decode b_Ref_lead 259 = .ok (.getfield 142, 3) := by decide +kernel
theorem d_Ref_lead_262 : decode b_Ref_lead 262 = .ok (.iaload, 1) := by decide +kernel
theorem d_Ref_lead_263 : decode b_Ref_lead 263 = .ok (.if_icmp .ge 37, 3) := by decide +kernel
theorem d_Ref_lead_266 : decode b_Ref_lead 266 = .ok (.aload_n 0, 1) := by decide +kernel
theorem d_Ref_lead_267 : decode b_Ref_lead 267 = .ok (.dup, 1) := by decide +kernel
theorem d_Ref_lead_268 : decode b_Ref_lead 268 = .ok (.getfield 127, 3) := by decide +kernel
theorem d_Ref_lead_271 : decode b_Ref_lead 271 = .ok (.lload_n 2, 1) := by decide +kernel
theorem d_Ref_lead_272 : decode b_Ref_lead 272 = .ok (.aload_n 0, 1) := by decide +kernel
theorem d_Ref_lead_273 : decode b_Ref_lead 273 = .ok (.aload_n 0, 1) := by decide +kernel
theorem d_Ref_lead_274 : decode b_Ref_lead 274 = .ok (.getfield 142, 3) := by decide +kernel
theorem d_Ref_lead_277 : decode b_Ref_lead 277 = .ok (.iload 5, 2) := by decide +kernel
theorem d_Ref_lead_279 : decode b_Ref_lead 279 = .ok (.iload 4, 2) := by decide +kernel
theorem d_Ref_lead_281 : decode b_Ref_lead 281 = .ok (.invokevirtual 135, 3) := by decide +kernel
theorem d_Ref_lead_284 : decode b_Ref_lead 284 = .ok (.lshr, 1) := by decide +kernel
theorem d_Ref_lead_285 : decode b_Ref_lead 285 = .ok (.lconst 1, 1) := by decide +kernel
theorem d_Ref_lead_286 : decode b_Ref_lead 286 = .ok (.land, 1) := by decide +kernel
theorem d_Ref_lead_287 : decode b_Ref_lead 287 = .ok (.iload 5, 2) := by decide +kernel
theorem d_Ref_lead_289 : decode b_Ref_lead 289 = .ok (.lshl, 1) := by decide +kernel
theorem d_Ref_lead_290 : decode b_Ref_lead 290 = .ok (.lor, 1) := by decide +kernel
theorem d_Ref_lead_291 : decode b_Ref_lead 291 = .ok (.putfield 127, 3) := by decide +kernel
theorem d_Ref_lead_294 : decode b_Ref_lead 294 = .ok (.iinc 5 1, 3) := by decide +kernel
theorem d_Ref_lead_297 : decode b_Ref_lead 297 = .ok (.goto (-45), 3) := by decide +kernel
theorem d_Ref_lead_300 : decode b_Ref_lead 300 = .ok (.goto 145, 3) := by decide +kernel
theorem d_Ref_lead_303 : decode b_Ref_lead 303 = .ok (.iload 4, 2) := by decide +kernel
theorem d_Ref_lead_305 : decode b_Ref_lead 305 = .ok (.aload_n 0, 1) := by decide +kernel
theorem d_Ref_lead_306 : decode b_Ref_lead 306 = .ok (.getfield 156, 3) := by decide +kernel
theorem d_Ref_lead_309 : decode b_Ref_lead 309 = .ok (.if_icmp .ne 37, 3) := by decide +kernel
theorem d_Ref_lead_312 : decode b_Ref_lead 312 = .ok (.aload_n 0, 1) := by decide +kernel
theorem d_Ref_lead_313 : decode b_Ref_lead 313 = .ok (.aload_n 0, 1) := by decide +kernel
theorem d_Ref_lead_314 : decode b_Ref_lead 314 = .ok (.aload_n 0, 1) := by decide +kernel
theorem d_Ref_lead_315 : decode b_Ref_lead 315 = .ok (.getfield 142, 3) := by decide +kernel
theorem d_Ref_lead_318 : decode b_Ref_lead 318 = .ok (.lload_n 2, 1) := by decide +kernel
theorem d_Ref_lead_319 : decode b_Ref_lead 319 = .ok (.aload_n 0, 1) := by decide +kernel
theorem d_Ref_lead_320 : decode b_Ref_lead 320 = .ok (.getfield 159, 3) := by decide +kernel
theorem d_Ref_lead_323 : decode b_Ref_lead 323 = .ok (.invokevirtual 148, 3) := by decide +kernel
theorem d_Ref_lead_326 : decode b_Ref_lead 326 = .ok (.aload_n 0, 1) := by decide +kernel
theorem d_Ref_lead_327 : decode b_Ref_lead 327 = .ok (.aload_n 0, 1) := by decide +kernel
theorem d_Ref_lead_328 : decode b_Ref_lead 328 = .ok (.getfield 142, 3) := by decide +kernel
theorem d_Ref_lead_331 : decode b_Ref_lead 331 = .ok (.lload_n 2, 1) := by decide +kernel
theorem d_Ref_lead_332 : decode b_Ref_lead 332 = .ok (.aload_n 0, 1) := by decide +kernel
theorem d_Ref_lead_333 : decode b_Ref_lead 333 = .ok (.getfield 156, 3) := by decide +kernel
theorem d_Ref_lead_336 : decode b_Ref_lead 336 = .ok (.invokevirtual 148, 3) := by decide +kernel
theorem d_Ref_lead_339 : decode b_Ref_lead 339 = .ok (.lor, 1) := by decide +kernel
theorem d_Ref_lead_340 : decode b_Ref_lead 340 = .ok (.putfield 127, 3) := by decide +kernel
theorem d_Ref_lead_343 : decode b_Ref_lead 343 = .ok (.goto 102, 3) := by decide +kernel
theorem d_Ref_lead_346 : decode b_Ref_lead 346 = .ok (.iload 4, 2) := by decide +kernel
theorem d_Ref_lead_348 : decode b_Ref_lead 348 = .ok (.aload_n 0, 1) := by decide +kernel
theorem d_Ref_lead_349 : decode b_Ref_lead 349 = .ok (.getfield 159, 3) := by decide +kernel
theorem d_Ref_lead_352 : decode b_Ref_lead 352 = .ok (.if_icmp .eq 93, 3) := by decide +kernel
theorem d_Ref_lead_355 : decode b_Ref_lead 355 = .ok (.aload_n 0, 1) := by decide +kernel
theorem d_Ref_lead_356 : decode b_Ref_lead 356 = .ok (.aload_n 0, 1) := by decide +kernel
theorem d_Ref_lead_357 : decode b_Ref_lead 357 = .ok (.aload_n 0, 1) := by decide +kernel
theorem d_Ref_lead_358 : decode b_Ref_lead 358 = .ok (.getfield 142, 3) := by decide +kernel
theorem d_Ref_lead_361 : decode b_Ref_lead 361 = .ok (.lload_n 2, 1) := by decide +kernel
theorem d_Ref_lead_362 : decode b_Ref_lead 362 = .ok (.iload 4, 2) := by decide +kernel
theorem d_Ref_lead_364 : decode b_Ref_lead 364 = .ok (.invokevirtual 148, 3) := by decide +kernel
theorem d_Ref_lead_367 : decode b_Ref_lead 367 = .ok (.putfield 127, 3) := by decide +kernel
theorem d_Ref_lead_370 : decode b_Ref_lead 370 = .ok (.goto 75, 3) := by decide +kernel
theorem d_Ref_lead_373 : decode b_Ref_lead 373 = .ok (.aload_n 0, 1) := by decide +kernel
theorem d_Ref_lead_374 : decode b_Ref_lead 374 = .ok (.iload 4, 2) := by decide +kernel
theorem d_Ref_lead_376 : decode b_Ref_lead 376 = .ok (.aload_n 0, 1) := by decide +kernel
theorem d_Ref_lead_377 : decode b_Ref_lead 377 = .ok (.getfield 159, 3) := by decide +kernel
theorem d_Ref_lead_380 : decode b_Ref_lead 380 = .ok (.if_icmp .ne 7, 3) := by decide +kernel
theorem d_Ref_lead_383 : decode b_Ref_lead 383 = .ok (.lconst 0, 1) := by decide +kernel
theorem d_Ref_lead_384 : decode b_Ref_lead 384 = .ok (.goto 18, 3) := by decide +kernel
theorem d_Ref_lead_387 : decode b_Ref_lead 387 = .ok (.aload_n 0, 1) := by decide +kernel
theorem d_Ref_lead_388 : decode b_Ref_lead 388 = .ok (.aload_n 0, 1) := by decide +kernel
theorem d_Ref_lead_389 : decode b_Ref_lead 389 = .ok (.aload_n 0, 1) := by decide +kernel
theorem d_Ref_lead_390 : decode b_Ref_lead 390 = .ok (.getfield 142, 3) := by decide +kernel
theorem d_Ref_lead_393 : decode b_Ref_lead 393 = .ok (.lload_n 2, 1) := by decide +kernel
theorem d_Ref_lead_394 : decode b_Ref_lead 394 = .ok (.iload 4, 2) := by decide +kernel
theorem d_Ref_lead_396 : decode b_Ref_lead 396 = .ok (.invokevirtual 148, 3) := by decide +kernel
theorem d_Ref_lead_399 : decode b_Ref_lead 399 = .ok (.invokevirtual 162, 3) := by decide +kernel
theorem d_Ref_lead_402 : decode b_Ref_lead 402 = .ok (.putfield 127, 3) := by decide +kernel
theorem d_Ref_lead_405 : decode b_Ref_lead 405 = .ok (.goto 40, 3) := by decide +kernel
theorem d_Ref_lead_408 : decode b_Ref_lead 408 = .ok (.aload_n 0, 1) := by decide +kernel
theorem d_Ref_lead_409 : decode b_Ref_lead 409 = .ok (.aload_n 0, 1) := by decide +kernel
theorem d_Ref_lead_410 : decode b_Ref_lead 410 = .ok (.aload_n 0, 1) := by decide +kernel
theorem d_Ref_lead_411 : decode b_Ref_lead 411 = .ok (.aload_n 0, 1) := by decide +kernel
theorem d_Ref_lead_412 : decode b_Ref_lead 412 = .ok (.getfield 142, 3) := by decide +kernel
theorem d_Ref_lead_415 : decode b_Ref_lead 415 = .ok (.lload_n 2, 1) := by decide +kernel
theorem d_Ref_lead_416 : decode b_Ref_lead 416 = .ok (.iload 4, 2) := by decide +kernel
theorem d_Ref_lead_418 : decode b_Ref_lead 418 = .ok (.invokevirtual 148, 3) := by decide +kernel
theorem d_Ref_lead_421 : decode b_Ref_lead 421 = .ok (.invokevirtual 166, 3) := by decide +kernel
theorem d_Ref_lead_424 : decode b_Ref_lead 424 = .ok (.putfield 127, 3) := by decide +kernel
theorem d_Ref_lead_427 : decode b_Ref_lead 427 = .ok (.goto 18, 3) := by decide +kernel
theorem d_Ref_lead_430 : decode b_Ref_lead 430 = .ok (.aload_n 0, 1) := by decide +kernel
theorem d_Ref_lead_431 : decode b_Ref_lead 431 = .ok (.aload_n 0, 1) := by decide +kernel
theorem d_Ref_lead_432 : decode b_Ref_lead 432 = .ok (.aload_n 0, 1) := by decide +kernel
theorem d_Ref_lead_433 : decode b_Ref_lead 433 = .ok (.getfield 142, 3) := by decide +kernel
theorem d_Ref_lead_436 : decode b_Ref_lead 436 = .ok (.lload_n 2, 1) := by decide +kernel
theorem d_Ref_lead_437 : decode b_Ref_lead 437 = .ok (.iload 4, 2) := by decide +kernel
theorem d_Ref_lead_439 : decode b_Ref_lead 439 = .ok (.invokevirtual 148, 3) := by decide +kernel
theorem d_Ref_lead_442 : decode b_Ref_lead 442 = .ok (.putfield 127, 3) := by decide +kernel
theorem d_Ref_lead_445 : decode b_Ref_lead 445 = .ok (.return_, 1) := by decide +kernel
theorem d_Ref_step_0 : decode b_Ref_step 0 = .ok (.lconst 0, 1) := by decide +kernel
theorem d_Ref_step_1 : decode b_Ref_step 1 = .ok (.lstore 5, 2) := by decide +kernel
theorem d_Ref_step_3 : decode b_Ref_step 3 = .ok (.iconst 0, 1) := by decide +kernel
theorem d_Ref_step_4 : decode b_Ref_step 4 = .ok (.istore 7, 2) := by decide +kernel
theorem d_Ref_step_6 : decode b_Ref_step 6 = .ok (.iload 7, 2) := by decide +kernel
theorem d_Ref_step_8 : decode b_Ref_step 8 = .ok (.aload_n 0, 1) := by decide +kernel
theorem d_Ref_step_9 : decode b_Ref_step 9 = .ok (.getfield 7, 3) := by decide +kernel
theorem d_Ref_step_12 : decode b_Ref_step 12 = .ok (.iload_n 1, 1) := by decide +kernel
theorem d_Ref_step_13 : decode b_Ref_step 13 = .ok (.iaload, 1) := by decide +kernel
theorem d_Ref_step_14 : decode b_Ref_step 14 = .ok (.if_icmp .ge 36, 3) := by decide +kernel
theorem d_Ref_step_17 : decode b_Ref_step 17 = .ok (.lload_n 2, 1) := by decide +kernel
theorem d_Ref_step_18 : decode b_Ref_step 18 = .ok (.iload 7, 2) := by decide +kernel
theorem d_Ref_step_20 : decode b_Ref_step 20 = .ok (.lshr, 1) := by decide +kernel
theorem d_Ref_step_21 : decode b_Ref_step 21 = .ok (.lconst 1, 1) := by decide +kernel
theorem d_Ref_step_22 : decode b_Ref_step 22 = .ok (.land, 1) := by decide +kernel
theorem d_Ref_step_23 : decode b_Ref_step 23 = .ok (.lconst 1, 1) := by decide +kernel
theorem d_Ref_step_24 : decode b_Ref_step 24 = .ok (.lcmp, 1) := by decide +kernel
theorem d_Ref_step_25 : decode b_Ref_step 25 = .ok (.ifCond .ne 19, 3) := by decide +kernel
theorem d_Ref_step_28 : decode b_Ref_step 28 = .ok (.lload 5, 2) := by decide +kernel
theorem d_Ref_step_30 : decode b_Ref_step 30 = .ok (.lconst 1, 1) := by decide +kernel
theorem d_Ref_step_31 : decode b_Ref_step 31 = .ok (.aload_n 0, 1) := by decide +kernel
theorem d_Ref_step_32 : decode b_Ref_step 32 = .ok (.iload_n 1, 1) := by decide +kernel
theorem d_Ref_step_33 : decode b_Ref_step 33 = .ok (.iload 7, 2) := by decide +kernel
theorem d_Ref_step_35 : decode b_Ref_step 35 = .ok (.iload 4, 2) := by decide +kernel
theorem d_Ref_step_37 : decode b_Ref_step 37 = .ok (.invokevirtual 135, 3) := by decide +kernel
theorem d_Ref_step_40 : decode b_Ref_step 40 = .ok (.lshl, 1) := by decide +kernel
theorem d_Ref_step_41 : decode b_Ref_step 41 = .ok (.lor, 1) := by decide +kernel
theorem d_Ref_step_42 : decode b_Ref_step 42 = .ok (.lstore 5, 2) := by decide +kernel
theorem d_Ref_step_44 : decode b_Ref_step 44 = .ok (.iinc 7 1, 3) := by decide +kernel
theorem d_Ref_step_47 : decode b_Ref_step 47 = .ok (.goto (-41), 3) := by decide +kernel
theorem d_Ref_step_50 : decode b_Ref_step 50 = .ok (.lload 5, 2) := by decide +kernel
theorem d_Ref_step_52 : decode b_Ref_step 52 = .ok (.lreturn, 1) := by decide +kernel
theorem d_Ref_without_0 : decode b_Ref_without 0 = .ok (.lload_n 1, 1) := by decide +kernel
theorem d_Ref_without_1 : decode b_Ref_without 1 = .ok (.lstore_n 3, 1) := by decide +kernel
theorem d_Ref_without_2 : decode b_Ref_without 2 = .ok (.ldc2_w 178, 3) := by decide +kernel
theorem d_Ref_without_5 : decode b_Ref_without 5 = .ok (.lstore 5, 2) := by decide +kernel
theorem d_Ref_without_7 : decode b_Ref_without 7 = .ok (.lload_n 3, 1) := by decide +kernel
theorem d_Ref_without_8 : decode b_Ref_without 8 = .ok (.lload 5, 2) := by decide +kernel
theorem d_Ref_without_10 : decode b_Ref_without 10 = .ok (.lcmp, 1) := by decide +kernel
theorem d_Ref_without_11 : decode b_Ref_without 11 = .ok (.ifCond .eq 25, 3) := by decide +kernel
theorem d_Ref_without_14 : decode b_Ref_without 14 = .ok (.lload_n 3, 1) := by decide +kernel
theorem d_Ref_without_15 : decode b_Ref_without 15 = .ok (.lstore 5, 2) := by decide +kernel
theorem d_Ref_without_17 : decode b_Ref_without 17 = .ok (.lload_n 3, 1) := by decide +kernel
theorem d_Ref_without_18 : decode b_Ref_without 18 = .ok (.aload_n 0, 1) := by decide +kernel
theorem d_Ref_without_19 : decode b_Ref_without 19 = .ok (.aload_n 0, 1) := by decide +kernel
theorem d_Ref_without_20 : decode b_Ref_without 20 = .ok (.getfield 142, 3) := by decide +kernel
theorem d_Ref_without_23 : decode b_Ref_without 23 = .ok (.lload_n 3, 1) := by decide +kernel
theorem d_Ref_without_24 : decode b_Ref_without 24 = .ok (.aload_n 0, 1) := by decide +kernel
theorem d_Ref_without_25 : decode b_Ref_without 25 = .ok (.getfield 159, 3) := by decide +kernel
theorem d_Ref_without_28 : decode b_Ref_without 28 = .ok (.invokevirtual 148, 3) := by decide +kernel
theorem d_Ref_without_31 : decode b_Ref_without 31 = .ok (.lor, 1) := by decide +kernel
theorem d_Ref_without_32 : decode b_Ref_without 32 = .ok (.lstore_n 3, 1) := by decide +kernel
theorem d_Ref_without_33 : decode b_Ref_without 33 = .ok (.goto (-26), 3) := by decide +kernel
theorem d_Ref_without_36 : decode b_Ref_without 36 = .ok (.lload_n 3, 1) := by decide +kernel
theorem d_Ref_without_37 : decode b_Ref_without 37 = .ok (.lreturn, 1) := by decide +kernel
theorem d_Ref_alike_0 : decode b_Ref_alike 0 = .ok (.lconst 0, 1) := by decide +kernel
theorem d_Ref_alike_1 : decode b_Ref_alike 1 = .ok (.lstore_n 3, 1) := by decide +kernel
theorem d_Ref_alike_2 : decode b_Ref_alike 2 = .ok (.iconst 0, 1) := by decide +kernel
theorem d_Ref_alike_3 : decode b_Ref_alike 3 = .ok (.istore 5, 2) := by decide +kernel
theorem d_Ref_alike_5 : decode b_Ref_alike 5 = .ok (.iload 5, 2) := by decide +kernel
theorem d_Ref_alike_7 : decode b_Ref_alike 7 = .ok (.aload_n 0, 1) := by decide +kernel
theorem d_Ref_alike_8 : decode b_Ref_alike 8 = .ok (.getfield 7, 3) := by decide +kernel
theorem d_Ref_alike_11 : decode b_Ref_alike 11 = .ok (.aload_n 0, 1) := by decide +kernel
theorem d_Ref_alike_12 : decode b_Ref_alike 12 = .ok (.getfield 142, 3) := by decide +kernel
theorem d_Ref_alike_15 : decode b_Ref_alike 15 = .ok (.iaload, 1) := by decide +kernel
theorem d_Ref_alike_16 : decode b_Ref_alike 16 = .ok (.if_icmp .ge 67, 3) := by decide +kernel
theorem d_Ref_alike_19 : decode b_Ref_alike 19 = .ok (.iconst 0, 1) := by decide +kernel
theorem d_Ref_alike_20 : decode b_Ref_alike 20 = .ok (.istore 6, 2) := by decide +kernel
theorem d_Ref_alike_22 : decode b_Ref_alike 22 = .ok (.iload 6, 2) := by decide +kernel
theorem d_Ref_alike_24 : decode b_Ref_alike 24 = .ok (.aload_n 0, 1) := by decide +kernel
theorem d_Ref_alike_25 : decode b_Ref_alike 25 = .ok (.getfield 7, 3) := by decide +kernel
theorem d_Ref_alike_28 : decode b_Ref_alike 28 = .ok (.aload_n 0, 1) := by decide +kernel
theorem d_Ref_alike_29 : decode b_Ref_alike 29 = .ok (.getfield 142, 3) := by decide +kernel
theorem d_Ref_alike_32 : decode b_Ref_alike 32 = .ok (.iaload, 1) := by decide +kernel
theorem d_Ref_alike_33 : decode b_Ref_alike 33 = .ok (.if_icmp .ge 44, 3) := by decide +kernel
theorem d_Ref_alike_36 : decode b_Ref_alike 36 = .ok (.lload_n 1, 1) := by decide +kernel
theorem d_Ref_alike_37 : decode b_Ref_alike 37 = .ok (.iload 6, 2) := by decide +kernel
theorem d_Ref_alike_39 : decode b_Ref_alike 39 = .ok (.lshr, 1) := by decide +kernel
theorem d_Ref_alike_40 : decode b_Ref_alike 40 = .ok (.lconst 1, 1) := by decide +kernel
theorem d_Ref_alike_41 : decode b_Ref_alike 41 = .ok (.land, 1) := by decide +kernel
theorem d_Ref_alike_42 : decode b_Ref_alike 42 = .ok (.lconst 1, 1) := by decide +kernel
theorem d_Ref_alike_43 : decode b_Ref_alike 43 = .ok (.lcmp, 1) := by decide +kernel
theorem d_Ref_alike_44 : decode b_Ref_alike 44 = .ok (.ifCond .ne 27, 3) := by decide +kernel
theorem d_Ref_alike_47 : decode b_Ref_alike 47 = .ok (.aload_n 0, 1) := by decide +kernel
theorem d_Ref_alike_48 : decode b_Ref_alike 48 = .ok (.getfield 39, 3) := by decide +kernel
theorem d_Ref_alike_51 : decode b_Ref_alike 51 = .ok (.iload 6, 2) := by decide +kernel
theorem d_Ref_alike_53 : decode b_Ref_alike 53 = .ok (.iaload, 1) := by decide +kernel
theorem d_Ref_alike_54 : decode b_Ref_alike 54 = .ok (.aload_n 0, 1) := by decide +kernel
theorem d_Ref_alike_55 : decode b_Ref_alike 55 = .ok (.getfield 39, 3) := by decide +kernel
theorem d_Ref_alike_58 : decode b_Ref_alike 58 = .ok (.iload 5, 2) := by decide +kernel
theorem d_Ref_alike_60 : decode b_Ref_alike 60 = .ok (.iaload, 1) := by decide +kernel
theorem d_Ref_alike_61 : decode b_Ref_alike 61 = .ok (.if_icmp .ne 10, 3) := by decide +kernel
theorem d_Ref_alike_64 : decode b_Ref_alike 64 = .ok (.lload_n 3, 1) := by decide +kernel
theorem d_Ref_alike_65 : decode b_Ref_alike 65 = .ok (.lconst 1, 1) := by decide +kernel
theorem d_Ref_alike_66 : decode b_Ref_alike 66 = .ok (.iload 5, 2) := by decide +kernel
theorem d_Ref_alike_68 : decode b_Ref_alike 68 = .ok (.lshl, 1) := by decide +kernel
theorem d_Ref_alike_69 : decode b_Ref_alike 69 = .ok (.lor, 1) := by decide +kernel
theorem d_Ref_alike_70 : decode b_Ref_alike 70 = .ok (.lstore_n 3, 1) := by decide +kernel
theorem d_Ref_alike_71 : decode b_Ref_alike 71 = .ok (.iinc 6 1, 3) := by decide +kernel
theorem d_Ref_alike_74 : decode b_Ref_alike 74 = .ok (.goto (-52), 3) := by decide +kernel
theorem d_Ref_alike_77 : decode b_Ref_alike 77 = .ok (.iinc 5 1, 3) := by decide +kernel
theorem d_Ref_alike_80 : decode b_Ref_alike 80 = .ok (.goto (-75), 3) := by decide +kernel
theorem d_Ref_alike_83 : decode b_Ref_alike 83 = .ok (.lload_n 3, 1) := by decide +kernel
theorem d_Ref_alike_84 : decode b_Ref_alike 84 = .ok (.lreturn, 1) := by decide +kernel
theorem d_Ref_join_0 : decode b_Ref_join 0 = .ok (.aload_n 0, 1) := by decide +kernel
theorem d_Ref_join_1 : decode b_Ref_join 1 = .ok (.iload_n 1, 1) := by decide +kernel
theorem d_Ref_join_2 : decode b_Ref_join 2 = .ok (.invokevirtual 208, 3) := by decide +kernel
theorem d_Ref_join_5 : decode b_Ref_join 5 = .ok (.ifCond .eq 11, 3) := by decide +kernel
theorem d_Ref_join_8 : decode b_Ref_join 8 = .ok (.aload_n 0, 1) := by decide +kernel
theorem d_Ref_join_9 : decode b_Ref_join 9 = .ok (.iload_n 2, 1) := by decide +kernel
theorem d_Ref_join_10 : decode b_Ref_join 10 = .ok (.invokevirtual 208, 3) := by decide +kernel
theorem d_Ref_join_13 : decode b_Ref_join 13 = .ok (.ifCond .ne 6, 3) := by decide +kernel
theorem d_Ref_join_16 : decode b_Ref_join 16 = .ok (.bipush (-2), 2) := by decide +kernel
theorem d_Ref_join_18 : decode b_Ref_join 18 = .ok (.ireturn, 1) := by decide +kernel
theorem d_Ref_join_19 : decode b_Ref_join 19 = .ok (.aload_n 0, 1) := by decide +kernel
theorem d_Ref_join_20 : decode b_Ref_join 20 = .ok (.iconst 2, 1) := by decide +kernel
theorem d_Ref_join_21 : decode b_Ref_join 21 = .ok (.iload_n 1, 1) := by decide +kernel
theorem d_Ref_join_22 : decode b_Ref_join 22 = .ok (.iload_n 2, 1) := by decide +kernel
theorem d_Ref_join_23 : decode b_Ref_join 23 = .ok (.iconst 0, 1) := by decide +kernel
theorem d_Ref_join_24 : decode b_Ref_join 24 = .ok (.invokevirtual 254, 3) := by decide +kernel
theorem d_Ref_join_27 : decode b_Ref_join 27 = .ok (.aload_n 0, 1) := by decide +kernel
theorem d_Ref_join_28 : decode b_Ref_join 28 = .ok (.iconst 0, 1) := by decide +kernel
theorem d_Ref_join_29 : decode b_Ref_join 29 = .ok (.aload_n 0, 1) := by decide +kernel
theorem d_Ref_join_30 : decode b_Ref_join 30 = .ok (.iload_n 1, 1) := by decide +kernel
theorem d_Ref_join_31 : decode b_Ref_join 31 = .ok (.iconst 0, 1) := by decide +kernel
theorem d_Ref_join_32 : decode b_Ref_join 32 = .ok (.invokevirtual 152, 3) := by decide +kernel
theorem d_Ref_join_35 : decode b_Ref_join 35 = .ok (.ifCond .eq 7, 3) := by decide +kernel
theorem d_Ref_join_38 : decode b_Ref_join 38 = .ok (.lconst 1, 1) := by decide +kernel
theorem d_Ref_join_39 : decode b_Ref_join 39 = .ok (.goto 4, 3) := by decide +kernel
theorem d_Ref_join_42 : decode b_Ref_join 42 = .ok (.lconst 0, 1) := by decide +kernel
theorem d_Ref_join_43 : decode b_Ref_join 43 = .ok (.invokevirtual 258, 3) := by decide +kernel
theorem d_Ref_join_46 : decode b_Ref_join 46 = .ok (.ireturn, 1) := by decide +kernel
theorem d_Ref_many_0 : decode b_Ref_many 0 = .ok (.aload_n 0, 1) := by decide +kernel
theorem d_Ref_many_1 : decode b_Ref_many 1 = .ok (.iload_n 1, 1) := by decide +kernel
theorem d_Ref_many_2 : decode b_Ref_many 2 = .ok (.invokevirtual 208, 3) := by decide +kernel
theorem d_Ref_many_5 : decode b_Ref_many 5 = .ok (.ifCond .ne 6, 3) := by decide +kernel
theorem d_Ref_many_8 : decode b_Ref_many 8 = .ok (.bipush (-2), 2) := by decide +kernel
theorem d_Ref_many_10 : decode b_Ref_many 10 = .ok (.ireturn, 1) := by decide +kernel
theorem d_Ref_many_11 : decode b_Ref_many 11 = .ok (.aload_n 0, 1) := by decide +kernel
theorem d_Ref_many_12 : decode b_Ref_many 12 = .ok (.iconst 3, 1) := by decide +kernel
theorem d_Ref_many_13 : decode b_Ref_many 13 = .ok (.iload_n 1, 1) := by decide +kernel
theorem d_Ref_many_14 : decode b_Ref_many 14 = .ok (.iload_n 1, 1) := by decide +kernel
theorem d_Ref_many_15 : decode b_Ref_many 15 = .ok (.iconst 0, 1) := by decide +kernel
theorem d_Ref_many_16 : decode b_Ref_many 16 = .ok (.invokevirtual 254, 3) := by decide +kernel
theorem d_Ref_many_19 : decode b_Ref_many 19 = .ok (.aload_n 0, 1) := by decide +kernel
theorem d_Ref_many_20 : decode b_Ref_many 20 = .ok (.bipush 100, 2) := by decide +kernel
theorem d_Ref_many_22 : decode b_Ref_many 22 = .ok (.lconst 0, 1) := by decide +kernel
theorem d_Ref_many_23 : decode b_Ref_many 23 = .ok (.invokevirtual 258, 3) := by decide +kernel
theorem d_Ref_many_26 : decode b_Ref_many 26 = .ok (.ireturn, 1) := by decide +kernel
theorem d_Ref_turn_0 : decode b_Ref_turn 0 = .ok (.aload_n 0, 1) := by decide +kernel
theorem d_Ref_turn_1 : decode b_Ref_turn 1 = .ok (.iload_n 1, 1) := by decide +kernel
theorem d_Ref_turn_2 : decode b_Ref_turn 2 = .ok (.invokevirtual 208, 3) := by decide +kernel
theorem d_Ref_turn_5 : decode b_Ref_turn 5 = .ok (.ifCond .ne 6, 3) := by decide +kernel
theorem d_Ref_turn_8 : decode b_Ref_turn 8 = .ok (.bipush (-2), 2) := by decide +kernel
theorem d_Ref_turn_10 : decode b_Ref_turn 10 = .ok (.ireturn, 1) := by decide +kernel
theorem d_Ref_turn_11 : decode b_Ref_turn 11 = .ok (.aload_n 0, 1) := by decide +kernel
theorem d_Ref_turn_12 : decode b_Ref_turn 12 = .ok (.iconst 4, 1) := by decide +kernel
theorem d_Ref_turn_13 : decode b_Ref_turn 13 = .ok (.iload_n 1, 1) := by decide +kernel
theorem d_Ref_turn_14 : decode b_Ref_turn 14 = .ok (.iload_n 1, 1) := by decide +kernel
theorem d_Ref_turn_15 : decode b_Ref_turn 15 = .ok (.iconst 0, 1) := by decide +kernel
theorem d_Ref_turn_16 : decode b_Ref_turn 16 = .ok (.invokevirtual 254, 3) := by decide +kernel
theorem d_Ref_turn_19 : decode b_Ref_turn 19 = .ok (.aload_n 0, 1) := by decide +kernel
theorem d_Ref_turn_20 : decode b_Ref_turn 20 = .ok (.iconst 0, 1) := by decide +kernel
theorem d_Ref_turn_21 : decode b_Ref_turn 21 = .ok (.aload_n 0, 1) := by decide +kernel
theorem d_Ref_turn_22 : decode b_Ref_turn 22 = .ok (.getfield 16, 3) := by decide +kernel
theorem d_Ref_turn_25 : decode b_Ref_turn 25 = .ok (.iload_n 1, 1) := by decide +kernel
theorem d_Ref_turn_26 : decode b_Ref_turn 26 = .ok (.laload, 1) := by decide +kernel
theorem d_Ref_turn_27 : decode b_Ref_turn 27 = .ok (.invokevirtual 258, 3) := by decide +kernel
theorem d_Ref_turn_30 : decode b_Ref_turn 30 = .ok (.ireturn, 1) := by decide +kernel
theorem d_Ref_become_0 : decode b_Ref_become 0 = .ok (.aload_n 0, 1) := by decide +kernel
theorem d_Ref_become_1 : decode b_Ref_become 1 = .ok (.iload_n 1, 1) := by decide +kernel
theorem d_Ref_become_2 : decode b_Ref_become 2 = .ok (.invokevirtual 208, 3) := by decide +kernel
theorem d_Ref_become_5 : decode b_Ref_become 5 = .ok (.ifCond .eq 35, 3) := by decide +kernel
theorem d_Ref_become_8 : decode b_Ref_become 8 = .ok (.iload_n 2, 1) := by decide +kernel
theorem d_Ref_become_9 : decode b_Ref_become 9 = .ok (.i2l, 1) := by decide +kernel
theorem d_Ref_become_10 : decode b_Ref_become 10 = .ok (.lconst 0, 1) := by decide +kernel
theorem d_Ref_become_11 : decode b_Ref_become 11 = .ok (.aload_n 0, 1) := by decide +kernel
theorem d_Ref_become_12 : decode b_Ref_become 12 = .ok (.getfield 93, 3) := by decide +kernel
theorem d_Ref_become_15 : decode b_Ref_become 15 = .ok (.iconst 1, 1) := by decide +kernel
theorem d_Ref_become_16 : decode b_Ref_become 16 = .ok (.isub, 1) := by decide +kernel
theorem d_Ref_become_17 : decode b_Ref_become 17 = .ok (.i2l, 1) := by decide +kernel
theorem d_Ref_become_18 : decode b_Ref_become 18 = .ok (.invokestatic 100, 3) := by decide +kernel
theorem d_Ref_become_21 : decode b_Ref_become 21 = .ok (.ifCond .eq 19, 3) := by decide +kernel
theorem d_Ref_become_24 : decode b_Ref_become 24 = .ok (.iload_n 3, 1) := by decide +kernel
theorem d_Ref_become_25 : decode b_Ref_become 25 = .ok (.i2l, 1) := by decide +kernel
theorem d_Ref_become_26 : decode b_Ref_become 26 = .ok (.lconst 0, 1) := by decide +kernel
theorem d_Ref_become_27 : decode b_Ref_become 27 = .ok (.aload_n 0, 1) := by decide +kernel
theorem d_Ref_become_28 : decode b_Ref_become 28 = .ok (.getfield 93, 3) := by decide +kernel
theorem d_Ref_become_31 : decode b_Ref_become 31 = .ok (.iconst 1, 1) := by decide +kernel
theorem d_Ref_become_32 : decode b_Ref_become 32 = .ok (.isub, 1) := by decide +kernel
theorem d_Ref_become_33 : decode b_Ref_become 33 = .ok (.i2l, 1) := by decide +kernel
theorem d_Ref_become_34 : decode b_Ref_become 34 = .ok (.invokestatic 100, 3) := by decide +kernel
theorem d_Ref_become_37 : decode b_Ref_become 37 = .ok (.ifCond .ne 6, 3) := by decide +kernel
theorem d_Ref_become_40 : decode b_Ref_become 40 = .ok (.bipush (-2), 2) := by decide +kernel
theorem d_Ref_become_42 : decode b_Ref_become 42 = .ok (.ireturn, 1) := by decide +kernel
theorem d_Ref_become_43 : decode b_Ref_become 43 = .ok (.aload_n 0, 1) := by decide +kernel
theorem d_Ref_become_44 : decode b_Ref_become 44 = .ok (.iconst 5, 1) := by decide +kernel
theorem d_Ref_become_45 : decode b_Ref_become 45 = .ok (.iload_n 1, 1) := by decide +kernel
theorem d_Ref_become_46 : decode b_Ref_become 46 = .ok (.iload_n 1, 1) := by decide +kernel
theorem d_Ref_become_47 : decode b_Ref_become 47 = .ok (.iconst 0, 1) := by decide +kernel
theorem d_Ref_become_48 : decode b_Ref_become 48 = .ok (.invokevirtual 254, 3) := by decide +kernel
theorem d_Ref_become_51 : decode b_Ref_become 51 = .ok (.aload_n 0, 1) := by decide +kernel
theorem d_Ref_become_52 : decode b_Ref_become 52 = .ok (.iload_n 2, 1) := by decide +kernel
theorem d_Ref_become_53 : decode b_Ref_become 53 = .ok (.putfield 159, 3) := by decide +kernel
theorem d_Ref_become_56 : decode b_Ref_become 56 = .ok (.aload_n 0, 1) := by decide +kernel
theorem d_Ref_become_57 : decode b_Ref_become 57 = .ok (.iload_n 3, 1) := by decide +kernel
theorem d_Ref_become_58 : decode b_Ref_become 58 = .ok (.putfield 156, 3) := by decide +kernel
theorem d_Ref_become_61 : decode b_Ref_become 61 = .ok (.aload_n 0, 1) := by decide +kernel
theorem d_Ref_become_62 : decode b_Ref_become 62 = .ok (.iconst 0, 1) := by decide +kernel
theorem d_Ref_become_63 : decode b_Ref_become 63 = .ok (.lconst 1, 1) := by decide +kernel
theorem d_Ref_become_64 : decode b_Ref_become 64 = .ok (.invokevirtual 258, 3) := by decide +kernel
theorem d_Ref_become_67 : decode b_Ref_become 67 = .ok (.ireturn, 1) := by decide +kernel
theorem d_Ref_drop_0 : decode b_Ref_drop 0 = .ok (.aload_n 0, 1) := by decide +kernel
theorem d_Ref_drop_1 : decode b_Ref_drop 1 = .ok (.iload_n 1, 1) := by decide +kernel
theorem d_Ref_drop_2 : decode b_Ref_drop 2 = .ok (.invokevirtual 208, 3) := by decide +kernel
theorem d_Ref_drop_5 : decode b_Ref_drop 5 = .ok (.ifCond .eq 19, 3) := by decide +kernel
theorem d_Ref_drop_8 : decode b_Ref_drop 8 = .ok (.iload_n 2, 1) := by decide +kernel
theorem d_Ref_drop_9 : decode b_Ref_drop 9 = .ok (.i2l, 1) := by decide +kernel
theorem d_Ref_drop_10 : decode b_Ref_drop 10 = .ok (.lconst 0, 1) := by decide +kernel
theorem d_Ref_drop_11 : decode b_Ref_drop 11 = .ok (.aload_n 0, 1) := by decide +kernel
theorem d_Ref_drop_12 : decode b_Ref_drop 12 = .ok (.getfield 93, 3) := by decide +kernel
theorem d_Ref_drop_15 : decode b_Ref_drop 15 = .ok (.iconst 1, 1) := by decide +kernel
theorem d_Ref_drop_16 : decode b_Ref_drop 16 = .ok (.isub, 1) := by decide +kernel
theorem d_Ref_drop_17 : decode b_Ref_drop 17 = .ok (.i2l, 1) := by decide +kernel
theorem d_Ref_drop_18 : decode b_Ref_drop 18 = .ok (.invokestatic 100, 3) := by decide +kernel
theorem d_Ref_drop_21 : decode b_Ref_drop 21 = .ok (.ifCond .ne 6, 3) := by decide +kernel
theorem d_Ref_drop_24 : decode b_Ref_drop 24 = .ok (.bipush (-2), 2) := by decide +kernel
theorem d_Ref_drop_26 : decode b_Ref_drop 26 = .ok (.ireturn, 1) := by decide +kernel
theorem d_Ref_drop_27 : decode b_Ref_drop 27 = .ok (.aload_n 0, 1) := by decide +kernel
theorem d_Ref_drop_28 : decode b_Ref_drop 28 = .ok (.bipush 6, 2) := by decide +kernel
theorem d_Ref_drop_30 : decode b_Ref_drop 30 = .ok (.iload_n 1, 1) := by decide +kernel
theorem d_Ref_drop_31 : decode b_Ref_drop 31 = .ok (.iload_n 1, 1) := by decide +kernel
theorem d_Ref_drop_32 : decode b_Ref_drop 32 = .ok (.iconst 0, 1) := by decide +kernel
theorem d_Ref_drop_33 : decode b_Ref_drop 33 = .ok (.invokevirtual 254, 3) := by decide +kernel
theorem d_Ref_drop_36 : decode b_Ref_drop 36 = .ok (.aload_n 0, 1) := by decide +kernel
theorem d_Ref_drop_37 : decode b_Ref_drop 37 = .ok (.iload_n 2, 1) := by decide +kernel
theorem d_Ref_drop_38 : decode b_Ref_drop 38 = .ok (.putfield 159, 3) := by decide +kernel
theorem d_Ref_drop_41 : decode b_Ref_drop 41 = .ok (.aload_n 0, 1) := by decide +kernel
theorem d_Ref_drop_42 : decode b_Ref_drop 42 = .ok (.iconst 0, 1) := by decide +kernel
theorem d_Ref_drop_43 : decode b_Ref_drop 43 = .ok (.aload_n 0, 1) := by decide +kernel
theorem d_Ref_drop_44 : decode b_Ref_drop 44 = .ok (.lconst 1, 1) := by decide +kernel
theorem d_Ref_drop_45 : decode b_Ref_drop 45 = .ok (.invokevirtual 162, 3) := by decide +kernel
theorem d_Ref_drop_48 : decode b_Ref_drop 48 = .ok (.invokevirtual 258, 3) := by decide +kernel
theorem d_Ref_drop_51 : decode b_Ref_drop 51 = .ok (.ireturn, 1) := by decide +kernel
theorem d_Ref_cut_0 : decode b_Ref_cut 0 = .ok (.aload_n 0, 1) := by decide +kernel
theorem d_Ref_cut_1 : decode b_Ref_cut 1 = .ok (.iload_n 1, 1) := by decide +kernel
theorem d_Ref_cut_2 : decode b_Ref_cut 2 = .ok (.invokevirtual 208, 3) := by decide +kernel
theorem d_Ref_cut_5 : decode b_Ref_cut 5 = .ok (.ifCond .eq 15, 3) := by decide +kernel
theorem d_Ref_cut_8 : decode b_Ref_cut 8 = .ok (.iload_n 2, 1) := by decide +kernel
theorem d_Ref_cut_9 : decode b_Ref_cut 9 = .ok (.i2l, 1) := by decide +kernel
theorem d_Ref_cut_10 : decode b_Ref_cut 10 = .ok (.lconst 0, 1) := by decide +kernel
theorem d_Ref_cut_11 : decode b_Ref_cut 11 = .ok (.ldc2_w 215, 3) := by decide +kernel
theorem d_Ref_cut_14 : decode b_Ref_cut 14 = .ok (.invokestatic 100, 3) := by decide +kernel
theorem d_Ref_cut_17 : decode b_Ref_cut 17 = .ok (.ifCond .ne 6, 3) := by decide +kernel
theorem d_Ref_cut_20 : decode b_Ref_cut 20 = .ok (.bipush (-2), 2) := by decide +kernel
theorem d_Ref_cut_22 : decode b_Ref_cut 22 = .ok (.ireturn, 1) := by decide +kernel
theorem d_Ref_cut_23 : decode b_Ref_cut 23 = .ok (.lconst 1, 1) := by decide +kernel
theorem d_Ref_cut_24 : decode b_Ref_cut 24 = .ok (.lstore_n 3, 1) := by decide +kernel
theorem d_Ref_cut_25 : decode b_Ref_cut 25 = .ok (.iconst 0, 1) := by decide +kernel
theorem d_Ref_cut_26 : decode b_Ref_cut 26 = .ok (.istore 5, 2) := by decide +kernel
theorem d_Ref_cut_28 : decode b_Ref_cut 28 = .ok (.iload 5, 2) := by decide +kernel
theorem d_Ref_cut_30 : decode b_Ref_cut 30 = .ok (.iload_n 2, 1) := by decide +kernel
theorem d_Ref_cut_31 : decode b_Ref_cut 31 = .ok (.if_icmp .ge 46, 3) := by decide +kernel
theorem d_Ref_cut_34 : decode b_Ref_cut 34 = .ok (.lconst 0, 1) := by decide +kernel
theorem d_Ref_cut_35 : decode b_Ref_cut 35 = .ok (.lstore 6, 2) := by decide +kernel
theorem d_Ref_cut_37 : decode b_Ref_cut 37 = .ok (.iconst 0, 1) := by decide +kernel
theorem d_Ref_cut_38 : decode b_Ref_cut 38 = .ok (.istore 8, 2) := by decide +kernel
theorem d_Ref_cut_40 : decode b_Ref_cut 40 = .ok (.iload 8, 2) := by decide +kernel
theorem d_Ref_cut_42 : decode b_Ref_cut 42 = .ok (.aload_n 0, 1) := by decide +kernel
theorem d_Ref_cut_43 : decode b_Ref_cut 43 = .ok (.getfield 93, 3) := by decide +kernel
theorem d_Ref_cut_46 : decode b_Ref_cut 46 = .ok (.if_icmp .ge 22, 3) := by decide +kernel
theorem d_Ref_cut_49 : decode b_Ref_cut 49 = .ok (.lload 6, 2) := by decide +kernel
theorem d_Ref_cut_51 : decode b_Ref_cut 51 = .ok (.aload_n 0, 1) := by decide +kernel
theorem d_Ref_cut_52 : decode b_Ref_cut 52 = .ok (.iload_n 1, 1) := by decide +kernel
theorem d_Ref_cut_53 : decode b_Ref_cut 53 = .ok (.lload_n 3, 1) := by decide +kernel
theorem d_Ref_cut_54 : decode b_Ref_cut 54 = .ok (.iload 8, 2) := by decide +kernel
theorem d_Ref_cut_56 : decode b_Ref_cut 56 = .ok (.invokevirtual 148, 3) := by decide +kernel
theorem d_Ref_cut_59 : decode b_Ref_cut 59 = .ok (.lor, 1) := by decide +kernel
theorem d_Ref_cut_60 : decode b_Ref_cut 60 = .ok (.lstore 6, 2) := by decide +kernel
theorem d_Ref_cut_62 : decode b_Ref_cut 62 = .ok (.iinc 8 1, 3) := by decide +kernel
theorem d_Ref_cut_65 : decode b_Ref_cut 65 = .ok (.goto (-25), 3) := by decide +kernel
theorem d_Ref_cut_68 : decode b_Ref_cut 68 = .ok (.lload 6, 2) := by decide +kernel
theorem d_Ref_cut_70 : decode b_Ref_cut 70 = .ok (.lstore_n 3, 1) := by decide +kernel
theorem d_Ref_cut_71 : decode b_Ref_cut 71 = .ok (.iinc 5 1, 3) := by decide +kernel
theorem d_Ref_cut_74 : decode b_Ref_cut 74 = .ok (.goto (-46), 3) := by decide +kernel
theorem d_Ref_cut_77 : decode b_Ref_cut 77 = .ok (.aload_n 0, 1) := by decide +kernel
theorem d_Ref_cut_78 : decode b_Ref_cut 78 = .ok (.bipush 7, 2) := by decide +kernel
theorem d_Ref_cut_80 : decode b_Ref_cut 80 = .ok (.iload_n 1, 1) := by decide +kernel
theorem d_Ref_cut_81 : decode b_Ref_cut 81 = .ok (.iload_n 1, 1) := by decide +kernel
theorem d_Ref_cut_82 : decode b_Ref_cut 82 = .ok (.iconst 0, 1) := by decide +kernel
theorem d_Ref_cut_83 : decode b_Ref_cut 83 = .ok (.invokevirtual 254, 3) := by decide +kernel
theorem d_Ref_cut_86 : decode b_Ref_cut 86 = .ok (.aload_n 0, 1) := by decide +kernel
theorem d_Ref_cut_87 : decode b_Ref_cut 87 = .ok (.iconst 0, 1) := by decide +kernel
theorem d_Ref_cut_88 : decode b_Ref_cut 88 = .ok (.lload_n 3, 1) := by decide +kernel
theorem d_Ref_cut_89 : decode b_Ref_cut 89 = .ok (.invokevirtual 258, 3) := by decide +kernel
theorem d_Ref_cut_92 : decode b_Ref_cut 92 = .ok (.ireturn, 1) := by decide +kernel
