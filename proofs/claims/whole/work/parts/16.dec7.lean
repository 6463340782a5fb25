/-! DECODE ROWS -/
theorem d_Ref_part_0 : decode b_Ref_part 0 = .ok (.aload_n 0, 1) := by decide +kernel
theorem d_Ref_part_1 : decode b_Ref_part 1 = .ok (.iload_n 1, 1) := by decide +kernel
theorem d_Ref_part_2 : decode b_Ref_part 2 = .ok (.invokevirtual 208, 3) := by decide +kernel
theorem d_Ref_part_5 : decode b_Ref_part 5 = .ok (.ifCond .eq 15, 3) := by decide +kernel
theorem d_Ref_part_8 : decode b_Ref_part 8 = .ok (.iload_n 2, 1) := by decide +kernel
theorem d_Ref_part_9 : decode b_Ref_part 9 = .ok (.i2l, 1) := by decide +kernel
theorem d_Ref_part_10 : decode b_Ref_part 10 = .ok (.lconst 0, 1) := by decide +kernel
theorem d_Ref_part_11 : decode b_Ref_part 11 = .ok (.ldc2_w 202, 3) := by decide +kernel
theorem d_Ref_part_14 : decode b_Ref_part 14 = .ok (.invokestatic 100, 3) := by decide +kernel
theorem d_Ref_part_17 : decode b_Ref_part 17 = .ok (.ifCond .ne 6, 3) := by decide +kernel
theorem d_Ref_part_20 : decode b_Ref_part 20 = .ok (.bipush (-2), 2) := by decide +kernel
theorem d_Ref_part_22 : decode b_Ref_part 22 = .ok (.ireturn, 1) := by decide +kernel
theorem d_Ref_part_23 : decode b_Ref_part 23 = .ok (.aload_n 0, 1) := by decide +kernel
theorem d_Ref_part_24 : decode b_Ref_part 24 = .ok (.iload_n 1, 1) := by decide +kernel
theorem d_Ref_part_25 : decode b_Ref_part 25 = .ok (.invokevirtual 261, 3) := by decide +kernel
theorem d_Ref_part_28 : decode b_Ref_part 28 = .ok (.iload_n 2, 1) := by decide +kernel
theorem d_Ref_part_29 : decode b_Ref_part 29 = .ok (.ifCond .ne 13, 3) := by decide +kernel
theorem d_Ref_part_32 : decode b_Ref_part 32 = .ok (.aload_n 0, 1) := by decide +kernel
theorem d_Ref_part_33 : decode b_Ref_part 33 = .ok (.iload_n 1, 1) := by decide +kernel
theorem d_Ref_part_34 : decode b_Ref_part 34 = .ok (.aload_n 0, 1) := by decide +kernel
theorem d_Ref_part_35 : decode b_Ref_part 35 = .ok (.getfield 175, 3) := by decide +kernel
theorem d_Ref_part_38 : decode b_Ref_part 38 = .ok (.invokevirtual 211, 3) := by decide +kernel
theorem d_Ref_part_41 : decode b_Ref_part 41 = .ok (.ireturn, 1) := by decide +kernel
theorem d_Ref_part_42 : decode b_Ref_part 42 = .ok (.aload_n 0, 1) := by decide +kernel
theorem d_Ref_part_43 : decode b_Ref_part 43 = .ok (.bipush 7, 2) := by decide +kernel
theorem d_Ref_part_45 : decode b_Ref_part 45 = .ok (.iload_n 1, 1) := by decide +kernel
theorem d_Ref_part_46 : decode b_Ref_part 46 = .ok (.iload_n 1, 1) := by decide +kernel
theorem d_Ref_part_47 : decode b_Ref_part 47 = .ok (.iload_n 2, 1) := by decide +kernel
theorem d_Ref_part_48 : decode b_Ref_part 48 = .ok (.invokevirtual 254, 3) := by decide +kernel
theorem d_Ref_part_51 : decode b_Ref_part 51 = .ok (.aload_n 0, 1) := by decide +kernel
theorem d_Ref_part_52 : decode b_Ref_part 52 = .ok (.iconst 0, 1) := by decide +kernel
theorem d_Ref_part_53 : decode b_Ref_part 53 = .ok (.lconst 1, 1) := by decide +kernel
theorem d_Ref_part_54 : decode b_Ref_part 54 = .ok (.aload_n 0, 1) := by decide +kernel
theorem d_Ref_part_55 : decode b_Ref_part 55 = .ok (.getfield 7, 3) := by decide +kernel
theorem d_Ref_part_58 : decode b_Ref_part 58 = .ok (.iload_n 1, 1) := by decide +kernel
theorem d_Ref_part_59 : decode b_Ref_part 59 = .ok (.iaload, 1) := by decide +kernel
theorem d_Ref_part_60 : decode b_Ref_part 60 = .ok (.lshl, 1) := by decide +kernel
theorem d_Ref_part_61 : decode b_Ref_part 61 = .ok (.lconst 1, 1) := by decide +kernel
theorem d_Ref_part_62 : decode b_Ref_part 62 = .ok (.lsub, 1) := by decide +kernel
theorem d_Ref_part_63 : decode b_Ref_part 63 = .ok (.invokevirtual 258, 3) := by decide +kernel
theorem d_Ref_part_66 : decode b_Ref_part 66 = .ok (.ireturn, 1) := by decide +kernel
theorem d_Ref_findAlive_0 : decode b_Ref_findAlive 0 = .ok (.aload_n 0, 1) := by decide +kernel
theorem d_Ref_findAlive_1 : decode b_Ref_findAlive 1 = .ok (.aload_n 0, 1) := by decide +kernel
theorem d_Ref_findAlive_2 : decode b_Ref_findAlive 2 = .ok (.getfield 16, 3) := by decide +kernel
theorem d_Ref_findAlive_5 : decode b_Ref_findAlive 5 = .ok (.iload_n 1, 1) := by decide +kernel
theorem d_Ref_findAlive_6 : decode b_Ref_findAlive 6 = .ok (.laload, 1) := by decide +kernel
theorem d_Ref_findAlive_7 : decode b_Ref_findAlive 7 = .ok (.putfield 175, 3) := by decide +kernel
theorem d_Ref_findAlive_10 : decode b_Ref_findAlive 10 = .ok (.iconst 0, 1) := by decide +kernel
theorem d_Ref_findAlive_11 : decode b_Ref_findAlive 11 = .ok (.istore_n 2, 1) := by decide +kernel
theorem d_Ref_findAlive_12 : decode b_Ref_findAlive 12 = .ok (.iload_n 2, 1) := by decide +kernel
theorem d_Ref_findAlive_13 : decode b_Ref_findAlive 13 = .ok (.bipush 40, 2) := by decide +kernel
theorem d_Ref_findAlive_15 : decode b_Ref_findAlive 15 = .ok (.if_icmp .ge 27, 3) := by decide +kernel
theorem d_Ref_findAlive_18 : decode b_Ref_findAlive 18 = .ok (.aload_n 0, 1) := by decide +kernel
theorem d_Ref_findAlive_19 : decode b_Ref_findAlive 19 = .ok (.dup, 1) := by decide +kernel
theorem d_Ref_findAlive_20 : decode b_Ref_findAlive 20 = .ok (.getfield 175, 3) := by decide +kernel
theorem d_Ref_findAlive_23 : decode b_Ref_findAlive 23 = .ok (.aload_n 0, 1) := by decide +kernel
theorem d_Ref_findAlive_24 : decode b_Ref_findAlive 24 = .ok (.iload_n 1, 1) := by decide +kernel
theorem d_Ref_findAlive_25 : decode b_Ref_findAlive 25 = .ok (.aload_n 0, 1) := by decide +kernel
theorem d_Ref_findAlive_26 : decode b_Ref_findAlive 26 = .ok (.getfield 175, 3) := by decide +kernel
theorem d_Ref_findAlive_29 : decode b_Ref_findAlive 29 = .ok (.invokevirtual 217, 3) := by decide +kernel
theorem d_Ref_findAlive_32 : decode b_Ref_findAlive 32 = .ok (.lor, 1) := by decide +kernel
theorem d_Ref_findAlive_33 : decode b_Ref_findAlive 33 = .ok (.putfield 175, 3) := by decide +kernel
theorem d_Ref_findAlive_36 : decode b_Ref_findAlive 36 = .ok (.iinc 2 1, 3) := by decide +kernel
theorem d_Ref_findAlive_39 : decode b_Ref_findAlive 39 = .ok (.goto (-27), 3) := by decide +kernel
theorem d_Ref_findAlive_42 : decode b_Ref_findAlive 42 = .ok (.return_, 1) := by decide +kernel
theorem d_Ref_widen_0 : decode b_Ref_widen 0 = .ok (.aload_n 0, 1) := by decide +kernel
theorem d_Ref_widen_1 : decode b_Ref_widen 1 = .ok (.iload_n 1, 1) := by decide +kernel
theorem d_Ref_widen_2 : decode b_Ref_widen 2 = .ok (.invokevirtual 208, 3) := by decide +kernel
theorem d_Ref_widen_5 : decode b_Ref_widen 5 = .ok (.ifCond .eq 15, 3) := by decide +kernel
theorem d_Ref_widen_8 : decode b_Ref_widen 8 = .ok (.iload_n 2, 1) := by decide +kernel
theorem d_Ref_widen_9 : decode b_Ref_widen 9 = .ok (.i2l, 1) := by decide +kernel
theorem d_Ref_widen_10 : decode b_Ref_widen 10 = .ok (.lconst 0, 1) := by decide +kernel
theorem d_Ref_widen_11 : decode b_Ref_widen 11 = .ok (.ldc2_w 265, 3) := by decide +kernel
theorem d_Ref_widen_14 : decode b_Ref_widen 14 = .ok (.invokestatic 100, 3) := by decide +kernel
theorem d_Ref_widen_17 : decode b_Ref_widen 17 = .ok (.ifCond .ne 6, 3) := by decide +kernel
theorem d_Ref_widen_20 : decode b_Ref_widen 20 = .ok (.bipush (-2), 2) := by decide +kernel
theorem d_Ref_widen_22 : decode b_Ref_widen 22 = .ok (.ireturn, 1) := by decide +kernel
theorem d_Ref_widen_23 : decode b_Ref_widen 23 = .ok (.aload_n 0, 1) := by decide +kernel
theorem d_Ref_widen_24 : decode b_Ref_widen 24 = .ok (.bipush 8, 2) := by decide +kernel
theorem d_Ref_widen_26 : decode b_Ref_widen 26 = .ok (.iload_n 1, 1) := by decide +kernel
theorem d_Ref_widen_27 : decode b_Ref_widen 27 = .ok (.iload_n 1, 1) := by decide +kernel
theorem d_Ref_widen_28 : decode b_Ref_widen 28 = .ok (.iconst 0, 1) := by decide +kernel
theorem d_Ref_widen_29 : decode b_Ref_widen 29 = .ok (.invokevirtual 254, 3) := by decide +kernel
theorem d_Ref_widen_32 : decode b_Ref_widen 32 = .ok (.aload_n 0, 1) := by decide +kernel
theorem d_Ref_widen_33 : decode b_Ref_widen 33 = .ok (.iload_n 2, 1) := by decide +kernel
theorem d_Ref_widen_34 : decode b_Ref_widen 34 = .ok (.invokevirtual 267, 3) := by decide +kernel
theorem d_Ref_widen_37 : decode b_Ref_widen 37 = .ok (.aload_n 0, 1) := by decide +kernel
theorem d_Ref_widen_38 : decode b_Ref_widen 38 = .ok (.iconst 0, 1) := by decide +kernel
theorem d_Ref_widen_39 : decode b_Ref_widen 39 = .ok (.aload_n 0, 1) := by decide +kernel
theorem d_Ref_widen_40 : decode b_Ref_widen 40 = .ok (.lconst 1, 1) := by decide +kernel
theorem d_Ref_widen_41 : decode b_Ref_widen 41 = .ok (.invokevirtual 166, 3) := by decide +kernel
theorem d_Ref_widen_44 : decode b_Ref_widen 44 = .ok (.invokevirtual 258, 3) := by decide +kernel
theorem d_Ref_widen_47 : decode b_Ref_widen 47 = .ok (.ireturn, 1) := by decide +kernel
theorem d_Ref_findLike_0 : decode b_Ref_findLike 0 = .ok (.iconst 0, 1) := by decide +kernel
theorem d_Ref_findLike_1 : decode b_Ref_findLike 1 = .ok (.istore_n 2, 1) := by decide +kernel
theorem d_Ref_findLike_2 : decode b_Ref_findLike 2 = .ok (.iload_n 2, 1) := by decide +kernel
theorem d_Ref_findLike_3 : decode b_Ref_findLike 3 = .ok (.aload_n 0, 1) := by decide +kernel
theorem d_Ref_findLike_4 : decode b_Ref_findLike 4 = .ok (.getfield 7, 3) := by decide +kernel
theorem d_Ref_findLike_7 : decode b_Ref_findLike 7 = .ok (.aload_n 0, 1) := by decide +kernel
theorem d_Ref_findLike_8 : decode b_Ref_findLike 8 = .ok (.getfield 142, 3) := by decide +kernel
theorem d_Ref_findLike_11 : decode b_Ref_findLike 11 = .ok (.iaload, 1) := by decide +kernel
theorem d_Ref_findLike_12 : decode b_Ref_findLike 12 = .ok (.if_icmp .ge 32, 3) := by decide +kernel
theorem d_Ref_findLike_15 : decode b_Ref_findLike 15 = .ok (.aload_n 0, 1) := by decide +kernel
theorem d_Ref_findLike_16 : decode b_Ref_findLike 16 = .ok (.getfield 39, 3) := by decide +kernel
theorem d_Ref_findLike_19 : decode b_Ref_findLike 19 = .ok (.iload_n 2, 1) := by decide +kernel
theorem d_Ref_findLike_20 : decode b_Ref_findLike 20 = .ok (.aload_n 0, 1) := by decide +kernel
theorem d_Ref_findLike_21 : decode b_Ref_findLike 21 = .ok (.aload_n 0, 1) := by decide +kernel
theorem d_Ref_findLike_22 : decode b_Ref_findLike 22 = .ok (.getfield 142, 3) := by decide +kernel
theorem d_Ref_findLike_25 : decode b_Ref_findLike 25 = .ok (.iload_n 2, 1) := by decide +kernel
theorem d_Ref_findLike_26 : decode b_Ref_findLike 26 = .ok (.invokevirtual 152, 3) := by decide +kernel
theorem d_Ref_findLike_29 : decode b_Ref_findLike 29 = .ok (.ifCond .eq 7, 3) := by decide +kernel
theorem d_Ref_findLike_32 : decode b_Ref_findLike 32 = .ok (.iconst 1, 1) := by decide +kernel
theorem d_Ref_findLike_33 : decode b_Ref_findLike 33 = .ok (.goto 4, 3) := by decide +kernel
theorem d_Ref_findLike_36 : decode b_Ref_findLike 36 = .ok (.iconst 0, 1) := by decide +kernel
theorem d_Ref_findLike_37 : decode b_Ref_findLike 37 = .ok (.iastore, 1) := by decide +kernel
theorem d_Ref_findLike_38 : decode b_Ref_findLike 38 = .ok (.iinc 2 1, 3) := by decide +kernel
theorem d_Ref_findLike_41 : decode b_Ref_findLike 41 = .ok (.goto (-39), 3) := by decide +kernel
theorem d_Ref_findLike_44 : decode b_Ref_findLike 44 = .ok (.iconst 0, 1) := by decide +kernel
theorem d_Ref_findLike_45 : decode b_Ref_findLike 45 = .ok (.istore_n 2, 1) := by decide +kernel
theorem d_Ref_findLike_46 : decode b_Ref_findLike 46 = .ok (.iload_n 2, 1) := by decide +kernel
theorem d_Ref_findLike_47 : decode b_Ref_findLike 47 = .ok (.iload_n 1, 1) := by decide +kernel
theorem d_Ref_findLike_48 : decode b_Ref_findLike 48 = .ok (.if_icmp .ge 90, 3) := by decide +kernel
theorem d_Ref_findLike_51 : decode b_Ref_findLike 51 = .ok (.iconst 0, 1) := by decide +kernel
theorem d_Ref_findLike_52 : decode b_Ref_findLike 52 = .ok (.istore_n 3, 1) := by decide +kernel
theorem d_Ref_findLike_53 : decode b_Ref_findLike 53 = .ok (.iload_n 3, 1) := by decide +kernel
theorem d_Ref_findLike_54 : decode b_Ref_findLike 54 = .ok (.aload_n 0, 1) := by decide +kernel
theorem d_Ref_findLike_55 : decode b_Ref_findLike 55 = .ok (.getfield 7, 3) := by decide +kernel
theorem d_Ref_findLike_58 : decode b_Ref_findLike 58 = .ok (.aload_n 0, 1) := by decide +kernel
theorem d_Ref_findLike_59 : decode b_Ref_findLike 59 = .ok (.getfield 142, 3) := by decide +kernel
theorem d_Ref_findLike_62 : decode b_Ref_findLike 62 = .ok (.iaload, 1) := by decide +kernel
theorem d_Ref_findLike_63 : decode b_Ref_findLike 63 = .ok (.if_icmp .ge 36, 3) := by decide +kernel
theorem d_Ref_findLike_66 : decode b_Ref_findLike 66 = .ok (.iconst 0, 1) := by decide +kernel
theorem d_Ref_findLike_67 : decode b_Ref_findLike 67 = .ok (.istore 4, 2) := by decide +kernel
theorem d_Ref_findLike_69 : decode b_Ref_findLike 69 = .ok (.aload_n 0, 1) := by decide +kernel
theorem d_Ref_findLike_70 : decode b_Ref_findLike 70 = .ok (.iload_n 3, 1) := by decide +kernel
theorem d_Ref_findLike_71 : decode b_Ref_findLike 71 = .ok (.iload 4, 2) := by decide +kernel
theorem d_Ref_findLike_73 : decode b_Ref_findLike 73 = .ok (.invokevirtual 180, 3) := by decide +kernel
theorem d_Ref_findLike_76 : decode b_Ref_findLike 76 = .ok (.ifCond .ne 9, 3) := by decide +kernel
theorem d_Ref_findLike_79 : decode b_Ref_findLike 79 = .ok (.iinc 4 1, 3) := by decide +kernel
theorem d_Ref_findLike_82 : decode b_Ref_findLike 82 = .ok (.goto (-13), 3) := by decide +kernel
theorem d_Ref_findLike_85 : decode b_Ref_findLike 85 = .ok (.aload_n 0, 1) := by decide +kernel
theorem d_Ref_findLike_86 : decode b_Ref_findLike 86 = .ok (.getfield 42, 3) := by decide +kernel
theorem d_Ref_findLike_89 : decode b_Ref_findLike 89 = .ok (.iload_n 3, 1) := by decide +kernel
theorem d_Ref_findLike_90 : decode b_Ref_findLike 90 = .ok (.iload 4, 2) := by decide +kernel
theorem d_Ref_findLike_92 : decode b_Ref_findLike 92 = .ok (.iastore, 1) := by decide +kernel
theorem d_Ref_findLike_93 : decode b_Ref_findLike 93 = .ok (.iinc 3 1, 3) := by decide +kernel
theorem d_Ref_findLike_96 : decode b_Ref_findLike 96 = .ok (.goto (-43), 3) := by decide +kernel
theorem d_Ref_findLike_99 : decode b_Ref_findLike 99 = .ok (.iconst 0, 1) := by decide +kernel
theorem d_Ref_findLike_100 : decode b_Ref_findLike 100 = .ok (.istore_n 3, 1) := by decide +kernel
theorem d_Ref_findLike_101 : decode b_Ref_findLike 101 = .ok (.iload_n 3, 1) := by decide +kernel
theorem d_Ref_findLike_102 : decode b_Ref_findLike 102 = .ok (.aload_n 0, 1) := by decide +kernel
theorem d_Ref_findLike_103 : decode b_Ref_findLike 103 = .ok (.getfield 7, 3) := by decide +kernel
theorem d_Ref_findLike_106 : decode b_Ref_findLike 106 = .ok (.aload_n 0, 1) := by decide +kernel
theorem d_Ref_findLike_107 : decode b_Ref_findLike 107 = .ok (.getfield 142, 3) := by decide +kernel
theorem d_Ref_findLike_110 : decode b_Ref_findLike 110 = .ok (.iaload, 1) := by decide +kernel
theorem d_Ref_findLike_111 : decode b_Ref_findLike 111 = .ok (.if_icmp .ge 21, 3) := by decide +kernel
theorem d_Ref_findLike_114 : decode b_Ref_findLike 114 = .ok (.aload_n 0, 1) := by decide +kernel
theorem d_Ref_findLike_115 : decode b_Ref_findLike 115 = .ok (.getfield 39, 3) := by decide +kernel
theorem d_Ref_findLike_118 : decode b_Ref_findLike 118 = .ok (.iload_n 3, 1) := by decide +kernel
theorem d_Ref_findLike_119 : decode b_Ref_findLike 119 = .ok (.aload_n 0, 1) := by decide +kernel
theorem d_Ref_findLike_120 : decode b_Ref_findLike 120 = .ok (.getfield 42, 3) := by decide +kernel
theorem d_Ref_findLike_123 : decode b_Ref_findLike 123 = .ok (.iload_n 3, 1) := by decide +kernel
theorem d_Ref_findLike_124 : decode b_Ref_findLike 124 = .ok (.iaload, 1) := by decide +kernel
theorem d_Ref_findLike_125 : decode b_Ref_findLike 125 = .ok (.iastore, 1) := by decide +kernel
theorem d_Ref_findLike_126 : decode b_Ref_findLike 126 = .ok (.iinc 3 1, 3) := by decide +kernel
theorem d_Ref_findLike_129 : decode b_Ref_findLike 129 = .ok (.goto (-28), 3) := by decide +kernel
theorem d_Ref_findLike_132 : decode b_Ref_findLike 132 = .ok (.iinc 2 1, 3) := by decide +kernel
theorem d_Ref_findLike_135 : decode b_Ref_findLike 135 = .ok (.goto (-89), 3) := by decide +kernel
theorem d_Ref_findLike_138 : decode b_Ref_findLike 138 = .ok (.return_, 1) := by decide +kernel
theorem d_Ref_isSameLike_0 : decode b_Ref_isSameLike 0 = .ok (.aload_n 0, 1) := by decide +kernel
theorem d_Ref_isSameLike_1 : decode b_Ref_isSameLike 1 = .ok (.getfield 39, 3) := by decide +kernel
theorem d_Ref_isSameLike_4 : decode b_Ref_isSameLike 4 = .ok (.iload_n 1, 1) := by decide +kernel
theorem d_Ref_isSameLike_5 : decode b_Ref_isSameLike 5 = .ok (.iaload, 1) := by decide +kernel
theorem d_Ref_isSameLike_6 : decode b_Ref_isSameLike 6 = .ok (.aload_n 0, 1) := by decide +kernel
theorem d_Ref_isSameLike_7 : decode b_Ref_isSameLike 7 = .ok (.getfield 39, 3) := by decide +kernel
theorem d_Ref_isSameLike_10 : decode b_Ref_isSameLike 10 = .ok (.iload_n 2, 1) := by decide +kernel
theorem d_Ref_isSameLike_11 : decode b_Ref_isSameLike 11 = .ok (.iaload, 1) := by decide +kernel
theorem d_Ref_isSameLike_12 : decode b_Ref_isSameLike 12 = .ok (.if_icmp .ne 7, 3) := by decide +kernel
theorem d_Ref_isSameLike_15 : decode b_Ref_isSameLike 15 = .ok (.iconst 1, 1) := by decide +kernel
theorem d_Ref_isSameLike_16 : decode b_Ref_isSameLike 16 = .ok (.goto 4, 3) := by decide +kernel
theorem d_Ref_isSameLike_19 : decode b_Ref_isSameLike 19 = .ok (.iconst 0, 1) := by decide +kernel
theorem d_Ref_isSameLike_20 : decode b_Ref_isSameLike 20 = .ok (.istore_n 3, 1) := by decide +kernel
theorem d_Ref_isSameLike_21 : decode b_Ref_isSameLike 21 = .ok (.iconst 0, 1) := by decide +kernel
theorem d_Ref_isSameLike_22 : decode b_Ref_isSameLike 22 = .ok (.istore 4, 2) := by decide +kernel
theorem d_Ref_isSameLike_24 : decode b_Ref_isSameLike 24 = .ok (.iload 4, 2) := by decide +kernel
theorem d_Ref_isSameLike_26 : decode b_Ref_isSameLike 26 = .ok (.aload_n 0, 1) := by decide +kernel
theorem d_Ref_isSameLike_27 : decode b_Ref_isSameLike 27 = .ok (.getfield 93, 3) := by decide +kernel
theorem d_Ref_isSameLike_30 : decode b_Ref_isSameLike 30 = .ok (.if_icmp .ge 54, 3) := by decide +kernel
theorem d_Ref_isSameLike_33 : decode b_Ref_isSameLike 33 = .ok (.iload_n 3, 1) := by decide +kernel
theorem d_Ref_isSameLike_34 : decode b_Ref_isSameLike 34 = .ok (.ifCond .eq 50, 3) := by decide +kernel
theorem d_Ref_isSameLike_37 : decode b_Ref_isSameLike 37 = .ok (.aload_n 0, 1) := by decide +kernel
theorem d_Ref_isSameLike_38 : decode b_Ref_isSameLike 38 = .ok (.getfield 39, 3) := by decide +kernel
theorem d_Ref_isSameLike_41 : decode b_Ref_isSameLike 41 = .ok (.aload_n 0, 1) := by decide +kernel
theorem d_Ref_isSameLike_42 : decode b_Ref_isSameLike 42 = .ok (.aload_n 0, 1) := by decide +kernel
theorem d_Ref_isSameLike_43 : decode b_Ref_isSameLike 43 = .ok (.getfield 142, 3) := by decide +kernel
theorem d_Ref_isSameLike_46 : decode b_Ref_isSameLike 46 = .ok (.iload_n 1, 1) := by decide +kernel
theorem d_Ref_isSameLike_47 : decode b_Ref_isSameLike 47 = .ok (.iload 4, 2) := by decide +kernel
theorem d_Ref_isSameLike_49 : decode b_Ref_isSameLike 49 = .ok (.invokevirtual 135, 3) := by decide +kernel
theorem d_Ref_isSameLike_52 : decode b_Ref_isSameLike 52 = .ok (.iaload, 1) := by decide +kernel
theorem d_Ref_isSameLike_53 : decode b_Ref_isSameLike 53 = .ok (.aload_n 0, 1) := by decide +kernel
theorem d_Ref_isSameLike_54 : decode b_Ref_isSameLike 54 = .ok (.getfield 39, 3) := by decide +kernel
theorem d_Ref_isSameLike_57 : decode b_Ref_isSameLike 57 = .ok (.aload_n 0, 1) := by decide +kernel
theorem d_Ref_isSameLike_58 : decode b_Ref_isSameLike 58 = .ok (.aload_n 0, 1) := by decide +kernel
theorem d_Ref_isSameLike_59 : decode b_Ref_isSameLike 59 = .ok (.getfield 142, 3) := by decide +kernel
theorem d_Ref_isSameLike_62 : decode b_Ref_isSameLike 62 = .ok (.iload_n 2, 1) := by decide +kernel
theorem d_Ref_isSameLike_63 : decode b_Ref_isSameLike 63 = .ok (.iload 4, 2) := by decide +kernel
theorem d_Ref_isSameLike_65 : decode b_Ref_isSameLike 65 = .ok (.invokevirtual 135, 3) := by decide +kernel
theorem d_Ref_isSameLike_68 : decode b_Ref_isSameLike 68 = .ok (.iaload, 1) := by decide +kernel
theorem d_Ref_isSameLike_69 : decode b_Ref_isSameLike 69 = .ok (.if_icmp .ne 7, 3) := by decide +kernel
theorem d_Ref_isSameLike_72 : decode b_Ref_isSameLike 72 = .ok (.iconst 1, 1) := by decide +kernel
theorem d_Ref_isSameLike_73 : decode b_Ref_isSameLike 73 = .ok (.goto 4, 3) := by decide +kernel
theorem d_Ref_isSameLike_76 : decode b_Ref_isSameLike 76 = .ok (.iconst 0, 1) := by decide +kernel
theorem d_Ref_isSameLike_77 : decode b_Ref_isSameLike 77 = .ok (.istore_n 3, 1) := by decide +kernel
theorem d_Ref_isSameLike_78 : decode b_Ref_isSameLike 78 = .ok (.iinc 4 1, 3) := by decide +kernel
theorem d_Ref_isSameLike_81 : decode b_Ref_isSameLike 81 = .ok (.goto (-57), 3) := by decide +kernel
theorem d_Ref_isSameLike_84 : decode b_Ref_isSameLike 84 = .ok (.iload_n 3, 1) := by decide +kernel
theorem d_Ref_isSameLike_85 : decode b_Ref_isSameLike 85 = .ok (.ireturn, 1) := by decide +kernel
theorem d_Ref_when_0 : decode b_Ref_when 0 = .ok (.iload_n 1, 1) := by decide +kernel
theorem d_Ref_when_1 : decode b_Ref_when 1 = .ok (.i2l, 1) := by decide +kernel
theorem d_Ref_when_2 : decode b_Ref_when 2 = .ok (.lconst 0, 1) := by decide +kernel
theorem d_Ref_when_3 : decode b_Ref_when 3 = .ok (.ldc2_w 252, 3) := by decide +kernel
theorem d_Ref_when_6 : decode b_Ref_when 6 = .ok (.invokestatic 100, 3) := by decide +kernel
theorem d_Ref_when_9 : decode b_Ref_when 9 = .ok (.ifCond .eq 11, 3) := by decide +kernel
theorem d_Ref_when_12 : decode b_Ref_when 12 = .ok (.aload_n 0, 1) := by decide +kernel
theorem d_Ref_when_13 : decode b_Ref_when 13 = .ok (.iload_n 2, 1) := by decide +kernel
theorem d_Ref_when_14 : decode b_Ref_when 14 = .ok (.invokevirtual 208, 3) := by decide +kernel
theorem d_Ref_when_17 : decode b_Ref_when 17 = .ok (.ifCond .ne 6, 3) := by decide +kernel
theorem d_Ref_when_20 : decode b_Ref_when 20 = .ok (.bipush (-2), 2) := by decide +kernel
theorem d_Ref_when_22 : decode b_Ref_when 22 = .ok (.ireturn, 1) := by decide +kernel
theorem d_Ref_when_23 : decode b_Ref_when 23 = .ok (.aload_n 0, 1) := by decide +kernel
theorem d_Ref_when_24 : decode b_Ref_when 24 = .ok (.iload_n 1, 1) := by decide +kernel
theorem d_Ref_when_25 : decode b_Ref_when 25 = .ok (.invokevirtual 273, 3) := by decide +kernel
theorem d_Ref_when_28 : decode b_Ref_when 28 = .ok (.bipush 40, 2) := by decide +kernel
theorem d_Ref_when_30 : decode b_Ref_when 30 = .ok (.if_icmp .le 11, 3) := by decide +kernel
theorem d_Ref_when_33 : decode b_Ref_when 33 = .ok (.aload_n 0, 1) := by decide +kernel
theorem d_Ref_when_34 : decode b_Ref_when 34 = .ok (.iconst 0, 1) := by decide +kernel
theorem d_Ref_when_35 : decode b_Ref_when 35 = .ok (.putfield 110, 3) := by decide +kernel
theorem d_Ref_when_38 : decode b_Ref_when 38 = .ok (.bipush (-4), 2) := by decide +kernel
theorem d_Ref_when_40 : decode b_Ref_when 40 = .ok (.ireturn, 1) := by decide +kernel
theorem d_Ref_when_41 : decode b_Ref_when 41 = .ok (.aload_n 0, 1) := by decide +kernel
theorem d_Ref_when_42 : decode b_Ref_when 42 = .ok (.bipush 9, 2) := by decide +kernel
theorem d_Ref_when_44 : decode b_Ref_when 44 = .ok (.iload_n 2, 1) := by decide +kernel
theorem d_Ref_when_45 : decode b_Ref_when 45 = .ok (.iload_n 2, 1) := by decide +kernel
theorem d_Ref_when_46 : decode b_Ref_when 46 = .ok (.iload_n 3, 1) := by decide +kernel
theorem d_Ref_when_47 : decode b_Ref_when 47 = .ok (.ifCond .eq 7, 3) := by decide +kernel
theorem d_Ref_when_50 : decode b_Ref_when 50 = .ok (.iconst 0, 1) := by decide +kernel
theorem d_Ref_when_51 : decode b_Ref_when 51 = .ok (.goto 4, 3) := by decide +kernel
theorem d_Ref_when_54 : decode b_Ref_when 54 = .ok (.iconst 2, 1) := by decide +kernel
theorem d_Ref_when_55 : decode b_Ref_when 55 = .ok (.invokevirtual 254, 3) := by decide +kernel
theorem d_Ref_when_58 : decode b_Ref_when 58 = .ok (.aload_n 0, 1) := by decide +kernel
theorem d_Ref_when_59 : decode b_Ref_when 59 = .ok (.iconst 0, 1) := by decide +kernel
theorem d_Ref_when_60 : decode b_Ref_when 60 = .ok (.lconst 0, 1) := by decide +kernel
theorem d_Ref_when_61 : decode b_Ref_when 61 = .ok (.invokevirtual 258, 3) := by decide +kernel
theorem d_Ref_when_64 : decode b_Ref_when 64 = .ok (.ireturn, 1) := by decide +kernel
theorem d_Ref_condition_0 : decode b_Ref_condition 0 = .ok (.aload_n 0, 1) := by decide +kernel
theorem d_Ref_condition_1 : decode b_Ref_condition 1 = .ok (.getfield 104, 3) := by decide +kernel
theorem d_Ref_condition_4 : decode b_Ref_condition 4 = .ok (.istore_n 2, 1) := by decide +kernel
theorem d_Ref_condition_5 : decode b_Ref_condition 5 = .ok (.iload_n 1, 1) := by decide +kernel
theorem d_Ref_condition_6 : decode b_Ref_condition 6 = .ok (.iconst 2, 1) := by decide +kernel
theorem d_Ref_condition_7 : decode b_Ref_condition 7 = .ok (.if_icmp .lt 9, 3) := by decide +kernel
theorem d_Ref_condition_10 : decode b_Ref_condition 10 = .ok (.iload_n 2, 1) := by decide +kernel
theorem d_Ref_condition_11 : decode b_Ref_condition 11 = .ok (.iconst 1, 1) := by decide +kernel
theorem d_Ref_condition_12 : decode b_Ref_condition 12 = .ok (.iadd, 1) := by decide +kernel
theorem d_Ref_condition_13 : decode b_Ref_condition 13 = .ok (.goto 19, 3) := by decide +kernel
theorem d_Ref_condition_16 : decode b_Ref_condition 16 = .ok (.iload_n 1, 1) := by decide +kernel
theorem d_Ref_condition_17 : decode b_Ref_condition 17 = .ok (.iconst 1, 1) := by decide +kernel
theorem d_Ref_condition_18 : decode b_Ref_condition 18 = .ok (.if_icmp .ne 11, 3) := by decide +kernel
theorem d_Ref_condition_21 : decode b_Ref_condition 21 = .ok (.iload_n 2, 1) := by decide +kernel
theorem d_Ref_condition_22 : decode b_Ref_condition 22 = .ok (.ifCond .ne 7, 3) := by decide +kernel
theorem d_Ref_condition_25 : decode b_Ref_condition 25 = .ok (.iconst 1, 1) := by decide +kernel
theorem d_Ref_condition_26 : decode b_Ref_condition 26 = .ok (.goto 6, 3) := by decide +kernel
theorem d_Ref_condition_29 : decode b_Ref_condition 29 = .ok (.iload_n 2, 1) := by decide +kernel
theorem d_Ref_condition_30 : decode b_Ref_condition 30 = .ok (.iconst 2, 1) := by decide +kernel
theorem d_Ref_condition_31 : decode b_Ref_condition 31 = .ok (.iadd, 1) := by decide +kernel
theorem d_Ref_condition_32 : decode b_Ref_condition 32 = .ok (.istore_n 3, 1) := by decide +kernel
theorem d_Ref_condition_33 : decode b_Ref_condition 33 = .ok (.iload_n 3, 1) := by decide +kernel
theorem d_Ref_condition_34 : decode b_Ref_condition 34 = .ok (.bipush 40, 2) := by decide +kernel
theorem d_Ref_condition_36 : decode b_Ref_condition 36 = .ok (.if_icmp .le 5, 3) := by decide +kernel
theorem d_Ref_condition_39 : decode b_Ref_condition 39 = .ok (.iload_n 3, 1) := by decide +kernel
theorem d_Ref_condition_40 : decode b_Ref_condition 40 = .ok (.ireturn, 1) := by decide +kernel
theorem d_Ref_condition_41 : decode b_Ref_condition 41 = .ok (.iconst 0, 1) := by decide +kernel
theorem d_Ref_condition_42 : decode b_Ref_condition 42 = .ok (.istore 4, 2) := by decide +kernel
theorem d_Ref_condition_44 : decode b_Ref_condition 44 = .ok (.iload 4, 2) := by decide +kernel
theorem d_Ref_condition_46 : decode b_Ref_condition 46 = .ok (.iload_n 3, 1) := by decide +kernel
theorem d_Ref_condition_47 : decode b_Ref_condition 47 = .ok (.if_icmp .ge 117, 3) := by decide +kernel
theorem d_Ref_condition_50 : decode b_Ref_condition 50 = .ok (.iconst 0, 1) := by decide +kernel
theorem d_Ref_condition_51 : decode b_Ref_condition 51 = .ok (.istore 5, 2) := by decide +kernel
theorem d_Ref_condition_53 : decode b_Ref_condition 53 = .ok (.iload 5, 2) := by decide +kernel
theorem d_Ref_condition_55 : decode b_Ref_condition 55 = .ok (.aload_n 0, 1) := by decide +kernel
theorem d_Ref_condition_56 : decode b_Ref_condition 56 = .ok (.getfield 93, 3) := by decide +kernel
theorem d_Ref_condition_59 : decode b_Ref_condition 59 = .ok (.if_icmp .ge 99, 3) := by decide +kernel
theorem d_Ref_condition_62 : decode b_Ref_condition 62 = .ok (.iload_n 3, 1) := by decide +kernel
theorem d_Ref_condition_63 : decode b_Ref_condition 63 = .ok (.iconst 1, 1) := by decide +kernel
theorem d_Ref_condition_64 : decode b_Ref_condition 64 = .ok (.isub, 1) := by decide +kernel
theorem d_Ref_condition_65 : decode b_Ref_condition 65 = .ok (.istore 6, 2) := by decide +kernel
theorem d_Ref_condition_67 : decode b_Ref_condition 67 = .ok (.iload_n 1, 1) := by decide +kernel
theorem d_Ref_condition_68 : decode b_Ref_condition 68 = .ok (.iconst 1, 1) := by decide +kernel
theorem d_Ref_condition_69 : decode b_Ref_condition 69 = .ok (.if_icmp .ne 9, 3) := by decide +kernel
theorem d_Ref_condition_72 : decode b_Ref_condition 72 = .ok (.iload 4, 2) := by decide +kernel
theorem d_Ref_condition_74 : decode b_Ref_condition 74 = .ok (.iload_n 2, 1) := by decide +kernel
theorem d_Ref_condition_75 : decode b_Ref_condition 75 = .ok (.if_icmp .eq 14, 3) := by decide +kernel
theorem d_Ref_condition_78 : decode b_Ref_condition 78 = .ok (.iload_n 1, 1) := by decide +kernel
theorem d_Ref_condition_79 : decode b_Ref_condition 79 = .ok (.iconst 3, 1) := by decide +kernel
theorem d_Ref_condition_80 : decode b_Ref_condition 80 = .ok (.if_icmp .ne 16, 3) := by decide +kernel
theorem d_Ref_condition_83 : decode b_Ref_condition 83 = .ok (.iload 4, 2) := by decide +kernel
theorem d_Ref_condition_85 : decode b_Ref_condition 85 = .ok (.iload_n 2, 1) := by decide +kernel
theorem d_Ref_condition_86 : decode b_Ref_condition 86 = .ok (.if_icmp .ne 10, 3) := by decide +kernel
theorem d_Ref_condition_89 : decode b_Ref_condition 89 = .ok (.iload 4, 2) := by decide +kernel
theorem d_Ref_condition_91 : decode b_Ref_condition 91 = .ok (.istore 6, 2) := by decide +kernel
theorem d_Ref_condition_93 : decode b_Ref_condition 93 = .ok (.goto 45, 3) := by decide +kernel
theorem d_Ref_condition_96 : decode b_Ref_condition 96 = .ok (.iload_n 1, 1) := by decide +kernel
theorem d_Ref_condition_97 : decode b_Ref_condition 97 = .ok (.iconst 2, 1) := by decide +kernel
theorem d_Ref_condition_98 : decode b_Ref_condition 98 = .ok (.if_icmp .lt 16, 3) := by decide +kernel
theorem d_Ref_condition_101 : decode b_Ref_condition 101 = .ok (.aload_n 0, 1) := by decide +kernel
theorem d_Ref_condition_102 : decode b_Ref_condition 102 = .ok (.iload 4, 2) := by decide +kernel
theorem d_Ref_condition_104 : decode b_Ref_condition 104 = .ok (.iload 5, 2) := by decide +kernel
theorem d_Ref_condition_106 : decode b_Ref_condition 106 = .ok (.invokevirtual 270, 3) := by decide +kernel
theorem d_Ref_condition_109 : decode b_Ref_condition 109 = .ok (.istore 6, 2) := by decide +kernel
theorem d_Ref_condition_111 : decode b_Ref_condition 111 = .ok (.goto 27, 3) := by decide +kernel
theorem d_Ref_condition_114 : decode b_Ref_condition 114 = .ok (.iload 4, 2) := by decide +kernel
theorem d_Ref_condition_116 : decode b_Ref_condition 116 = .ok (.iload_n 2, 1) := by decide +kernel
theorem d_Ref_condition_117 : decode b_Ref_condition 117 = .ok (.if_icmp .ge 21, 3) := by decide +kernel
theorem d_Ref_condition_120 : decode b_Ref_condition 120 = .ok (.aload_n 0, 1) := by decide +kernel
theorem d_Ref_condition_121 : decode b_Ref_condition 121 = .ok (.getfield 20, 3) := by decide +kernel
theorem d_Ref_condition_124 : decode b_Ref_condition 124 = .ok (.iload 4, 2) := by decide +kernel
theorem d_Ref_condition_126 : decode b_Ref_condition 126 = .ok (.iaload, 1) := by decide +kernel
theorem d_Ref_condition_127 : decode b_Ref_condition 127 = .ok (.iload 5, 2) := by decide +kernel
theorem d_Ref_condition_129 : decode b_Ref_condition 129 = .ok (.if_icmp .ne 9, 3) := by decide +kernel
theorem d_Ref_condition_132 : decode b_Ref_condition 132 = .ok (.iload 4, 2) := by decide +kernel
theorem d_Ref_condition_134 : decode b_Ref_condition 134 = .ok (.iconst 1, 1) := by decide +kernel
theorem d_Ref_condition_135 : decode b_Ref_condition 135 = .ok (.iadd, 1) := by decide +kernel
theorem d_Ref_condition_136 : decode b_Ref_condition 136 = .ok (.istore 6, 2) := by decide +kernel
theorem d_Ref_condition_138 : decode b_Ref_condition 138 = .ok (.aload_n 0, 1) := by decide +kernel
theorem d_Ref_condition_139 : decode b_Ref_condition 139 = .ok (.getfield 75, 3) := by decide +kernel
theorem d_Ref_condition_142 : decode b_Ref_condition 142 = .ok (.iconst 4, 1) := by decide +kernel
theorem d_Ref_condition_143 : decode b_Ref_condition 143 = .ok (.iload 4, 2) := by decide +kernel
theorem d_Ref_condition_145 : decode b_Ref_condition 145 = .ok (.imul, 1) := by decide +kernel
theorem d_Ref_condition_146 : decode b_Ref_condition 146 = .ok (.iload 5, 2) := by decide +kernel
theorem d_Ref_condition_148 : decode b_Ref_condition 148 = .ok (.iadd, 1) := by decide +kernel
theorem d_Ref_condition_149 : decode b_Ref_condition 149 = .ok (.iload 6, 2) := by decide +kernel
theorem d_Ref_condition_151 : decode b_Ref_condition 151 = .ok (.iastore, 1) := by decide +kernel
theorem d_Ref_condition_152 : decode b_Ref_condition 152 = .ok (.iinc 5 1, 3) := by decide +kernel
theorem d_Ref_condition_155 : decode b_Ref_condition 155 = .ok (.goto (-102), 3) := by decide +kernel
theorem d_Ref_condition_158 : decode b_Ref_condition 158 = .ok (.iinc 4 1, 3) := by decide +kernel
theorem d_Ref_condition_161 : decode b_Ref_condition 161 = .ok (.goto (-117), 3) := by decide +kernel
theorem d_Ref_condition_164 : decode b_Ref_condition 164 = .ok (.aload_n 0, 1) := by decide +kernel
theorem d_Ref_condition_165 : decode b_Ref_condition 165 = .ok (.lconst 1, 1) := by decide +kernel
theorem d_Ref_condition_166 : decode b_Ref_condition 166 = .ok (.iload_n 2, 1) := by decide +kernel
theorem d_Ref_condition_167 : decode b_Ref_condition 167 = .ok (.lshl, 1) := by decide +kernel
theorem d_Ref_condition_168 : decode b_Ref_condition 168 = .ok (.putfield 169, 3) := by decide +kernel
theorem d_Ref_condition_171 : decode b_Ref_condition 171 = .ok (.iload_n 3, 1) := by decide +kernel
theorem d_Ref_condition_172 : decode b_Ref_condition 172 = .ok (.ireturn, 1) := by decide +kernel
theorem d_Ref_behind_0 : decode b_Ref_behind 0 = .ok (.iload_n 1, 1) := by decide +kernel
theorem d_Ref_behind_1 : decode b_Ref_behind 1 = .ok (.iconst 1, 1) := by decide +kernel
theorem d_Ref_behind_2 : decode b_Ref_behind 2 = .ok (.iadd, 1) := by decide +kernel
theorem d_Ref_behind_3 : decode b_Ref_behind 3 = .ok (.aload_n 0, 1) := by decide +kernel
theorem d_Ref_behind_4 : decode b_Ref_behind 4 = .ok (.getfield 104, 3) := by decide +kernel
theorem d_Ref_behind_7 : decode b_Ref_behind 7 = .ok (.if_icmp .le 10, 3) := by decide +kernel
theorem d_Ref_behind_10 : decode b_Ref_behind 10 = .ok (.aload_n 0, 1) := by decide +kernel
theorem d_Ref_behind_11 : decode b_Ref_behind 11 = .ok (.getfield 104, 3) := by decide +kernel
theorem d_Ref_behind_14 : decode b_Ref_behind 14 = .ok (.goto 6, 3) := by decide +kernel
theorem d_Ref_behind_17 : decode b_Ref_behind 17 = .ok (.iload_n 1, 1) := by decide +kernel
theorem d_Ref_behind_18 : decode b_Ref_behind 18 = .ok (.iconst 1, 1) := by decide +kernel
theorem d_Ref_behind_19 : decode b_Ref_behind 19 = .ok (.iadd, 1) := by decide +kernel
theorem d_Ref_behind_20 : decode b_Ref_behind 20 = .ok (.istore_n 3, 1) := by decide +kernel
theorem d_Ref_behind_21 : decode b_Ref_behind 21 = .ok (.iconst 0, 1) := by decide +kernel
theorem d_Ref_behind_22 : decode b_Ref_behind 22 = .ok (.istore 4, 2) := by decide +kernel
theorem d_Ref_behind_24 : decode b_Ref_behind 24 = .ok (.iload 4, 2) := by decide +kernel
theorem d_Ref_behind_26 : decode b_Ref_behind 26 = .ok (.ifCond .ne 94, 3) := by decide +kernel
theorem d_Ref_behind_29 : decode b_Ref_behind 29 = .ok (.iload_n 3, 1) := by decide +kernel
theorem d_Ref_behind_30 : decode b_Ref_behind 30 = .ok (.ifCond .eq 15, 3) := by decide +kernel
theorem d_Ref_behind_33 : decode b_Ref_behind 33 = .ok (.aload_n 0, 1) := by decide +kernel
theorem d_Ref_behind_34 : decode b_Ref_behind 34 = .ok (.getfield 20, 3) := by decide +kernel
theorem d_Ref_behind_37 : decode b_Ref_behind 37 = .ok (.iload_n 3, 1) := by decide +kernel
theorem d_Ref_behind_38 : decode b_Ref_behind 38 = .ok (.iconst 1, 1) := by decide +kernel
theorem d_Ref_behind_39 : decode b_Ref_behind 39 = .ok (.isub, 1) := by decide +kernel
theorem d_Ref_behind_40 : decode b_Ref_behind 40 = .ok (.iaload, 1) := by decide +kernel
theorem d_Ref_behind_41 : decode b_Ref_behind 41 = .ok (.iload_n 2, 1) := by decide +kernel
theorem d_Ref_behind_42 : decode b_Ref_behind 42 = .ok (.if_icmp .ne 7, 3) := by decide +kernel
theorem d_Ref_behind_45 : decode b_Ref_behind 45 = .ok (.iconst 1, 1) := by decide +kernel
theorem d_Ref_behind_46 : decode b_Ref_behind 46 = .ok (.goto 4, 3) := by decide +kernel
theorem d_Ref_behind_49 : decode b_Ref_behind 49 = .ok (.iconst 0, 1) := by decide +kernel
theorem d_Ref_behind_50 : decode b_Ref_behind 50 = .ok (.istore 4, 2) := by decide +kernel
theorem d_Ref_behind_52 : decode b_Ref_behind 52 = .ok (.iconst 0, 1) := by decide +kernel
theorem d_Ref_behind_53 : decode b_Ref_behind 53 = .ok (.istore 5, 2) := by decide +kernel
theorem d_Ref_behind_55 : decode b_Ref_behind 55 = .ok (.iload 5, 2) := by decide +kernel
theorem d_Ref_behind_57 : decode b_Ref_behind 57 = .ok (.iload_n 3, 1) := by decide +kernel
theorem d_Ref_behind_58 : decode b_Ref_behind 58 = .ok (.iconst 1, 1) := by decide +kernel
theorem d_Ref_behind_59 : decode b_Ref_behind 59 = .ok (.isub, 1) := by decide +kernel
theorem d_Ref_behind_60 : decode b_Ref_behind 60 = .ok (.if_icmp .ge 44, 3) := by decide +kernel
theorem d_Ref_behind_63 : decode b_Ref_behind 63 = .ok (.iload 4, 2) := by decide +kernel
theorem d_Ref_behind_65 : decode b_Ref_behind 65 = .ok (.ifCond .eq 39, 3) := by decide +kernel
theorem d_Ref_behind_68 : decode b_Ref_behind 68 = .ok (.aload_n 0, 1) := by decide +kernel
theorem d_Ref_behind_69 : decode b_Ref_behind 69 = .ok (.getfield 20, 3) := by decide +kernel
theorem d_Ref_behind_72 : decode b_Ref_behind 72 = .ok (.iload 5, 2) := by decide +kernel
theorem d_Ref_behind_74 : decode b_Ref_behind 74 = .ok (.iaload, 1) := by decide +kernel
theorem d_Ref_behind_75 : decode b_Ref_behind 75 = .ok (.aload_n 0, 1) := by decide +kernel
theorem d_Ref_behind_76 : decode b_Ref_behind 76 = .ok (.getfield 20, 3) := by decide +kernel
theorem d_Ref_behind_79 : decode b_Ref_behind 79 = .ok (.iload_n 1, 1) := by decide +kernel
theorem d_Ref_behind_80 : decode b_Ref_behind 80 = .ok (.iload_n 3, 1) := by decide +kernel
theorem d_Ref_behind_81 : decode b_Ref_behind 81 = .ok (.isub, 1) := by decide +kernel
theorem d_Ref_behind_82 : decode b_Ref_behind 82 = .ok (.iconst 1, 1) := by decide +kernel
theorem d_Ref_behind_83 : decode b_Ref_behind 83 = .ok (.iadd, 1) := by decide +kernel
theorem d_Ref_behind_84 : decode b_Ref_behind 84 = .ok (.iload 5, 2) := by decide +kernel
theorem d_Ref_behind_86 : decode b_Ref_behind 86 = .ok (.iadd, 1) := by decide +kernel
theorem d_Ref_behind_87 : decode b_Ref_behind 87 = .ok (.iaload, 1) := by decide +kernel
theorem d_Ref_behind_88 : decode b_Ref_behind 88 = .ok (.if_icmp .ne 7, 3) := by decide +kernel
theorem d_Ref_behind_91 : decode b_Ref_behind 91 = .ok (.iconst 1, 1) := by decide +kernel
theorem d_Ref_behind_92 : decode b_Ref_behind 92 = .ok (.goto 4, 3) := by decide +kernel
theorem d_Ref_behind_95 : decode b_Ref_behind 95 = .ok (.iconst 0, 1) := by decide +kernel
theorem d_Ref_behind_96 : decode b_Ref_behind 96 = .ok (.istore 4, 2) := by decide +kernel
theorem d_Ref_behind_98 : decode b_Ref_behind 98 = .ok (.iinc 5 1, 3) := by decide +kernel
theorem d_Ref_behind_101 : decode b_Ref_behind 101 = .ok (.goto (-46), 3) := by decide +kernel
theorem d_Ref_behind_104 : decode b_Ref_behind 104 = .ok (.iload_n 3, 1) := by decide +kernel
theorem d_Ref_behind_105 : decode b_Ref_behind 105 = .ok (.iload 4, 2) := by decide +kernel
theorem d_Ref_behind_107 : decode b_Ref_behind 107 = .ok (.ifCond .eq 7, 3) := by decide +kernel
theorem d_Ref_behind_110 : decode b_Ref_behind 110 = .ok (.iconst 0, 1) := by decide +kernel
theorem d_Ref_behind_111 : decode b_Ref_behind 111 = .ok (.goto 4, 3) := by decide +kernel
theorem d_Ref_behind_114 : decode b_Ref_behind 114 = .ok (.iconst 1, 1) := by decide +kernel
theorem d_Ref_behind_115 : decode b_Ref_behind 115 = .ok (.isub, 1) := by decide +kernel
theorem d_Ref_behind_116 : decode b_Ref_behind 116 = .ok (.istore_n 3, 1) := by decide +kernel
theorem d_Ref_behind_117 : decode b_Ref_behind 117 = .ok (.goto (-93), 3) := by decide +kernel
theorem d_Ref_behind_120 : decode b_Ref_behind 120 = .ok (.iload_n 3, 1) := by decide +kernel
theorem d_Ref_behind_121 : decode b_Ref_behind 121 = .ok (.ireturn, 1) := by decide +kernel
theorem d_Ref_states_0 : decode b_Ref_states 0 = .ok (.aload_n 0, 1) := by decide +kernel
theorem d_Ref_states_1 : decode b_Ref_states 1 = .ok (.iload_n 1, 1) := by decide +kernel
theorem d_Ref_states_2 : decode b_Ref_states 2 = .ok (.invokevirtual 208, 3) := by decide +kernel
theorem d_Ref_states_5 : decode b_Ref_states 5 = .ok (.ifCond .eq 12, 3) := by decide +kernel
theorem d_Ref_states_8 : decode b_Ref_states 8 = .ok (.aload_n 0, 1) := by decide +kernel
theorem d_Ref_states_9 : decode b_Ref_states 9 = .ok (.getfield 7, 3) := by decide +kernel
theorem d_Ref_states_12 : decode b_Ref_states 12 = .ok (.iload_n 1, 1) := by decide +kernel
theorem d_Ref_states_13 : decode b_Ref_states 13 = .ok (.iaload, 1) := by decide +kernel
theorem d_Ref_states_14 : decode b_Ref_states 14 = .ok (.goto 5, 3) := by decide +kernel
theorem d_Ref_states_17 : decode b_Ref_states 17 = .ok (.bipush (-2), 2) := by decide +kernel
theorem d_Ref_states_19 : decode b_Ref_states 19 = .ok (.ireturn, 1) := by decide +kernel
theorem d_Ref_next_0 : decode b_Ref_next 0 = .ok (.aload_n 0, 1) := by decide +kernel
theorem d_Ref_next_1 : decode b_Ref_next 1 = .ok (.iload_n 1, 1) := by decide +kernel
theorem d_Ref_next_2 : decode b_Ref_next 2 = .ok (.invokevirtual 208, 3) := by decide +kernel
theorem d_Ref_next_5 : decode b_Ref_next 5 = .ok (.ifCond .eq 47, 3) := by decide +kernel
theorem d_Ref_next_8 : decode b_Ref_next 8 = .ok (.iload_n 2, 1) := by decide +kernel
theorem d_Ref_next_9 : decode b_Ref_next 9 = .ok (.i2l, 1) := by decide +kernel
theorem d_Ref_next_10 : decode b_Ref_next 10 = .ok (.lconst 0, 1) := by decide +kernel
theorem d_Ref_next_11 : decode b_Ref_next 11 = .ok (.aload_n 0, 1) := by decide +kernel
theorem d_Ref_next_12 : decode b_Ref_next 12 = .ok (.getfield 7, 3) := by decide +kernel
theorem d_Ref_next_15 : decode b_Ref_next 15 = .ok (.iload_n 1, 1) := by decide +kernel
theorem d_Ref_next_16 : decode b_Ref_next 16 = .ok (.iaload, 1) := by decide +kernel
theorem d_Ref_next_17 : decode b_Ref_next 17 = .ok (.iconst 1, 1) := by decide +kernel
theorem d_Ref_next_18 : decode b_Ref_next 18 = .ok (.isub, 1) := by decide +kernel
theorem d_Ref_next_19 : decode b_Ref_next 19 = .ok (.i2l, 1) := by decide +kernel
theorem d_Ref_next_20 : decode b_Ref_next 20 = .ok (.invokestatic 100, 3) := by decide +kernel
theorem d_Ref_next_23 : decode b_Ref_next 23 = .ok (.ifCond .eq 29, 3) := by decide +kernel
theorem d_Ref_next_26 : decode b_Ref_next 26 = .ok (.iload_n 3, 1) := by decide +kernel
theorem d_Ref_next_27 : decode b_Ref_next 27 = .ok (.i2l, 1) := by decide +kernel
theorem d_Ref_next_28 : decode b_Ref_next 28 = .ok (.lconst 0, 1) := by decide +kernel
theorem d_Ref_next_29 : decode b_Ref_next 29 = .ok (.aload_n 0, 1) := by decide +kernel
theorem d_Ref_next_30 : decode b_Ref_next 30 = .ok (.getfield 93, 3) := by decide +kernel
theorem d_Ref_next_33 : decode b_Ref_next 33 = .ok (.iconst 1, 1) := by decide +kernel
theorem d_Ref_next_34 : decode b_Ref_next 34 = .ok (.isub, 1) := by decide +kernel
theorem d_Ref_next_35 : decode b_Ref_next 35 = .ok (.i2l, 1) := by decide +kernel
theorem d_Ref_next_36 : decode b_Ref_next 36 = .ok (.invokestatic 100, 3) := by decide +kernel
theorem d_Ref_next_39 : decode b_Ref_next 39 = .ok (.ifCond .eq 13, 3) := by decide +kernel
theorem d_Ref_next_42 : decode b_Ref_next 42 = .ok (.aload_n 0, 1) := by decide +kernel
theorem d_Ref_next_43 : decode b_Ref_next 43 = .ok (.iload_n 1, 1) := by decide +kernel
theorem d_Ref_next_44 : decode b_Ref_next 44 = .ok (.iload_n 2, 1) := by decide +kernel
theorem d_Ref_next_45 : decode b_Ref_next 45 = .ok (.iload_n 3, 1) := by decide +kernel
theorem d_Ref_next_46 : decode b_Ref_next 46 = .ok (.invokevirtual 135, 3) := by decide +kernel
theorem d_Ref_next_49 : decode b_Ref_next 49 = .ok (.goto 5, 3) := by decide +kernel
theorem d_Ref_next_52 : decode b_Ref_next 52 = .ok (.bipush (-2), 2) := by decide +kernel
theorem d_Ref_next_54 : decode b_Ref_next 54 = .ok (.ireturn, 1) := by decide +kernel
theorem d_Ref_end_0 : decode b_Ref_end 0 = .ok (.aload_n 0, 1) := by decide +kernel
theorem d_Ref_end_1 : decode b_Ref_end 1 = .ok (.iload_n 1, 1) := by decide +kernel
theorem d_Ref_end_2 : decode b_Ref_end 2 = .ok (.invokevirtual 208, 3) := by decide +kernel
theorem d_Ref_end_5 : decode b_Ref_end 5 = .ok (.ifCond .eq 21, 3) := by decide +kernel
theorem d_Ref_end_8 : decode b_Ref_end 8 = .ok (.iload_n 2, 1) := by decide +kernel
theorem d_Ref_end_9 : decode b_Ref_end 9 = .ok (.i2l, 1) := by decide +kernel
theorem d_Ref_end_10 : decode b_Ref_end 10 = .ok (.lconst 0, 1) := by decide +kernel
theorem d_Ref_end_11 : decode b_Ref_end 11 = .ok (.aload_n 0, 1) := by decide +kernel
theorem d_Ref_end_12 : decode b_Ref_end 12 = .ok (.getfield 7, 3) := by decide +kernel
theorem d_Ref_end_15 : decode b_Ref_end 15 = .ok (.iload_n 1, 1) := by decide +kernel
theorem d_Ref_end_16 : decode b_Ref_end 16 = .ok (.iaload, 1) := by decide +kernel
theorem d_Ref_end_17 : decode b_Ref_end 17 = .ok (.iconst 1, 1) := by decide +kernel
theorem d_Ref_end_18 : decode b_Ref_end 18 = .ok (.isub, 1) := by decide +kernel
theorem d_Ref_end_19 : decode b_Ref_end 19 = .ok (.i2l, 1) := by decide +kernel
theorem d_Ref_end_20 : decode b_Ref_end 20 = .ok (.invokestatic 100, 3) := by decide +kernel
theorem d_Ref_end_23 : decode b_Ref_end 23 = .ok (.ifCond .ne 8, 3) := by decide +kernel
theorem d_Ref_end_26 : decode b_Ref_end 26 = .ok (.bipush (-2), 2) := by decide +kernel
theorem d_Ref_end_28 : decode b_Ref_end 28 = .ok (.goto 17, 3) := by decide +kernel
theorem d_Ref_end_31 : decode b_Ref_end 31 = .ok (.aload_n 0, 1) := by decide +kernel
theorem d_Ref_end_32 : decode b_Ref_end 32 = .ok (.iload_n 1, 1) := by decide +kernel
theorem d_Ref_end_33 : decode b_Ref_end 33 = .ok (.iload_n 2, 1) := by decide +kernel
theorem d_Ref_end_34 : decode b_Ref_end 34 = .ok (.invokevirtual 152, 3) := by decide +kernel
theorem d_Ref_end_37 : decode b_Ref_end 37 = .ok (.ifCond .eq 7, 3) := by decide +kernel
theorem d_Ref_end_40 : decode b_Ref_end 40 = .ok (.iconst 1, 1) := by decide +kernel
theorem d_Ref_end_41 : decode b_Ref_end 41 = .ok (.goto 4, 3) := by decide +kernel
theorem d_Ref_end_44 : decode b_Ref_end 44 = .ok (.iconst 0, 1) := by decide +kernel
theorem d_Ref_end_45 : decode b_Ref_end 45 = .ok (.ireturn, 1) := by decide +kernel
theorem d_Ref_has_0 : decode b_Ref_has 0 = .ok (.aload_n 0, 1) := by decide +kernel
theorem d_Ref_has_1 : decode b_Ref_has 1 = .ok (.iload_n 1, 1) := by decide +kernel
theorem d_Ref_has_2 : decode b_Ref_has 2 = .ok (.invokevirtual 208, 3) := by decide +kernel
theorem d_Ref_has_5 : decode b_Ref_has 5 = .ok (.ifCond .ne 6, 3) := by decide +kernel
theorem d_Ref_has_8 : decode b_Ref_has 8 = .ok (.bipush (-2), 2) := by decide +kernel
theorem d_Ref_has_10 : decode b_Ref_has 10 = .ok (.ireturn, 1) := by decide +kernel
theorem d_Ref_has_11 : decode b_Ref_has 11 = .ok (.iconst 0, 1) := by decide +kernel
theorem d_Ref_has_12 : decode b_Ref_has 12 = .ok (.istore_n 2, 1) := by decide +kernel
theorem d_Ref_has_13 : decode b_Ref_has 13 = .ok (.iconst 0, 1) := by decide +kernel
theorem d_Ref_has_14 : decode b_Ref_has 14 = .ok (.istore_n 3, 1) := by decide +kernel
theorem d_Ref_has_15 : decode b_Ref_has 15 = .ok (.iload_n 3, 1) := by decide +kernel
theorem d_Ref_has_16 : decode b_Ref_has 16 = .ok (.aload_n 0, 1) := by decide +kernel
theorem d_Ref_has_17 : decode b_Ref_has 17 = .ok (.getfield 104, 3) := by decide +kernel
theorem d_Ref_has_20 : decode b_Ref_has 20 = .ok (.if_icmp .ge 22, 3) := by decide +kernel
theorem d_Ref_has_23 : decode b_Ref_has 23 = .ok (.aload_n 0, 1) := by decide +kernel
theorem d_Ref_has_24 : decode b_Ref_has 24 = .ok (.iload_n 1, 1) := by decide +kernel
theorem d_Ref_has_25 : decode b_Ref_has 25 = .ok (.iload_n 2, 1) := by decide +kernel
theorem d_Ref_has_26 : decode b_Ref_has 26 = .ok (.aload_n 0, 1) := by decide +kernel
theorem d_Ref_has_27 : decode b_Ref_has 27 = .ok (.getfield 20, 3) := by decide +kernel
theorem d_Ref_has_30 : decode b_Ref_has 30 = .ok (.iload_n 3, 1) := by decide +kernel
theorem d_Ref_has_31 : decode b_Ref_has 31 = .ok (.iaload, 1) := by decide +kernel
theorem d_Ref_has_32 : decode b_Ref_has 32 = .ok (.invokevirtual 135, 3) := by decide +kernel
theorem d_Ref_has_35 : decode b_Ref_has 35 = .ok (.istore_n 2, 1) := by decide +kernel
theorem d_Ref_has_36 : decode b_Ref_has 36 = .ok (.iinc 3 1, 3) := by decide +kernel
theorem d_Ref_has_39 : decode b_Ref_has 39 = .ok (.goto (-24), 3) := by decide +kernel
theorem d_Ref_has_42 : decode b_Ref_has 42 = .ok (.aload_n 0, 1) := by decide +kernel
theorem d_Ref_has_43 : decode b_Ref_has 43 = .ok (.iload_n 1, 1) := by decide +kernel
theorem d_Ref_has_44 : decode b_Ref_has 44 = .ok (.iload_n 2, 1) := by decide +kernel
theorem d_Ref_has_45 : decode b_Ref_has 45 = .ok (.invokevirtual 152, 3) := by decide +kernel
theorem d_Ref_has_48 : decode b_Ref_has 48 = .ok (.ifCond .eq 7, 3) := by decide +kernel
theorem d_Ref_has_51 : decode b_Ref_has 51 = .ok (.iconst 1, 1) := by decide +kernel
theorem d_Ref_has_52 : decode b_Ref_has 52 = .ok (.goto 4, 3) := by decide +kernel
theorem d_Ref_has_55 : decode b_Ref_has 55 = .ok (.iconst 0, 1) := by decide +kernel
theorem d_Ref_has_56 : decode b_Ref_has 56 = .ok (.ireturn, 1) := by decide +kernel
theorem d_Ref_within_0 : decode b_Ref_within 0 = .ok (.aload_n 0, 1) := by decide +kernel
theorem d_Ref_within_1 : decode b_Ref_within 1 = .ok (.iload_n 1, 1) := by decide +kernel
theorem d_Ref_within_2 : decode b_Ref_within 2 = .ok (.invokevirtual 208, 3) := by decide +kernel
theorem d_Ref_within_5 : decode b_Ref_within 5 = .ok (.ifCond .eq 11, 3) := by decide +kernel
theorem d_Ref_within_8 : decode b_Ref_within 8 = .ok (.aload_n 0, 1) := by decide +kernel
theorem d_Ref_within_9 : decode b_Ref_within 9 = .ok (.iload_n 2, 1) := by decide +kernel
theorem d_Ref_within_10 : decode b_Ref_within 10 = .ok (.invokevirtual 208, 3) := by decide +kernel
theorem d_Ref_within_13 : decode b_Ref_within 13 = .ok (.ifCond .ne 8, 3) := by decide +kernel
theorem d_Ref_within_16 : decode b_Ref_within 16 = .ok (.bipush (-2), 2) := by decide +kernel
theorem d_Ref_within_18 : decode b_Ref_within 18 = .ok (.goto 18, 3) := by decide +kernel
theorem d_Ref_within_21 : decode b_Ref_within 21 = .ok (.aload_n 0, 1) := by decide +kernel
theorem d_Ref_within_22 : decode b_Ref_within 22 = .ok (.iload_n 1, 1) := by decide +kernel
theorem d_Ref_within_23 : decode b_Ref_within 23 = .ok (.iload_n 2, 1) := by decide +kernel
theorem d_Ref_within_24 : decode b_Ref_within 24 = .ok (.iconst 1, 1) := by decide +kernel
theorem d_Ref_within_25 : decode b_Ref_within 25 = .ok (.invokevirtual 279, 3) := by decide +kernel
theorem d_Ref_within_28 : decode b_Ref_within 28 = .ok (.ifCond .ge 7, 3) := by decide +kernel
theorem d_Ref_within_31 : decode b_Ref_within 31 = .ok (.iconst 1, 1) := by decide +kernel
theorem d_Ref_within_32 : decode b_Ref_within 32 = .ok (.goto 4, 3) := by decide +kernel
theorem d_Ref_within_35 : decode b_Ref_within 35 = .ok (.iconst 0, 1) := by decide +kernel
theorem d_Ref_within_36 : decode b_Ref_within 36 = .ok (.ireturn, 1) := by decide +kernel
theorem d_Ref_parted_0 : decode b_Ref_parted 0 = .ok (.iconst 0, 1) := by decide +kernel
theorem d_Ref_parted_1 : decode b_Ref_parted 1 = .ok (.istore 4, 2) := by decide +kernel
theorem d_Ref_parted_3 : decode b_Ref_parted 3 = .ok (.iload 4, 2) := by decide +kernel
theorem d_Ref_parted_5 : decode b_Ref_parted 5 = .ok (.sipush 1600, 3) := by decide +kernel
theorem d_Ref_parted_8 : decode b_Ref_parted 8 = .ok (.if_icmp .ge 26, 3) := by decide +kernel
theorem d_Ref_parted_11 : decode b_Ref_parted 11 = .ok (.aload_n 0, 1) := by decide +kernel
theorem d_Ref_parted_12 : decode b_Ref_parted 12 = .ok (.getfield 78, 3) := by decide +kernel
theorem d_Ref_parted_15 : decode b_Ref_parted 15 = .ok (.iload 4, 2) := by decide +kernel
theorem d_Ref_parted_17 : decode b_Ref_parted 17 = .ok (.iload 4, 2) := by decide +kernel
theorem d_Ref_parted_19 : decode b_Ref_parted 19 = .ok (.ifCond .ne 7, 3) := by decide +kernel
theorem d_Ref_parted_22 : decode b_Ref_parted 22 = .ok (.iconst 1, 1) := by decide +kernel
theorem d_Ref_parted_23 : decode b_Ref_parted 23 = .ok (.goto 4, 3) := by decide +kernel
theorem d_Ref_parted_26 : decode b_Ref_parted 26 = .ok (.iconst 0, 1) := by decide +kernel
theorem d_Ref_parted_27 : decode b_Ref_parted 27 = .ok (.bastore, 1) := by decide +kernel
theorem d_Ref_parted_28 : decode b_Ref_parted 28 = .ok (.iinc 4 1, 3) := by decide +kernel
theorem d_Ref_parted_31 : decode b_Ref_parted 31 = .ok (.goto (-28), 3) := by decide +kernel
theorem d_Ref_parted_34 : decode b_Ref_parted 34 = .ok (.aload_n 0, 1) := by decide +kernel
theorem d_Ref_parted_35 : decode b_Ref_parted 35 = .ok (.getfield 81, 3) := by decide +kernel
theorem d_Ref_parted_38 : decode b_Ref_parted 38 = .ok (.iconst 0, 1) := by decide +kernel
theorem d_Ref_parted_39 : decode b_Ref_parted 39 = .ok (.iconst 0, 1) := by decide +kernel
theorem d_Ref_parted_40 : decode b_Ref_parted 40 = .ok (.iastore, 1) := by decide +kernel
theorem d_Ref_parted_41 : decode b_Ref_parted 41 = .ok (.aload_n 0, 1) := by decide +kernel
theorem d_Ref_parted_42 : decode b_Ref_parted 42 = .ok (.iconst 1, 1) := by decide +kernel
theorem d_Ref_parted_43 : decode b_Ref_parted 43 = .ok (.putfield 276, 3) := by decide +kernel
theorem d_Ref_parted_46 : decode b_Ref_parted 46 = .ok (.iconst 0, 1) := by decide +kernel
theorem d_Ref_parted_47 : decode b_Ref_parted 47 = .ok (.istore 4, 2) := by decide +kernel
theorem d_Ref_parted_49 : decode b_Ref_parted 49 = .ok (.iload 4, 2) := by decide +kernel
theorem d_Ref_parted_51 : decode b_Ref_parted 51 = .ok (.aload_n 0, 1) := by decide +kernel
theorem d_Ref_parted_52 : decode b_Ref_parted 52 = .ok (.getfield 276, 3) := by decide +kernel
theorem d_Ref_parted_55 : decode b_Ref_parted 55 = .ok (.if_icmp .ge 170, 3) := by decide +kernel
theorem d_Ref_parted_58 : decode b_Ref_parted 58 = .ok (.aload_n 0, 1) := by decide +kernel
theorem d_Ref_parted_59 : decode b_Ref_parted 59 = .ok (.getfield 81, 3) := by decide +kernel
theorem d_Ref_parted_62 : decode b_Ref_parted 62 = .ok (.iload 4, 2) := by decide +kernel
theorem d_Ref_parted_64 : decode b_Ref_parted 64 = .ok (.iaload, 1) := by decide +kernel
theorem d_Ref_parted_65 : decode b_Ref_parted 65 = .ok (.bipush 40, 2) := by decide +kernel
theorem d_Ref_parted_67 : decode b_Ref_parted 67 = .ok (.idiv, 1) := by decide +kernel
theorem d_Ref_parted_68 : decode b_Ref_parted 68 = .ok (.istore 5, 2) := by decide +kernel
theorem d_Ref_parted_70 : decode b_Ref_parted 70 = .ok (.aload_n 0, 1) := by decide +kernel
theorem d_Ref_parted_71 : decode b_Ref_parted 71 = .ok (.getfield 81, 3) := by decide +kernel
theorem d_Ref_parted_74 : decode b_Ref_parted 74 = .ok (.iload 4, 2) := by decide +kernel
theorem d_Ref_parted_76 : decode b_Ref_parted 76 = .ok (.iaload, 1) := by decide +kernel
theorem d_Ref_parted_77 : decode b_Ref_parted 77 = .ok (.bipush 40, 2) := by decide +kernel
theorem d_Ref_parted_79 : decode b_Ref_parted 79 = .ok (.irem, 1) := by decide +kernel
theorem d_Ref_parted_80 : decode b_Ref_parted 80 = .ok (.istore 6, 2) := by decide +kernel
theorem d_Ref_parted_82 : decode b_Ref_parted 82 = .ok (.aload_n 0, 1) := by decide +kernel
theorem d_Ref_parted_83 : decode b_Ref_parted 83 = .ok (.iload_n 1, 1) := by decide +kernel
theorem d_Ref_parted_84 : decode b_Ref_parted 84 = .ok (.iload 5, 2) := by decide +kernel
theorem d_Ref_parted_86 : decode b_Ref_parted 86 = .ok (.invokevirtual 152, 3) := by decide +kernel
theorem d_Ref_parted_89 : decode b_Ref_parted 89 = .ok (.aload_n 0, 1) := by decide +kernel
theorem d_Ref_parted_90 : decode b_Ref_parted 90 = .ok (.iload_n 2, 1) := by decide +kernel
theorem d_Ref_parted_91 : decode b_Ref_parted 91 = .ok (.iload 6, 2) := by decide +kernel
theorem d_Ref_parted_93 : decode b_Ref_parted 93 = .ok (.invokevirtual 152, 3) := by decide +kernel
theorem d_Ref_parted_96 : decode b_Ref_parted 96 = .ok (.if_icmp .eq 20, 3) := by decide +kernel
theorem d_Ref_parted_99 : decode b_Ref_parted 99 = .ok (.iload_n 3, 1) := by decide +kernel
theorem d_Ref_parted_100 : decode b_Ref_parted 100 = .ok (.ifCond .eq 13, 3) := by decide +kernel
theorem d_Ref_parted_103 : decode b_Ref_parted 103 = .ok (.aload_n 0, 1) := by decide +kernel
theorem d_Ref_parted_104 : decode b_Ref_parted 104 = .ok (.iload_n 1, 1) := by decide +kernel
theorem d_Ref_parted_105 : decode b_Ref_parted 105 = .ok (.iload 5, 2) := by decide +kernel
theorem d_Ref_parted_107 : decode b_Ref_parted 107 = .ok (.invokevirtual 152, 3) := by decide +kernel
theorem d_Ref_parted_110 : decode b_Ref_parted 110 = .ok (.ifCond .eq 6, 3) := by decide +kernel
theorem d_Ref_parted_113 : decode b_Ref_parted 113 = .ok (.iload 4, 2) := by decide +kernel
theorem d_Ref_parted_115 : decode b_Ref_parted 115 = .ok (.ireturn, 1) := by decide +kernel
theorem d_Ref_parted_116 : decode b_Ref_parted 116 = .ok (.iconst 0, 1) := by decide +kernel
theorem d_Ref_parted_117 : decode b_Ref_parted 117 = .ok (.istore 7, 2) := by decide +kernel
theorem d_Ref_parted_119 : decode b_Ref_parted 119 = .ok (.iload 7, 2) := by decide +kernel
theorem d_Ref_parted_121 : decode b_Ref_parted 121 = .ok (.aload_n 0, 1) := by decide +kernel
theorem d_Ref_parted_122 : decode b_Ref_parted 122 = .ok (.getfield 93, 3) := by decide +kernel
theorem d_Ref_parted_125 : decode b_Ref_parted 125 = .ok (.if_icmp .ge 94, 3) := by decide +kernel
theorem d_Ref_parted_128 : decode b_Ref_parted 128 = .ok (.bipush 40, 2) := by decide +kernel
theorem d_Ref_parted_130 : decode b_Ref_parted 130 = .ok (.aload_n 0, 1) := by decide +kernel
theorem d_Ref_parted_131 : decode b_Ref_parted 131 = .ok (.iload_n 1, 1) := by decide +kernel
theorem d_Ref_parted_132 : decode b_Ref_parted 132 = .ok (.iload 5, 2) := by decide +kernel
theorem d_Ref_parted_134 : decode b_Ref_parted 134 = .ok (.iload 7, 2) := by decide +kernel
theorem d_Ref_parted_136 : decode b_Ref_parted 136 = .ok (.invokevirtual 135, 3) := by decide +kernel
theorem d_Ref_parted_139 : decode b_Ref_parted 139 = .ok (.imul, 1) := by decide +kernel
theorem d_Ref_parted_140 : decode b_Ref_parted 140 = .ok (.aload_n 0, 1) := by decide +kernel
theorem d_Ref_parted_141 : decode b_Ref_parted 141 = .ok (.iload_n 2, 1) := by decide +kernel
theorem d_Ref_parted_142 : decode b_Ref_parted 142 = .ok (.iload 6, 2) := by decide +kernel
theorem d_Ref_parted_144 : decode b_Ref_parted 144 = .ok (.iload 7, 2) := by decide +kernel
theorem d_Ref_parted_146 : decode b_Ref_parted 146 = .ok (.invokevirtual 135, 3) := by decide +kernel
theorem d_Ref_parted_149 : decode b_Ref_parted 149 = .ok (.iadd, 1) := by decide +kernel
theorem d_Ref_parted_150 : decode b_Ref_parted 150 = .ok (.istore 8, 2) := by decide +kernel
theorem d_Ref_parted_152 : decode b_Ref_parted 152 = .ok (.aload_n 0, 1) := by decide +kernel
theorem d_Ref_parted_153 : decode b_Ref_parted 153 = .ok (.getfield 78, 3) := by decide +kernel
theorem d_Ref_parted_156 : decode b_Ref_parted 156 = .ok (.iload 8, 2) := by decide +kernel
theorem d_Ref_parted_158 : decode b_Ref_parted 158 = .ok (.baload, 1) := by decide +kernel
theorem d_Ref_parted_159 : decode b_Ref_parted 159 = .ok (.ifCond .ne 54, 3) := by decide +kernel
theorem d_Ref_parted_162 : decode b_Ref_parted 162 = .ok (.aload_n 0, 1) := by decide +kernel
theorem d_Ref_parted_163 : decode b_Ref_parted 163 = .ok (.getfield 78, 3) := by decide +kernel
theorem d_Ref_parted_166 : decode b_Ref_parted 166 = .ok (.iload 8, 2) := by decide +kernel
theorem d_Ref_parted_168 : decode b_Ref_parted 168 = .ok (.iconst 1, 1) := by decide +kernel
theorem d_Ref_parted_169 : decode b_Ref_parted 169 = .ok (.bastore, 1) := by decide +kernel
theorem d_Ref_parted_170 : decode b_Ref_parted 170 = .ok (.aload_n 0, 1) := by decide +kernel
theorem d_Ref_parted_171 : decode b_Ref_parted 171 = .ok (.getfield 81, 3) := by decide +kernel
theorem d_Ref_parted_174 : decode b_Ref_parted 174 = .ok (.aload_n 0, 1) := by decide +kernel
theorem d_Ref_parted_175 : decode b_Ref_parted 175 = .ok (.getfield 276, 3) := by decide +kernel
theorem d_Ref_parted_178 : decode b_Ref_parted 178 = .ok (.iload 8, 2) := by decide +kernel
theorem d_Ref_parted_180 : decode b_Ref_parted 180 = .ok (.iastore, 1) := by decide +kernel
theorem d_Ref_parted_181 : decode b_Ref_parted 181 = .ok (.aload_n 0, 1) := by decide +kernel
theorem d_Ref_parted_182 : decode b_Ref_parted 182 = .ok (.getfield 84, 3) := by decide +kernel
theorem d_Ref_parted_185 : decode b_Ref_parted 185 = .ok (.aload_n 0, 1) := by decide +kernel
theorem d_Ref_parted_186 : decode b_Ref_parted 186 = .ok (.getfield 276, 3) := by decide +kernel
theorem d_Ref_parted_189 : decode b_Ref_parted 189 = .ok (.iload 4, 2) := by decide +kernel
theorem d_Ref_parted_191 : decode b_Ref_parted 191 = .ok (.iastore, 1) := by decide +kernel
theorem d_Ref_parted_192 : decode b_Ref_parted 192 = .ok (.aload_n 0, 1) := by decide +kernel
theorem d_Ref_parted_193 : decode b_Ref_parted 193 = .ok (.getfield 87, 3) := by decide +kernel
theorem d_Ref_parted_196 : decode b_Ref_parted 196 = .ok (.aload_n 0, 1) := by decide +kernel
theorem d_Ref_parted_197 : decode b_Ref_parted 197 = .ok (.getfield 276, 3) := by decide +kernel
theorem d_Ref_parted_200 : decode b_Ref_parted 200 = .ok (.iload 7, 2) := by decide +kernel
theorem d_Ref_parted_202 : decode b_Ref_parted 202 = .ok (.iastore, 1) := by decide +kernel
theorem d_Ref_parted_203 : decode b_Ref_parted 203 = .ok (.aload_n 0, 1) := by decide +kernel
theorem d_Ref_parted_204 : decode b_Ref_parted 204 = .ok (.dup, 1) := by decide +kernel
theorem d_Ref_parted_205 : decode b_Ref_parted 205 = .ok (.getfield 276, 3) := by decide +kernel
theorem d_Ref_parted_208 : decode b_Ref_parted 208 = .ok (.iconst 1, 1) := by decide +kernel
theorem d_Ref_parted_209 : decode b_Ref_parted 209 = .ok (.iadd, 1) := by decide +kernel
theorem d_Ref_parted_210 : decode b_Ref_parted 210 = .ok (.putfield 276, 3) := by decide +kernel
theorem d_Ref_parted_213 : decode b_Ref_parted 213 = .ok (.iinc 7 1, 3) := by decide +kernel
theorem d_Ref_parted_216 : decode b_Ref_parted 216 = .ok (.goto (-97), 3) := by decide +kernel
theorem d_Ref_parted_219 : decode b_Ref_parted 219 = .ok (.iinc 4 1, 3) := by decide +kernel
theorem d_Ref_parted_222 : decode b_Ref_parted 222 = .ok (.goto (-173), 3) := by decide +kernel
theorem d_Ref_parted_225 : decode b_Ref_parted 225 = .ok (.iconst (-1), 1) := by decide +kernel
theorem d_Ref_parted_226 : decode b_Ref_parted 226 = .ok (.ireturn, 1) := by decide +kernel
theorem d_Ref_differ_0 : decode b_Ref_differ 0 = .ok (.aload_n 0, 1) := by decide +kernel
theorem d_Ref_differ_1 : decode b_Ref_differ 1 = .ok (.iload_n 1, 1) := by decide +kernel
theorem d_Ref_differ_2 : decode b_Ref_differ 2 = .ok (.invokevirtual 208, 3) := by decide +kernel
theorem d_Ref_differ_5 : decode b_Ref_differ 5 = .ok (.ifCond .eq 11, 3) := by decide +kernel
theorem d_Ref_differ_8 : decode b_Ref_differ 8 = .ok (.aload_n 0, 1) := by decide +kernel
theorem d_Ref_differ_9 : decode b_Ref_differ 9 = .ok (.iload_n 2, 1) := by decide +kernel
theorem d_Ref_differ_10 : decode b_Ref_differ 10 = .ok (.invokevirtual 208, 3) := by decide +kernel
theorem d_Ref_differ_13 : decode b_Ref_differ 13 = .ok (.ifCond .ne 6, 3) := by decide +kernel
theorem d_Ref_differ_16 : decode b_Ref_differ 16 = .ok (.bipush (-2), 2) := by decide +kernel
theorem d_Ref_differ_18 : decode b_Ref_differ 18 = .ok (.ireturn, 1) := by decide +kernel
theorem d_Ref_differ_19 : decode b_Ref_differ 19 = .ok (.aload_n 0, 1) := by decide +kernel
theorem d_Ref_differ_20 : decode b_Ref_differ 20 = .ok (.iload_n 1, 1) := by decide +kernel
theorem d_Ref_differ_21 : decode b_Ref_differ 21 = .ok (.iload_n 2, 1) := by decide +kernel
theorem d_Ref_differ_22 : decode b_Ref_differ 22 = .ok (.iconst 0, 1) := by decide +kernel
theorem d_Ref_differ_23 : decode b_Ref_differ 23 = .ok (.invokevirtual 279, 3) := by decide +kernel
theorem d_Ref_differ_26 : decode b_Ref_differ 26 = .ok (.istore_n 3, 1) := by decide +kernel
theorem d_Ref_differ_27 : decode b_Ref_differ 27 = .ok (.iload_n 3, 1) := by decide +kernel
theorem d_Ref_differ_28 : decode b_Ref_differ 28 = .ok (.ifCond .ge 5, 3) := by decide +kernel
theorem d_Ref_differ_31 : decode b_Ref_differ 31 = .ok (.iconst (-1), 1) := by decide +kernel
theorem d_Ref_differ_32 : decode b_Ref_differ 32 = .ok (.ireturn, 1) := by decide +kernel
theorem d_Ref_differ_33 : decode b_Ref_differ 33 = .ok (.aload_n 0, 1) := by decide +kernel
theorem d_Ref_differ_34 : decode b_Ref_differ 34 = .ok (.iconst 0, 1) := by decide +kernel
theorem d_Ref_differ_35 : decode b_Ref_differ 35 = .ok (.putfield 107, 3) := by decide +kernel
theorem d_Ref_differ_38 : decode b_Ref_differ 38 = .ok (.iload_n 3, 1) := by decide +kernel
theorem d_Ref_differ_39 : decode b_Ref_differ 39 = .ok (.istore 4, 2) := by decide +kernel
theorem d_Ref_differ_41 : decode b_Ref_differ 41 = .ok (.iload 4, 2) := by decide +kernel
theorem d_Ref_differ_43 : decode b_Ref_differ 43 = .ok (.ifCond .le 25, 3) := by decide +kernel
theorem d_Ref_differ_46 : decode b_Ref_differ 46 = .ok (.aload_n 0, 1) := by decide +kernel
theorem d_Ref_differ_47 : decode b_Ref_differ 47 = .ok (.dup, 1) := by decide +kernel
theorem d_Ref_differ_48 : decode b_Ref_differ 48 = .ok (.getfield 107, 3) := by decide +kernel
theorem d_Ref_differ_51 : decode b_Ref_differ 51 = .ok (.iconst 1, 1) := by decide +kernel
theorem d_Ref_differ_52 : decode b_Ref_differ 52 = .ok (.iadd, 1) := by decide +kernel
theorem d_Ref_differ_53 : decode b_Ref_differ 53 = .ok (.putfield 107, 3) := by decide +kernel
theorem d_Ref_differ_56 : decode b_Ref_differ 56 = .ok (.aload_n 0, 1) := by decide +kernel
theorem d_Ref_differ_57 : decode b_Ref_differ 57 = .ok (.getfield 84, 3) := by decide +kernel
theorem d_Ref_differ_60 : decode b_Ref_differ 60 = .ok (.iload 4, 2) := by decide +kernel
theorem d_Ref_differ_62 : decode b_Ref_differ 62 = .ok (.iaload, 1) := by decide +kernel
theorem d_Ref_differ_63 : decode b_Ref_differ 63 = .ok (.istore 4, 2) := by decide +kernel
theorem d_Ref_differ_65 : decode b_Ref_differ 65 = .ok (.goto (-24), 3) := by decide +kernel
theorem d_Ref_differ_68 : decode b_Ref_differ 68 = .ok (.aload_n 0, 1) := by decide +kernel
theorem d_Ref_differ_69 : decode b_Ref_differ 69 = .ok (.getfield 107, 3) := by decide +kernel
theorem d_Ref_differ_72 : decode b_Ref_differ 72 = .ok (.istore 4, 2) := by decide +kernel
theorem d_Ref_differ_74 : decode b_Ref_differ 74 = .ok (.iload_n 3, 1) := by decide +kernel
theorem d_Ref_differ_75 : decode b_Ref_differ 75 = .ok (.istore 5, 2) := by decide +kernel
theorem d_Ref_differ_77 : decode b_Ref_differ 77 = .ok (.iload 5, 2) := by decide +kernel
theorem d_Ref_differ_79 : decode b_Ref_differ 79 = .ok (.ifCond .le 32, 3) := by decide +kernel
theorem d_Ref_differ_82 : decode b_Ref_differ 82 = .ok (.iinc 4 (-1), 3) := by decide +kernel
theorem d_Ref_differ_85 : decode b_Ref_differ 85 = .ok (.aload_n 0, 1) := by decide +kernel
theorem d_Ref_differ_86 : decode b_Ref_differ 86 = .ok (.getfield 23, 3) := by decide +kernel
theorem d_Ref_differ_89 : decode b_Ref_differ 89 = .ok (.iload 4, 2) := by decide +kernel
theorem d_Ref_differ_91 : decode b_Ref_differ 91 = .ok (.aload_n 0, 1) := by decide +kernel
theorem d_Ref_differ_92 : decode b_Ref_differ 92 = .ok (.getfield 87, 3) := by decide +kernel
theorem d_Ref_differ_95 : decode b_Ref_differ 95 = .ok (.iload 5, 2) := by decide +kernel
theorem d_Ref_differ_97 : decode b_Ref_differ 97 = .ok (.iaload, 1) := by decide +kernel
theorem d_Ref_differ_98 : decode b_Ref_differ 98 = .ok (.iastore, 1) := by decide +kernel
theorem d_Ref_differ_99 : decode b_Ref_differ 99 = .ok (.aload_n 0, 1) := by decide +kernel
theorem d_Ref_differ_100 : decode b_Ref_differ 100 = .ok (.getfield 84, 3) := by decide +kernel
theorem d_Ref_differ_103 : decode b_Ref_differ 103 = .ok (.iload 5, 2) := by decide +kernel
theorem d_Ref_differ_105 : decode b_Ref_differ 105 = .ok (.iaload, 1) := by decide +kernel
theorem d_Ref_differ_106 : decode b_Ref_differ 106 = .ok (.istore 5, 2) := by decide +kernel
theorem d_Ref_differ_108 : decode b_Ref_differ 108 = .ok (.goto (-31), 3) := by decide +kernel
theorem d_Ref_differ_111 : decode b_Ref_differ 111 = .ok (.aload_n 0, 1) := by decide +kernel
theorem d_Ref_differ_112 : decode b_Ref_differ 112 = .ok (.getfield 107, 3) := by decide +kernel
theorem d_Ref_differ_115 : decode b_Ref_differ 115 = .ok (.ireturn, 1) := by decide +kernel
theorem d_Ref_count_0 : decode b_Ref_count 0 = .ok (.aload_n 0, 1) := by decide +kernel
theorem d_Ref_count_1 : decode b_Ref_count 1 = .ok (.iload_n 1, 1) := by decide +kernel
theorem d_Ref_count_2 : decode b_Ref_count 2 = .ok (.invokevirtual 208, 3) := by decide +kernel
theorem d_Ref_count_5 : decode b_Ref_count 5 = .ok (.ifCond .eq 15, 3) := by decide +kernel
theorem d_Ref_count_8 : decode b_Ref_count 8 = .ok (.iload_n 2, 1) := by decide +kernel
theorem d_Ref_count_9 : decode b_Ref_count 9 = .ok (.i2l, 1) := by decide +kernel
theorem d_Ref_count_10 : decode b_Ref_count 10 = .ok (.lconst 0, 1) := by decide +kernel
theorem d_Ref_count_11 : decode b_Ref_count 11 = .ok (.ldc2_w 215, 3) := by decide +kernel
theorem d_Ref_count_14 : decode b_Ref_count 14 = .ok (.invokestatic 100, 3) := by decide +kernel
theorem d_Ref_count_17 : decode b_Ref_count 17 = .ok (.ifCond .ne 7, 3) := by decide +kernel
theorem d_Ref_count_20 : decode b_Ref_count 20 = .ok (.ldc2_w 285, 3) := by decide +kernel
theorem d_Ref_count_23 : decode b_Ref_count 23 = .ok (.lreturn, 1) := by decide +kernel
theorem d_Ref_count_24 : decode b_Ref_count 24 = .ok (.aload_n 0, 1) := by decide +kernel
theorem d_Ref_count_25 : decode b_Ref_count 25 = .ok (.iload_n 1, 1) := by decide +kernel
theorem d_Ref_count_26 : decode b_Ref_count 26 = .ok (.iload_n 2, 1) := by decide +kernel
theorem d_Ref_count_27 : decode b_Ref_count 27 = .ok (.invokevirtual 287, 3) := by decide +kernel
theorem d_Ref_count_30 : decode b_Ref_count 30 = .ok (.aload_n 0, 1) := by decide +kernel
theorem d_Ref_count_31 : decode b_Ref_count 31 = .ok (.getfield 90, 3) := by decide +kernel
theorem d_Ref_count_34 : decode b_Ref_count 34 = .ok (.bipush 40, 2) := by decide +kernel
theorem d_Ref_count_36 : decode b_Ref_count 36 = .ok (.iload_n 2, 1) := by decide +kernel
theorem d_Ref_count_37 : decode b_Ref_count 37 = .ok (.imul, 1) := by decide +kernel
theorem d_Ref_count_38 : decode b_Ref_count 38 = .ok (.laload, 1) := by decide +kernel
theorem d_Ref_count_39 : decode b_Ref_count 39 = .ok (.lreturn, 1) := by decide +kernel
theorem d_Ref_countAll_0 : decode b_Ref_countAll 0 = .ok (.iconst 0, 1) := by decide +kernel
theorem d_Ref_countAll_1 : decode b_Ref_countAll 1 = .ok (.istore_n 3, 1) := by decide +kernel
theorem d_Ref_countAll_2 : decode b_Ref_countAll 2 = .ok (.iload_n 3, 1) := by decide +kernel
theorem d_Ref_countAll_3 : decode b_Ref_countAll 3 = .ok (.aload_n 0, 1) := by decide +kernel
theorem d_Ref_countAll_4 : decode b_Ref_countAll 4 = .ok (.getfield 7, 3) := by decide +kernel
theorem d_Ref_countAll_7 : decode b_Ref_countAll 7 = .ok (.iload_n 1, 1) := by decide +kernel
theorem d_Ref_countAll_8 : decode b_Ref_countAll 8 = .ok (.iaload, 1) := by decide +kernel
theorem d_Ref_countAll_9 : decode b_Ref_countAll 9 = .ok (.if_icmp .ge 29, 3) := by decide +kernel
theorem d_Ref_countAll_12 : decode b_Ref_countAll 12 = .ok (.aload_n 0, 1) := by decide +kernel
theorem d_Ref_countAll_13 : decode b_Ref_countAll 13 = .ok (.getfield 90, 3) := by decide +kernel
theorem d_Ref_countAll_16 : decode b_Ref_countAll 16 = .ok (.iload_n 3, 1) := by decide +kernel
theorem d_Ref_countAll_17 : decode b_Ref_countAll 17 = .ok (.aload_n 0, 1) := by decide +kernel
theorem d_Ref_countAll_18 : decode b_Ref_countAll 18 = .ok (.iload_n 1, 1) := by decide +kernel
theorem d_Ref_countAll_19 : decode b_Ref_countAll 19 = .ok (.iload_n 3, 1) := by decide +kernel
theorem d_Ref_countAll_20 : decode b_Ref_countAll 20 = .ok (.invokevirtual 152, 3) := by decide +kernel
theorem d_Ref_countAll_23 : decode b_Ref_countAll 23 = .ok (.ifCond .eq 7, 3) := by decide +kernel
theorem d_Ref_countAll_26 : decode b_Ref_countAll 26 = .ok (.lconst 1, 1) := by decide +kernel
theorem d_Ref_countAll_27 : decode b_Ref_countAll 27 = .ok (.goto 4, 3) := by decide +kernel
theorem d_Ref_countAll_30 : decode b_Ref_countAll 30 = .ok (.lconst 0, 1) := by decide +kernel
theorem d_Ref_countAll_31 : decode b_Ref_countAll 31 = .ok (.lastore, 1) := by decide +kernel
theorem d_Ref_countAll_32 : decode b_Ref_countAll 32 = .ok (.iinc 3 1, 3) := by decide +kernel
theorem d_Ref_countAll_35 : decode b_Ref_countAll 35 = .ok (.goto (-33), 3) := by decide +kernel
theorem d_Ref_countAll_38 : decode b_Ref_countAll 38 = .ok (.iconst 1, 1) := by decide +kernel
theorem d_Ref_countAll_39 : decode b_Ref_countAll 39 = .ok (.istore_n 3, 1) := by decide +kernel
theorem d_Ref_countAll_40 : decode b_Ref_countAll 40 = .ok (.iload_n 3, 1) := by decide +kernel
theorem d_Ref_countAll_41 : decode b_Ref_countAll 41 = .ok (.iload_n 2, 1) := by decide +kernel
theorem d_Ref_countAll_42 : decode b_Ref_countAll 42 = .ok (.if_icmp .gt 105, 3) := by decide +kernel
theorem d_Ref_countAll_45 : decode b_Ref_countAll 45 = .ok (.iconst 0, 1) := by decide +kernel
theorem d_Ref_countAll_46 : decode b_Ref_countAll 46 = .ok (.istore 4, 2) := by decide +kernel
theorem d_Ref_countAll_48 : decode b_Ref_countAll 48 = .ok (.iload 4, 2) := by decide +kernel
theorem d_Ref_countAll_50 : decode b_Ref_countAll 50 = .ok (.aload_n 0, 1) := by decide +kernel
theorem d_Ref_countAll_51 : decode b_Ref_countAll 51 = .ok (.getfield 7, 3) := by decide +kernel
theorem d_Ref_countAll_54 : decode b_Ref_countAll 54 = .ok (.iload_n 1, 1) := by decide +kernel
theorem d_Ref_countAll_55 : decode b_Ref_countAll 55 = .ok (.iaload, 1) := by decide +kernel
theorem d_Ref_countAll_56 : decode b_Ref_countAll 56 = .ok (.if_icmp .ge 85, 3) := by decide +kernel
theorem d_Ref_countAll_59 : decode b_Ref_countAll 59 = .ok (.lconst 0, 1) := by decide +kernel
theorem d_Ref_countAll_60 : decode b_Ref_countAll 60 = .ok (.lstore 5, 2) := by decide +kernel
theorem d_Ref_countAll_62 : decode b_Ref_countAll 62 = .ok (.iconst 0, 1) := by decide +kernel
theorem d_Ref_countAll_63 : decode b_Ref_countAll 63 = .ok (.istore 7, 2) := by decide +kernel
theorem d_Ref_countAll_65 : decode b_Ref_countAll 65 = .ok (.iload 7, 2) := by decide +kernel
theorem d_Ref_countAll_67 : decode b_Ref_countAll 67 = .ok (.aload_n 0, 1) := by decide +kernel
theorem d_Ref_countAll_68 : decode b_Ref_countAll 68 = .ok (.getfield 93, 3) := by decide +kernel
theorem d_Ref_countAll_71 : decode b_Ref_countAll 71 = .ok (.if_icmp .ge 35, 3) := by decide +kernel
theorem d_Ref_countAll_74 : decode b_Ref_countAll 74 = .ok (.lload 5, 2) := by decide +kernel
theorem d_Ref_countAll_76 : decode b_Ref_countAll 76 = .ok (.aload_n 0, 1) := by decide +kernel
theorem d_Ref_countAll_77 : decode b_Ref_countAll 77 = .ok (.getfield 90, 3) := by decide +kernel
theorem d_Ref_countAll_80 : decode b_Ref_countAll 80 = .ok (.bipush 40, 2) := by decide +kernel
theorem d_Ref_countAll_82 : decode b_Ref_countAll 82 = .ok (.iload_n 3, 1) := by decide +kernel
theorem d_Ref_countAll_83 : decode b_Ref_countAll 83 = .ok (.iconst 1, 1) := by decide +kernel
theorem d_Ref_countAll_84 : decode b_Ref_countAll 84 = .ok (.isub, 1) := by decide +kernel
theorem d_Ref_countAll_85 : decode b_Ref_countAll 85 = .ok (.imul, 1) := by decide +kernel
theorem d_Ref_countAll_86 : decode b_Ref_countAll 86 = .ok (.aload_n 0, 1) := by decide +kernel
theorem d_Ref_countAll_87 : decode b_Ref_countAll 87 = .ok (.iload_n 1, 1) := by decide +kernel
theorem d_Ref_countAll_88 : decode b_Ref_countAll 88 = .ok (.iload 4, 2) := by decide +kernel
theorem d_Ref_countAll_90 : decode b_Ref_countAll 90 = .ok (.iload 7, 2) := by decide +kernel
theorem d_Ref_countAll_92 : decode b_Ref_countAll 92 = .ok (.invokevirtual 135, 3) := by decide +kernel
theorem d_Ref_countAll_95 : decode b_Ref_countAll 95 = .ok (.iadd, 1) := by decide +kernel
theorem d_Ref_countAll_96 : decode b_Ref_countAll 96 = .ok (.laload, 1) := by decide +kernel
theorem d_Ref_countAll_97 : decode b_Ref_countAll 97 = .ok (.ladd, 1) := by decide +kernel
theorem d_Ref_countAll_98 : decode b_Ref_countAll 98 = .ok (.lstore 5, 2) := by decide +kernel
theorem d_Ref_countAll_100 : decode b_Ref_countAll 100 = .ok (.iinc 7 1, 3) := by decide +kernel
theorem d_Ref_countAll_103 : decode b_Ref_countAll 103 = .ok (.goto (-38), 3) := by decide +kernel
theorem d_Ref_countAll_106 : decode b_Ref_countAll 106 = .ok (.aload_n 0, 1) := by decide +kernel
theorem d_Ref_countAll_107 : decode b_Ref_countAll 107 = .ok (.getfield 90, 3) := by decide +kernel
theorem d_Ref_countAll_110 : decode b_Ref_countAll 110 = .ok (.bipush 40, 2) := by decide +kernel
theorem d_Ref_countAll_112 : decode b_Ref_countAll 112 = .ok (.iload_n 3, 1) := by decide +kernel
theorem d_Ref_countAll_113 : decode b_Ref_countAll 113 = .ok (.imul, 1) := by decide +kernel
theorem d_Ref_countAll_114 : decode b_Ref_countAll 114 = .ok (.iload 4, 2) := by decide +kernel
theorem d_Ref_countAll_116 : decode b_Ref_countAll 116 = .ok (.iadd, 1) := by decide +kernel
theorem d_Ref_countAll_117 : decode b_Ref_countAll 117 = .ok (.lload 5, 2) := by decide +kernel
theorem d_Ref_countAll_119 : decode b_Ref_countAll 119 = .ok (.ldc2_w 283, 3) := by decide +kernel
theorem d_Ref_countAll_122 : decode b_Ref_countAll 122 = .ok (.lcmp, 1) := by decide +kernel
theorem d_Ref_countAll_123 : decode b_Ref_countAll 123 = .ok (.ifCond .le 9, 3) := by decide +kernel
theorem d_Ref_countAll_126 : decode b_Ref_countAll 126 = .ok (.ldc2_w 283, 3) := by decide +kernel
theorem d_Ref_countAll_129 : decode b_Ref_countAll 129 = .ok (.goto 5, 3) := by decide +kernel
theorem d_Ref_countAll_132 : decode b_Ref_countAll 132 = .ok (.lload 5, 2) := by decide +kernel
theorem d_Ref_countAll_134 : decode b_Ref_countAll 134 = .ok (.lastore, 1) := by decide +kernel
theorem d_Ref_countAll_135 : decode b_Ref_countAll 135 = .ok (.iinc 4 1, 3) := by decide +kernel
theorem d_Ref_countAll_138 : decode b_Ref_countAll 138 = .ok (.goto (-90), 3) := by decide +kernel
theorem d_Ref_countAll_141 : decode b_Ref_countAll 141 = .ok (.iinc 3 1, 3) := by decide +kernel
theorem d_Ref_countAll_144 : decode b_Ref_countAll 144 = .ok (.goto (-104), 3) := by decide +kernel
theorem d_Ref_countAll_147 : decode b_Ref_countAll 147 = .ok (.return_, 1) := by decide +kernel
theorem d_Ref_pick_0 : decode b_Ref_pick 0 = .ok (.aload_n 0, 1) := by decide +kernel
theorem d_Ref_pick_1 : decode b_Ref_pick 1 = .ok (.iload_n 1, 1) := by decide +kernel
theorem d_Ref_pick_2 : decode b_Ref_pick 2 = .ok (.invokevirtual 208, 3) := by decide +kernel
theorem d_Ref_pick_5 : decode b_Ref_pick 5 = .ok (.ifCond .eq 7, 3) := by decide +kernel
theorem d_Ref_pick_8 : decode b_Ref_pick 8 = .ok (.iload_n 2, 1) := by decide +kernel
theorem d_Ref_pick_9 : decode b_Ref_pick 9 = .ok (.ifCond .ge 6, 3) := by decide +kernel
theorem d_Ref_pick_12 : decode b_Ref_pick 12 = .ok (.bipush (-2), 2) := by decide +kernel
theorem d_Ref_pick_14 : decode b_Ref_pick 14 = .ok (.ireturn, 1) := by decide +kernel
theorem d_Ref_pick_15 : decode b_Ref_pick 15 = .ok (.aload_n 0, 1) := by decide +kernel
theorem d_Ref_pick_16 : decode b_Ref_pick 16 = .ok (.iload_n 1, 1) := by decide +kernel
theorem d_Ref_pick_17 : decode b_Ref_pick 17 = .ok (.bipush 100, 2) := by decide +kernel
theorem d_Ref_pick_19 : decode b_Ref_pick 19 = .ok (.invokevirtual 287, 3) := by decide +kernel
theorem d_Ref_pick_22 : decode b_Ref_pick 22 = .ok (.iload_n 2, 1) := by decide +kernel
theorem d_Ref_pick_23 : decode b_Ref_pick 23 = .ok (.i2l, 1) := by decide +kernel
theorem d_Ref_pick_24 : decode b_Ref_pick 24 = .ok (.lstore_n 3, 1) := by decide +kernel
theorem d_Ref_pick_25 : decode b_Ref_pick 25 = .ok (.iconst 0, 1) := by decide +kernel
theorem d_Ref_pick_26 : decode b_Ref_pick 26 = .ok (.istore 5, 2) := by decide +kernel
theorem d_Ref_pick_28 : decode b_Ref_pick 28 = .ok (.iload 5, 2) := by decide +kernel
theorem d_Ref_pick_30 : decode b_Ref_pick 30 = .ok (.bipush 100, 2) := by decide +kernel
theorem d_Ref_pick_32 : decode b_Ref_pick 32 = .ok (.if_icmp .gt 37, 3) := by decide +kernel
theorem d_Ref_pick_35 : decode b_Ref_pick 35 = .ok (.lload_n 3, 1) := by decide +kernel
theorem d_Ref_pick_36 : decode b_Ref_pick 36 = .ok (.aload_n 0, 1) := by decide +kernel
theorem d_Ref_pick_37 : decode b_Ref_pick 37 = .ok (.getfield 90, 3) := by decide +kernel
theorem d_Ref_pick_40 : decode b_Ref_pick 40 = .ok (.bipush 40, 2) := by decide +kernel
theorem d_Ref_pick_42 : decode b_Ref_pick 42 = .ok (.iload 5, 2) := by decide +kernel
theorem d_Ref_pick_44 : decode b_Ref_pick 44 = .ok (.imul, 1) := by decide +kernel
theorem d_Ref_pick_45 : decode b_Ref_pick 45 = .ok (.laload, 1) := by decide +kernel
theorem d_Ref_pick_46 : decode b_Ref_pick 46 = .ok (.lcmp, 1) := by decide +kernel
theorem d_Ref_pick_47 : decode b_Ref_pick 47 = .ok (.ifCond .lt 22, 3) := by decide +kernel
theorem d_Ref_pick_50 : decode b_Ref_pick 50 = .ok (.lload_n 3, 1) := by decide +kernel
theorem d_Ref_pick_51 : decode b_Ref_pick 51 = .ok (.aload_n 0, 1) := by decide +kernel
theorem d_Ref_pick_52 : decode b_Ref_pick 52 = .ok (.getfield 90, 3) := by decide +kernel
theorem d_Ref_pick_55 : decode b_Ref_pick 55 = .ok (.bipush 40, 2) := by decide +kernel
theorem d_Ref_pick_57 : decode b_Ref_pick 57 = .ok (.iload 5, 2) := by decide +kernel
theorem d_Ref_pick_59 : decode b_Ref_pick 59 = .ok (.imul, 1) := by decide +kernel
theorem d_Ref_pick_60 : decode b_Ref_pick 60 = .ok (.laload, 1) := by decide +kernel
theorem d_Ref_pick_61 : decode b_Ref_pick 61 = .ok (.lsub, 1) := by decide +kernel
theorem d_Ref_pick_62 : decode b_Ref_pick 62 = .ok (.lstore_n 3, 1) := by decide +kernel
theorem d_Ref_pick_63 : decode b_Ref_pick 63 = .ok (.iinc 5 1, 3) := by decide +kernel
theorem d_Ref_pick_66 : decode b_Ref_pick 66 = .ok (.goto (-38), 3) := by decide +kernel
theorem d_Ref_pick_69 : decode b_Ref_pick 69 = .ok (.iload 5, 2) := by decide +kernel
theorem d_Ref_pick_71 : decode b_Ref_pick 71 = .ok (.bipush 100, 2) := by decide +kernel
theorem d_Ref_pick_73 : decode b_Ref_pick 73 = .ok (.if_icmp .le 5, 3) := by decide +kernel
theorem d_Ref_pick_76 : decode b_Ref_pick 76 = .ok (.iconst (-1), 1) := by decide +kernel
theorem d_Ref_pick_77 : decode b_Ref_pick 77 = .ok (.ireturn, 1) := by decide +kernel
theorem d_Ref_pick_78 : decode b_Ref_pick 78 = .ok (.iconst 0, 1) := by decide +kernel
theorem d_Ref_pick_79 : decode b_Ref_pick 79 = .ok (.istore 6, 2) := by decide +kernel
theorem d_Ref_pick_81 : decode b_Ref_pick 81 = .ok (.iload 5, 2) := by decide +kernel
theorem d_Ref_pick_83 : decode b_Ref_pick 83 = .ok (.iconst 1, 1) := by decide +kernel
theorem d_Ref_pick_84 : decode b_Ref_pick 84 = .ok (.isub, 1) := by decide +kernel
theorem d_Ref_pick_85 : decode b_Ref_pick 85 = .ok (.istore 7, 2) := by decide +kernel
theorem d_Ref_pick_87 : decode b_Ref_pick 87 = .ok (.iload 7, 2) := by decide +kernel
theorem d_Ref_pick_89 : decode b_Ref_pick 89 = .ok (.ifCond .lt 91, 3) := by decide +kernel
theorem d_Ref_pick_92 : decode b_Ref_pick 92 = .ok (.iconst 0, 1) := by decide +kernel
theorem d_Ref_pick_93 : decode b_Ref_pick 93 = .ok (.istore 8, 2) := by decide +kernel
theorem d_Ref_pick_95 : decode b_Ref_pick 95 = .ok (.lload_n 3, 1) := by decide +kernel
theorem d_Ref_pick_96 : decode b_Ref_pick 96 = .ok (.aload_n 0, 1) := by decide +kernel
theorem d_Ref_pick_97 : decode b_Ref_pick 97 = .ok (.getfield 90, 3) := by decide +kernel
theorem d_Ref_pick_100 : decode b_Ref_pick 100 = .ok (.bipush 40, 2) := by decide +kernel
theorem d_Ref_pick_102 : decode b_Ref_pick 102 = .ok (.iload 7, 2) := by decide +kernel
theorem d_Ref_pick_104 : decode b_Ref_pick 104 = .ok (.imul, 1) := by decide +kernel
theorem d_Ref_pick_105 : decode b_Ref_pick 105 = .ok (.aload_n 0, 1) := by decide +kernel
theorem d_Ref_pick_106 : decode b_Ref_pick 106 = .ok (.iload_n 1, 1) := by decide +kernel
theorem d_Ref_pick_107 : decode b_Ref_pick 107 = .ok (.iload 6, 2) := by decide +kernel
theorem d_Ref_pick_109 : decode b_Ref_pick 109 = .ok (.iload 8, 2) := by decide +kernel
theorem d_Ref_pick_111 : decode b_Ref_pick 111 = .ok (.invokevirtual 135, 3) := by decide +kernel
theorem d_Ref_pick_114 : decode b_Ref_pick 114 = .ok (.iadd, 1) := by decide +kernel
theorem d_Ref_pick_115 : decode b_Ref_pick 115 = .ok (.laload, 1) := by decide +kernel
theorem d_Ref_pick_116 : decode b_Ref_pick 116 = .ok (.lcmp, 1) := by decide +kernel
theorem d_Ref_pick_117 : decode b_Ref_pick 117 = .ok (.ifCond .lt 32, 3) := by decide +kernel
theorem d_Ref_pick_120 : decode b_Ref_pick 120 = .ok (.lload_n 3, 1) := by decide +kernel
theorem d_Ref_pick_121 : decode b_Ref_pick 121 = .ok (.aload_n 0, 1) := by decide +kernel
theorem d_Ref_pick_122 : decode b_Ref_pick 122 = .ok (.getfield 90, 3) := by decide +kernel
theorem d_Ref_pick_125 : decode b_Ref_pick 125 = .ok (.bipush 40, 2) := by decide +kernel
theorem d_Ref_pick_127 : decode b_Ref_pick 127 = .ok (.iload 7, 2) := by decide +kernel
theorem d_Ref_pick_129 : decode b_Ref_pick 129 = .ok (.imul, 1) := by decide +kernel
theorem d_Ref_pick_130 : decode b_Ref_pick 130 = .ok (.aload_n 0, 1) := by decide +kernel
theorem d_Ref_pick_131 : decode b_Ref_pick 131 = .ok (.iload_n 1, 1) := by decide +kernel
theorem d_Ref_pick_132 : decode b_Ref_pick 132 = .ok (.iload 6, 2) := by decide +kernel
theorem d_Ref_pick_134 : decode b_Ref_pick 134 = .ok (.iload 8, 2) := by decide +kernel
theorem d_Ref_pick_136 : decode b_Ref_pick 136 = .ok (.invokevirtual 135, 3) := by decide +kernel
theorem d_Ref_pick_139 : decode b_Ref_pick 139 = .ok (.iadd, 1) := by decide +kernel
theorem d_Ref_pick_140 : decode b_Ref_pick 140 = .ok (.laload, 1) := by decide +kernel
theorem d_Ref_pick_141 : decode b_Ref_pick 141 = .ok (.lsub, 1) := by decide +kernel
theorem d_Ref_pick_142 : decode b_Ref_pick 142 = .ok (.lstore_n 3, 1) := by decide +kernel
theorem d_Ref_pick_143 : decode b_Ref_pick 143 = .ok (.iinc 8 1, 3) := by decide +kernel
theorem d_Ref_pick_146 : decode b_Ref_pick 146 = .ok (.goto (-51), 3) := by decide +kernel
theorem d_Ref_pick_149 : decode b_Ref_pick 149 = .ok (.aload_n 0, 1) := by decide +kernel
theorem d_Ref_pick_150 : decode b_Ref_pick 150 = .ok (.getfield 23, 3) := by decide +kernel
theorem d_Ref_pick_153 : decode b_Ref_pick 153 = .ok (.iload 5, 2) := by decide +kernel
theorem d_Ref_pick_155 : decode b_Ref_pick 155 = .ok (.iconst 1, 1) := by decide +kernel
theorem d_Ref_pick_156 : decode b_Ref_pick 156 = .ok (.isub, 1) := by decide +kernel
theorem d_Ref_pick_157 : decode b_Ref_pick 157 = .ok (.iload 7, 2) := by decide +kernel
theorem d_Ref_pick_159 : decode b_Ref_pick 159 = .ok (.isub, 1) := by decide +kernel
theorem d_Ref_pick_160 : decode b_Ref_pick 160 = .ok (.iload 8, 2) := by decide +kernel
theorem d_Ref_pick_162 : decode b_Ref_pick 162 = .ok (.iastore, 1) := by decide +kernel
theorem d_Ref_pick_163 : decode b_Ref_pick 163 = .ok (.aload_n 0, 1) := by decide +kernel
theorem d_Ref_pick_164 : decode b_Ref_pick 164 = .ok (.iload_n 1, 1) := by decide +kernel
theorem d_Ref_pick_165 : decode b_Ref_pick 165 = .ok (.iload 6, 2) := by decide +kernel
theorem d_Ref_pick_167 : decode b_Ref_pick 167 = .ok (.iload 8, 2) := by decide +kernel
theorem d_Ref_pick_169 : decode b_Ref_pick 169 = .ok (.invokevirtual 135, 3) := by decide +kernel
theorem d_Ref_pick_172 : decode b_Ref_pick 172 = .ok (.istore 6, 2) := by decide +kernel
theorem d_Ref_pick_174 : decode b_Ref_pick 174 = .ok (.iinc 7 (-1), 3) := by decide +kernel
theorem d_Ref_pick_177 : decode b_Ref_pick 177 = .ok (.goto (-90), 3) := by decide +kernel
theorem d_Ref_pick_180 : decode b_Ref_pick 180 = .ok (.aload_n 0, 1) := by decide +kernel
theorem d_Ref_pick_181 : decode b_Ref_pick 181 = .ok (.iload 5, 2) := by decide +kernel
theorem d_Ref_pick_183 : decode b_Ref_pick 183 = .ok (.putfield 107, 3) := by decide +kernel
theorem d_Ref_pick_186 : decode b_Ref_pick 186 = .ok (.iload 5, 2) := by decide +kernel
theorem d_Ref_pick_188 : decode b_Ref_pick 188 = .ok (.ireturn, 1) := by decide +kernel
theorem d_Ref_told_0 : decode b_Ref_told 0 = .ok (.iload_n 1, 1) := by decide +kernel
theorem d_Ref_told_1 : decode b_Ref_told 1 = .ok (.i2l, 1) := by decide +kernel
theorem d_Ref_told_2 : decode b_Ref_told 2 = .ok (.lconst 0, 1) := by decide +kernel
theorem d_Ref_told_3 : decode b_Ref_told 3 = .ok (.aload_n 0, 1) := by decide +kernel
theorem d_Ref_told_4 : decode b_Ref_told 4 = .ok (.getfield 107, 3) := by decide +kernel
theorem d_Ref_told_7 : decode b_Ref_told 7 = .ok (.iconst 1, 1) := by decide +kernel
theorem d_Ref_told_8 : decode b_Ref_told 8 = .ok (.isub, 1) := by decide +kernel
theorem d_Ref_told_9 : decode b_Ref_told 9 = .ok (.i2l, 1) := by decide +kernel
theorem d_Ref_told_10 : decode b_Ref_told 10 = .ok (.invokestatic 100, 3) := by decide +kernel
theorem d_Ref_told_13 : decode b_Ref_told 13 = .ok (.ifCond .eq 12, 3) := by decide +kernel
theorem d_Ref_told_16 : decode b_Ref_told 16 = .ok (.aload_n 0, 1) := by decide +kernel
theorem d_Ref_told_17 : decode b_Ref_told 17 = .ok (.getfield 23, 3) := by decide +kernel
theorem d_Ref_told_20 : decode b_Ref_told 20 = .ok (.iload_n 1, 1) := by decide +kernel
theorem d_Ref_told_21 : decode b_Ref_told 21 = .ok (.iaload, 1) := by decide +kernel
theorem d_Ref_told_22 : decode b_Ref_told 22 = .ok (.goto 4, 3) := by decide +kernel
theorem d_Ref_told_25 : decode b_Ref_told 25 = .ok (.iconst (-1), 1) := by decide +kernel
theorem d_Ref_told_26 : decode b_Ref_told 26 = .ok (.ireturn, 1) := by decide +kernel
theorem d_Ref_longest_0 : decode b_Ref_longest 0 = .ok (.aload_n 0, 1) := by decide +kernel
theorem d_Ref_longest_1 : decode b_Ref_longest 1 = .ok (.iload_n 1, 1) := by decide +kernel
theorem d_Ref_longest_2 : decode b_Ref_longest 2 = .ok (.invokevirtual 208, 3) := by decide +kernel
theorem d_Ref_longest_5 : decode b_Ref_longest 5 = .ok (.ifCond .ne 6, 3) := by decide +kernel
theorem d_Ref_longest_8 : decode b_Ref_longest 8 = .ok (.bipush (-2), 2) := by decide +kernel
theorem d_Ref_longest_10 : decode b_Ref_longest 10 = .ok (.ireturn, 1) := by decide +kernel
theorem d_Ref_longest_11 : decode b_Ref_longest 11 = .ok (.iconst (-1), 1) := by decide +kernel
theorem d_Ref_longest_12 : decode b_Ref_longest 12 = .ok (.istore_n 2, 1) := by decide +kernel
theorem d_Ref_longest_13 : decode b_Ref_longest 13 = .ok (.aload_n 0, 1) := by decide +kernel
theorem d_Ref_longest_14 : decode b_Ref_longest 14 = .ok (.getfield 16, 3) := by decide +kernel
theorem d_Ref_longest_17 : decode b_Ref_longest 17 = .ok (.iload_n 1, 1) := by decide +kernel
theorem d_Ref_longest_18 : decode b_Ref_longest 18 = .ok (.laload, 1) := by decide +kernel
theorem d_Ref_longest_19 : decode b_Ref_longest 19 = .ok (.lstore_n 3, 1) := by decide +kernel
theorem d_Ref_longest_20 : decode b_Ref_longest 20 = .ok (.iconst 0, 1) := by decide +kernel
theorem d_Ref_longest_21 : decode b_Ref_longest 21 = .ok (.istore 5, 2) := by decide +kernel
theorem d_Ref_longest_23 : decode b_Ref_longest 23 = .ok (.iload 5, 2) := by decide +kernel
theorem d_Ref_longest_25 : decode b_Ref_longest 25 = .ok (.iconst 2, 1) := by decide +kernel
theorem d_Ref_longest_26 : decode b_Ref_longest 26 = .ok (.aload_n 0, 1) := by decide +kernel
theorem d_Ref_longest_27 : decode b_Ref_longest 27 = .ok (.getfield 7, 3) := by decide +kernel
theorem d_Ref_longest_30 : decode b_Ref_longest 30 = .ok (.iload_n 1, 1) := by decide +kernel
theorem d_Ref_longest_31 : decode b_Ref_longest 31 = .ok (.iaload, 1) := by decide +kernel
theorem d_Ref_longest_32 : decode b_Ref_longest 32 = .ok (.imul, 1) := by decide +kernel
theorem d_Ref_longest_33 : decode b_Ref_longest 33 = .ok (.if_icmp .ge 52, 3) := by decide +kernel
theorem d_Ref_longest_36 : decode b_Ref_longest 36 = .ok (.lload_n 3, 1) := by decide +kernel
theorem d_Ref_longest_37 : decode b_Ref_longest 37 = .ok (.lconst 1, 1) := by decide +kernel
theorem d_Ref_longest_38 : decode b_Ref_longest 38 = .ok (.land, 1) := by decide +kernel
theorem d_Ref_longest_39 : decode b_Ref_longest 39 = .ok (.lconst 1, 1) := by decide +kernel
theorem d_Ref_longest_40 : decode b_Ref_longest 40 = .ok (.lcmp, 1) := by decide +kernel
theorem d_Ref_longest_41 : decode b_Ref_longest 41 = .ok (.ifCond .ne 22, 3) := by decide +kernel
theorem d_Ref_longest_44 : decode b_Ref_longest 44 = .ok (.iload 5, 2) := by decide +kernel
theorem d_Ref_longest_46 : decode b_Ref_longest 46 = .ok (.aload_n 0, 1) := by decide +kernel
theorem d_Ref_longest_47 : decode b_Ref_longest 47 = .ok (.getfield 7, 3) := by decide +kernel
theorem d_Ref_longest_50 : decode b_Ref_longest 50 = .ok (.iload_n 1, 1) := by decide +kernel
theorem d_Ref_longest_51 : decode b_Ref_longest 51 = .ok (.iaload, 1) := by decide +kernel
theorem d_Ref_longest_52 : decode b_Ref_longest 52 = .ok (.if_icmp .ge 8, 3) := by decide +kernel
theorem d_Ref_longest_55 : decode b_Ref_longest 55 = .ok (.iload 5, 2) := by decide +kernel
theorem d_Ref_longest_57 : decode b_Ref_longest 57 = .ok (.goto 5, 3) := by decide +kernel
theorem d_Ref_longest_60 : decode b_Ref_longest 60 = .ok (.bipush (-5), 2) := by decide +kernel
theorem d_Ref_longest_62 : decode b_Ref_longest 62 = .ok (.istore_n 2, 1) := by decide +kernel
theorem d_Ref_longest_63 : decode b_Ref_longest 63 = .ok (.iload_n 2, 1) := by decide +kernel
theorem d_Ref_longest_64 : decode b_Ref_longest 64 = .ok (.bipush (-5), 2) := by decide +kernel
theorem d_Ref_longest_66 : decode b_Ref_longest 66 = .ok (.if_icmp .ne 6, 3) := by decide +kernel
theorem d_Ref_longest_69 : decode b_Ref_longest 69 = .ok (.bipush (-5), 2) := by decide +kernel
theorem d_Ref_longest_71 : decode b_Ref_longest 71 = .ok (.ireturn, 1) := by decide +kernel
theorem d_Ref_longest_72 : decode b_Ref_longest 72 = .ok (.aload_n 0, 1) := by decide +kernel
theorem d_Ref_longest_73 : decode b_Ref_longest 73 = .ok (.iload_n 1, 1) := by decide +kernel
theorem d_Ref_longest_74 : decode b_Ref_longest 74 = .ok (.lload_n 3, 1) := by decide +kernel
theorem d_Ref_longest_75 : decode b_Ref_longest 75 = .ok (.invokevirtual 217, 3) := by decide +kernel
theorem d_Ref_longest_78 : decode b_Ref_longest 78 = .ok (.lstore_n 3, 1) := by decide +kernel
theorem d_Ref_longest_79 : decode b_Ref_longest 79 = .ok (.iinc 5 1, 3) := by decide +kernel
theorem d_Ref_longest_82 : decode b_Ref_longest 82 = .ok (.goto (-59), 3) := by decide +kernel
theorem d_Ref_longest_85 : decode b_Ref_longest 85 = .ok (.iload_n 2, 1) := by decide +kernel
theorem d_Ref_longest_86 : decode b_Ref_longest 86 = .ok (.ireturn, 1) := by decide +kernel
theorem d_Ref_of_0 : decode b_Ref_of 0 = .ok (.iload_n 1, 1) := by decide +kernel
theorem d_Ref_of_1 : decode b_Ref_of 1 = .ok (.ifCond .ne 10, 3) := by decide +kernel
theorem d_Ref_of_4 : decode b_Ref_of 4 = .ok (.aload_n 0, 1) := by decide +kernel
theorem d_Ref_of_5 : decode b_Ref_of 5 = .ok (.getfield 97, 3) := by decide +kernel
theorem d_Ref_of_8 : decode b_Ref_of 8 = .ok (.goto 41, 3) := by decide +kernel
theorem d_Ref_of_11 : decode b_Ref_of 11 = .ok (.iload_n 1, 1) := by decide +kernel
theorem d_Ref_of_12 : decode b_Ref_of 12 = .ok (.iconst 1, 1) := by decide +kernel
theorem d_Ref_of_13 : decode b_Ref_of 13 = .ok (.if_icmp .ne 10, 3) := by decide +kernel
theorem d_Ref_of_16 : decode b_Ref_of 16 = .ok (.aload_n 0, 1) := by decide +kernel
theorem d_Ref_of_17 : decode b_Ref_of 17 = .ok (.getfield 104, 3) := by decide +kernel
theorem d_Ref_of_20 : decode b_Ref_of 20 = .ok (.goto 29, 3) := by decide +kernel
theorem d_Ref_of_23 : decode b_Ref_of 23 = .ok (.iload_n 1, 1) := by decide +kernel
theorem d_Ref_of_24 : decode b_Ref_of 24 = .ok (.iconst 2, 1) := by decide +kernel
theorem d_Ref_of_25 : decode b_Ref_of 25 = .ok (.if_icmp .ne 10, 3) := by decide +kernel
theorem d_Ref_of_28 : decode b_Ref_of 28 = .ok (.aload_n 0, 1) := by decide +kernel
theorem d_Ref_of_29 : decode b_Ref_of 29 = .ok (.getfield 110, 3) := by decide +kernel
theorem d_Ref_of_32 : decode b_Ref_of 32 = .ok (.goto 17, 3) := by decide +kernel
theorem d_Ref_of_35 : decode b_Ref_of 35 = .ok (.iload_n 1, 1) := by decide +kernel
theorem d_Ref_of_36 : decode b_Ref_of 36 = .ok (.iconst 3, 1) := by decide +kernel
theorem d_Ref_of_37 : decode b_Ref_of 37 = .ok (.if_icmp .ne 10, 3) := by decide +kernel
theorem d_Ref_of_40 : decode b_Ref_of 40 = .ok (.aload_n 0, 1) := by decide +kernel
theorem d_Ref_of_41 : decode b_Ref_of 41 = .ok (.getfield 93, 3) := by decide +kernel
theorem d_Ref_of_44 : decode b_Ref_of 44 = .ok (.goto 5, 3) := by decide +kernel
theorem d_Ref_of_47 : decode b_Ref_of 47 = .ok (.bipush (-2), 2) := by decide +kernel
theorem d_Ref_of_49 : decode b_Ref_of 49 = .ok (.ireturn, 1) := by decide +kernel
