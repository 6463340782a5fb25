/-! DECODE ROWS -/
theorem d_Pla_init_0 : decode b_Pla_init 0 = .ok (.aload_n 0, 1) := by decide +kernel
theorem d_Pla_init_1 : decode b_Pla_init 1 = .ok (.invokespecial 3, 3) := by decide +kernel
theorem d_Pla_init_4 : decode b_Pla_init 4 = .ok (.aload_n 0, 1) := by decide +kernel
theorem d_Pla_init_5 : decode b_Pla_init 5 = .ok (.sipush 200, 3) := by decide +kernel
theorem d_Pla_init_8 : decode b_Pla_init 8 = .ok (.newarray .long, 2) := by decide +kernel
theorem d_Pla_init_10 : decode b_Pla_init 10 = .ok (.putfield 9, 3) := by decide +kernel
theorem d_Pla_init_13 : decode b_Pla_init 13 = .ok (.aload_n 0, 1) := by decide +kernel
theorem d_Pla_init_14 : decode b_Pla_init 14 = .ok (.sipush 800, 3) := by decide +kernel
theorem d_Pla_init_17 : decode b_Pla_init 17 = .ok (.newarray .int, 2) := by decide +kernel
theorem d_Pla_init_19 : decode b_Pla_init 19 = .ok (.putfield 15, 3) := by decide +kernel
theorem d_Pla_init_22 : decode b_Pla_init 22 = .ok (.aload_n 0, 1) := by decide +kernel
theorem d_Pla_init_23 : decode b_Pla_init 23 = .ok (.sipush 200, 3) := by decide +kernel
theorem d_Pla_init_26 : decode b_Pla_init 26 = .ok (.newarray .boolean, 2) := by decide +kernel
theorem d_Pla_init_28 : decode b_Pla_init 28 = .ok (.putfield 19, 3) := by decide +kernel
theorem d_Pla_init_31 : decode b_Pla_init 31 = .ok (.aload_n 0, 1) := by decide +kernel
theorem d_Pla_init_32 : decode b_Pla_init 32 = .ok (.sipush 200, 3) := by decide +kernel
theorem d_Pla_init_35 : decode b_Pla_init 35 = .ok (.newarray .int, 2) := by decide +kernel
theorem d_Pla_init_37 : decode b_Pla_init 37 = .ok (.putfield 23, 3) := by decide +kernel
theorem d_Pla_init_40 : decode b_Pla_init 40 = .ok (.aload_n 0, 1) := by decide +kernel
theorem d_Pla_init_41 : decode b_Pla_init 41 = .ok (.sipush 200, 3) := by decide +kernel
theorem d_Pla_init_44 : decode b_Pla_init 44 = .ok (.newarray .int, 2) := by decide +kernel
theorem d_Pla_init_46 : decode b_Pla_init 46 = .ok (.putfield 26, 3) := by decide +kernel
theorem d_Pla_init_49 : decode b_Pla_init 49 = .ok (.aload_n 0, 1) := by decide +kernel
theorem d_Pla_init_50 : decode b_Pla_init 50 = .ok (.bipush 40, 2) := by decide +kernel
theorem d_Pla_init_52 : decode b_Pla_init 52 = .ok (.newarray .int, 2) := by decide +kernel
theorem d_Pla_init_54 : decode b_Pla_init 54 = .ok (.putfield 29, 3) := by decide +kernel
theorem d_Pla_init_57 : decode b_Pla_init 57 = .ok (.aload_n 0, 1) := by decide +kernel
theorem d_Pla_init_58 : decode b_Pla_init 58 = .ok (.iconst 0, 1) := by decide +kernel
theorem d_Pla_init_59 : decode b_Pla_init 59 = .ok (.putfield 32, 3) := by decide +kernel
theorem d_Pla_init_62 : decode b_Pla_init 62 = .ok (.aload_n 0, 1) := by decide +kernel
theorem d_Pla_init_63 : decode b_Pla_init 63 = .ok (.iload_n 1, 1) := by decide +kernel
theorem d_Pla_init_64 : decode b_Pla_init 64 = .ok (.putfield 36, 3) := by decide +kernel
theorem d_Pla_init_67 : decode b_Pla_init 67 = .ok (.return_, 1) := by decide +kernel
theorem d_Pla_explore_0 : decode b_Pla_explore 0 = .ok (.aload_n 0, 1) := by decide +kernel
theorem d_Pla_explore_1 : decode b_Pla_explore 1 = .ok (.getfield 9, 3) := by decide +kernel
theorem d_Pla_explore_4 : decode b_Pla_explore 4 = .ok (.iconst 0, 1) := by decide +kernel
theorem d_Pla_explore_5 : decode b_Pla_explore 5 = .ok (.aload_n 1, 1) := by decide +kernel
theorem d_Pla_explore_6 : decode b_Pla_explore 6 = .ok (.invokevirtual 39, 3) := by decide +kernel
theorem d_Pla_explore_9 : decode b_Pla_explore 9 = .ok (.lastore, 1) := by decide +kernel
theorem d_Pla_explore_10 : decode b_Pla_explore 10 = .ok (.aload_n 0, 1) := by decide +kernel
theorem d_Pla_explore_11 : decode b_Pla_explore 11 = .ok (.iconst 1, 1) := by decide +kernel
theorem d_Pla_explore_12 : decode b_Pla_explore 12 = .ok (.putfield 32, 3) := by decide +kernel
theorem d_Pla_explore_15 : decode b_Pla_explore 15 = .ok (.iconst 0, 1) := by decide +kernel
theorem d_Pla_explore_16 : decode b_Pla_explore 16 = .ok (.istore_n 2, 1) := by decide +kernel
theorem d_Pla_explore_17 : decode b_Pla_explore 17 = .ok (.iload_n 2, 1) := by decide +kernel
theorem d_Pla_explore_18 : decode b_Pla_explore 18 = .ok (.aload_n 0, 1) := by decide +kernel
theorem d_Pla_explore_19 : decode b_Pla_explore 19 = .ok (.getfield 32, 3) := by decide +kernel
theorem d_Pla_explore_22 : decode b_Pla_explore 22 = .ok (.if_icmp .ge 85, 3) := by decide +kernel
theorem d_Pla_explore_25 : decode b_Pla_explore 25 = .ok (.iload_n 2, 1) := by decide +kernel
theorem d_Pla_explore_26 : decode b_Pla_explore 26 = .ok (.sipush 200, 3) := by decide +kernel
theorem d_Pla_explore_29 : decode b_Pla_explore 29 = .ok (.if_icmp .ge 78, 3) := by decide +kernel
theorem d_Pla_explore_32 : decode b_Pla_explore 32 = .ok (.aload_n 0, 1) := by decide +kernel
theorem d_Pla_explore_33 : decode b_Pla_explore 33 = .ok (.getfield 19, 3) := by decide +kernel
theorem d_Pla_explore_36 : decode b_Pla_explore 36 = .ok (.iload_n 2, 1) := by decide +kernel
theorem d_Pla_explore_37 : decode b_Pla_explore 37 = .ok (.aload_n 1, 1) := by decide +kernel
theorem d_Pla_explore_38 : decode b_Pla_explore 38 = .ok (.aload_n 0, 1) := by decide +kernel
theorem d_Pla_explore_39 : decode b_Pla_explore 39 = .ok (.getfield 9, 3) := by decide +kernel
theorem d_Pla_explore_42 : decode b_Pla_explore 42 = .ok (.iload_n 2, 1) := by decide +kernel
theorem d_Pla_explore_43 : decode b_Pla_explore 43 = .ok (.laload, 1) := by decide +kernel
theorem d_Pla_explore_44 : decode b_Pla_explore 44 = .ok (.invokevirtual 45, 3) := by decide +kernel
theorem d_Pla_explore_47 : decode b_Pla_explore 47 = .ok (.bastore, 1) := by decide +kernel
theorem d_Pla_explore_48 : decode b_Pla_explore 48 = .ok (.iconst 0, 1) := by decide +kernel
theorem d_Pla_explore_49 : decode b_Pla_explore 49 = .ok (.istore_n 3, 1) := by decide +kernel
theorem d_Pla_explore_50 : decode b_Pla_explore 50 = .ok (.iload_n 3, 1) := by decide +kernel
theorem d_Pla_explore_51 : decode b_Pla_explore 51 = .ok (.aload_n 0, 1) := by decide +kernel
theorem d_Pla_explore_52 : decode b_Pla_explore 52 = .ok (.getfield 36, 3) := by decide +kernel
theorem d_Pla_explore_55 : decode b_Pla_explore 55 = .ok (.if_icmp .ge 46, 3) := by decide +kernel
theorem d_Pla_explore_58 : decode b_Pla_explore 58 = .ok (.aload_n 0, 1) := by decide +kernel
theorem d_Pla_explore_59 : decode b_Pla_explore 59 = .ok (.aload_n 1, 1) := by decide +kernel
theorem d_Pla_explore_60 : decode b_Pla_explore 60 = .ok (.aload_n 0, 1) := by decide +kernel
theorem d_Pla_explore_61 : decode b_Pla_explore 61 = .ok (.getfield 9, 3) := by decide +kernel
theorem d_Pla_explore_64 : decode b_Pla_explore 64 = .ok (.iload_n 2, 1) := by decide +kernel
theorem d_Pla_explore_65 : decode b_Pla_explore 65 = .ok (.laload, 1) := by decide +kernel
theorem d_Pla_explore_66 : decode b_Pla_explore 66 = .ok (.iload_n 3, 1) := by decide +kernel
theorem d_Pla_explore_67 : decode b_Pla_explore 67 = .ok (.invokevirtual 49, 3) := by decide +kernel
theorem d_Pla_explore_70 : decode b_Pla_explore 70 = .ok (.invokevirtual 53, 3) := by decide +kernel
theorem d_Pla_explore_73 : decode b_Pla_explore 73 = .ok (.istore 4, 2) := by decide +kernel
theorem d_Pla_explore_75 : decode b_Pla_explore 75 = .ok (.iload 4, 2) := by decide +kernel
theorem d_Pla_explore_77 : decode b_Pla_explore 77 = .ok (.iconst (-1), 1) := by decide +kernel
theorem d_Pla_explore_78 : decode b_Pla_explore 78 = .ok (.if_icmp .ne 5, 3) := by decide +kernel
theorem d_Pla_explore_81 : decode b_Pla_explore 81 = .ok (.iconst 0, 1) := by decide +kernel
theorem d_Pla_explore_82 : decode b_Pla_explore 82 = .ok (.ireturn, 1) := by decide +kernel
theorem d_Pla_explore_83 : decode b_Pla_explore 83 = .ok (.aload_n 0, 1) := by decide +kernel
theorem d_Pla_explore_84 : decode b_Pla_explore 84 = .ok (.getfield 15, 3) := by decide +kernel
theorem d_Pla_explore_87 : decode b_Pla_explore 87 = .ok (.iload_n 2, 1) := by decide +kernel
theorem d_Pla_explore_88 : decode b_Pla_explore 88 = .ok (.iconst 4, 1) := by decide +kernel
theorem d_Pla_explore_89 : decode b_Pla_explore 89 = .ok (.imul, 1) := by decide +kernel
theorem d_Pla_explore_90 : decode b_Pla_explore 90 = .ok (.iload_n 3, 1) := by decide +kernel
theorem d_Pla_explore_91 : decode b_Pla_explore 91 = .ok (.iadd, 1) := by decide +kernel
theorem d_Pla_explore_92 : decode b_Pla_explore 92 = .ok (.iload 4, 2) := by decide +kernel
theorem d_Pla_explore_94 : decode b_Pla_explore 94 = .ok (.iastore, 1) := by decide +kernel
theorem d_Pla_explore_95 : decode b_Pla_explore 95 = .ok (.iinc 3 1, 3) := by decide +kernel
theorem d_Pla_explore_98 : decode b_Pla_explore 98 = .ok (.goto (-48), 3) := by decide +kernel
theorem d_Pla_explore_101 : decode b_Pla_explore 101 = .ok (.iinc 2 1, 3) := by decide +kernel
theorem d_Pla_explore_104 : decode b_Pla_explore 104 = .ok (.goto (-87), 3) := by decide +kernel
theorem d_Pla_explore_107 : decode b_Pla_explore 107 = .ok (.iconst 1, 1) := by decide +kernel
theorem d_Pla_explore_108 : decode b_Pla_explore 108 = .ok (.ireturn, 1) := by decide +kernel
theorem d_Pla_numberOf_0 : decode b_Pla_numberOf 0 = .ok (.iconst 0, 1) := by decide +kernel
theorem d_Pla_numberOf_1 : decode b_Pla_numberOf 1 = .ok (.istore_n 3, 1) := by decide +kernel
theorem d_Pla_numberOf_2 : decode b_Pla_numberOf 2 = .ok (.iload_n 3, 1) := by decide +kernel
theorem d_Pla_numberOf_3 : decode b_Pla_numberOf 3 = .ok (.aload_n 0, 1) := by decide +kernel
theorem d_Pla_numberOf_4 : decode b_Pla_numberOf 4 = .ok (.getfield 32, 3) := by decide +kernel
theorem d_Pla_numberOf_7 : decode b_Pla_numberOf 7 = .ok (.if_icmp .ge 22, 3) := by decide +kernel
theorem d_Pla_numberOf_10 : decode b_Pla_numberOf 10 = .ok (.aload_n 0, 1) := by decide +kernel
theorem d_Pla_numberOf_11 : decode b_Pla_numberOf 11 = .ok (.getfield 9, 3) := by decide +kernel
theorem d_Pla_numberOf_14 : decode b_Pla_numberOf 14 = .ok (.iload_n 3, 1) := by decide +kernel
theorem d_Pla_numberOf_15 : decode b_Pla_numberOf 15 = .ok (.laload, 1) := by decide +kernel
theorem d_Pla_numberOf_16 : decode b_Pla_numberOf 16 = .ok (.lload_n 1, 1) := by decide +kernel
theorem d_Pla_numberOf_17 : decode b_Pla_numberOf 17 = .ok (.lcmp, 1) := by decide +kernel
theorem d_Pla_numberOf_18 : decode b_Pla_numberOf 18 = .ok (.ifCond .ne 5, 3) := by decide +kernel
theorem d_Pla_numberOf_21 : decode b_Pla_numberOf 21 = .ok (.iload_n 3, 1) := by decide +kernel
theorem d_Pla_numberOf_22 : decode b_Pla_numberOf 22 = .ok (.ireturn, 1) := by decide +kernel
theorem d_Pla_numberOf_23 : decode b_Pla_numberOf 23 = .ok (.iinc 3 1, 3) := by decide +kernel
theorem d_Pla_numberOf_26 : decode b_Pla_numberOf 26 = .ok (.goto (-24), 3) := by decide +kernel
theorem d_Pla_numberOf_29 : decode b_Pla_numberOf 29 = .ok (.aload_n 0, 1) := by decide +kernel
theorem d_Pla_numberOf_30 : decode b_Pla_numberOf 30 = .ok (.getfield 32, 3) := by decide +kernel
theorem d_Pla_numberOf_33 : decode b_Pla_numberOf 33 = .ok (.sipush 200, 3) := by decide +kernel
theorem d_Pla_numberOf_36 : decode b_Pla_numberOf 36 = .ok (.if_icmp .lt 5, 3) := by decide +kernel
theorem d_Pla_numberOf_39 : decode b_Pla_numberOf 39 = .ok (.iconst (-1), 1) := by decide +kernel
theorem d_Pla_numberOf_40 : decode b_Pla_numberOf 40 = .ok (.ireturn, 1) := by decide +kernel
theorem d_Pla_numberOf_41 : decode b_Pla_numberOf 41 = .ok (.aload_n 0, 1) := by decide +kernel
theorem d_Pla_numberOf_42 : decode b_Pla_numberOf 42 = .ok (.getfield 9, 3) := by decide +kernel
theorem d_Pla_numberOf_45 : decode b_Pla_numberOf 45 = .ok (.aload_n 0, 1) := by decide +kernel
theorem d_Pla_numberOf_46 : decode b_Pla_numberOf 46 = .ok (.getfield 32, 3) := by decide +kernel
theorem d_Pla_numberOf_49 : decode b_Pla_numberOf 49 = .ok (.lload_n 1, 1) := by decide +kernel
theorem d_Pla_numberOf_50 : decode b_Pla_numberOf 50 = .ok (.lastore, 1) := by decide +kernel
theorem d_Pla_numberOf_51 : decode b_Pla_numberOf 51 = .ok (.aload_n 0, 1) := by decide +kernel
theorem d_Pla_numberOf_52 : decode b_Pla_numberOf 52 = .ok (.dup, 1) := by decide +kernel
theorem d_Pla_numberOf_53 : decode b_Pla_numberOf 53 = .ok (.getfield 32, 3) := by decide +kernel
theorem d_Pla_numberOf_56 : decode b_Pla_numberOf 56 = .ok (.iconst 1, 1) := by decide +kernel
theorem d_Pla_numberOf_57 : decode b_Pla_numberOf 57 = .ok (.iadd, 1) := by decide +kernel
theorem d_Pla_numberOf_58 : decode b_Pla_numberOf 58 = .ok (.putfield 32, 3) := by decide +kernel
theorem d_Pla_numberOf_61 : decode b_Pla_numberOf 61 = .ok (.aload_n 0, 1) := by decide +kernel
theorem d_Pla_numberOf_62 : decode b_Pla_numberOf 62 = .ok (.getfield 32, 3) := by decide +kernel
theorem d_Pla_numberOf_65 : decode b_Pla_numberOf 65 = .ok (.iconst 1, 1) := by decide +kernel
theorem d_Pla_numberOf_66 : decode b_Pla_numberOf 66 = .ok (.isub, 1) := by decide +kernel
theorem d_Pla_numberOf_67 : decode b_Pla_numberOf 67 = .ok (.ireturn, 1) := by decide +kernel
theorem d_Pla_shrinkTo_0 : decode b_Pla_shrinkTo 0 = .ok (.aload_n 0, 1) := by decide +kernel
theorem d_Pla_shrinkTo_1 : decode b_Pla_shrinkTo 1 = .ok (.invokevirtual 68, 3) := by decide +kernel
theorem d_Pla_shrinkTo_4 : decode b_Pla_shrinkTo 4 = .ok (.iconst 0, 1) := by decide +kernel
theorem d_Pla_shrinkTo_5 : decode b_Pla_shrinkTo 5 = .ok (.istore_n 2, 1) := by decide +kernel
theorem d_Pla_shrinkTo_6 : decode b_Pla_shrinkTo 6 = .ok (.iconst 0, 1) := by decide +kernel
theorem d_Pla_shrinkTo_7 : decode b_Pla_shrinkTo 7 = .ok (.istore_n 3, 1) := by decide +kernel
theorem d_Pla_shrinkTo_8 : decode b_Pla_shrinkTo 8 = .ok (.iload_n 3, 1) := by decide +kernel
theorem d_Pla_shrinkTo_9 : decode b_Pla_shrinkTo 9 = .ok (.bipush 40, 2) := by decide +kernel
theorem d_Pla_shrinkTo_11 : decode b_Pla_shrinkTo 11 = .ok (.if_icmp .gt 35, 3) := by decide +kernel
theorem d_Pla_shrinkTo_14 : decode b_Pla_shrinkTo 14 = .ok (.aload_n 0, 1) := by decide +kernel
theorem d_Pla_shrinkTo_15 : decode b_Pla_shrinkTo 15 = .ok (.invokevirtual 71, 3) := by decide +kernel
theorem d_Pla_shrinkTo_18 : decode b_Pla_shrinkTo 18 = .ok (.istore 4, 2) := by decide +kernel
theorem d_Pla_shrinkTo_20 : decode b_Pla_shrinkTo 20 = .ok (.iload 4, 2) := by decide +kernel
theorem d_Pla_shrinkTo_22 : decode b_Pla_shrinkTo 22 = .ok (.iconst (-1), 1) := by decide +kernel
theorem d_Pla_shrinkTo_23 : decode b_Pla_shrinkTo 23 = .ok (.if_icmp .ne 5, 3) := by decide +kernel
theorem d_Pla_shrinkTo_26 : decode b_Pla_shrinkTo 26 = .ok (.iconst 0, 1) := by decide +kernel
theorem d_Pla_shrinkTo_27 : decode b_Pla_shrinkTo 27 = .ok (.ireturn, 1) := by decide +kernel
theorem d_Pla_shrinkTo_28 : decode b_Pla_shrinkTo 28 = .ok (.iload 4, 2) := by decide +kernel
theorem d_Pla_shrinkTo_30 : decode b_Pla_shrinkTo 30 = .ok (.iload_n 2, 1) := by decide +kernel
theorem d_Pla_shrinkTo_31 : decode b_Pla_shrinkTo 31 = .ok (.if_icmp .ne 6, 3) := by decide +kernel
theorem d_Pla_shrinkTo_34 : decode b_Pla_shrinkTo 34 = .ok (.goto 12, 3) := by decide +kernel
theorem d_Pla_shrinkTo_37 : decode b_Pla_shrinkTo 37 = .ok (.iload 4, 2) := by decide +kernel
theorem d_Pla_shrinkTo_39 : decode b_Pla_shrinkTo 39 = .ok (.istore_n 2, 1) := by decide +kernel
theorem d_Pla_shrinkTo_40 : decode b_Pla_shrinkTo 40 = .ok (.iinc 3 1, 3) := by decide +kernel
theorem d_Pla_shrinkTo_43 : decode b_Pla_shrinkTo 43 = .ok (.goto (-35), 3) := by decide +kernel
theorem d_Pla_shrinkTo_46 : decode b_Pla_shrinkTo 46 = .ok (.aload_n 0, 1) := by decide +kernel
theorem d_Pla_shrinkTo_47 : decode b_Pla_shrinkTo 47 = .ok (.aload_n 1, 1) := by decide +kernel
theorem d_Pla_shrinkTo_48 : decode b_Pla_shrinkTo 48 = .ok (.iload_n 2, 1) := by decide +kernel
theorem d_Pla_shrinkTo_49 : decode b_Pla_shrinkTo 49 = .ok (.invokevirtual 75, 3) := by decide +kernel
theorem d_Pla_shrinkTo_52 : decode b_Pla_shrinkTo 52 = .ok (.iconst 1, 1) := by decide +kernel
theorem d_Pla_shrinkTo_53 : decode b_Pla_shrinkTo 53 = .ok (.ireturn, 1) := by decide +kernel
theorem d_Pla_splitByEnd_0 : decode b_Pla_splitByEnd 0 = .ok (.iconst 0, 1) := by decide +kernel
theorem d_Pla_splitByEnd_1 : decode b_Pla_splitByEnd 1 = .ok (.istore_n 1, 1) := by decide +kernel
theorem d_Pla_splitByEnd_2 : decode b_Pla_splitByEnd 2 = .ok (.iload_n 1, 1) := by decide +kernel
theorem d_Pla_splitByEnd_3 : decode b_Pla_splitByEnd 3 = .ok (.aload_n 0, 1) := by decide +kernel
theorem d_Pla_splitByEnd_4 : decode b_Pla_splitByEnd 4 = .ok (.getfield 32, 3) := by decide +kernel
theorem d_Pla_splitByEnd_7 : decode b_Pla_splitByEnd 7 = .ok (.if_icmp .ge 29, 3) := by decide +kernel
theorem d_Pla_splitByEnd_10 : decode b_Pla_splitByEnd 10 = .ok (.aload_n 0, 1) := by decide +kernel
theorem d_Pla_splitByEnd_11 : decode b_Pla_splitByEnd 11 = .ok (.getfield 23, 3) := by decide +kernel
theorem d_Pla_splitByEnd_14 : decode b_Pla_splitByEnd 14 = .ok (.iload_n 1, 1) := by decide +kernel
theorem d_Pla_splitByEnd_15 : decode b_Pla_splitByEnd 15 = .ok (.aload_n 0, 1) := by decide +kernel
theorem d_Pla_splitByEnd_16 : decode b_Pla_splitByEnd 16 = .ok (.getfield 19, 3) := by decide +kernel
theorem d_Pla_splitByEnd_19 : decode b_Pla_splitByEnd 19 = .ok (.iload_n 1, 1) := by decide +kernel
theorem d_Pla_splitByEnd_20 : decode b_Pla_splitByEnd 20 = .ok (.baload, 1) := by decide +kernel
theorem d_Pla_splitByEnd_21 : decode b_Pla_splitByEnd 21 = .ok (.ifCond .eq 7, 3) := by decide +kernel
theorem d_Pla_splitByEnd_24 : decode b_Pla_splitByEnd 24 = .ok (.iconst 1, 1) := by decide +kernel
theorem d_Pla_splitByEnd_25 : decode b_Pla_splitByEnd 25 = .ok (.goto 4, 3) := by decide +kernel
theorem d_Pla_splitByEnd_28 : decode b_Pla_splitByEnd 28 = .ok (.iconst 0, 1) := by decide +kernel
theorem d_Pla_splitByEnd_29 : decode b_Pla_splitByEnd 29 = .ok (.iastore, 1) := by decide +kernel
theorem d_Pla_splitByEnd_30 : decode b_Pla_splitByEnd 30 = .ok (.iinc 1 1, 3) := by decide +kernel
theorem d_Pla_splitByEnd_33 : decode b_Pla_splitByEnd 33 = .ok (.goto (-31), 3) := by decide +kernel
theorem d_Pla_splitByEnd_36 : decode b_Pla_splitByEnd 36 = .ok (.return_, 1) := by decide +kernel
theorem d_Pla_splitByLeads_0 : decode b_Pla_splitByLeads 0 = .ok (.iconst 0, 1) := by decide +kernel
theorem d_Pla_splitByLeads_1 : decode b_Pla_splitByLeads 1 = .ok (.istore_n 1, 1) := by decide +kernel
theorem d_Pla_splitByLeads_2 : decode b_Pla_splitByLeads 2 = .ok (.iconst 0, 1) := by decide +kernel
theorem d_Pla_splitByLeads_3 : decode b_Pla_splitByLeads 3 = .ok (.istore_n 2, 1) := by decide +kernel
theorem d_Pla_splitByLeads_4 : decode b_Pla_splitByLeads 4 = .ok (.iload_n 2, 1) := by decide +kernel
theorem d_Pla_splitByLeads_5 : decode b_Pla_splitByLeads 5 = .ok (.aload_n 0, 1) := by decide +kernel
theorem d_Pla_splitByLeads_6 : decode b_Pla_splitByLeads 6 = .ok (.getfield 32, 3) := by decide +kernel
theorem d_Pla_splitByLeads_9 : decode b_Pla_splitByLeads 9 = .ok (.if_icmp .ge 75, 3) := by decide +kernel
theorem d_Pla_splitByLeads_12 : decode b_Pla_splitByLeads 12 = .ok (.aload_n 0, 1) := by decide +kernel
theorem d_Pla_splitByLeads_13 : decode b_Pla_splitByLeads 13 = .ok (.iload_n 2, 1) := by decide +kernel
theorem d_Pla_splitByLeads_14 : decode b_Pla_splitByLeads 14 = .ok (.invokevirtual 79, 3) := by decide +kernel
theorem d_Pla_splitByLeads_17 : decode b_Pla_splitByLeads 17 = .ok (.istore_n 3, 1) := by decide +kernel
theorem d_Pla_splitByLeads_18 : decode b_Pla_splitByLeads 18 = .ok (.iconst 0, 1) := by decide +kernel
theorem d_Pla_splitByLeads_19 : decode b_Pla_splitByLeads 19 = .ok (.istore 4, 2) := by decide +kernel
theorem d_Pla_splitByLeads_21 : decode b_Pla_splitByLeads 21 = .ok (.iload 4, 2) := by decide +kernel
theorem d_Pla_splitByLeads_23 : decode b_Pla_splitByLeads 23 = .ok (.iload_n 1, 1) := by decide +kernel
theorem d_Pla_splitByLeads_24 : decode b_Pla_splitByLeads 24 = .ok (.if_icmp .ge 20, 3) := by decide +kernel
theorem d_Pla_splitByLeads_27 : decode b_Pla_splitByLeads 27 = .ok (.aload_n 0, 1) := by decide +kernel
theorem d_Pla_splitByLeads_28 : decode b_Pla_splitByLeads 28 = .ok (.getfield 29, 3) := by decide +kernel
theorem d_Pla_splitByLeads_31 : decode b_Pla_splitByLeads 31 = .ok (.iload 4, 2) := by decide +kernel
theorem d_Pla_splitByLeads_33 : decode b_Pla_splitByLeads 33 = .ok (.iaload, 1) := by decide +kernel
theorem d_Pla_splitByLeads_34 : decode b_Pla_splitByLeads 34 = .ok (.iload_n 3, 1) := by decide +kernel
theorem d_Pla_splitByLeads_35 : decode b_Pla_splitByLeads 35 = .ok (.if_icmp .eq 9, 3) := by decide +kernel
theorem d_Pla_splitByLeads_38 : decode b_Pla_splitByLeads 38 = .ok (.iinc 4 1, 3) := by decide +kernel
theorem d_Pla_splitByLeads_41 : decode b_Pla_splitByLeads 41 = .ok (.goto (-20), 3) := by decide +kernel
theorem d_Pla_splitByLeads_44 : decode b_Pla_splitByLeads 44 = .ok (.iload 4, 2) := by decide +kernel
theorem d_Pla_splitByLeads_46 : decode b_Pla_splitByLeads 46 = .ok (.bipush 40, 2) := by decide +kernel
theorem d_Pla_splitByLeads_48 : decode b_Pla_splitByLeads 48 = .ok (.if_icmp .lt 5, 3) := by decide +kernel
theorem d_Pla_splitByLeads_51 : decode b_Pla_splitByLeads 51 = .ok (.iconst (-1), 1) := by decide +kernel
theorem d_Pla_splitByLeads_52 : decode b_Pla_splitByLeads 52 = .ok (.ireturn, 1) := by decide +kernel
theorem d_Pla_splitByLeads_53 : decode b_Pla_splitByLeads 53 = .ok (.aload_n 0, 1) := by decide +kernel
theorem d_Pla_splitByLeads_54 : decode b_Pla_splitByLeads 54 = .ok (.getfield 29, 3) := by decide +kernel
theorem d_Pla_splitByLeads_57 : decode b_Pla_splitByLeads 57 = .ok (.iload 4, 2) := by decide +kernel
theorem d_Pla_splitByLeads_59 : decode b_Pla_splitByLeads 59 = .ok (.iload_n 3, 1) := by decide +kernel
theorem d_Pla_splitByLeads_60 : decode b_Pla_splitByLeads 60 = .ok (.iastore, 1) := by decide +kernel
theorem d_Pla_splitByLeads_61 : decode b_Pla_splitByLeads 61 = .ok (.aload_n 0, 1) := by decide +kernel
theorem d_Pla_splitByLeads_62 : decode b_Pla_splitByLeads 62 = .ok (.getfield 26, 3) := by decide +kernel
theorem d_Pla_splitByLeads_65 : decode b_Pla_splitByLeads 65 = .ok (.iload_n 2, 1) := by decide +kernel
theorem d_Pla_splitByLeads_66 : decode b_Pla_splitByLeads 66 = .ok (.iload 4, 2) := by decide +kernel
theorem d_Pla_splitByLeads_68 : decode b_Pla_splitByLeads 68 = .ok (.iastore, 1) := by decide +kernel
theorem d_Pla_splitByLeads_69 : decode b_Pla_splitByLeads 69 = .ok (.iload_n 1, 1) := by decide +kernel
theorem d_Pla_splitByLeads_70 : decode b_Pla_splitByLeads 70 = .ok (.iload 4, 2) := by decide +kernel
theorem d_Pla_splitByLeads_72 : decode b_Pla_splitByLeads 72 = .ok (.iconst 1, 1) := by decide +kernel
theorem d_Pla_splitByLeads_73 : decode b_Pla_splitByLeads 73 = .ok (.iadd, 1) := by decide +kernel
theorem d_Pla_splitByLeads_74 : decode b_Pla_splitByLeads 74 = .ok (.invokestatic 83, 3) := by decide +kernel
theorem d_Pla_splitByLeads_77 : decode b_Pla_splitByLeads 77 = .ok (.istore_n 1, 1) := by decide +kernel
theorem d_Pla_splitByLeads_78 : decode b_Pla_splitByLeads 78 = .ok (.iinc 2 1, 3) := by decide +kernel
theorem d_Pla_splitByLeads_81 : decode b_Pla_splitByLeads 81 = .ok (.goto (-77), 3) := by decide +kernel
theorem d_Pla_splitByLeads_84 : decode b_Pla_splitByLeads 84 = .ok (.aload_n 0, 1) := by decide +kernel
theorem d_Pla_splitByLeads_85 : decode b_Pla_splitByLeads 85 = .ok (.getfield 26, 3) := by decide +kernel
theorem d_Pla_splitByLeads_88 : decode b_Pla_splitByLeads 88 = .ok (.iconst 0, 1) := by decide +kernel
theorem d_Pla_splitByLeads_89 : decode b_Pla_splitByLeads 89 = .ok (.aload_n 0, 1) := by decide +kernel
theorem d_Pla_splitByLeads_90 : decode b_Pla_splitByLeads 90 = .ok (.getfield 23, 3) := by decide +kernel
theorem d_Pla_splitByLeads_93 : decode b_Pla_splitByLeads 93 = .ok (.iconst 0, 1) := by decide +kernel
theorem d_Pla_splitByLeads_94 : decode b_Pla_splitByLeads 94 = .ok (.aload_n 0, 1) := by decide +kernel
theorem d_Pla_splitByLeads_95 : decode b_Pla_splitByLeads 95 = .ok (.getfield 32, 3) := by decide +kernel
theorem d_Pla_splitByLeads_98 : decode b_Pla_splitByLeads 98 = .ok (.invokestatic 88, 3) := by decide +kernel
theorem d_Pla_splitByLeads_101 : decode b_Pla_splitByLeads 101 = .ok (.iload_n 1, 1) := by decide +kernel
theorem d_Pla_splitByLeads_102 : decode b_Pla_splitByLeads 102 = .ok (.ireturn, 1) := by decide +kernel
theorem d_Pla_markOf_0 : decode b_Pla_markOf 0 = .ok (.aload_n 0, 1) := by decide +kernel
theorem d_Pla_markOf_1 : decode b_Pla_markOf 1 = .ok (.getfield 23, 3) := by decide +kernel
theorem d_Pla_markOf_4 : decode b_Pla_markOf 4 = .ok (.iload_n 1, 1) := by decide +kernel
theorem d_Pla_markOf_5 : decode b_Pla_markOf 5 = .ok (.iaload, 1) := by decide +kernel
theorem d_Pla_markOf_6 : decode b_Pla_markOf 6 = .ok (.istore_n 2, 1) := by decide +kernel
theorem d_Pla_markOf_7 : decode b_Pla_markOf 7 = .ok (.iconst 0, 1) := by decide +kernel
theorem d_Pla_markOf_8 : decode b_Pla_markOf 8 = .ok (.istore_n 3, 1) := by decide +kernel
theorem d_Pla_markOf_9 : decode b_Pla_markOf 9 = .ok (.iload_n 3, 1) := by decide +kernel
theorem d_Pla_markOf_10 : decode b_Pla_markOf 10 = .ok (.aload_n 0, 1) := by decide +kernel
theorem d_Pla_markOf_11 : decode b_Pla_markOf 11 = .ok (.getfield 36, 3) := by decide +kernel
theorem d_Pla_markOf_14 : decode b_Pla_markOf 14 = .ok (.if_icmp .ge 21, 3) := by decide +kernel
theorem d_Pla_markOf_17 : decode b_Pla_markOf 17 = .ok (.iload_n 2, 1) := by decide +kernel
theorem d_Pla_markOf_18 : decode b_Pla_markOf 18 = .ok (.bipush 6, 2) := by decide +kernel
theorem d_Pla_markOf_20 : decode b_Pla_markOf 20 = .ok (.ishl, 1) := by decide +kernel
theorem d_Pla_markOf_21 : decode b_Pla_markOf 21 = .ok (.aload_n 0, 1) := by decide +kernel
theorem d_Pla_markOf_22 : decode b_Pla_markOf 22 = .ok (.iload_n 1, 1) := by decide +kernel
theorem d_Pla_markOf_23 : decode b_Pla_markOf 23 = .ok (.iload_n 3, 1) := by decide +kernel
theorem d_Pla_markOf_24 : decode b_Pla_markOf 24 = .ok (.invokevirtual 94, 3) := by decide +kernel
theorem d_Pla_markOf_27 : decode b_Pla_markOf 27 = .ok (.ior, 1) := by decide +kernel
theorem d_Pla_markOf_28 : decode b_Pla_markOf 28 = .ok (.istore_n 2, 1) := by decide +kernel
theorem d_Pla_markOf_29 : decode b_Pla_markOf 29 = .ok (.iinc 3 1, 3) := by decide +kernel
theorem d_Pla_markOf_32 : decode b_Pla_markOf 32 = .ok (.goto (-23), 3) := by decide +kernel
theorem d_Pla_markOf_35 : decode b_Pla_markOf 35 = .ok (.iload_n 2, 1) := by decide +kernel
theorem d_Pla_markOf_36 : decode b_Pla_markOf 36 = .ok (.ireturn, 1) := by decide +kernel
theorem d_Pla_kindAfter_0 : decode b_Pla_kindAfter 0 = .ok (.aload_n 0, 1) := by decide +kernel
theorem d_Pla_kindAfter_1 : decode b_Pla_kindAfter 1 = .ok (.getfield 15, 3) := by decide +kernel
theorem d_Pla_kindAfter_4 : decode b_Pla_kindAfter 4 = .ok (.iload_n 1, 1) := by decide +kernel
theorem d_Pla_kindAfter_5 : decode b_Pla_kindAfter 5 = .ok (.iconst 4, 1) := by decide +kernel
theorem d_Pla_kindAfter_6 : decode b_Pla_kindAfter 6 = .ok (.imul, 1) := by decide +kernel
theorem d_Pla_kindAfter_7 : decode b_Pla_kindAfter 7 = .ok (.iload_n 2, 1) := by decide +kernel
theorem d_Pla_kindAfter_8 : decode b_Pla_kindAfter 8 = .ok (.iadd, 1) := by decide +kernel
theorem d_Pla_kindAfter_9 : decode b_Pla_kindAfter 9 = .ok (.iaload, 1) := by decide +kernel
theorem d_Pla_kindAfter_10 : decode b_Pla_kindAfter 10 = .ok (.istore_n 3, 1) := by decide +kernel
theorem d_Pla_kindAfter_11 : decode b_Pla_kindAfter 11 = .ok (.iload_n 3, 1) := by decide +kernel
theorem d_Pla_kindAfter_12 : decode b_Pla_kindAfter 12 = .ok (.ifCond .lt 20, 3) := by decide +kernel
theorem d_Pla_kindAfter_15 : decode b_Pla_kindAfter 15 = .ok (.iload_n 3, 1) := by decide +kernel
theorem d_Pla_kindAfter_16 : decode b_Pla_kindAfter 16 = .ok (.aload_n 0, 1) := by decide +kernel
theorem d_Pla_kindAfter_17 : decode b_Pla_kindAfter 17 = .ok (.getfield 32, 3) := by decide +kernel
theorem d_Pla_kindAfter_20 : decode b_Pla_kindAfter 20 = .ok (.if_icmp .ge 12, 3) := by decide +kernel
theorem d_Pla_kindAfter_23 : decode b_Pla_kindAfter 23 = .ok (.aload_n 0, 1) := by decide +kernel
theorem d_Pla_kindAfter_24 : decode b_Pla_kindAfter 24 = .ok (.getfield 23, 3) := by decide +kernel
theorem d_Pla_kindAfter_27 : decode b_Pla_kindAfter 27 = .ok (.iload_n 3, 1) := by decide +kernel
theorem d_Pla_kindAfter_28 : decode b_Pla_kindAfter 28 = .ok (.iaload, 1) := by decide +kernel
theorem d_Pla_kindAfter_29 : decode b_Pla_kindAfter 29 = .ok (.goto 4, 3) := by decide +kernel
theorem d_Pla_kindAfter_32 : decode b_Pla_kindAfter 32 = .ok (.iconst 0, 1) := by decide +kernel
theorem d_Pla_kindAfter_33 : decode b_Pla_kindAfter 33 = .ok (.ireturn, 1) := by decide +kernel
theorem d_Pla_layDown_0 : decode b_Pla_layDown 0 = .ok (.aload_n 1, 1) := by decide +kernel
theorem d_Pla_layDown_1 : decode b_Pla_layDown 1 = .ok (.iload_n 2, 1) := by decide +kernel
theorem d_Pla_layDown_2 : decode b_Pla_layDown 2 = .ok (.invokevirtual 97, 3) := by decide +kernel
theorem d_Pla_layDown_5 : decode b_Pla_layDown 5 = .ok (.lconst 0, 1) := by decide +kernel
theorem d_Pla_layDown_6 : decode b_Pla_layDown 6 = .ok (.lstore_n 3, 1) := by decide +kernel
theorem d_Pla_layDown_7 : decode b_Pla_layDown 7 = .ok (.iconst 0, 1) := by decide +kernel
theorem d_Pla_layDown_8 : decode b_Pla_layDown 8 = .ok (.istore 5, 2) := by decide +kernel
theorem d_Pla_layDown_10 : decode b_Pla_layDown 10 = .ok (.iconst 0, 1) := by decide +kernel
theorem d_Pla_layDown_11 : decode b_Pla_layDown 11 = .ok (.istore 6, 2) := by decide +kernel
theorem d_Pla_layDown_13 : decode b_Pla_layDown 13 = .ok (.iload 6, 2) := by decide +kernel
theorem d_Pla_layDown_15 : decode b_Pla_layDown 15 = .ok (.aload_n 0, 1) := by decide +kernel
theorem d_Pla_layDown_16 : decode b_Pla_layDown 16 = .ok (.getfield 32, 3) := by decide +kernel
theorem d_Pla_layDown_19 : decode b_Pla_layDown 19 = .ok (.if_icmp .ge 79, 3) := by decide +kernel
theorem d_Pla_layDown_22 : decode b_Pla_layDown 22 = .ok (.aload_n 0, 1) := by decide +kernel
theorem d_Pla_layDown_23 : decode b_Pla_layDown 23 = .ok (.getfield 23, 3) := by decide +kernel
theorem d_Pla_layDown_26 : decode b_Pla_layDown 26 = .ok (.iload 6, 2) := by decide +kernel
theorem d_Pla_layDown_28 : decode b_Pla_layDown 28 = .ok (.iaload, 1) := by decide +kernel
theorem d_Pla_layDown_29 : decode b_Pla_layDown 29 = .ok (.iload 5, 2) := by decide +kernel
theorem d_Pla_layDown_31 : decode b_Pla_layDown 31 = .ok (.if_icmp .ne 61, 3) := by decide +kernel
theorem d_Pla_layDown_34 : decode b_Pla_layDown 34 = .ok (.lload_n 3, 1) := by decide +kernel
theorem d_Pla_layDown_35 : decode b_Pla_layDown 35 = .ok (.aload_n 0, 1) := by decide +kernel
theorem d_Pla_layDown_36 : decode b_Pla_layDown 36 = .ok (.getfield 19, 3) := by decide +kernel
theorem d_Pla_layDown_39 : decode b_Pla_layDown 39 = .ok (.iload 6, 2) := by decide +kernel
theorem d_Pla_layDown_41 : decode b_Pla_layDown 41 = .ok (.baload, 1) := by decide +kernel
theorem d_Pla_layDown_42 : decode b_Pla_layDown 42 = .ok (.ifCond .eq 10, 3) := by decide +kernel
theorem d_Pla_layDown_45 : decode b_Pla_layDown 45 = .ok (.lconst 1, 1) := by decide +kernel
theorem d_Pla_layDown_46 : decode b_Pla_layDown 46 = .ok (.iload 5, 2) := by decide +kernel
theorem d_Pla_layDown_48 : decode b_Pla_layDown 48 = .ok (.lshl, 1) := by decide +kernel
theorem d_Pla_layDown_49 : decode b_Pla_layDown 49 = .ok (.goto 4, 3) := by decide +kernel
theorem d_Pla_layDown_52 : decode b_Pla_layDown 52 = .ok (.lconst 0, 1) := by decide +kernel
theorem d_Pla_layDown_53 : decode b_Pla_layDown 53 = .ok (.lor, 1) := by decide +kernel
theorem d_Pla_layDown_54 : decode b_Pla_layDown 54 = .ok (.lstore_n 3, 1) := by decide +kernel
theorem d_Pla_layDown_55 : decode b_Pla_layDown 55 = .ok (.iconst 0, 1) := by decide +kernel
theorem d_Pla_layDown_56 : decode b_Pla_layDown 56 = .ok (.istore 7, 2) := by decide +kernel
theorem d_Pla_layDown_58 : decode b_Pla_layDown 58 = .ok (.iload 7, 2) := by decide +kernel
theorem d_Pla_layDown_60 : decode b_Pla_layDown 60 = .ok (.aload_n 0, 1) := by decide +kernel
theorem d_Pla_layDown_61 : decode b_Pla_layDown 61 = .ok (.getfield 36, 3) := by decide +kernel
theorem d_Pla_layDown_64 : decode b_Pla_layDown 64 = .ok (.if_icmp .ge 25, 3) := by decide +kernel
theorem d_Pla_layDown_67 : decode b_Pla_layDown 67 = .ok (.aload_n 1, 1) := by decide +kernel
theorem d_Pla_layDown_68 : decode b_Pla_layDown 68 = .ok (.iload 5, 2) := by decide +kernel
theorem d_Pla_layDown_70 : decode b_Pla_layDown 70 = .ok (.iload 7, 2) := by decide +kernel
theorem d_Pla_layDown_72 : decode b_Pla_layDown 72 = .ok (.aload_n 0, 1) := by decide +kernel
theorem d_Pla_layDown_73 : decode b_Pla_layDown 73 = .ok (.iload 6, 2) := by decide +kernel
theorem d_Pla_layDown_75 : decode b_Pla_layDown 75 = .ok (.iload 7, 2) := by decide +kernel
theorem d_Pla_layDown_77 : decode b_Pla_layDown 77 = .ok (.invokevirtual 94, 3) := by decide +kernel
theorem d_Pla_layDown_80 : decode b_Pla_layDown 80 = .ok (.invokevirtual 101, 3) := by decide +kernel
theorem d_Pla_layDown_83 : decode b_Pla_layDown 83 = .ok (.iinc 7 1, 3) := by decide +kernel
theorem d_Pla_layDown_86 : decode b_Pla_layDown 86 = .ok (.goto (-28), 3) := by decide +kernel
theorem d_Pla_layDown_89 : decode b_Pla_layDown 89 = .ok (.iinc 5 1, 3) := by decide +kernel
theorem d_Pla_layDown_92 : decode b_Pla_layDown 92 = .ok (.iinc 6 1, 3) := by decide +kernel
theorem d_Pla_layDown_95 : decode b_Pla_layDown 95 = .ok (.goto (-82), 3) := by decide +kernel
theorem d_Pla_layDown_98 : decode b_Pla_layDown 98 = .ok (.aload_n 1, 1) := by decide +kernel
theorem d_Pla_layDown_99 : decode b_Pla_layDown 99 = .ok (.lload_n 3, 1) := by decide +kernel
theorem d_Pla_layDown_100 : decode b_Pla_layDown 100 = .ok (.invokevirtual 105, 3) := by decide +kernel
theorem d_Pla_layDown_103 : decode b_Pla_layDown 103 = .ok (.return_, 1) := by decide +kernel
theorem d_Pla_take_0 : decode b_Pla_take 0 = .ok (.aload_n 0, 1) := by decide +kernel
theorem d_Pla_take_1 : decode b_Pla_take 1 = .ok (.aload_n 1, 1) := by decide +kernel
theorem d_Pla_take_2 : decode b_Pla_take 2 = .ok (.getfield 57, 3) := by decide +kernel
theorem d_Pla_take_5 : decode b_Pla_take 5 = .ok (.putfield 32, 3) := by decide +kernel
theorem d_Pla_take_8 : decode b_Pla_take 8 = .ok (.iconst 0, 1) := by decide +kernel
theorem d_Pla_take_9 : decode b_Pla_take 9 = .ok (.istore 4, 2) := by decide +kernel
theorem d_Pla_take_11 : decode b_Pla_take 11 = .ok (.iload 4, 2) := by decide +kernel
theorem d_Pla_take_13 : decode b_Pla_take 13 = .ok (.aload_n 0, 1) := by decide +kernel
theorem d_Pla_take_14 : decode b_Pla_take 14 = .ok (.getfield 32, 3) := by decide +kernel
theorem d_Pla_take_17 : decode b_Pla_take 17 = .ok (.if_icmp .ge 60, 3) := by decide +kernel
theorem d_Pla_take_20 : decode b_Pla_take 20 = .ok (.aload_n 0, 1) := by decide +kernel
theorem d_Pla_take_21 : decode b_Pla_take 21 = .ok (.getfield 19, 3) := by decide +kernel
theorem d_Pla_take_24 : decode b_Pla_take 24 = .ok (.iload 4, 2) := by decide +kernel
theorem d_Pla_take_26 : decode b_Pla_take 26 = .ok (.lload_n 2, 1) := by decide +kernel
theorem d_Pla_take_27 : decode b_Pla_take 27 = .ok (.iload 4, 2) := by decide +kernel
theorem d_Pla_take_29 : decode b_Pla_take 29 = .ok (.invokestatic 60, 3) := by decide +kernel
theorem d_Pla_take_32 : decode b_Pla_take 32 = .ok (.bastore, 1) := by decide +kernel
theorem d_Pla_take_33 : decode b_Pla_take 33 = .ok (.iconst 0, 1) := by decide +kernel
theorem d_Pla_take_34 : decode b_Pla_take 34 = .ok (.istore 5, 2) := by decide +kernel
theorem d_Pla_take_36 : decode b_Pla_take 36 = .ok (.iload 5, 2) := by decide +kernel
theorem d_Pla_take_38 : decode b_Pla_take 38 = .ok (.aload_n 0, 1) := by decide +kernel
theorem d_Pla_take_39 : decode b_Pla_take 39 = .ok (.getfield 36, 3) := by decide +kernel
theorem d_Pla_take_42 : decode b_Pla_take 42 = .ok (.if_icmp .ge 29, 3) := by decide +kernel
theorem d_Pla_take_45 : decode b_Pla_take 45 = .ok (.aload_n 0, 1) := by decide +kernel
theorem d_Pla_take_46 : decode b_Pla_take 46 = .ok (.getfield 15, 3) := by decide +kernel
theorem d_Pla_take_49 : decode b_Pla_take 49 = .ok (.iload 4, 2) := by decide +kernel
theorem d_Pla_take_51 : decode b_Pla_take 51 = .ok (.iconst 4, 1) := by decide +kernel
theorem d_Pla_take_52 : decode b_Pla_take 52 = .ok (.imul, 1) := by decide +kernel
theorem d_Pla_take_53 : decode b_Pla_take 53 = .ok (.iload 5, 2) := by decide +kernel
theorem d_Pla_take_55 : decode b_Pla_take 55 = .ok (.iadd, 1) := by decide +kernel
theorem d_Pla_take_56 : decode b_Pla_take 56 = .ok (.aload_n 1, 1) := by decide +kernel
theorem d_Pla_take_57 : decode b_Pla_take 57 = .ok (.iload 4, 2) := by decide +kernel
theorem d_Pla_take_59 : decode b_Pla_take 59 = .ok (.iload 5, 2) := by decide +kernel
theorem d_Pla_take_61 : decode b_Pla_take 61 = .ok (.invokevirtual 64, 3) := by decide +kernel
theorem d_Pla_take_64 : decode b_Pla_take 64 = .ok (.iastore, 1) := by decide +kernel
theorem d_Pla_take_65 : decode b_Pla_take 65 = .ok (.iinc 5 1, 3) := by decide +kernel
theorem d_Pla_take_68 : decode b_Pla_take 68 = .ok (.goto (-32), 3) := by decide +kernel
theorem d_Pla_take_71 : decode b_Pla_take 71 = .ok (.iinc 4 1, 3) := by decide +kernel
theorem d_Pla_take_74 : decode b_Pla_take 74 = .ok (.goto (-63), 3) := by decide +kernel
theorem d_Pla_take_77 : decode b_Pla_take 77 = .ok (.return_, 1) := by decide +kernel
theorem d_Set_init_0 : decode b_Set_init 0 = .ok (.aload_n 0, 1) := by decide +kernel
theorem d_Set_init_1 : decode b_Set_init 1 = .ok (.invokespecial 3, 3) := by decide +kernel
theorem d_Set_init_4 : decode b_Set_init 4 = .ok (.aload_n 0, 1) := by decide +kernel
theorem d_Set_init_5 : decode b_Set_init 5 = .ok (.sipush 164, 3) := by decide +kernel
theorem d_Set_init_8 : decode b_Set_init 8 = .ok (.newarray .long, 2) := by decide +kernel
theorem d_Set_init_10 : decode b_Set_init 10 = .ok (.putfield 9, 3) := by decide +kernel
theorem d_Set_init_13 : decode b_Set_init 13 = .ok (.aload_n 0, 1) := by decide +kernel
theorem d_Set_init_14 : decode b_Set_init 14 = .ok (.bipush 40, 2) := by decide +kernel
theorem d_Set_init_16 : decode b_Set_init 16 = .ok (.newarray .long, 2) := by decide +kernel
theorem d_Set_init_18 : decode b_Set_init 18 = .ok (.putfield 15, 3) := by decide +kernel
theorem d_Set_init_21 : decode b_Set_init 21 = .ok (.aload_n 0, 1) := by decide +kernel
theorem d_Set_init_22 : decode b_Set_init 22 = .ok (.bipush 40, 2) := by decide +kernel
theorem d_Set_init_24 : decode b_Set_init 24 = .ok (.newarray .long, 2) := by decide +kernel
theorem d_Set_init_26 : decode b_Set_init 26 = .ok (.putfield 18, 3) := by decide +kernel
theorem d_Set_init_29 : decode b_Set_init 29 = .ok (.aload_n 0, 1) := by decide +kernel
theorem d_Set_init_30 : decode b_Set_init 30 = .ok (.lconst 0, 1) := by decide +kernel
theorem d_Set_init_31 : decode b_Set_init 31 = .ok (.putfield 21, 3) := by decide +kernel
theorem d_Set_init_34 : decode b_Set_init 34 = .ok (.aload_n 0, 1) := by decide +kernel
theorem d_Set_init_35 : decode b_Set_init 35 = .ok (.lconst 0, 1) := by decide +kernel
theorem d_Set_init_36 : decode b_Set_init 36 = .ok (.putfield 25, 3) := by decide +kernel
theorem d_Set_init_39 : decode b_Set_init 39 = .ok (.aload_n 0, 1) := by decide +kernel
theorem d_Set_init_40 : decode b_Set_init 40 = .ok (.iload_n 1, 1) := by decide +kernel
theorem d_Set_init_41 : decode b_Set_init 41 = .ok (.putfield 28, 3) := by decide +kernel
theorem d_Set_init_44 : decode b_Set_init 44 = .ok (.return_, 1) := by decide +kernel
theorem d_Set_first_0 : decode b_Set_first 0 = .ok (.aload_n 0, 1) := by decide +kernel
theorem d_Set_first_1 : decode b_Set_first 1 = .ok (.getfield 21, 3) := by decide +kernel
theorem d_Set_first_4 : decode b_Set_first 4 = .ok (.lreturn, 1) := by decide +kernel
theorem d_Set_isLast_0 : decode b_Set_isLast 0 = .ok (.lload_n 1, 1) := by decide +kernel
theorem d_Set_isLast_1 : decode b_Set_isLast 1 = .ok (.aload_n 0, 1) := by decide +kernel
theorem d_Set_isLast_2 : decode b_Set_isLast 2 = .ok (.getfield 25, 3) := by decide +kernel
theorem d_Set_isLast_5 : decode b_Set_isLast 5 = .ok (.land, 1) := by decide +kernel
theorem d_Set_isLast_6 : decode b_Set_isLast 6 = .ok (.lconst 0, 1) := by decide +kernel
theorem d_Set_isLast_7 : decode b_Set_isLast 7 = .ok (.lcmp, 1) := by decide +kernel
theorem d_Set_isLast_8 : decode b_Set_isLast 8 = .ok (.ifCond .eq 7, 3) := by decide +kernel
theorem d_Set_isLast_11 : decode b_Set_isLast 11 = .ok (.iconst 1, 1) := by decide +kernel
theorem d_Set_isLast_12 : decode b_Set_isLast 12 = .ok (.goto 4, 3) := by decide +kernel
theorem d_Set_isLast_15 : decode b_Set_isLast 15 = .ok (.iconst 0, 1) := by decide +kernel
theorem d_Set_isLast_16 : decode b_Set_isLast 16 = .ok (.ireturn, 1) := by decide +kernel
theorem d_Set_after_0 : decode b_Set_after 0 = .ok (.lconst 0, 1) := by decide +kernel
theorem d_Set_after_1 : decode b_Set_after 1 = .ok (.lstore 4, 2) := by decide +kernel
theorem d_Set_after_3 : decode b_Set_after 3 = .ok (.iconst 0, 1) := by decide +kernel
theorem d_Set_after_4 : decode b_Set_after 4 = .ok (.istore 6, 2) := by decide +kernel
theorem d_Set_after_6 : decode b_Set_after 6 = .ok (.iload 6, 2) := by decide +kernel
theorem d_Set_after_8 : decode b_Set_after 8 = .ok (.bipush 40, 2) := by decide +kernel
theorem d_Set_after_10 : decode b_Set_after 10 = .ok (.if_icmp .gt 30, 3) := by decide +kernel
theorem d_Set_after_13 : decode b_Set_after 13 = .ok (.lload_n 1, 1) := by decide +kernel
theorem d_Set_after_14 : decode b_Set_after 14 = .ok (.iload 6, 2) := by decide +kernel
theorem d_Set_after_16 : decode b_Set_after 16 = .ok (.invokestatic 32, 3) := by decide +kernel
theorem d_Set_after_19 : decode b_Set_after 19 = .ok (.ifCond .eq 15, 3) := by decide +kernel
theorem d_Set_after_22 : decode b_Set_after 22 = .ok (.lload 4, 2) := by decide +kernel
theorem d_Set_after_24 : decode b_Set_after 24 = .ok (.aload_n 0, 1) := by decide +kernel
theorem d_Set_after_25 : decode b_Set_after 25 = .ok (.iload 6, 2) := by decide +kernel
theorem d_Set_after_27 : decode b_Set_after 27 = .ok (.iload_n 3, 1) := by decide +kernel
theorem d_Set_after_28 : decode b_Set_after 28 = .ok (.invokevirtual 36, 3) := by decide +kernel
theorem d_Set_after_31 : decode b_Set_after 31 = .ok (.lor, 1) := by decide +kernel
theorem d_Set_after_32 : decode b_Set_after 32 = .ok (.lstore 4, 2) := by decide +kernel
theorem d_Set_after_34 : decode b_Set_after 34 = .ok (.iinc 6 1, 3) := by decide +kernel
theorem d_Set_after_37 : decode b_Set_after 37 = .ok (.goto (-31), 3) := by decide +kernel
theorem d_Set_after_40 : decode b_Set_after 40 = .ok (.lload 4, 2) := by decide +kernel
theorem d_Set_after_42 : decode b_Set_after 42 = .ok (.lreturn, 1) := by decide +kernel
theorem d_Set_lead_0 : decode b_Set_lead 0 = .ok (.aload_n 0, 1) := by decide +kernel
theorem d_Set_lead_1 : decode b_Set_lead 1 = .ok (.iload_n 1, 1) := by decide +kernel
theorem d_Set_lead_2 : decode b_Set_lead 2 = .ok (.iload_n 2, 1) := by decide +kernel
theorem d_Set_lead_3 : decode b_Set_lead 3 = .ok (.invokevirtual 40, 3) := by decide +kernel
theorem d_Set_lead_6 : decode b_Set_lead 6 = .ok (.ifCond .eq 16, 3) := by decide +kernel
theorem d_Set_lead_9 : decode b_Set_lead 9 = .ok (.aload_n 0, 1) := by decide +kernel
theorem d_Set_lead_10 : decode b_Set_lead 10 = .ok (.getfield 9, 3) := by decide +kernel
theorem d_Set_lead_13 : decode b_Set_lead 13 = .ok (.iload_n 1, 1) := by decide +kernel
theorem d_Set_lead_14 : decode b_Set_lead 14 = .ok (.iconst 4, 1) := by decide +kernel
theorem d_Set_lead_15 : decode b_Set_lead 15 = .ok (.imul, 1) := by decide +kernel
theorem d_Set_lead_16 : decode b_Set_lead 16 = .ok (.iload_n 2, 1) := by decide +kernel
theorem d_Set_lead_17 : decode b_Set_lead 17 = .ok (.iadd, 1) := by decide +kernel
theorem d_Set_lead_18 : decode b_Set_lead 18 = .ok (.laload, 1) := by decide +kernel
theorem d_Set_lead_19 : decode b_Set_lead 19 = .ok (.goto 4, 3) := by decide +kernel
theorem d_Set_lead_22 : decode b_Set_lead 22 = .ok (.lconst 0, 1) := by decide +kernel
theorem d_Set_lead_23 : decode b_Set_lead 23 = .ok (.lreturn, 1) := by decide +kernel
theorem d_Set_hasLead_0 : decode b_Set_hasLead 0 = .ok (.iload_n 1, 1) := by decide +kernel
theorem d_Set_hasLead_1 : decode b_Set_hasLead 1 = .ok (.ifCond .lt 25, 3) := by decide +kernel
theorem d_Set_hasLead_4 : decode b_Set_hasLead 4 = .ok (.iload_n 1, 1) := by decide +kernel
theorem d_Set_hasLead_5 : decode b_Set_hasLead 5 = .ok (.bipush 40, 2) := by decide +kernel
theorem d_Set_hasLead_7 : decode b_Set_hasLead 7 = .ok (.if_icmp .gt 19, 3) := by decide +kernel
theorem d_Set_hasLead_10 : decode b_Set_hasLead 10 = .ok (.iload_n 2, 1) := by decide +kernel
theorem d_Set_hasLead_11 : decode b_Set_hasLead 11 = .ok (.ifCond .lt 15, 3) := by decide +kernel
theorem d_Set_hasLead_14 : decode b_Set_hasLead 14 = .ok (.iload_n 2, 1) := by decide +kernel
theorem d_Set_hasLead_15 : decode b_Set_hasLead 15 = .ok (.aload_n 0, 1) := by decide +kernel
theorem d_Set_hasLead_16 : decode b_Set_hasLead 16 = .ok (.getfield 28, 3) := by decide +kernel
theorem d_Set_hasLead_19 : decode b_Set_hasLead 19 = .ok (.if_icmp .ge 7, 3) := by decide +kernel
theorem d_Set_hasLead_22 : decode b_Set_hasLead 22 = .ok (.iconst 1, 1) := by decide +kernel
theorem d_Set_hasLead_23 : decode b_Set_hasLead 23 = .ok (.goto 4, 3) := by decide +kernel
theorem d_Set_hasLead_26 : decode b_Set_hasLead 26 = .ok (.iconst 0, 1) := by decide +kernel
theorem d_Set_hasLead_27 : decode b_Set_hasLead 27 = .ok (.ireturn, 1) := by decide +kernel
theorem d_Set_repeat_0 : decode b_Set_repeat 0 = .ok (.iconst 0, 1) := by decide +kernel
theorem d_Set_repeat_1 : decode b_Set_repeat 1 = .ok (.istore_n 2, 1) := by decide +kernel
theorem d_Set_repeat_2 : decode b_Set_repeat 2 = .ok (.iload_n 2, 1) := by decide +kernel
theorem d_Set_repeat_3 : decode b_Set_repeat 3 = .ok (.bipush 40, 2) := by decide +kernel
theorem d_Set_repeat_5 : decode b_Set_repeat 5 = .ok (.if_icmp .ge 32, 3) := by decide +kernel
theorem d_Set_repeat_8 : decode b_Set_repeat 8 = .ok (.aload_n 0, 1) := by decide +kernel
theorem d_Set_repeat_9 : decode b_Set_repeat 9 = .ok (.getfield 15, 3) := by decide +kernel
theorem d_Set_repeat_12 : decode b_Set_repeat 12 = .ok (.iload_n 2, 1) := by decide +kernel
theorem d_Set_repeat_13 : decode b_Set_repeat 13 = .ok (.lconst 1, 1) := by decide +kernel
theorem d_Set_repeat_14 : decode b_Set_repeat 14 = .ok (.iload_n 2, 1) := by decide +kernel
theorem d_Set_repeat_15 : decode b_Set_repeat 15 = .ok (.lshl, 1) := by decide +kernel
theorem d_Set_repeat_16 : decode b_Set_repeat 16 = .ok (.aload_n 1, 1) := by decide +kernel
theorem d_Set_repeat_17 : decode b_Set_repeat 17 = .ok (.iload_n 2, 1) := by decide +kernel
theorem d_Set_repeat_18 : decode b_Set_repeat 18 = .ok (.invokevirtual 69, 3) := by decide +kernel
theorem d_Set_repeat_21 : decode b_Set_repeat 21 = .ok (.ifCond .eq 7, 3) := by decide +kernel
theorem d_Set_repeat_24 : decode b_Set_repeat 24 = .ok (.lconst 1, 1) := by decide +kernel
theorem d_Set_repeat_25 : decode b_Set_repeat 25 = .ok (.goto 4, 3) := by decide +kernel
theorem d_Set_repeat_28 : decode b_Set_repeat 28 = .ok (.lconst 0, 1) := by decide +kernel
theorem d_Set_repeat_29 : decode b_Set_repeat 29 = .ok (.lor, 1) := by decide +kernel
theorem d_Set_repeat_30 : decode b_Set_repeat 30 = .ok (.lastore, 1) := by decide +kernel
theorem d_Set_repeat_31 : decode b_Set_repeat 31 = .ok (.iinc 2 1, 3) := by decide +kernel
theorem d_Set_repeat_34 : decode b_Set_repeat 34 = .ok (.goto (-32), 3) := by decide +kernel
theorem d_Set_repeat_37 : decode b_Set_repeat 37 = .ok (.aload_n 0, 1) := by decide +kernel
theorem d_Set_repeat_38 : decode b_Set_repeat 38 = .ok (.aload_n 1, 1) := by decide +kernel
theorem d_Set_repeat_39 : decode b_Set_repeat 39 = .ok (.invokevirtual 44, 3) := by decide +kernel
theorem d_Set_repeat_42 : decode b_Set_repeat 42 = .ok (.iconst 0, 1) := by decide +kernel
theorem d_Set_repeat_43 : decode b_Set_repeat 43 = .ok (.istore_n 2, 1) := by decide +kernel
theorem d_Set_repeat_44 : decode b_Set_repeat 44 = .ok (.iload_n 2, 1) := by decide +kernel
theorem d_Set_repeat_45 : decode b_Set_repeat 45 = .ok (.aload_n 0, 1) := by decide +kernel
theorem d_Set_repeat_46 : decode b_Set_repeat 46 = .ok (.getfield 28, 3) := by decide +kernel
theorem d_Set_repeat_49 : decode b_Set_repeat 49 = .ok (.if_icmp .ge 22, 3) := by decide +kernel
theorem d_Set_repeat_52 : decode b_Set_repeat 52 = .ok (.aload_n 0, 1) := by decide +kernel
theorem d_Set_repeat_53 : decode b_Set_repeat 53 = .ok (.bipush 40, 2) := by decide +kernel
theorem d_Set_repeat_55 : decode b_Set_repeat 55 = .ok (.iload_n 2, 1) := by decide +kernel
theorem d_Set_repeat_56 : decode b_Set_repeat 56 = .ok (.aload_n 0, 1) := by decide +kernel
theorem d_Set_repeat_57 : decode b_Set_repeat 57 = .ok (.iconst 0, 1) := by decide +kernel
theorem d_Set_repeat_58 : decode b_Set_repeat 58 = .ok (.iload_n 2, 1) := by decide +kernel
theorem d_Set_repeat_59 : decode b_Set_repeat 59 = .ok (.invokevirtual 36, 3) := by decide +kernel
theorem d_Set_repeat_62 : decode b_Set_repeat 62 = .ok (.invokevirtual 64, 3) := by decide +kernel
theorem d_Set_repeat_65 : decode b_Set_repeat 65 = .ok (.iinc 2 1, 3) := by decide +kernel
theorem d_Set_repeat_68 : decode b_Set_repeat 68 = .ok (.goto (-24), 3) := by decide +kernel
theorem d_Set_repeat_71 : decode b_Set_repeat 71 = .ok (.aload_n 0, 1) := by decide +kernel
theorem d_Set_repeat_72 : decode b_Set_repeat 72 = .ok (.ldc2_w 73, 3) := by decide +kernel
theorem d_Set_repeat_75 : decode b_Set_repeat 75 = .ok (.putfield 21, 3) := by decide +kernel
theorem d_Set_repeat_78 : decode b_Set_repeat 78 = .ok (.aload_n 0, 1) := by decide +kernel
theorem d_Set_repeat_79 : decode b_Set_repeat 79 = .ok (.aload_n 1, 1) := by decide +kernel
theorem d_Set_repeat_80 : decode b_Set_repeat 80 = .ok (.getfield 68, 3) := by decide +kernel
theorem d_Set_repeat_83 : decode b_Set_repeat 83 = .ok (.aload_n 0, 1) := by decide +kernel
theorem d_Set_repeat_84 : decode b_Set_repeat 84 = .ok (.getfield 21, 3) := by decide +kernel
theorem d_Set_repeat_87 : decode b_Set_repeat 87 = .ok (.lor, 1) := by decide +kernel
theorem d_Set_repeat_88 : decode b_Set_repeat 88 = .ok (.putfield 25, 3) := by decide +kernel
theorem d_Set_repeat_91 : decode b_Set_repeat 91 = .ok (.return_, 1) := by decide +kernel
theorem d_Set_followWithCompany_0 : decode b_Set_followWithCompany 0 = .ok (.aload_n 0, 1) := by decide +kernel
theorem d_Set_followWithCompany_1 : decode b_Set_followWithCompany 1 = .ok (.invokevirtual 48, 3) := by decide +kernel
theorem d_Set_followWithCompany_4 : decode b_Set_followWithCompany 4 = .ok (.iconst 0, 1) := by decide +kernel
theorem d_Set_followWithCompany_5 : decode b_Set_followWithCompany 5 = .ok (.istore_n 2, 1) := by decide +kernel
theorem d_Set_followWithCompany_6 : decode b_Set_followWithCompany 6 = .ok (.iload_n 2, 1) := by decide +kernel
theorem d_Set_followWithCompany_7 : decode b_Set_followWithCompany 7 = .ok (.aload_n 1, 1) := by decide +kernel
theorem d_Set_followWithCompany_8 : decode b_Set_followWithCompany 8 = .ok (.getfield 51, 3) := by decide +kernel
theorem d_Set_followWithCompany_11 : decode b_Set_followWithCompany 11 = .ok (.if_icmp .ge 41, 3) := by decide +kernel
theorem d_Set_followWithCompany_14 : decode b_Set_followWithCompany 14 = .ok (.iconst 0, 1) := by decide +kernel
theorem d_Set_followWithCompany_15 : decode b_Set_followWithCompany 15 = .ok (.istore_n 3, 1) := by decide +kernel
theorem d_Set_followWithCompany_16 : decode b_Set_followWithCompany 16 = .ok (.iload_n 3, 1) := by decide +kernel
theorem d_Set_followWithCompany_17 : decode b_Set_followWithCompany 17 = .ok (.aload_n 0, 1) := by decide +kernel
theorem d_Set_followWithCompany_18 : decode b_Set_followWithCompany 18 = .ok (.getfield 28, 3) := by decide +kernel
theorem d_Set_followWithCompany_21 : decode b_Set_followWithCompany 21 = .ok (.if_icmp .ge 25, 3) := by decide +kernel
theorem d_Set_followWithCompany_24 : decode b_Set_followWithCompany 24 = .ok (.aload_n 0, 1) := by decide +kernel
theorem d_Set_followWithCompany_25 : decode b_Set_followWithCompany 25 = .ok (.iload_n 2, 1) := by decide +kernel
theorem d_Set_followWithCompany_26 : decode b_Set_followWithCompany 26 = .ok (.iload_n 3, 1) := by decide +kernel
theorem d_Set_followWithCompany_27 : decode b_Set_followWithCompany 27 = .ok (.aload_n 0, 1) := by decide +kernel
theorem d_Set_followWithCompany_28 : decode b_Set_followWithCompany 28 = .ok (.aload_n 1, 1) := by decide +kernel
theorem d_Set_followWithCompany_29 : decode b_Set_followWithCompany 29 = .ok (.iload_n 2, 1) := by decide +kernel
theorem d_Set_followWithCompany_30 : decode b_Set_followWithCompany 30 = .ok (.iload_n 3, 1) := by decide +kernel
theorem d_Set_followWithCompany_31 : decode b_Set_followWithCompany 31 = .ok (.invokevirtual 56, 3) := by decide +kernel
theorem d_Set_followWithCompany_34 : decode b_Set_followWithCompany 34 = .ok (.invokevirtual 60, 3) := by decide +kernel
theorem d_Set_followWithCompany_37 : decode b_Set_followWithCompany 37 = .ok (.invokevirtual 64, 3) := by decide +kernel
theorem d_Set_followWithCompany_40 : decode b_Set_followWithCompany 40 = .ok (.iinc 3 1, 3) := by decide +kernel
theorem d_Set_followWithCompany_43 : decode b_Set_followWithCompany 43 = .ok (.goto (-27), 3) := by decide +kernel
theorem d_Set_followWithCompany_46 : decode b_Set_followWithCompany 46 = .ok (.iinc 2 1, 3) := by decide +kernel
theorem d_Set_followWithCompany_49 : decode b_Set_followWithCompany 49 = .ok (.goto (-43), 3) := by decide +kernel
theorem d_Set_followWithCompany_52 : decode b_Set_followWithCompany 52 = .ok (.aload_n 0, 1) := by decide +kernel
theorem d_Set_followWithCompany_53 : decode b_Set_followWithCompany 53 = .ok (.aload_n 0, 1) := by decide +kernel
theorem d_Set_followWithCompany_54 : decode b_Set_followWithCompany 54 = .ok (.iconst 0, 1) := by decide +kernel
theorem d_Set_followWithCompany_55 : decode b_Set_followWithCompany 55 = .ok (.invokevirtual 60, 3) := by decide +kernel
theorem d_Set_followWithCompany_58 : decode b_Set_followWithCompany 58 = .ok (.putfield 21, 3) := by decide +kernel
theorem d_Set_followWithCompany_61 : decode b_Set_followWithCompany 61 = .ok (.aload_n 0, 1) := by decide +kernel
theorem d_Set_followWithCompany_62 : decode b_Set_followWithCompany 62 = .ok (.aload_n 1, 1) := by decide +kernel
theorem d_Set_followWithCompany_63 : decode b_Set_followWithCompany 63 = .ok (.getfield 68, 3) := by decide +kernel
theorem d_Set_followWithCompany_66 : decode b_Set_followWithCompany 66 = .ok (.putfield 25, 3) := by decide +kernel
theorem d_Set_followWithCompany_69 : decode b_Set_followWithCompany 69 = .ok (.return_, 1) := by decide +kernel
theorem d_Set_forgetLeads_0 : decode b_Set_forgetLeads 0 = .ok (.iconst 0, 1) := by decide +kernel
theorem d_Set_forgetLeads_1 : decode b_Set_forgetLeads 1 = .ok (.istore_n 1, 1) := by decide +kernel
theorem d_Set_forgetLeads_2 : decode b_Set_forgetLeads 2 = .ok (.iload_n 1, 1) := by decide +kernel
theorem d_Set_forgetLeads_3 : decode b_Set_forgetLeads 3 = .ok (.aload_n 0, 1) := by decide +kernel
theorem d_Set_forgetLeads_4 : decode b_Set_forgetLeads 4 = .ok (.getfield 9, 3) := by decide +kernel
theorem d_Set_forgetLeads_7 : decode b_Set_forgetLeads 7 = .ok (.arraylength, 1) := by decide +kernel
theorem d_Set_forgetLeads_8 : decode b_Set_forgetLeads 8 = .ok (.if_icmp .ge 16, 3) := by decide +kernel
theorem d_Set_forgetLeads_11 : decode b_Set_forgetLeads 11 = .ok (.aload_n 0, 1) := by decide +kernel
theorem d_Set_forgetLeads_12 : decode b_Set_forgetLeads 12 = .ok (.getfield 9, 3) := by decide +kernel
theorem d_Set_forgetLeads_15 : decode b_Set_forgetLeads 15 = .ok (.iload_n 1, 1) := by decide +kernel
theorem d_Set_forgetLeads_16 : decode b_Set_forgetLeads 16 = .ok (.lconst 0, 1) := by decide +kernel
theorem d_Set_forgetLeads_17 : decode b_Set_forgetLeads 17 = .ok (.lastore, 1) := by decide +kernel
theorem d_Set_forgetLeads_18 : decode b_Set_forgetLeads 18 = .ok (.iinc 1 1, 3) := by decide +kernel
theorem d_Set_forgetLeads_21 : decode b_Set_forgetLeads 21 = .ok (.goto (-19), 3) := by decide +kernel
theorem d_Set_forgetLeads_24 : decode b_Set_forgetLeads 24 = .ok (.return_, 1) := by decide +kernel
theorem d_Set_companyOf_0 : decode b_Set_companyOf 0 = .ok (.iload_n 1, 1) := by decide +kernel
theorem d_Set_companyOf_1 : decode b_Set_companyOf 1 = .ok (.ifCond .lt 18, 3) := by decide +kernel
theorem d_Set_companyOf_4 : decode b_Set_companyOf 4 = .ok (.iload_n 1, 1) := by decide +kernel
theorem d_Set_companyOf_5 : decode b_Set_companyOf 5 = .ok (.bipush 40, 2) := by decide +kernel
theorem d_Set_companyOf_7 : decode b_Set_companyOf 7 = .ok (.if_icmp .ge 12, 3) := by decide +kernel
theorem d_Set_companyOf_10 : decode b_Set_companyOf 10 = .ok (.aload_n 0, 1) := by decide +kernel
theorem d_Set_companyOf_11 : decode b_Set_companyOf 11 = .ok (.getfield 15, 3) := by decide +kernel
theorem d_Set_companyOf_14 : decode b_Set_companyOf 14 = .ok (.iload_n 1, 1) := by decide +kernel
theorem d_Set_companyOf_15 : decode b_Set_companyOf 15 = .ok (.laload, 1) := by decide +kernel
theorem d_Set_companyOf_16 : decode b_Set_companyOf 16 = .ok (.goto 4, 3) := by decide +kernel
theorem d_Set_companyOf_19 : decode b_Set_companyOf 19 = .ok (.lconst 0, 1) := by decide +kernel
theorem d_Set_companyOf_20 : decode b_Set_companyOf 20 = .ok (.lreturn, 1) := by decide +kernel
theorem d_Set_setLead_0 : decode b_Set_setLead 0 = .ok (.aload_n 0, 1) := by decide +kernel
theorem d_Set_setLead_1 : decode b_Set_setLead 1 = .ok (.iload_n 1, 1) := by decide +kernel
theorem d_Set_setLead_2 : decode b_Set_setLead 2 = .ok (.iload_n 2, 1) := by decide +kernel
theorem d_Set_setLead_3 : decode b_Set_setLead 3 = .ok (.invokevirtual 40, 3) := by decide +kernel
theorem d_Set_setLead_6 : decode b_Set_setLead 6 = .ok (.ifCond .eq 14, 3) := by decide +kernel
theorem d_Set_setLead_9 : decode b_Set_setLead 9 = .ok (.aload_n 0, 1) := by decide +kernel
theorem d_Set_setLead_10 : decode b_Set_setLead 10 = .ok (.getfield 9, 3) := by decide +kernel
theorem d_Set_setLead_13 : decode b_Set_setLead 13 = .ok (.iload_n 1, 1) := by decide +kernel
theorem d_Set_setLead_14 : decode b_Set_setLead 14 = .ok (.iconst 4, 1) := by decide +kernel
theorem d_Set_setLead_15 : decode b_Set_setLead 15 = .ok (.imul, 1) := by decide +kernel
theorem d_Set_setLead_16 : decode b_Set_setLead 16 = .ok (.iload_n 2, 1) := by decide +kernel
theorem d_Set_setLead_17 : decode b_Set_setLead 17 = .ok (.iadd, 1) := by decide +kernel
theorem d_Set_setLead_18 : decode b_Set_setLead 18 = .ok (.lload_n 3, 1) := by decide +kernel
theorem d_Set_setLead_19 : decode b_Set_setLead 19 = .ok (.lastore, 1) := by decide +kernel
theorem d_Set_setLead_20 : decode b_Set_setLead 20 = .ok (.return_, 1) := by decide +kernel
theorem d_Set_reverse_0 : decode b_Set_reverse 0 = .ok (.aload_n 0, 1) := by decide +kernel
theorem d_Set_reverse_1 : decode b_Set_reverse 1 = .ok (.invokevirtual 48, 3) := by decide +kernel
theorem d_Set_reverse_4 : decode b_Set_reverse 4 = .ok (.iconst 0, 1) := by decide +kernel
theorem d_Set_reverse_5 : decode b_Set_reverse 5 = .ok (.istore_n 2, 1) := by decide +kernel
theorem d_Set_reverse_6 : decode b_Set_reverse 6 = .ok (.iload_n 2, 1) := by decide +kernel
theorem d_Set_reverse_7 : decode b_Set_reverse 7 = .ok (.aload_n 1, 1) := by decide +kernel
theorem d_Set_reverse_8 : decode b_Set_reverse 8 = .ok (.getfield 51, 3) := by decide +kernel
theorem d_Set_reverse_11 : decode b_Set_reverse 11 = .ok (.if_icmp .ge 51, 3) := by decide +kernel
theorem d_Set_reverse_14 : decode b_Set_reverse 14 = .ok (.iconst 0, 1) := by decide +kernel
theorem d_Set_reverse_15 : decode b_Set_reverse 15 = .ok (.istore_n 3, 1) := by decide +kernel
theorem d_Set_reverse_16 : decode b_Set_reverse 16 = .ok (.iload_n 3, 1) := by decide +kernel
theorem d_Set_reverse_17 : decode b_Set_reverse 17 = .ok (.aload_n 0, 1) := by decide +kernel
theorem d_Set_reverse_18 : decode b_Set_reverse 18 = .ok (.getfield 28, 3) := by decide +kernel
theorem d_Set_reverse_21 : decode b_Set_reverse 21 = .ok (.if_icmp .ge 35, 3) := by decide +kernel
theorem d_Set_reverse_24 : decode b_Set_reverse 24 = .ok (.aload_n 1, 1) := by decide +kernel
theorem d_Set_reverse_25 : decode b_Set_reverse 25 = .ok (.iload_n 2, 1) := by decide +kernel
theorem d_Set_reverse_26 : decode b_Set_reverse 26 = .ok (.iload_n 3, 1) := by decide +kernel
theorem d_Set_reverse_27 : decode b_Set_reverse 27 = .ok (.invokevirtual 56, 3) := by decide +kernel
theorem d_Set_reverse_30 : decode b_Set_reverse 30 = .ok (.istore 4, 2) := by decide +kernel
theorem d_Set_reverse_32 : decode b_Set_reverse 32 = .ok (.aload_n 0, 1) := by decide +kernel
theorem d_Set_reverse_33 : decode b_Set_reverse 33 = .ok (.iload 4, 2) := by decide +kernel
theorem d_Set_reverse_35 : decode b_Set_reverse 35 = .ok (.iload_n 3, 1) := by decide +kernel
theorem d_Set_reverse_36 : decode b_Set_reverse 36 = .ok (.aload_n 0, 1) := by decide +kernel
theorem d_Set_reverse_37 : decode b_Set_reverse 37 = .ok (.iload 4, 2) := by decide +kernel
theorem d_Set_reverse_39 : decode b_Set_reverse 39 = .ok (.iload_n 3, 1) := by decide +kernel
theorem d_Set_reverse_40 : decode b_Set_reverse 40 = .ok (.invokevirtual 36, 3) := by decide +kernel
theorem d_Set_reverse_43 : decode b_Set_reverse 43 = .ok (.lconst 1, 1) := by decide +kernel
theorem d_Set_reverse_44 : decode b_Set_reverse 44 = .ok (.iload_n 2, 1) := by decide +kernel
theorem d_Set_reverse_45 : decode b_Set_reverse 45 = .ok (.lshl, 1) := by decide +kernel
theorem d_Set_reverse_46 : decode b_Set_reverse 46 = .ok (.lor, 1) := by decide +kernel
theorem d_Set_reverse_47 : decode b_Set_reverse 47 = .ok (.invokevirtual 64, 3) := by decide +kernel
theorem d_Set_reverse_50 : decode b_Set_reverse 50 = .ok (.iinc 3 1, 3) := by decide +kernel
theorem d_Set_reverse_53 : decode b_Set_reverse 53 = .ok (.goto (-37), 3) := by decide +kernel
theorem d_Set_reverse_56 : decode b_Set_reverse 56 = .ok (.iinc 2 1, 3) := by decide +kernel
theorem d_Set_reverse_59 : decode b_Set_reverse 59 = .ok (.goto (-53), 3) := by decide +kernel
theorem d_Set_reverse_62 : decode b_Set_reverse 62 = .ok (.aload_n 0, 1) := by decide +kernel
theorem d_Set_reverse_63 : decode b_Set_reverse 63 = .ok (.aload_n 1, 1) := by decide +kernel
theorem d_Set_reverse_64 : decode b_Set_reverse 64 = .ok (.getfield 68, 3) := by decide +kernel
theorem d_Set_reverse_67 : decode b_Set_reverse 67 = .ok (.putfield 21, 3) := by decide +kernel
theorem d_Set_reverse_70 : decode b_Set_reverse 70 = .ok (.aload_n 0, 1) := by decide +kernel
theorem d_Set_reverse_71 : decode b_Set_reverse 71 = .ok (.lconst 1, 1) := by decide +kernel
theorem d_Set_reverse_72 : decode b_Set_reverse 72 = .ok (.putfield 25, 3) := by decide +kernel
theorem d_Set_reverse_75 : decode b_Set_reverse 75 = .ok (.return_, 1) := by decide +kernel
theorem d_Set_follow_0 : decode b_Set_follow 0 = .ok (.iconst 0, 1) := by decide +kernel
theorem d_Set_follow_1 : decode b_Set_follow 1 = .ok (.istore_n 2, 1) := by decide +kernel
theorem d_Set_follow_2 : decode b_Set_follow 2 = .ok (.iload_n 2, 1) := by decide +kernel
theorem d_Set_follow_3 : decode b_Set_follow 3 = .ok (.bipush 40, 2) := by decide +kernel
theorem d_Set_follow_5 : decode b_Set_follow 5 = .ok (.if_icmp .ge 18, 3) := by decide +kernel
theorem d_Set_follow_8 : decode b_Set_follow 8 = .ok (.aload_n 0, 1) := by decide +kernel
theorem d_Set_follow_9 : decode b_Set_follow 9 = .ok (.getfield 15, 3) := by decide +kernel
theorem d_Set_follow_12 : decode b_Set_follow 12 = .ok (.iload_n 2, 1) := by decide +kernel
theorem d_Set_follow_13 : decode b_Set_follow 13 = .ok (.lconst 1, 1) := by decide +kernel
theorem d_Set_follow_14 : decode b_Set_follow 14 = .ok (.iload_n 2, 1) := by decide +kernel
theorem d_Set_follow_15 : decode b_Set_follow 15 = .ok (.lshl, 1) := by decide +kernel
theorem d_Set_follow_16 : decode b_Set_follow 16 = .ok (.lastore, 1) := by decide +kernel
theorem d_Set_follow_17 : decode b_Set_follow 17 = .ok (.iinc 2 1, 3) := by decide +kernel
theorem d_Set_follow_20 : decode b_Set_follow 20 = .ok (.goto (-18), 3) := by decide +kernel
theorem d_Set_follow_23 : decode b_Set_follow 23 = .ok (.aload_n 0, 1) := by decide +kernel
theorem d_Set_follow_24 : decode b_Set_follow 24 = .ok (.aload_n 1, 1) := by decide +kernel
theorem d_Set_follow_25 : decode b_Set_follow 25 = .ok (.invokevirtual 44, 3) := by decide +kernel
theorem d_Set_follow_28 : decode b_Set_follow 28 = .ok (.return_, 1) := by decide +kernel
theorem d_Set_readAs_0 : decode b_Set_readAs 0 = .ok (.iload_n 1, 1) := by decide +kernel
theorem d_Set_readAs_1 : decode b_Set_readAs 1 = .ok (.iload_n 2, 1) := by decide +kernel
theorem d_Set_readAs_2 : decode b_Set_readAs 2 = .ok (.if_icmp .ne 4, 3) := by decide +kernel
theorem d_Set_readAs_5 : decode b_Set_readAs 5 = .ok (.return_, 1) := by decide +kernel
theorem d_Set_readAs_6 : decode b_Set_readAs 6 = .ok (.iconst 0, 1) := by decide +kernel
theorem d_Set_readAs_7 : decode b_Set_readAs 7 = .ok (.istore_n 3, 1) := by decide +kernel
theorem d_Set_readAs_8 : decode b_Set_readAs 8 = .ok (.iload_n 3, 1) := by decide +kernel
theorem d_Set_readAs_9 : decode b_Set_readAs 9 = .ok (.bipush 40, 2) := by decide +kernel
theorem d_Set_readAs_11 : decode b_Set_readAs 11 = .ok (.if_icmp .ge 35, 3) := by decide +kernel
theorem d_Set_readAs_14 : decode b_Set_readAs 14 = .ok (.aload_n 0, 1) := by decide +kernel
theorem d_Set_readAs_15 : decode b_Set_readAs 15 = .ok (.iload_n 3, 1) := by decide +kernel
theorem d_Set_readAs_16 : decode b_Set_readAs 16 = .ok (.iload_n 2, 1) := by decide +kernel
theorem d_Set_readAs_17 : decode b_Set_readAs 17 = .ok (.aload_n 0, 1) := by decide +kernel
theorem d_Set_readAs_18 : decode b_Set_readAs 18 = .ok (.iload_n 3, 1) := by decide +kernel
theorem d_Set_readAs_19 : decode b_Set_readAs 19 = .ok (.iload_n 2, 1) := by decide +kernel
theorem d_Set_readAs_20 : decode b_Set_readAs 20 = .ok (.invokevirtual 36, 3) := by decide +kernel
theorem d_Set_readAs_23 : decode b_Set_readAs 23 = .ok (.aload_n 0, 1) := by decide +kernel
theorem d_Set_readAs_24 : decode b_Set_readAs 24 = .ok (.iload_n 3, 1) := by decide +kernel
theorem d_Set_readAs_25 : decode b_Set_readAs 25 = .ok (.iload_n 1, 1) := by decide +kernel
theorem d_Set_readAs_26 : decode b_Set_readAs 26 = .ok (.invokevirtual 36, 3) := by decide +kernel
theorem d_Set_readAs_29 : decode b_Set_readAs 29 = .ok (.lor, 1) := by decide +kernel
theorem d_Set_readAs_30 : decode b_Set_readAs 30 = .ok (.invokevirtual 64, 3) := by decide +kernel
theorem d_Set_readAs_33 : decode b_Set_readAs 33 = .ok (.aload_n 0, 1) := by decide +kernel
theorem d_Set_readAs_34 : decode b_Set_readAs 34 = .ok (.iload_n 3, 1) := by decide +kernel
theorem d_Set_readAs_35 : decode b_Set_readAs 35 = .ok (.iload_n 1, 1) := by decide +kernel
theorem d_Set_readAs_36 : decode b_Set_readAs 36 = .ok (.lconst 0, 1) := by decide +kernel
theorem d_Set_readAs_37 : decode b_Set_readAs 37 = .ok (.invokevirtual 64, 3) := by decide +kernel
theorem d_Set_readAs_40 : decode b_Set_readAs 40 = .ok (.iinc 3 1, 3) := by decide +kernel
theorem d_Set_readAs_43 : decode b_Set_readAs 43 = .ok (.goto (-35), 3) := by decide +kernel
theorem d_Set_readAs_46 : decode b_Set_readAs 46 = .ok (.return_, 1) := by decide +kernel
theorem d_Set_skip_0 : decode b_Set_skip 0 = .ok (.iconst 0, 1) := by decide +kernel
theorem d_Set_skip_1 : decode b_Set_skip 1 = .ok (.istore_n 3, 1) := by decide +kernel
theorem d_Set_skip_2 : decode b_Set_skip 2 = .ok (.iload_n 3, 1) := by decide +kernel
theorem d_Set_skip_3 : decode b_Set_skip 3 = .ok (.bipush 40, 2) := by decide +kernel
theorem d_Set_skip_5 : decode b_Set_skip 5 = .ok (.if_icmp .ge 21, 3) := by decide +kernel
theorem d_Set_skip_8 : decode b_Set_skip 8 = .ok (.aload_n 0, 1) := by decide +kernel
theorem d_Set_skip_9 : decode b_Set_skip 9 = .ok (.getfield 15, 3) := by decide +kernel
theorem d_Set_skip_12 : decode b_Set_skip 12 = .ok (.iload_n 3, 1) := by decide +kernel
theorem d_Set_skip_13 : decode b_Set_skip 13 = .ok (.aload_n 1, 1) := by decide +kernel
theorem d_Set_skip_14 : decode b_Set_skip 14 = .ok (.iload_n 3, 1) := by decide +kernel
theorem d_Set_skip_15 : decode b_Set_skip 15 = .ok (.iload_n 2, 1) := by decide +kernel
theorem d_Set_skip_16 : decode b_Set_skip 16 = .ok (.invokestatic 75, 3) := by decide +kernel
theorem d_Set_skip_19 : decode b_Set_skip 19 = .ok (.lastore, 1) := by decide +kernel
theorem d_Set_skip_20 : decode b_Set_skip 20 = .ok (.iinc 3 1, 3) := by decide +kernel
theorem d_Set_skip_23 : decode b_Set_skip 23 = .ok (.goto (-21), 3) := by decide +kernel
theorem d_Set_skip_26 : decode b_Set_skip 26 = .ok (.aload_n 0, 1) := by decide +kernel
theorem d_Set_skip_27 : decode b_Set_skip 27 = .ok (.aload_n 1, 1) := by decide +kernel
theorem d_Set_skip_28 : decode b_Set_skip 28 = .ok (.invokevirtual 44, 3) := by decide +kernel
theorem d_Set_skip_31 : decode b_Set_skip 31 = .ok (.iconst 0, 1) := by decide +kernel
theorem d_Set_skip_32 : decode b_Set_skip 32 = .ok (.istore_n 3, 1) := by decide +kernel
theorem d_Set_skip_33 : decode b_Set_skip 33 = .ok (.iload_n 3, 1) := by decide +kernel
theorem d_Set_skip_34 : decode b_Set_skip 34 = .ok (.bipush 40, 2) := by decide +kernel
theorem d_Set_skip_36 : decode b_Set_skip 36 = .ok (.if_icmp .ge 16, 3) := by decide +kernel
theorem d_Set_skip_39 : decode b_Set_skip 39 = .ok (.aload_n 0, 1) := by decide +kernel
theorem d_Set_skip_40 : decode b_Set_skip 40 = .ok (.iload_n 3, 1) := by decide +kernel
theorem d_Set_skip_41 : decode b_Set_skip 41 = .ok (.iload_n 2, 1) := by decide +kernel
theorem d_Set_skip_42 : decode b_Set_skip 42 = .ok (.lconst 0, 1) := by decide +kernel
theorem d_Set_skip_43 : decode b_Set_skip 43 = .ok (.invokevirtual 64, 3) := by decide +kernel
theorem d_Set_skip_46 : decode b_Set_skip 46 = .ok (.iinc 3 1, 3) := by decide +kernel
theorem d_Set_skip_49 : decode b_Set_skip 49 = .ok (.goto (-16), 3) := by decide +kernel
theorem d_Set_skip_52 : decode b_Set_skip 52 = .ok (.return_, 1) := by decide +kernel
theorem d_Set_statesBy_0 : decode b_Set_statesBy 0 = .ok (.lconst 1, 1) := by decide +kernel
theorem d_Set_statesBy_1 : decode b_Set_statesBy 1 = .ok (.iload_n 1, 1) := by decide +kernel
theorem d_Set_statesBy_2 : decode b_Set_statesBy 2 = .ok (.lshl, 1) := by decide +kernel
theorem d_Set_statesBy_3 : decode b_Set_statesBy 3 = .ok (.lstore_n 3, 1) := by decide +kernel
theorem d_Set_statesBy_4 : decode b_Set_statesBy 4 = .ok (.iload_n 1, 1) := by decide +kernel
theorem d_Set_statesBy_5 : decode b_Set_statesBy 5 = .ok (.istore 5, 2) := by decide +kernel
theorem d_Set_statesBy_7 : decode b_Set_statesBy 7 = .ok (.iconst 0, 1) := by decide +kernel
theorem d_Set_statesBy_8 : decode b_Set_statesBy 8 = .ok (.istore 6, 2) := by decide +kernel
theorem d_Set_statesBy_10 : decode b_Set_statesBy 10 = .ok (.iload 6, 2) := by decide +kernel
theorem d_Set_statesBy_12 : decode b_Set_statesBy 12 = .ok (.aload_n 0, 1) := by decide +kernel
theorem d_Set_statesBy_13 : decode b_Set_statesBy 13 = .ok (.getfield 51, 3) := by decide +kernel
theorem d_Set_statesBy_16 : decode b_Set_statesBy 16 = .ok (.if_icmp .ge 25, 3) := by decide +kernel
theorem d_Set_statesBy_19 : decode b_Set_statesBy 19 = .ok (.aload_n 0, 1) := by decide +kernel
theorem d_Set_statesBy_20 : decode b_Set_statesBy 20 = .ok (.iload 5, 2) := by decide +kernel
theorem d_Set_statesBy_22 : decode b_Set_statesBy 22 = .ok (.iload_n 2, 1) := by decide +kernel
theorem d_Set_statesBy_23 : decode b_Set_statesBy 23 = .ok (.invokevirtual 56, 3) := by decide +kernel
theorem d_Set_statesBy_26 : decode b_Set_statesBy 26 = .ok (.istore 5, 2) := by decide +kernel
theorem d_Set_statesBy_28 : decode b_Set_statesBy 28 = .ok (.lload_n 3, 1) := by decide +kernel
theorem d_Set_statesBy_29 : decode b_Set_statesBy 29 = .ok (.lconst 1, 1) := by decide +kernel
theorem d_Set_statesBy_30 : decode b_Set_statesBy 30 = .ok (.iload 5, 2) := by decide +kernel
theorem d_Set_statesBy_32 : decode b_Set_statesBy 32 = .ok (.lshl, 1) := by decide +kernel
theorem d_Set_statesBy_33 : decode b_Set_statesBy 33 = .ok (.lor, 1) := by decide +kernel
theorem d_Set_statesBy_34 : decode b_Set_statesBy 34 = .ok (.lstore_n 3, 1) := by decide +kernel
theorem d_Set_statesBy_35 : decode b_Set_statesBy 35 = .ok (.iinc 6 1, 3) := by decide +kernel
theorem d_Set_statesBy_38 : decode b_Set_statesBy 38 = .ok (.goto (-28), 3) := by decide +kernel
theorem d_Set_statesBy_41 : decode b_Set_statesBy 41 = .ok (.lload_n 3, 1) := by decide +kernel
theorem d_Set_statesBy_42 : decode b_Set_statesBy 42 = .ok (.lreturn, 1) := by decide +kernel
theorem d_Set_startAt_0 : decode b_Set_startAt 0 = .ok (.aload_n 0, 1) := by decide +kernel
theorem d_Set_startAt_1 : decode b_Set_startAt 1 = .ok (.lload_n 1, 1) := by decide +kernel
theorem d_Set_startAt_2 : decode b_Set_startAt 2 = .ok (.putfield 21, 3) := by decide +kernel
theorem d_Set_startAt_5 : decode b_Set_startAt 5 = .ok (.return_, 1) := by decide +kernel
theorem d_Set_endAt_0 : decode b_Set_endAt 0 = .ok (.aload_n 0, 1) := by decide +kernel
theorem d_Set_endAt_1 : decode b_Set_endAt 1 = .ok (.lload_n 1, 1) := by decide +kernel
theorem d_Set_endAt_2 : decode b_Set_endAt 2 = .ok (.putfield 25, 3) := by decide +kernel
theorem d_Set_endAt_5 : decode b_Set_endAt 5 = .ok (.return_, 1) := by decide +kernel
theorem d_Set_blur_0 : decode b_Set_blur 0 = .ok (.iconst 0, 1) := by decide +kernel
theorem d_Set_blur_1 : decode b_Set_blur 1 = .ok (.istore_n 3, 1) := by decide +kernel
theorem d_Set_blur_2 : decode b_Set_blur 2 = .ok (.iload_n 3, 1) := by decide +kernel
theorem d_Set_blur_3 : decode b_Set_blur 3 = .ok (.bipush 40, 2) := by decide +kernel
theorem d_Set_blur_5 : decode b_Set_blur 5 = .ok (.if_icmp .ge 43, 3) := by decide +kernel
theorem d_Set_blur_8 : decode b_Set_blur 8 = .ok (.aload_n 0, 1) := by decide +kernel
theorem d_Set_blur_9 : decode b_Set_blur 9 = .ok (.getfield 15, 3) := by decide +kernel
theorem d_Set_blur_12 : decode b_Set_blur 12 = .ok (.iload_n 3, 1) := by decide +kernel
theorem d_Set_blur_13 : decode b_Set_blur 13 = .ok (.aload_n 1, 1) := by decide +kernel
theorem d_Set_blur_14 : decode b_Set_blur 14 = .ok (.iload_n 3, 1) := by decide +kernel
theorem d_Set_blur_15 : decode b_Set_blur 15 = .ok (.invokevirtual 69, 3) := by decide +kernel
theorem d_Set_blur_18 : decode b_Set_blur 18 = .ok (.ifCond .eq 10, 3) := by decide +kernel
theorem d_Set_blur_21 : decode b_Set_blur 21 = .ok (.aload_n 1, 1) := by decide +kernel
theorem d_Set_blur_22 : decode b_Set_blur 22 = .ok (.getfield 68, 3) := by decide +kernel
theorem d_Set_blur_25 : decode b_Set_blur 25 = .ok (.goto 16, 3) := by decide +kernel
theorem d_Set_blur_28 : decode b_Set_blur 28 = .ok (.aload_n 1, 1) := by decide +kernel
theorem d_Set_blur_29 : decode b_Set_blur 29 = .ok (.invokevirtual 79, 3) := by decide +kernel
theorem d_Set_blur_32 : decode b_Set_blur 32 = .ok (.aload_n 1, 1) := by decide +kernel
theorem d_Set_blur_33 : decode b_Set_blur 33 = .ok (.getfield 68, 3) := by decide +kernel
theorem d_Set_blur_36 : decode b_Set_blur 36 = .ok (.ldc2_w 83, 3) := by decide +kernel
theorem d_Set_blur_39 : decode b_Set_blur 39 = .ok (.lxor, 1) := by decide +kernel
theorem d_Set_blur_40 : decode b_Set_blur 40 = .ok (.land, 1) := by decide +kernel
theorem d_Set_blur_41 : decode b_Set_blur 41 = .ok (.lastore, 1) := by decide +kernel
theorem d_Set_blur_42 : decode b_Set_blur 42 = .ok (.iinc 3 1, 3) := by decide +kernel
theorem d_Set_blur_45 : decode b_Set_blur 45 = .ok (.goto (-43), 3) := by decide +kernel
theorem d_Set_blur_48 : decode b_Set_blur 48 = .ok (.iconst 0, 1) := by decide +kernel
theorem d_Set_blur_49 : decode b_Set_blur 49 = .ok (.istore_n 3, 1) := by decide +kernel
theorem d_Set_blur_50 : decode b_Set_blur 50 = .ok (.iload_n 3, 1) := by decide +kernel
theorem d_Set_blur_51 : decode b_Set_blur 51 = .ok (.iload_n 2, 1) := by decide +kernel
theorem d_Set_blur_52 : decode b_Set_blur 52 = .ok (.if_icmp .ge 14, 3) := by decide +kernel
theorem d_Set_blur_55 : decode b_Set_blur 55 = .ok (.aload_n 0, 1) := by decide +kernel
theorem d_Set_blur_56 : decode b_Set_blur 56 = .ok (.aload_n 1, 1) := by decide +kernel
theorem d_Set_blur_57 : decode b_Set_blur 57 = .ok (.invokevirtual 85, 3) := by decide +kernel
theorem d_Set_blur_60 : decode b_Set_blur 60 = .ok (.iinc 3 1, 3) := by decide +kernel
theorem d_Set_blur_63 : decode b_Set_blur 63 = .ok (.goto (-13), 3) := by decide +kernel
theorem d_Set_blur_66 : decode b_Set_blur 66 = .ok (.aload_n 0, 1) := by decide +kernel
theorem d_Set_blur_67 : decode b_Set_blur 67 = .ok (.aload_n 1, 1) := by decide +kernel
theorem d_Set_blur_68 : decode b_Set_blur 68 = .ok (.invokevirtual 44, 3) := by decide +kernel
theorem d_Set_blur_71 : decode b_Set_blur 71 = .ok (.return_, 1) := by decide +kernel
theorem d_Set_sharpenCompany_0 : decode b_Set_sharpenCompany 0 = .ok (.iconst 0, 1) := by decide +kernel
theorem d_Set_sharpenCompany_1 : decode b_Set_sharpenCompany 1 = .ok (.istore_n 2, 1) := by decide +kernel
theorem d_Set_sharpenCompany_2 : decode b_Set_sharpenCompany 2 = .ok (.iload_n 2, 1) := by decide +kernel
theorem d_Set_sharpenCompany_3 : decode b_Set_sharpenCompany 3 = .ok (.aload_n 1, 1) := by decide +kernel
theorem d_Set_sharpenCompany_4 : decode b_Set_sharpenCompany 4 = .ok (.getfield 51, 3) := by decide +kernel
theorem d_Set_sharpenCompany_7 : decode b_Set_sharpenCompany 7 = .ok (.if_icmp .ge 67, 3) := by decide +kernel
theorem d_Set_sharpenCompany_10 : decode b_Set_sharpenCompany 10 = .ok (.aload_n 0, 1) := by decide +kernel
theorem d_Set_sharpenCompany_11 : decode b_Set_sharpenCompany 11 = .ok (.getfield 18, 3) := by decide +kernel
theorem d_Set_sharpenCompany_14 : decode b_Set_sharpenCompany 14 = .ok (.iload_n 2, 1) := by decide +kernel
theorem d_Set_sharpenCompany_15 : decode b_Set_sharpenCompany 15 = .ok (.lconst 0, 1) := by decide +kernel
theorem d_Set_sharpenCompany_16 : decode b_Set_sharpenCompany 16 = .ok (.lastore, 1) := by decide +kernel
theorem d_Set_sharpenCompany_17 : decode b_Set_sharpenCompany 17 = .ok (.iconst 0, 1) := by decide +kernel
theorem d_Set_sharpenCompany_18 : decode b_Set_sharpenCompany 18 = .ok (.istore_n 3, 1) := by decide +kernel
theorem d_Set_sharpenCompany_19 : decode b_Set_sharpenCompany 19 = .ok (.iload_n 3, 1) := by decide +kernel
theorem d_Set_sharpenCompany_20 : decode b_Set_sharpenCompany 20 = .ok (.aload_n 1, 1) := by decide +kernel
theorem d_Set_sharpenCompany_21 : decode b_Set_sharpenCompany 21 = .ok (.getfield 51, 3) := by decide +kernel
theorem d_Set_sharpenCompany_24 : decode b_Set_sharpenCompany 24 = .ok (.if_icmp .ge 44, 3) := by decide +kernel
theorem d_Set_sharpenCompany_27 : decode b_Set_sharpenCompany 27 = .ok (.aload_n 0, 1) := by decide +kernel
theorem d_Set_sharpenCompany_28 : decode b_Set_sharpenCompany 28 = .ok (.getfield 15, 3) := by decide +kernel
theorem d_Set_sharpenCompany_31 : decode b_Set_sharpenCompany 31 = .ok (.iload_n 2, 1) := by decide +kernel
theorem d_Set_sharpenCompany_32 : decode b_Set_sharpenCompany 32 = .ok (.laload, 1) := by decide +kernel
theorem d_Set_sharpenCompany_33 : decode b_Set_sharpenCompany 33 = .ok (.iload_n 3, 1) := by decide +kernel
theorem d_Set_sharpenCompany_34 : decode b_Set_sharpenCompany 34 = .ok (.invokestatic 32, 3) := by decide +kernel
theorem d_Set_sharpenCompany_37 : decode b_Set_sharpenCompany 37 = .ok (.ifCond .eq 25, 3) := by decide +kernel
theorem d_Set_sharpenCompany_40 : decode b_Set_sharpenCompany 40 = .ok (.aload_n 0, 1) := by decide +kernel
theorem d_Set_sharpenCompany_41 : decode b_Set_sharpenCompany 41 = .ok (.aload_n 1, 1) := by decide +kernel
theorem d_Set_sharpenCompany_42 : decode b_Set_sharpenCompany 42 = .ok (.iload_n 2, 1) := by decide +kernel
theorem d_Set_sharpenCompany_43 : decode b_Set_sharpenCompany 43 = .ok (.iload_n 3, 1) := by decide +kernel
theorem d_Set_sharpenCompany_44 : decode b_Set_sharpenCompany 44 = .ok (.invokevirtual 88, 3) := by decide +kernel
theorem d_Set_sharpenCompany_47 : decode b_Set_sharpenCompany 47 = .ok (.ifCond .eq 15, 3) := by decide +kernel
theorem d_Set_sharpenCompany_50 : decode b_Set_sharpenCompany 50 = .ok (.aload_n 0, 1) := by decide +kernel
theorem d_Set_sharpenCompany_51 : decode b_Set_sharpenCompany 51 = .ok (.getfield 18, 3) := by decide +kernel
theorem d_Set_sharpenCompany_54 : decode b_Set_sharpenCompany 54 = .ok (.iload_n 2, 1) := by decide +kernel
theorem d_Set_sharpenCompany_55 : decode b_Set_sharpenCompany 55 = .ok (.dup2, 1) := by decide +kernel
theorem d_Set_sharpenCompany_56 : decode b_Set_sharpenCompany 56 = .ok (.laload, 1) := by decide +kernel
theorem d_Set_sharpenCompany_57 : decode b_Set_sharpenCompany 57 = .ok (.lconst 1, 1) := by decide +kernel
theorem d_Set_sharpenCompany_58 : decode b_Set_sharpenCompany 58 = .ok (.iload_n 3, 1) := by decide +kernel
theorem d_Set_sharpenCompany_59 : decode b_Set_sharpenCompany 59 = .ok (.lshl, 1) := by decide +kernel
theorem d_Set_sharpenCompany_60 : decode b_Set_sharpenCompany 60 = .ok (.lor, 1) := by decide +kernel
theorem d_Set_sharpenCompany_61 : decode b_Set_sharpenCompany 61 = .ok (.lastore, 1) := by decide +kernel
theorem d_Set_sharpenCompany_62 : decode b_Set_sharpenCompany 62 = .ok (.iinc 3 1, 3) := by decide +kernel
theorem d_Set_sharpenCompany_65 : decode b_Set_sharpenCompany 65 = .ok (.goto (-46), 3) := by decide +kernel
theorem d_Set_sharpenCompany_68 : decode b_Set_sharpenCompany 68 = .ok (.iinc 2 1, 3) := by decide +kernel
theorem d_Set_sharpenCompany_71 : decode b_Set_sharpenCompany 71 = .ok (.goto (-69), 3) := by decide +kernel
theorem d_Set_sharpenCompany_74 : decode b_Set_sharpenCompany 74 = .ok (.aload_n 0, 1) := by decide +kernel
theorem d_Set_sharpenCompany_75 : decode b_Set_sharpenCompany 75 = .ok (.getfield 18, 3) := by decide +kernel
theorem d_Set_sharpenCompany_78 : decode b_Set_sharpenCompany 78 = .ok (.iconst 0, 1) := by decide +kernel
theorem d_Set_sharpenCompany_79 : decode b_Set_sharpenCompany 79 = .ok (.aload_n 0, 1) := by decide +kernel
theorem d_Set_sharpenCompany_80 : decode b_Set_sharpenCompany 80 = .ok (.getfield 15, 3) := by decide +kernel
theorem d_Set_sharpenCompany_83 : decode b_Set_sharpenCompany 83 = .ok (.iconst 0, 1) := by decide +kernel
theorem d_Set_sharpenCompany_84 : decode b_Set_sharpenCompany 84 = .ok (.aload_n 1, 1) := by decide +kernel
theorem d_Set_sharpenCompany_85 : decode b_Set_sharpenCompany 85 = .ok (.getfield 51, 3) := by decide +kernel
theorem d_Set_sharpenCompany_88 : decode b_Set_sharpenCompany 88 = .ok (.invokestatic 92, 3) := by decide +kernel
theorem d_Set_sharpenCompany_91 : decode b_Set_sharpenCompany 91 = .ok (.return_, 1) := by decide +kernel
theorem d_Set_leadAlike_0 : decode b_Set_leadAlike 0 = .ok (.iconst 0, 1) := by decide +kernel
theorem d_Set_leadAlike_1 : decode b_Set_leadAlike 1 = .ok (.istore 4, 2) := by decide +kernel
theorem d_Set_leadAlike_3 : decode b_Set_leadAlike 3 = .ok (.iload 4, 2) := by decide +kernel
theorem d_Set_leadAlike_5 : decode b_Set_leadAlike 5 = .ok (.aload_n 0, 1) := by decide +kernel
theorem d_Set_leadAlike_6 : decode b_Set_leadAlike 6 = .ok (.getfield 28, 3) := by decide +kernel
theorem d_Set_leadAlike_9 : decode b_Set_leadAlike 9 = .ok (.if_icmp .ge 35, 3) := by decide +kernel
theorem d_Set_leadAlike_12 : decode b_Set_leadAlike 12 = .ok (.aload_n 0, 1) := by decide +kernel
theorem d_Set_leadAlike_13 : decode b_Set_leadAlike 13 = .ok (.aload_n 1, 1) := by decide +kernel
theorem d_Set_leadAlike_14 : decode b_Set_leadAlike 14 = .ok (.iload_n 2, 1) := by decide +kernel
theorem d_Set_leadAlike_15 : decode b_Set_leadAlike 15 = .ok (.iload 4, 2) := by decide +kernel
theorem d_Set_leadAlike_17 : decode b_Set_leadAlike 17 = .ok (.invokevirtual 56, 3) := by decide +kernel
theorem d_Set_leadAlike_20 : decode b_Set_leadAlike 20 = .ok (.invokevirtual 60, 3) := by decide +kernel
theorem d_Set_leadAlike_23 : decode b_Set_leadAlike 23 = .ok (.aload_n 1, 1) := by decide +kernel
theorem d_Set_leadAlike_24 : decode b_Set_leadAlike 24 = .ok (.iload_n 3, 1) := by decide +kernel
theorem d_Set_leadAlike_25 : decode b_Set_leadAlike 25 = .ok (.iload 4, 2) := by decide +kernel
theorem d_Set_leadAlike_27 : decode b_Set_leadAlike 27 = .ok (.invokevirtual 56, 3) := by decide +kernel
theorem d_Set_leadAlike_30 : decode b_Set_leadAlike 30 = .ok (.invokestatic 32, 3) := by decide +kernel
theorem d_Set_leadAlike_33 : decode b_Set_leadAlike 33 = .ok (.ifCond .ne 5, 3) := by decide +kernel
theorem d_Set_leadAlike_36 : decode b_Set_leadAlike 36 = .ok (.iconst 0, 1) := by decide +kernel
theorem d_Set_leadAlike_37 : decode b_Set_leadAlike 37 = .ok (.ireturn, 1) := by decide +kernel
theorem d_Set_leadAlike_38 : decode b_Set_leadAlike 38 = .ok (.iinc 4 1, 3) := by decide +kernel
theorem d_Set_leadAlike_41 : decode b_Set_leadAlike 41 = .ok (.goto (-38), 3) := by decide +kernel
theorem d_Set_leadAlike_44 : decode b_Set_leadAlike 44 = .ok (.iconst 1, 1) := by decide +kernel
theorem d_Set_leadAlike_45 : decode b_Set_leadAlike 45 = .ok (.ireturn, 1) := by decide +kernel
