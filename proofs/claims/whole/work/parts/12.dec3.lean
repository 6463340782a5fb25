/-! DECODE ROWS -/
theorem d_Txt_init_0 : decode b_Txt_init 0 = .ok (.aload_n 0, 1) := by decide +kernel
theorem d_Txt_init_1 : decode b_Txt_init 1 = .ok (.invokespecial 3, 3) := by decide +kernel
theorem d_Txt_init_4 : decode b_Txt_init 4 = .ok (.aload_n 0, 1) := by decide +kernel
theorem d_Txt_init_5 : decode b_Txt_init 5 = .ok (.new 9, 3) := by decide +kernel
theorem d_Txt_init_8 : decode b_Txt_init 8 = .ok (.dup, 1) := by decide +kernel
theorem d_Txt_init_9 : decode b_Txt_init 9 = .ok (.invokespecial 11, 3) := by decide +kernel
theorem d_Txt_init_12 : decode b_Txt_init 12 = .ok (.putfield 12, 3) := by decide +kernel
theorem d_Txt_init_15 : decode b_Txt_init 15 = .ok (.aload_n 0, 1) := by decide +kernel
theorem d_Txt_init_16 : decode b_Txt_init 16 = .ok (.bipush 101, 2) := by decide +kernel
theorem d_Txt_init_18 : decode b_Txt_init 18 = .ok (.newarray .int, 2) := by decide +kernel
theorem d_Txt_init_20 : decode b_Txt_init 20 = .ok (.putfield 18, 3) := by decide +kernel
theorem d_Txt_init_23 : decode b_Txt_init 23 = .ok (.aload_n 0, 1) := by decide +kernel
theorem d_Txt_init_24 : decode b_Txt_init 24 = .ok (.iconst 0, 1) := by decide +kernel
theorem d_Txt_init_25 : decode b_Txt_init 25 = .ok (.putfield 22, 3) := by decide +kernel
theorem d_Txt_init_28 : decode b_Txt_init 28 = .ok (.return_, 1) := by decide +kernel
theorem d_Txt_look_0 : decode b_Txt_look 0 = .ok (.aload_n 0, 1) := by decide +kernel
theorem d_Txt_look_1 : decode b_Txt_look 1 = .ok (.iload_n 1, 1) := by decide +kernel
theorem d_Txt_look_2 : decode b_Txt_look 2 = .ok (.putfield 22, 3) := by decide +kernel
theorem d_Txt_look_5 : decode b_Txt_look 5 = .ok (.aload_n 0, 1) := by decide +kernel
theorem d_Txt_look_6 : decode b_Txt_look 6 = .ok (.getfield 12, 3) := by decide +kernel
theorem d_Txt_look_9 : decode b_Txt_look 9 = .ok (.aload_n 2, 1) := by decide +kernel
theorem d_Txt_look_10 : decode b_Txt_look 10 = .ok (.invokevirtual 26, 3) := by decide +kernel
theorem d_Txt_look_13 : decode b_Txt_look 13 = .ok (.iconst 1, 1) := by decide +kernel
theorem d_Txt_look_14 : decode b_Txt_look 14 = .ok (.istore_n 3, 1) := by decide +kernel
theorem d_Txt_look_15 : decode b_Txt_look 15 = .ok (.iload_n 3, 1) := by decide +kernel
theorem d_Txt_look_16 : decode b_Txt_look 16 = .ok (.aload_n 0, 1) := by decide +kernel
theorem d_Txt_look_17 : decode b_Txt_look 17 = .ok (.getfield 12, 3) := by decide +kernel
theorem d_Txt_look_20 : decode b_Txt_look 20 = .ok (.getfield 30, 3) := by decide +kernel
theorem d_Txt_look_23 : decode b_Txt_look 23 = .ok (.if_icmp .ge 35, 3) := by decide +kernel
theorem d_Txt_look_26 : decode b_Txt_look 26 = .ok (.aload_n 0, 1) := by decide +kernel
theorem d_Txt_look_27 : decode b_Txt_look 27 = .ok (.getfield 18, 3) := by decide +kernel
theorem d_Txt_look_30 : decode b_Txt_look 30 = .ok (.iload_n 3, 1) := by decide +kernel
theorem d_Txt_look_31 : decode b_Txt_look 31 = .ok (.iconst 1, 1) := by decide +kernel
theorem d_Txt_look_32 : decode b_Txt_look 32 = .ok (.iadd, 1) := by decide +kernel
theorem d_Txt_look_33 : decode b_Txt_look 33 = .ok (.aload_n 0, 1) := by decide +kernel
theorem d_Txt_look_34 : decode b_Txt_look 34 = .ok (.aload_n 0, 1) := by decide +kernel
theorem d_Txt_look_35 : decode b_Txt_look 35 = .ok (.getfield 18, 3) := by decide +kernel
theorem d_Txt_look_38 : decode b_Txt_look 38 = .ok (.iload_n 3, 1) := by decide +kernel
theorem d_Txt_look_39 : decode b_Txt_look 39 = .ok (.iaload, 1) := by decide +kernel
theorem d_Txt_look_40 : decode b_Txt_look 40 = .ok (.aload_n 0, 1) := by decide +kernel
theorem d_Txt_look_41 : decode b_Txt_look 41 = .ok (.getfield 12, 3) := by decide +kernel
theorem d_Txt_look_44 : decode b_Txt_look 44 = .ok (.iload_n 3, 1) := by decide +kernel
theorem d_Txt_look_45 : decode b_Txt_look 45 = .ok (.invokevirtual 33, 3) := by decide +kernel
theorem d_Txt_look_48 : decode b_Txt_look 48 = .ok (.invokevirtual 37, 3) := by decide +kernel
theorem d_Txt_look_51 : decode b_Txt_look 51 = .ok (.iastore, 1) := by decide +kernel
theorem d_Txt_look_52 : decode b_Txt_look 52 = .ok (.iinc 3 1, 3) := by decide +kernel
theorem d_Txt_look_55 : decode b_Txt_look 55 = .ok (.goto (-40), 3) := by decide +kernel
theorem d_Txt_look_58 : decode b_Txt_look 58 = .ok (.return_, 1) := by decide +kernel
theorem d_Txt_metAnywhere_0 : decode b_Txt_metAnywhere 0 = .ok (.iload_n 1, 1) := by decide +kernel
theorem d_Txt_metAnywhere_1 : decode b_Txt_metAnywhere 1 = .ok (.istore_n 3, 1) := by decide +kernel
theorem d_Txt_metAnywhere_2 : decode b_Txt_metAnywhere 2 = .ok (.iconst 0, 1) := by decide +kernel
theorem d_Txt_metAnywhere_3 : decode b_Txt_metAnywhere 3 = .ok (.istore 4, 2) := by decide +kernel
theorem d_Txt_metAnywhere_5 : decode b_Txt_metAnywhere 5 = .ok (.iload 4, 2) := by decide +kernel
theorem d_Txt_metAnywhere_7 : decode b_Txt_metAnywhere 7 = .ok (.bipush 100, 2) := by decide +kernel
theorem d_Txt_metAnywhere_9 : decode b_Txt_metAnywhere 9 = .ok (.if_icmp .gt 55, 3) := by decide +kernel
theorem d_Txt_metAnywhere_12 : decode b_Txt_metAnywhere 12 = .ok (.iload_n 3, 1) := by decide +kernel
theorem d_Txt_metAnywhere_13 : decode b_Txt_metAnywhere 13 = .ok (.aload_n 0, 1) := by decide +kernel
theorem d_Txt_metAnywhere_14 : decode b_Txt_metAnywhere 14 = .ok (.getfield 12, 3) := by decide +kernel
theorem d_Txt_metAnywhere_17 : decode b_Txt_metAnywhere 17 = .ok (.getfield 30, 3) := by decide +kernel
theorem d_Txt_metAnywhere_20 : decode b_Txt_metAnywhere 20 = .ok (.if_icmp .ge 19, 3) := by decide +kernel
theorem d_Txt_metAnywhere_23 : decode b_Txt_metAnywhere 23 = .ok (.aload_n 0, 1) := by decide +kernel
theorem d_Txt_metAnywhere_24 : decode b_Txt_metAnywhere 24 = .ok (.getfield 12, 3) := by decide +kernel
theorem d_Txt_metAnywhere_27 : decode b_Txt_metAnywhere 27 = .ok (.iload_n 3, 1) := by decide +kernel
theorem d_Txt_metAnywhere_28 : decode b_Txt_metAnywhere 28 = .ok (.invokevirtual 33, 3) := by decide +kernel
theorem d_Txt_metAnywhere_31 : decode b_Txt_metAnywhere 31 = .ok (.iload_n 2, 1) := by decide +kernel
theorem d_Txt_metAnywhere_32 : decode b_Txt_metAnywhere 32 = .ok (.if_icmp .ne 7, 3) := by decide +kernel
theorem d_Txt_metAnywhere_35 : decode b_Txt_metAnywhere 35 = .ok (.iload_n 3, 1) := by decide +kernel
theorem d_Txt_metAnywhere_36 : decode b_Txt_metAnywhere 36 = .ok (.iconst 1, 1) := by decide +kernel
theorem d_Txt_metAnywhere_37 : decode b_Txt_metAnywhere 37 = .ok (.iadd, 1) := by decide +kernel
theorem d_Txt_metAnywhere_38 : decode b_Txt_metAnywhere 38 = .ok (.ireturn, 1) := by decide +kernel
theorem d_Txt_metAnywhere_39 : decode b_Txt_metAnywhere 39 = .ok (.iload_n 3, 1) := by decide +kernel
theorem d_Txt_metAnywhere_40 : decode b_Txt_metAnywhere 40 = .ok (.ifCond .le 9, 3) := by decide +kernel
theorem d_Txt_metAnywhere_43 : decode b_Txt_metAnywhere 43 = .ok (.iload_n 3, 1) := by decide +kernel
theorem d_Txt_metAnywhere_44 : decode b_Txt_metAnywhere 44 = .ok (.bipush 100, 2) := by decide +kernel
theorem d_Txt_metAnywhere_46 : decode b_Txt_metAnywhere 46 = .ok (.if_icmp .le 5, 3) := by decide +kernel
theorem d_Txt_metAnywhere_49 : decode b_Txt_metAnywhere 49 = .ok (.iconst 0, 1) := by decide +kernel
theorem d_Txt_metAnywhere_50 : decode b_Txt_metAnywhere 50 = .ok (.ireturn, 1) := by decide +kernel
theorem d_Txt_metAnywhere_51 : decode b_Txt_metAnywhere 51 = .ok (.aload_n 0, 1) := by decide +kernel
theorem d_Txt_metAnywhere_52 : decode b_Txt_metAnywhere 52 = .ok (.getfield 18, 3) := by decide +kernel
theorem d_Txt_metAnywhere_55 : decode b_Txt_metAnywhere 55 = .ok (.iload_n 3, 1) := by decide +kernel
theorem d_Txt_metAnywhere_56 : decode b_Txt_metAnywhere 56 = .ok (.iaload, 1) := by decide +kernel
theorem d_Txt_metAnywhere_57 : decode b_Txt_metAnywhere 57 = .ok (.istore_n 3, 1) := by decide +kernel
theorem d_Txt_metAnywhere_58 : decode b_Txt_metAnywhere 58 = .ok (.iinc 4 1, 3) := by decide +kernel
theorem d_Txt_metAnywhere_61 : decode b_Txt_metAnywhere 61 = .ok (.goto (-56), 3) := by decide +kernel
theorem d_Txt_metAnywhere_64 : decode b_Txt_metAnywhere 64 = .ok (.iconst 0, 1) := by decide +kernel
theorem d_Txt_metAnywhere_65 : decode b_Txt_metAnywhere 65 = .ok (.ireturn, 1) := by decide +kernel
theorem d_Txt_first_0 : decode b_Txt_first 0 = .ok (.lconst 0, 1) := by decide +kernel
theorem d_Txt_first_1 : decode b_Txt_first 1 = .ok (.lreturn, 1) := by decide +kernel
theorem d_Txt_isLast_0 : decode b_Txt_isLast 0 = .ok (.lload_n 1, 1) := by decide +kernel
theorem d_Txt_isLast_1 : decode b_Txt_isLast 1 = .ok (.aload_n 0, 1) := by decide +kernel
theorem d_Txt_isLast_2 : decode b_Txt_isLast 2 = .ok (.getfield 12, 3) := by decide +kernel
theorem d_Txt_isLast_5 : decode b_Txt_isLast 5 = .ok (.getfield 30, 3) := by decide +kernel
theorem d_Txt_isLast_8 : decode b_Txt_isLast 8 = .ok (.i2l, 1) := by decide +kernel
theorem d_Txt_isLast_9 : decode b_Txt_isLast 9 = .ok (.lcmp, 1) := by decide +kernel
theorem d_Txt_isLast_10 : decode b_Txt_isLast 10 = .ok (.ifCond .ne 7, 3) := by decide +kernel
theorem d_Txt_isLast_13 : decode b_Txt_isLast 13 = .ok (.iconst 1, 1) := by decide +kernel
theorem d_Txt_isLast_14 : decode b_Txt_isLast 14 = .ok (.goto 4, 3) := by decide +kernel
theorem d_Txt_isLast_17 : decode b_Txt_isLast 17 = .ok (.iconst 0, 1) := by decide +kernel
theorem d_Txt_isLast_18 : decode b_Txt_isLast 18 = .ok (.ireturn, 1) := by decide +kernel
theorem d_Txt_after_0 : decode b_Txt_after 0 = .ok (.lload_n 1, 1) := by decide +kernel
theorem d_Txt_after_1 : decode b_Txt_after 1 = .ok (.l2i, 1) := by decide +kernel
theorem d_Txt_after_2 : decode b_Txt_after 2 = .ok (.istore 4, 2) := by decide +kernel
theorem d_Txt_after_4 : decode b_Txt_after 4 = .ok (.iload 4, 2) := by decide +kernel
theorem d_Txt_after_6 : decode b_Txt_after 6 = .ok (.aload_n 0, 1) := by decide +kernel
theorem d_Txt_after_7 : decode b_Txt_after 7 = .ok (.getfield 12, 3) := by decide +kernel
theorem d_Txt_after_10 : decode b_Txt_after 10 = .ok (.getfield 30, 3) := by decide +kernel
theorem d_Txt_after_13 : decode b_Txt_after 13 = .ok (.if_icmp .ne 7, 3) := by decide +kernel
theorem d_Txt_after_16 : decode b_Txt_after 16 = .ok (.iconst 1, 1) := by decide +kernel
theorem d_Txt_after_17 : decode b_Txt_after 17 = .ok (.goto 4, 3) := by decide +kernel
theorem d_Txt_after_20 : decode b_Txt_after 20 = .ok (.iconst 0, 1) := by decide +kernel
theorem d_Txt_after_21 : decode b_Txt_after 21 = .ok (.istore 5, 2) := by decide +kernel
theorem d_Txt_after_23 : decode b_Txt_after 23 = .ok (.iload 5, 2) := by decide +kernel
theorem d_Txt_after_25 : decode b_Txt_after 25 = .ok (.ifCond .eq 23, 3) := by decide +kernel
theorem d_Txt_after_28 : decode b_Txt_after 28 = .ok (.aload_n 0, 1) := by decide +kernel
theorem d_Txt_after_29 : decode b_Txt_after 29 = .ok (.getfield 22, 3) := by decide +kernel
theorem d_Txt_after_32 : decode b_Txt_after 32 = .ok (.iconst 1, 1) := by decide +kernel
theorem d_Txt_after_33 : decode b_Txt_after 33 = .ok (.if_icmp .eq 11, 3) := by decide +kernel
theorem d_Txt_after_36 : decode b_Txt_after 36 = .ok (.aload_n 0, 1) := by decide +kernel
theorem d_Txt_after_37 : decode b_Txt_after 37 = .ok (.getfield 22, 3) := by decide +kernel
theorem d_Txt_after_40 : decode b_Txt_after 40 = .ok (.iconst 3, 1) := by decide +kernel
theorem d_Txt_after_41 : decode b_Txt_after 41 = .ok (.if_icmp .ne 7, 3) := by decide +kernel
theorem d_Txt_after_44 : decode b_Txt_after 44 = .ok (.iload 4, 2) := by decide +kernel
theorem d_Txt_after_46 : decode b_Txt_after 46 = .ok (.i2l, 1) := by decide +kernel
theorem d_Txt_after_47 : decode b_Txt_after 47 = .ok (.lreturn, 1) := by decide +kernel
theorem d_Txt_after_48 : decode b_Txt_after 48 = .ok (.aload_n 0, 1) := by decide +kernel
theorem d_Txt_after_49 : decode b_Txt_after 49 = .ok (.getfield 22, 3) := by decide +kernel
theorem d_Txt_after_52 : decode b_Txt_after 52 = .ok (.ifCond .eq 11, 3) := by decide +kernel
theorem d_Txt_after_55 : decode b_Txt_after 55 = .ok (.aload_n 0, 1) := by decide +kernel
theorem d_Txt_after_56 : decode b_Txt_after 56 = .ok (.getfield 22, 3) := by decide +kernel
theorem d_Txt_after_59 : decode b_Txt_after 59 = .ok (.iconst 1, 1) := by decide +kernel
theorem d_Txt_after_60 : decode b_Txt_after 60 = .ok (.if_icmp .ne 14, 3) := by decide +kernel
theorem d_Txt_after_63 : decode b_Txt_after 63 = .ok (.aload_n 0, 1) := by decide +kernel
theorem d_Txt_after_64 : decode b_Txt_after 64 = .ok (.iload 4, 2) := by decide +kernel
theorem d_Txt_after_66 : decode b_Txt_after 66 = .ok (.iload_n 3, 1) := by decide +kernel
theorem d_Txt_after_67 : decode b_Txt_after 67 = .ok (.invokevirtual 41, 3) := by decide +kernel
theorem d_Txt_after_70 : decode b_Txt_after 70 = .ok (.i2l, 1) := by decide +kernel
theorem d_Txt_after_71 : decode b_Txt_after 71 = .ok (.goto 11, 3) := by decide +kernel
theorem d_Txt_after_74 : decode b_Txt_after 74 = .ok (.aload_n 0, 1) := by decide +kernel
theorem d_Txt_after_75 : decode b_Txt_after 75 = .ok (.iload 4, 2) := by decide +kernel
theorem d_Txt_after_77 : decode b_Txt_after 77 = .ok (.iload_n 3, 1) := by decide +kernel
theorem d_Txt_after_78 : decode b_Txt_after 78 = .ok (.invokevirtual 37, 3) := by decide +kernel
theorem d_Txt_after_81 : decode b_Txt_after 81 = .ok (.i2l, 1) := by decide +kernel
theorem d_Txt_after_82 : decode b_Txt_after 82 = .ok (.lreturn, 1) := by decide +kernel
theorem d_Txt_metAhead_0 : decode b_Txt_metAhead 0 = .ok (.iload_n 1, 1) := by decide +kernel
theorem d_Txt_metAhead_1 : decode b_Txt_metAhead 1 = .ok (.aload_n 0, 1) := by decide +kernel
theorem d_Txt_metAhead_2 : decode b_Txt_metAhead 2 = .ok (.getfield 12, 3) := by decide +kernel
theorem d_Txt_metAhead_5 : decode b_Txt_metAhead 5 = .ok (.getfield 30, 3) := by decide +kernel
theorem d_Txt_metAhead_8 : decode b_Txt_metAhead 8 = .ok (.if_icmp .ge 21, 3) := by decide +kernel
theorem d_Txt_metAhead_11 : decode b_Txt_metAhead 11 = .ok (.aload_n 0, 1) := by decide +kernel
theorem d_Txt_metAhead_12 : decode b_Txt_metAhead 12 = .ok (.getfield 12, 3) := by decide +kernel
theorem d_Txt_metAhead_15 : decode b_Txt_metAhead 15 = .ok (.iload_n 1, 1) := by decide +kernel
theorem d_Txt_metAhead_16 : decode b_Txt_metAhead 16 = .ok (.invokevirtual 33, 3) := by decide +kernel
theorem d_Txt_metAhead_19 : decode b_Txt_metAhead 19 = .ok (.iload_n 2, 1) := by decide +kernel
theorem d_Txt_metAhead_20 : decode b_Txt_metAhead 20 = .ok (.if_icmp .ne 9, 3) := by decide +kernel
theorem d_Txt_metAhead_23 : decode b_Txt_metAhead 23 = .ok (.iload_n 1, 1) := by decide +kernel
theorem d_Txt_metAhead_24 : decode b_Txt_metAhead 24 = .ok (.iconst 1, 1) := by decide +kernel
theorem d_Txt_metAhead_25 : decode b_Txt_metAhead 25 = .ok (.iadd, 1) := by decide +kernel
theorem d_Txt_metAhead_26 : decode b_Txt_metAhead 26 = .ok (.goto 5, 3) := by decide +kernel
theorem d_Txt_metAhead_29 : decode b_Txt_metAhead 29 = .ok (.bipush 101, 2) := by decide +kernel
theorem d_Txt_metAhead_31 : decode b_Txt_metAhead 31 = .ok (.ireturn, 1) := by decide +kernel
theorem d_Num_init_0 : decode b_Num_init 0 = .ok (.aload_n 0, 1) := by decide +kernel
theorem d_Num_init_1 : decode b_Num_init 1 = .ok (.invokespecial 3, 3) := by decide +kernel
theorem d_Num_init_4 : decode b_Num_init 4 = .ok (.aload_n 0, 1) := by decide +kernel
theorem d_Num_init_5 : decode b_Num_init 5 = .ok (.new 9, 3) := by decide +kernel
theorem d_Num_init_8 : decode b_Num_init 8 = .ok (.dup, 1) := by decide +kernel
theorem d_Num_init_9 : decode b_Num_init 9 = .ok (.invokespecial 11, 3) := by decide +kernel
theorem d_Num_init_12 : decode b_Num_init 12 = .ok (.putfield 12, 3) := by decide +kernel
theorem d_Num_init_15 : decode b_Num_init 15 = .ok (.aload_n 0, 1) := by decide +kernel
theorem d_Num_init_16 : decode b_Num_init 16 = .ok (.new 9, 3) := by decide +kernel
theorem d_Num_init_19 : decode b_Num_init 19 = .ok (.dup, 1) := by decide +kernel
theorem d_Num_init_20 : decode b_Num_init 20 = .ok (.invokespecial 11, 3) := by decide +kernel
theorem d_Num_init_23 : decode b_Num_init 23 = .ok (.putfield 18, 3) := by decide +kernel
theorem d_Num_init_26 : decode b_Num_init 26 = .ok (.aload_n 0, 1) := by decide +kernel
theorem d_Num_init_27 : decode b_Num_init 27 = .ok (.iload_n 1, 1) := by decide +kernel
theorem d_Num_init_28 : decode b_Num_init 28 = .ok (.putfield 21, 3) := by decide +kernel
theorem d_Num_init_31 : decode b_Num_init 31 = .ok (.return_, 1) := by decide +kernel
theorem d_Num_first_0 : decode b_Num_first 0 = .ok (.lconst 0, 1) := by decide +kernel
theorem d_Num_first_1 : decode b_Num_first 1 = .ok (.lreturn, 1) := by decide +kernel
theorem d_Num_isLast_0 : decode b_Num_isLast 0 = .ok (.lload_n 1, 1) := by decide +kernel
theorem d_Num_isLast_1 : decode b_Num_isLast 1 = .ok (.ldc2_w 52, 3) := by decide +kernel
theorem d_Num_isLast_4 : decode b_Num_isLast 4 = .ok (.lcmp, 1) := by decide +kernel
theorem d_Num_isLast_5 : decode b_Num_isLast 5 = .ok (.ifCond .ge 26, 3) := by decide +kernel
theorem d_Num_isLast_8 : decode b_Num_isLast 8 = .ok (.lload_n 1, 1) := by decide +kernel
theorem d_Num_isLast_9 : decode b_Num_isLast 9 = .ok (.lconst 1, 1) := by decide +kernel
theorem d_Num_isLast_10 : decode b_Num_isLast 10 = .ok (.lcmp, 1) := by decide +kernel
theorem d_Num_isLast_11 : decode b_Num_isLast 11 = .ok (.ifCond .ne 18, 3) := by decide +kernel
theorem d_Num_isLast_14 : decode b_Num_isLast 14 = .ok (.aload_n 0, 1) := by decide +kernel
theorem d_Num_isLast_15 : decode b_Num_isLast 15 = .ok (.getfield 12, 3) := by decide +kernel
theorem d_Num_isLast_18 : decode b_Num_isLast 18 = .ok (.iconst 0, 1) := by decide +kernel
theorem d_Num_isLast_19 : decode b_Num_isLast 19 = .ok (.invokevirtual 65, 3) := by decide +kernel
theorem d_Num_isLast_22 : decode b_Num_isLast 22 = .ok (.ifCond .ne 7, 3) := by decide +kernel
theorem d_Num_isLast_25 : decode b_Num_isLast 25 = .ok (.iconst 1, 1) := by decide +kernel
theorem d_Num_isLast_26 : decode b_Num_isLast 26 = .ok (.goto 4, 3) := by decide +kernel
theorem d_Num_isLast_29 : decode b_Num_isLast 29 = .ok (.iconst 0, 1) := by decide +kernel
theorem d_Num_isLast_30 : decode b_Num_isLast 30 = .ok (.ireturn, 1) := by decide +kernel
theorem d_Num_isLast_31 : decode b_Num_isLast 31 = .ok (.lload_n 1, 1) := by decide +kernel
theorem d_Num_isLast_32 : decode b_Num_isLast 32 = .ok (.invokestatic 48, 3) := by decide +kernel
theorem d_Num_isLast_35 : decode b_Num_isLast 35 = .ok (.istore_n 3, 1) := by decide +kernel
theorem d_Num_isLast_36 : decode b_Num_isLast 36 = .ok (.iload_n 3, 1) := by decide +kernel
theorem d_Num_isLast_37 : decode b_Num_isLast 37 = .ok (.aload_n 0, 1) := by decide +kernel
theorem d_Num_isLast_38 : decode b_Num_isLast 38 = .ok (.getfield 12, 3) := by decide +kernel
theorem d_Num_isLast_41 : decode b_Num_isLast 41 = .ok (.getfield 54, 3) := by decide +kernel
theorem d_Num_isLast_44 : decode b_Num_isLast 44 = .ok (.if_icmp .lt 14, 3) := by decide +kernel
theorem d_Num_isLast_47 : decode b_Num_isLast 47 = .ok (.lload_n 1, 1) := by decide +kernel
theorem d_Num_isLast_48 : decode b_Num_isLast 48 = .ok (.invokestatic 59, 3) := by decide +kernel
theorem d_Num_isLast_51 : decode b_Num_isLast 51 = .ok (.ifCond .eq 7, 3) := by decide +kernel
theorem d_Num_isLast_54 : decode b_Num_isLast 54 = .ok (.iconst 1, 1) := by decide +kernel
theorem d_Num_isLast_55 : decode b_Num_isLast 55 = .ok (.goto 4, 3) := by decide +kernel
theorem d_Num_isLast_58 : decode b_Num_isLast 58 = .ok (.iconst 0, 1) := by decide +kernel
theorem d_Num_isLast_59 : decode b_Num_isLast 59 = .ok (.istore 4, 2) := by decide +kernel
theorem d_Num_isLast_61 : decode b_Num_isLast 61 = .ok (.iload 4, 2) := by decide +kernel
theorem d_Num_isLast_63 : decode b_Num_isLast 63 = .ok (.ifCond .eq 26, 3) := by decide +kernel
theorem d_Num_isLast_66 : decode b_Num_isLast 66 = .ok (.iload_n 3, 1) := by decide +kernel
theorem d_Num_isLast_67 : decode b_Num_isLast 67 = .ok (.aload_n 0, 1) := by decide +kernel
theorem d_Num_isLast_68 : decode b_Num_isLast 68 = .ok (.getfield 18, 3) := by decide +kernel
theorem d_Num_isLast_71 : decode b_Num_isLast 71 = .ok (.getfield 54, 3) := by decide +kernel
theorem d_Num_isLast_74 : decode b_Num_isLast 74 = .ok (.if_icmp .lt 11, 3) := by decide +kernel
theorem d_Num_isLast_77 : decode b_Num_isLast 77 = .ok (.lload_n 1, 1) := by decide +kernel
theorem d_Num_isLast_78 : decode b_Num_isLast 78 = .ok (.invokestatic 62, 3) := by decide +kernel
theorem d_Num_isLast_81 : decode b_Num_isLast 81 = .ok (.iconst 2, 1) := by decide +kernel
theorem d_Num_isLast_82 : decode b_Num_isLast 82 = .ok (.if_icmp .eq 7, 3) := by decide +kernel
theorem d_Num_isLast_85 : decode b_Num_isLast 85 = .ok (.iconst 1, 1) := by decide +kernel
theorem d_Num_isLast_86 : decode b_Num_isLast 86 = .ok (.goto 4, 3) := by decide +kernel
theorem d_Num_isLast_89 : decode b_Num_isLast 89 = .ok (.iconst 0, 1) := by decide +kernel
theorem d_Num_isLast_90 : decode b_Num_isLast 90 = .ok (.ireturn, 1) := by decide +kernel
theorem d_Num_digitsOf_0 : decode b_Num_digitsOf 0 = .ok (.lload_n 0, 1) := by decide +kernel
theorem d_Num_digitsOf_1 : decode b_Num_digitsOf 1 = .ok (.ldc2_w 52, 3) := by decide +kernel
theorem d_Num_digitsOf_4 : decode b_Num_digitsOf 4 = .ok (.lsub, 1) := by decide +kernel
theorem d_Num_digitsOf_5 : decode b_Num_digitsOf 5 = .ok (.l2i, 1) := by decide +kernel
theorem d_Num_digitsOf_6 : decode b_Num_digitsOf 6 = .ok (.bipush 9, 2) := by decide +kernel
theorem d_Num_digitsOf_8 : decode b_Num_digitsOf 8 = .ok (.idiv, 1) := by decide +kernel
theorem d_Num_digitsOf_9 : decode b_Num_digitsOf 9 = .ok (.ireturn, 1) := by decide +kernel
theorem d_Num_lowSide_0 : decode b_Num_lowSide 0 = .ok (.lload_n 0, 1) := by decide +kernel
theorem d_Num_lowSide_1 : decode b_Num_lowSide 1 = .ok (.ldc2_w 52, 3) := by decide +kernel
theorem d_Num_lowSide_4 : decode b_Num_lowSide 4 = .ok (.lsub, 1) := by decide +kernel
theorem d_Num_lowSide_5 : decode b_Num_lowSide 5 = .ok (.l2i, 1) := by decide +kernel
theorem d_Num_lowSide_6 : decode b_Num_lowSide 6 = .ok (.iconst 3, 1) := by decide +kernel
theorem d_Num_lowSide_7 : decode b_Num_lowSide 7 = .ok (.idiv, 1) := by decide +kernel
theorem d_Num_lowSide_8 : decode b_Num_lowSide 8 = .ok (.iconst 3, 1) := by decide +kernel
theorem d_Num_lowSide_9 : decode b_Num_lowSide 9 = .ok (.irem, 1) := by decide +kernel
theorem d_Num_lowSide_10 : decode b_Num_lowSide 10 = .ok (.ireturn, 1) := by decide +kernel
theorem d_Num_highSide_0 : decode b_Num_highSide 0 = .ok (.lload_n 0, 1) := by decide +kernel
theorem d_Num_highSide_1 : decode b_Num_highSide 1 = .ok (.ldc2_w 52, 3) := by decide +kernel
theorem d_Num_highSide_4 : decode b_Num_highSide 4 = .ok (.lsub, 1) := by decide +kernel
theorem d_Num_highSide_5 : decode b_Num_highSide 5 = .ok (.l2i, 1) := by decide +kernel
theorem d_Num_highSide_6 : decode b_Num_highSide 6 = .ok (.iconst 3, 1) := by decide +kernel
theorem d_Num_highSide_7 : decode b_Num_highSide 7 = .ok (.irem, 1) := by decide +kernel
theorem d_Num_highSide_8 : decode b_Num_highSide 8 = .ok (.ireturn, 1) := by decide +kernel
theorem d_Num_after_0 : decode b_Num_after 0 = .ok (.lload_n 1, 1) := by decide +kernel
theorem d_Num_after_1 : decode b_Num_after 1 = .ok (.lconst 0, 1) := by decide +kernel
theorem d_Num_after_2 : decode b_Num_after 2 = .ok (.lcmp, 1) := by decide +kernel
theorem d_Num_after_3 : decode b_Num_after 3 = .ok (.ifCond .ne 36, 3) := by decide +kernel
theorem d_Num_after_6 : decode b_Num_after 6 = .ok (.iload_n 3, 1) := by decide +kernel
theorem d_Num_after_7 : decode b_Num_after 7 = .ok (.ifCond .ne 7, 3) := by decide +kernel
theorem d_Num_after_10 : decode b_Num_after 10 = .ok (.lconst 1, 1) := by decide +kernel
theorem d_Num_after_11 : decode b_Num_after 11 = .ok (.goto 27, 3) := by decide +kernel
theorem d_Num_after_14 : decode b_Num_after 14 = .ok (.iconst 1, 1) := by decide +kernel
theorem d_Num_after_15 : decode b_Num_after 15 = .ok (.aload_n 0, 1) := by decide +kernel
theorem d_Num_after_16 : decode b_Num_after 16 = .ok (.getfield 12, 3) := by decide +kernel
theorem d_Num_after_19 : decode b_Num_after 19 = .ok (.iconst 0, 1) := by decide +kernel
theorem d_Num_after_20 : decode b_Num_after 20 = .ok (.iconst 1, 1) := by decide +kernel
theorem d_Num_after_21 : decode b_Num_after 21 = .ok (.iload_n 3, 1) := by decide +kernel
theorem d_Num_after_22 : decode b_Num_after 22 = .ok (.invokestatic 40, 3) := by decide +kernel
theorem d_Num_after_25 : decode b_Num_after 25 = .ok (.aload_n 0, 1) := by decide +kernel
theorem d_Num_after_26 : decode b_Num_after 26 = .ok (.getfield 18, 3) := by decide +kernel
theorem d_Num_after_29 : decode b_Num_after 29 = .ok (.iconst 0, 1) := by decide +kernel
theorem d_Num_after_30 : decode b_Num_after 30 = .ok (.iconst 1, 1) := by decide +kernel
theorem d_Num_after_31 : decode b_Num_after 31 = .ok (.iload_n 3, 1) := by decide +kernel
theorem d_Num_after_32 : decode b_Num_after 32 = .ok (.invokestatic 40, 3) := by decide +kernel
theorem d_Num_after_35 : decode b_Num_after 35 = .ok (.invokestatic 44, 3) := by decide +kernel
theorem d_Num_after_38 : decode b_Num_after 38 = .ok (.lreturn, 1) := by decide +kernel
theorem d_Num_after_39 : decode b_Num_after 39 = .ok (.lload_n 1, 1) := by decide +kernel
theorem d_Num_after_40 : decode b_Num_after 40 = .ok (.invokestatic 48, 3) := by decide +kernel
theorem d_Num_after_43 : decode b_Num_after 43 = .ok (.istore 4, 2) := by decide +kernel
theorem d_Num_after_45 : decode b_Num_after 45 = .ok (.lload_n 1, 1) := by decide +kernel
theorem d_Num_after_46 : decode b_Num_after 46 = .ok (.ldc2_w 52, 3) := by decide +kernel
theorem d_Num_after_49 : decode b_Num_after 49 = .ok (.lcmp, 1) := by decide +kernel
theorem d_Num_after_50 : decode b_Num_after 50 = .ok (.ifCond .lt 15, 3) := by decide +kernel
theorem d_Num_after_53 : decode b_Num_after 53 = .ok (.iload 4, 2) := by decide +kernel
theorem d_Num_after_55 : decode b_Num_after 55 = .ok (.aload_n 0, 1) := by decide +kernel
theorem d_Num_after_56 : decode b_Num_after 56 = .ok (.getfield 18, 3) := by decide +kernel
theorem d_Num_after_59 : decode b_Num_after 59 = .ok (.getfield 54, 3) := by decide +kernel
theorem d_Num_after_62 : decode b_Num_after 62 = .ok (.if_icmp .lt 7, 3) := by decide +kernel
theorem d_Num_after_65 : decode b_Num_after 65 = .ok (.ldc2_w 57, 3) := by decide +kernel
theorem d_Num_after_68 : decode b_Num_after 68 = .ok (.lreturn, 1) := by decide +kernel
theorem d_Num_after_69 : decode b_Num_after 69 = .ok (.aload_n 0, 1) := by decide +kernel
theorem d_Num_after_70 : decode b_Num_after 70 = .ok (.getfield 12, 3) := by decide +kernel
theorem d_Num_after_73 : decode b_Num_after 73 = .ok (.iload 4, 2) := by decide +kernel
theorem d_Num_after_75 : decode b_Num_after 75 = .ok (.lload_n 1, 1) := by decide +kernel
theorem d_Num_after_76 : decode b_Num_after 76 = .ok (.invokestatic 59, 3) := by decide +kernel
theorem d_Num_after_79 : decode b_Num_after 79 = .ok (.iload_n 3, 1) := by decide +kernel
theorem d_Num_after_80 : decode b_Num_after 80 = .ok (.invokestatic 40, 3) := by decide +kernel
theorem d_Num_after_83 : decode b_Num_after 83 = .ok (.istore 5, 2) := by decide +kernel
theorem d_Num_after_85 : decode b_Num_after 85 = .ok (.aload_n 0, 1) := by decide +kernel
theorem d_Num_after_86 : decode b_Num_after 86 = .ok (.getfield 18, 3) := by decide +kernel
theorem d_Num_after_89 : decode b_Num_after 89 = .ok (.iload 4, 2) := by decide +kernel
theorem d_Num_after_91 : decode b_Num_after 91 = .ok (.lload_n 1, 1) := by decide +kernel
theorem d_Num_after_92 : decode b_Num_after 92 = .ok (.invokestatic 62, 3) := by decide +kernel
theorem d_Num_after_95 : decode b_Num_after 95 = .ok (.iload_n 3, 1) := by decide +kernel
theorem d_Num_after_96 : decode b_Num_after 96 = .ok (.invokestatic 40, 3) := by decide +kernel
theorem d_Num_after_99 : decode b_Num_after 99 = .ok (.istore 6, 2) := by decide +kernel
theorem d_Num_after_101 : decode b_Num_after 101 = .ok (.iload 4, 2) := by decide +kernel
theorem d_Num_after_103 : decode b_Num_after 103 = .ok (.iconst 1, 1) := by decide +kernel
theorem d_Num_after_104 : decode b_Num_after 104 = .ok (.iadd, 1) := by decide +kernel
theorem d_Num_after_105 : decode b_Num_after 105 = .ok (.iload 5, 2) := by decide +kernel
theorem d_Num_after_107 : decode b_Num_after 107 = .ok (.iload 6, 2) := by decide +kernel
theorem d_Num_after_109 : decode b_Num_after 109 = .ok (.invokestatic 44, 3) := by decide +kernel
theorem d_Num_after_112 : decode b_Num_after 112 = .ok (.lreturn, 1) := by decide +kernel
theorem d_Num_side_0 : decode b_Num_side 0 = .ok (.iload_n 1, 1) := by decide +kernel
theorem d_Num_side_1 : decode b_Num_side 1 = .ok (.aload_n 0, 1) := by decide +kernel
theorem d_Num_side_2 : decode b_Num_side 2 = .ok (.getfield 54, 3) := by decide +kernel
theorem d_Num_side_5 : decode b_Num_side 5 = .ok (.if_icmp .lt 5, 3) := by decide +kernel
theorem d_Num_side_8 : decode b_Num_side 8 = .ok (.iconst 2, 1) := by decide +kernel
theorem d_Num_side_9 : decode b_Num_side 9 = .ok (.ireturn, 1) := by decide +kernel
theorem d_Num_side_10 : decode b_Num_side 10 = .ok (.iload_n 2, 1) := by decide +kernel
theorem d_Num_side_11 : decode b_Num_side 11 = .ok (.iconst 1, 1) := by decide +kernel
theorem d_Num_side_12 : decode b_Num_side 12 = .ok (.if_icmp .ne 12, 3) := by decide +kernel
theorem d_Num_side_15 : decode b_Num_side 15 = .ok (.iload_n 3, 1) := by decide +kernel
theorem d_Num_side_16 : decode b_Num_side 16 = .ok (.aload_n 0, 1) := by decide +kernel
theorem d_Num_side_17 : decode b_Num_side 17 = .ok (.iload_n 1, 1) := by decide +kernel
theorem d_Num_side_18 : decode b_Num_side 18 = .ok (.invokevirtual 65, 3) := by decide +kernel
theorem d_Num_side_21 : decode b_Num_side 21 = .ok (.if_icmp .ne 5, 3) := by decide +kernel
theorem d_Num_side_24 : decode b_Num_side 24 = .ok (.iload_n 2, 1) := by decide +kernel
theorem d_Num_side_25 : decode b_Num_side 25 = .ok (.ireturn, 1) := by decide +kernel
theorem d_Num_side_26 : decode b_Num_side 26 = .ok (.iload_n 3, 1) := by decide +kernel
theorem d_Num_side_27 : decode b_Num_side 27 = .ok (.aload_n 0, 1) := by decide +kernel
theorem d_Num_side_28 : decode b_Num_side 28 = .ok (.iload_n 1, 1) := by decide +kernel
theorem d_Num_side_29 : decode b_Num_side 29 = .ok (.invokevirtual 65, 3) := by decide +kernel
theorem d_Num_side_32 : decode b_Num_side 32 = .ok (.if_icmp .ge 7, 3) := by decide +kernel
theorem d_Num_side_35 : decode b_Num_side 35 = .ok (.iconst 0, 1) := by decide +kernel
theorem d_Num_side_36 : decode b_Num_side 36 = .ok (.goto 4, 3) := by decide +kernel
theorem d_Num_side_39 : decode b_Num_side 39 = .ok (.iconst 2, 1) := by decide +kernel
theorem d_Num_side_40 : decode b_Num_side 40 = .ok (.ireturn, 1) := by decide +kernel
theorem d_Num_codeOf_0 : decode b_Num_codeOf 0 = .ok (.iconst 3, 1) := by decide +kernel
theorem d_Num_codeOf_1 : decode b_Num_codeOf 1 = .ok (.iload_n 0, 1) := by decide +kernel
theorem d_Num_codeOf_2 : decode b_Num_codeOf 2 = .ok (.iconst 3, 1) := by decide +kernel
theorem d_Num_codeOf_3 : decode b_Num_codeOf 3 = .ok (.imul, 1) := by decide +kernel
theorem d_Num_codeOf_4 : decode b_Num_codeOf 4 = .ok (.iload_n 1, 1) := by decide +kernel
theorem d_Num_codeOf_5 : decode b_Num_codeOf 5 = .ok (.iadd, 1) := by decide +kernel
theorem d_Num_codeOf_6 : decode b_Num_codeOf 6 = .ok (.iconst 3, 1) := by decide +kernel
theorem d_Num_codeOf_7 : decode b_Num_codeOf 7 = .ok (.imul, 1) := by decide +kernel
theorem d_Num_codeOf_8 : decode b_Num_codeOf 8 = .ok (.iadd, 1) := by decide +kernel
theorem d_Num_codeOf_9 : decode b_Num_codeOf 9 = .ok (.iload_n 2, 1) := by decide +kernel
theorem d_Num_codeOf_10 : decode b_Num_codeOf 10 = .ok (.iadd, 1) := by decide +kernel
theorem d_Num_codeOf_11 : decode b_Num_codeOf 11 = .ok (.i2l, 1) := by decide +kernel
theorem d_Num_codeOf_12 : decode b_Num_codeOf 12 = .ok (.lreturn, 1) := by decide +kernel
theorem d_Num_span_0 : decode b_Num_span 0 = .ok (.aload_n 0, 1) := by decide +kernel
theorem d_Num_span_1 : decode b_Num_span 1 = .ok (.iload_n 1, 1) := by decide +kernel
theorem d_Num_span_2 : decode b_Num_span 2 = .ok (.aload_n 0, 1) := by decide +kernel
theorem d_Num_span_3 : decode b_Num_span 3 = .ok (.getfield 12, 3) := by decide +kernel
theorem d_Num_span_6 : decode b_Num_span 6 = .ok (.invokevirtual 25, 3) := by decide +kernel
theorem d_Num_span_9 : decode b_Num_span 9 = .ok (.aload_n 0, 1) := by decide +kernel
theorem d_Num_span_10 : decode b_Num_span 10 = .ok (.iload_n 2, 1) := by decide +kernel
theorem d_Num_span_11 : decode b_Num_span 11 = .ok (.aload_n 0, 1) := by decide +kernel
theorem d_Num_span_12 : decode b_Num_span 12 = .ok (.getfield 18, 3) := by decide +kernel
theorem d_Num_span_15 : decode b_Num_span 15 = .ok (.invokevirtual 25, 3) := by decide +kernel
theorem d_Num_span_18 : decode b_Num_span 18 = .ok (.return_, 1) := by decide +kernel
theorem d_Num_writeDigits_0 : decode b_Num_writeDigits 0 = .ok (.aload_n 2, 1) := by decide +kernel
theorem d_Num_writeDigits_1 : decode b_Num_writeDigits 1 = .ok (.iconst 0, 1) := by decide +kernel
theorem d_Num_writeDigits_2 : decode b_Num_writeDigits 2 = .ok (.invokevirtual 29, 3) := by decide +kernel
theorem d_Num_writeDigits_5 : decode b_Num_writeDigits 5 = .ok (.iload_n 1, 1) := by decide +kernel
theorem d_Num_writeDigits_6 : decode b_Num_writeDigits 6 = .ok (.istore_n 3, 1) := by decide +kernel
theorem d_Num_writeDigits_7 : decode b_Num_writeDigits 7 = .ok (.iconst 0, 1) := by decide +kernel
theorem d_Num_writeDigits_8 : decode b_Num_writeDigits 8 = .ok (.istore 4, 2) := by decide +kernel
theorem d_Num_writeDigits_10 : decode b_Num_writeDigits 10 = .ok (.iload 4, 2) := by decide +kernel
theorem d_Num_writeDigits_12 : decode b_Num_writeDigits 12 = .ok (.bipush 31, 2) := by decide +kernel
theorem d_Num_writeDigits_14 : decode b_Num_writeDigits 14 = .ok (.if_icmp .ge 44, 3) := by decide +kernel
theorem d_Num_writeDigits_17 : decode b_Num_writeDigits 17 = .ok (.aload_n 0, 1) := by decide +kernel
theorem d_Num_writeDigits_18 : decode b_Num_writeDigits 18 = .ok (.getfield 21, 3) := by decide +kernel
theorem d_Num_writeDigits_21 : decode b_Num_writeDigits 21 = .ok (.iconst 1, 1) := by decide +kernel
theorem d_Num_writeDigits_22 : decode b_Num_writeDigits 22 = .ok (.if_icmp .le 36, 3) := by decide +kernel
theorem d_Num_writeDigits_25 : decode b_Num_writeDigits 25 = .ok (.iload 4, 2) := by decide +kernel
theorem d_Num_writeDigits_27 : decode b_Num_writeDigits 27 = .ok (.ifCond .eq 7, 3) := by decide +kernel
theorem d_Num_writeDigits_30 : decode b_Num_writeDigits 30 = .ok (.iload_n 3, 1) := by decide +kernel
theorem d_Num_writeDigits_31 : decode b_Num_writeDigits 31 = .ok (.ifCond .le 27, 3) := by decide +kernel
theorem d_Num_writeDigits_34 : decode b_Num_writeDigits 34 = .ok (.aload_n 2, 1) := by decide +kernel
theorem d_Num_writeDigits_35 : decode b_Num_writeDigits 35 = .ok (.iload_n 3, 1) := by decide +kernel
theorem d_Num_writeDigits_36 : decode b_Num_writeDigits 36 = .ok (.aload_n 0, 1) := by decide +kernel
theorem d_Num_writeDigits_37 : decode b_Num_writeDigits 37 = .ok (.getfield 21, 3) := by decide +kernel
theorem d_Num_writeDigits_40 : decode b_Num_writeDigits 40 = .ok (.irem, 1) := by decide +kernel
theorem d_Num_writeDigits_41 : decode b_Num_writeDigits 41 = .ok (.invokevirtual 33, 3) := by decide +kernel
theorem d_Num_writeDigits_44 : decode b_Num_writeDigits 44 = .ok (.pop, 1) := by decide +kernel
theorem d_Num_writeDigits_45 : decode b_Num_writeDigits 45 = .ok (.iload_n 3, 1) := by decide +kernel
theorem d_Num_writeDigits_46 : decode b_Num_writeDigits 46 = .ok (.aload_n 0, 1) := by decide +kernel
theorem d_Num_writeDigits_47 : decode b_Num_writeDigits 47 = .ok (.getfield 21, 3) := by decide +kernel
theorem d_Num_writeDigits_50 : decode b_Num_writeDigits 50 = .ok (.idiv, 1) := by decide +kernel
theorem d_Num_writeDigits_51 : decode b_Num_writeDigits 51 = .ok (.istore_n 3, 1) := by decide +kernel
theorem d_Num_writeDigits_52 : decode b_Num_writeDigits 52 = .ok (.iinc 4 1, 3) := by decide +kernel
theorem d_Num_writeDigits_55 : decode b_Num_writeDigits 55 = .ok (.goto (-45), 3) := by decide +kernel
theorem d_Num_writeDigits_58 : decode b_Num_writeDigits 58 = .ok (.aload_n 2, 1) := by decide +kernel
theorem d_Num_writeDigits_59 : decode b_Num_writeDigits 59 = .ok (.invokevirtual 37, 3) := by decide +kernel
theorem d_Num_writeDigits_62 : decode b_Num_writeDigits 62 = .ok (.return_, 1) := by decide +kernel
theorem d_Com_init_0 : decode b_Com_init 0 = .ok (.aload_n 0, 1) := by decide +kernel
theorem d_Com_init_1 : decode b_Com_init 1 = .ok (.invokespecial 3, 3) := by decide +kernel
theorem d_Com_init_4 : decode b_Com_init 4 = .ok (.aload_n 0, 1) := by decide +kernel
theorem d_Com_init_5 : decode b_Com_init 5 = .ok (.sipush 1600, 3) := by decide +kernel
theorem d_Com_init_8 : decode b_Com_init 8 = .ok (.newarray .int, 2) := by decide +kernel
theorem d_Com_init_10 : decode b_Com_init 10 = .ok (.putfield 11, 3) := by decide +kernel
theorem d_Com_init_13 : decode b_Com_init 13 = .ok (.aload_n 0, 1) := by decide +kernel
theorem d_Com_init_14 : decode b_Com_init 14 = .ok (.sipush 1600, 3) := by decide +kernel
theorem d_Com_init_17 : decode b_Com_init 17 = .ok (.newarray .int, 2) := by decide +kernel
theorem d_Com_init_19 : decode b_Com_init 19 = .ok (.putfield 15, 3) := by decide +kernel
theorem d_Com_init_22 : decode b_Com_init 22 = .ok (.aload_n 0, 1) := by decide +kernel
theorem d_Com_init_23 : decode b_Com_init 23 = .ok (.iconst 0, 1) := by decide +kernel
theorem d_Com_init_24 : decode b_Com_init 24 = .ok (.putfield 18, 3) := by decide +kernel
theorem d_Com_init_27 : decode b_Com_init 27 = .ok (.aload_n 0, 1) := by decide +kernel
theorem d_Com_init_28 : decode b_Com_init 28 = .ok (.iload_n 1, 1) := by decide +kernel
theorem d_Com_init_29 : decode b_Com_init 29 = .ok (.putfield 22, 3) := by decide +kernel
theorem d_Com_init_32 : decode b_Com_init 32 = .ok (.return_, 1) := by decide +kernel
theorem d_Com_search_0 : decode b_Com_search 0 = .ok (.iconst 0, 1) := by decide +kernel
theorem d_Com_search_1 : decode b_Com_search 1 = .ok (.istore 4, 2) := by decide +kernel
theorem d_Com_search_3 : decode b_Com_search 3 = .ok (.iload 4, 2) := by decide +kernel
theorem d_Com_search_5 : decode b_Com_search 5 = .ok (.sipush 1600, 3) := by decide +kernel
theorem d_Com_search_8 : decode b_Com_search 8 = .ok (.if_icmp .ge 17, 3) := by decide +kernel
theorem d_Com_search_11 : decode b_Com_search 11 = .ok (.aload_n 0, 1) := by decide +kernel
theorem d_Com_search_12 : decode b_Com_search 12 = .ok (.getfield 15, 3) := by decide +kernel
theorem d_Com_search_15 : decode b_Com_search 15 = .ok (.iload 4, 2) := by decide +kernel
theorem d_Com_search_17 : decode b_Com_search 17 = .ok (.iconst (-1), 1) := by decide +kernel
theorem d_Com_search_18 : decode b_Com_search 18 = .ok (.iastore, 1) := by decide +kernel
theorem d_Com_search_19 : decode b_Com_search 19 = .ok (.iinc 4 1, 3) := by decide +kernel
theorem d_Com_search_22 : decode b_Com_search 22 = .ok (.goto (-19), 3) := by decide +kernel
theorem d_Com_search_25 : decode b_Com_search 25 = .ok (.aload_n 0, 1) := by decide +kernel
theorem d_Com_search_26 : decode b_Com_search 26 = .ok (.iconst 0, 1) := by decide +kernel
theorem d_Com_search_27 : decode b_Com_search 27 = .ok (.putfield 18, 3) := by decide +kernel
theorem d_Com_search_30 : decode b_Com_search 30 = .ok (.aload_n 0, 1) := by decide +kernel
theorem d_Com_search_31 : decode b_Com_search 31 = .ok (.iconst 0, 1) := by decide +kernel
theorem d_Com_search_32 : decode b_Com_search 32 = .ok (.bipush (-2), 2) := by decide +kernel
theorem d_Com_search_34 : decode b_Com_search 34 = .ok (.invokevirtual 25, 3) := by decide +kernel
theorem d_Com_search_37 : decode b_Com_search 37 = .ok (.iconst 0, 1) := by decide +kernel
theorem d_Com_search_38 : decode b_Com_search 38 = .ok (.istore 4, 2) := by decide +kernel
theorem d_Com_search_40 : decode b_Com_search 40 = .ok (.iload 4, 2) := by decide +kernel
theorem d_Com_search_42 : decode b_Com_search 42 = .ok (.aload_n 0, 1) := by decide +kernel
theorem d_Com_search_43 : decode b_Com_search 43 = .ok (.getfield 18, 3) := by decide +kernel
theorem d_Com_search_46 : decode b_Com_search 46 = .ok (.if_icmp .ge 126, 3) := by decide +kernel
theorem d_Com_search_49 : decode b_Com_search 49 = .ok (.iload 4, 2) := by decide +kernel
theorem d_Com_search_51 : decode b_Com_search 51 = .ok (.sipush 1600, 3) := by decide +kernel
theorem d_Com_search_54 : decode b_Com_search 54 = .ok (.if_icmp .ge 118, 3) := by decide +kernel
theorem d_Com_search_57 : decode b_Com_search 57 = .ok (.aload_n 0, 1) := by decide +kernel
theorem d_Com_search_58 : decode b_Com_search 58 = .ok (.getfield 11, 3) := by decide +kernel
theorem d_Com_search_61 : decode b_Com_search 61 = .ok (.iload 4, 2) := by decide +kernel
theorem d_Com_search_63 : decode b_Com_search 63 = .ok (.iaload, 1) := by decide +kernel
theorem d_Com_search_64 : decode b_Com_search 64 = .ok (.bipush 40, 2) := by decide +kernel
theorem d_Com_search_66 : decode b_Com_search 66 = .ok (.idiv, 1) := by decide +kernel
theorem d_Com_search_67 : decode b_Com_search 67 = .ok (.istore 5, 2) := by decide +kernel
theorem d_Com_search_69 : decode b_Com_search 69 = .ok (.aload_n 0, 1) := by decide +kernel
theorem d_Com_search_70 : decode b_Com_search 70 = .ok (.getfield 11, 3) := by decide +kernel
theorem d_Com_search_73 : decode b_Com_search 73 = .ok (.iload 4, 2) := by decide +kernel
theorem d_Com_search_75 : decode b_Com_search 75 = .ok (.iaload, 1) := by decide +kernel
theorem d_Com_search_76 : decode b_Com_search 76 = .ok (.bipush 40, 2) := by decide +kernel
theorem d_Com_search_78 : decode b_Com_search 78 = .ok (.irem, 1) := by decide +kernel
theorem d_Com_search_79 : decode b_Com_search 79 = .ok (.istore 6, 2) := by decide +kernel
theorem d_Com_search_81 : decode b_Com_search 81 = .ok (.iload_n 1, 1) := by decide +kernel
theorem d_Com_search_82 : decode b_Com_search 82 = .ok (.aload_n 2, 1) := by decide +kernel
theorem d_Com_search_83 : decode b_Com_search 83 = .ok (.iload 5, 2) := by decide +kernel
theorem d_Com_search_85 : decode b_Com_search 85 = .ok (.invokevirtual 29, 3) := by decide +kernel
theorem d_Com_search_88 : decode b_Com_search 88 = .ok (.aload_n 3, 1) := by decide +kernel
theorem d_Com_search_89 : decode b_Com_search 89 = .ok (.iload 6, 2) := by decide +kernel
theorem d_Com_search_91 : decode b_Com_search 91 = .ok (.invokevirtual 29, 3) := by decide +kernel
theorem d_Com_search_94 : decode b_Com_search 94 = .ok (.invokestatic 35, 3) := by decide +kernel
theorem d_Com_search_97 : decode b_Com_search 97 = .ok (.ifCond .eq 11, 3) := by decide +kernel
theorem d_Com_search_100 : decode b_Com_search 100 = .ok (.aload_n 0, 1) := by decide +kernel
theorem d_Com_search_101 : decode b_Com_search 101 = .ok (.getfield 11, 3) := by decide +kernel
theorem d_Com_search_104 : decode b_Com_search 104 = .ok (.iload 4, 2) := by decide +kernel
theorem d_Com_search_106 : decode b_Com_search 106 = .ok (.iaload, 1) := by decide +kernel
theorem d_Com_search_107 : decode b_Com_search 107 = .ok (.ireturn, 1) := by decide +kernel
theorem d_Com_search_108 : decode b_Com_search 108 = .ok (.iconst 0, 1) := by decide +kernel
theorem d_Com_search_109 : decode b_Com_search 109 = .ok (.istore 7, 2) := by decide +kernel
theorem d_Com_search_111 : decode b_Com_search 111 = .ok (.iload 7, 2) := by decide +kernel
theorem d_Com_search_113 : decode b_Com_search 113 = .ok (.aload_n 0, 1) := by decide +kernel
theorem d_Com_search_114 : decode b_Com_search 114 = .ok (.getfield 22, 3) := by decide +kernel
theorem d_Com_search_117 : decode b_Com_search 117 = .ok (.if_icmp .ge 49, 3) := by decide +kernel
theorem d_Com_search_120 : decode b_Com_search 120 = .ok (.aload_n 2, 1) := by decide +kernel
theorem d_Com_search_121 : decode b_Com_search 121 = .ok (.iload 5, 2) := by decide +kernel
theorem d_Com_search_123 : decode b_Com_search 123 = .ok (.iload 7, 2) := by decide +kernel
theorem d_Com_search_125 : decode b_Com_search 125 = .ok (.invokevirtual 39, 3) := by decide +kernel
theorem d_Com_search_128 : decode b_Com_search 128 = .ok (.bipush 40, 2) := by decide +kernel
theorem d_Com_search_130 : decode b_Com_search 130 = .ok (.imul, 1) := by decide +kernel
theorem d_Com_search_131 : decode b_Com_search 131 = .ok (.aload_n 3, 1) := by decide +kernel
theorem d_Com_search_132 : decode b_Com_search 132 = .ok (.iload 6, 2) := by decide +kernel
theorem d_Com_search_134 : decode b_Com_search 134 = .ok (.iload 7, 2) := by decide +kernel
theorem d_Com_search_136 : decode b_Com_search 136 = .ok (.invokevirtual 39, 3) := by decide +kernel
theorem d_Com_search_139 : decode b_Com_search 139 = .ok (.iadd, 1) := by decide +kernel
theorem d_Com_search_140 : decode b_Com_search 140 = .ok (.istore 8, 2) := by decide +kernel
theorem d_Com_search_142 : decode b_Com_search 142 = .ok (.aload_n 0, 1) := by decide +kernel
theorem d_Com_search_143 : decode b_Com_search 143 = .ok (.iload 8, 2) := by decide +kernel
theorem d_Com_search_145 : decode b_Com_search 145 = .ok (.aload_n 0, 1) := by decide +kernel
theorem d_Com_search_146 : decode b_Com_search 146 = .ok (.getfield 11, 3) := by decide +kernel
theorem d_Com_search_149 : decode b_Com_search 149 = .ok (.iload 4, 2) := by decide +kernel
theorem d_Com_search_151 : decode b_Com_search 151 = .ok (.iaload, 1) := by decide +kernel
theorem d_Com_search_152 : decode b_Com_search 152 = .ok (.iconst 4, 1) := by decide +kernel
theorem d_Com_search_153 : decode b_Com_search 153 = .ok (.imul, 1) := by decide +kernel
theorem d_Com_search_154 : decode b_Com_search 154 = .ok (.iload 7, 2) := by decide +kernel
theorem d_Com_search_156 : decode b_Com_search 156 = .ok (.iadd, 1) := by decide +kernel
theorem d_Com_search_157 : decode b_Com_search 157 = .ok (.invokevirtual 25, 3) := by decide +kernel
theorem d_Com_search_160 : decode b_Com_search 160 = .ok (.iinc 7 1, 3) := by decide +kernel
theorem d_Com_search_163 : decode b_Com_search 163 = .ok (.goto (-52), 3) := by decide +kernel
theorem d_Com_search_166 : decode b_Com_search 166 = .ok (.iinc 4 1, 3) := by decide +kernel
theorem d_Com_search_169 : decode b_Com_search 169 = .ok (.goto (-129), 3) := by decide +kernel
theorem d_Com_search_172 : decode b_Com_search 172 = .ok (.iconst (-1), 1) := by decide +kernel
theorem d_Com_search_173 : decode b_Com_search 173 = .ok (.ireturn, 1) := by decide +kernel
theorem d_Com_enqueue_0 : decode b_Com_enqueue 0 = .ok (.iload_n 1, 1) := by decide +kernel
theorem d_Com_enqueue_1 : decode b_Com_enqueue 1 = .ok (.ifCond .lt 57, 3) := by decide +kernel
theorem d_Com_enqueue_4 : decode b_Com_enqueue 4 = .ok (.iload_n 1, 1) := by decide +kernel
theorem d_Com_enqueue_5 : decode b_Com_enqueue 5 = .ok (.sipush 1600, 3) := by decide +kernel
theorem d_Com_enqueue_8 : decode b_Com_enqueue 8 = .ok (.if_icmp .ge 50, 3) := by decide +kernel
theorem d_Com_enqueue_11 : decode b_Com_enqueue 11 = .ok (.aload_n 0, 1) := by decide +kernel
theorem d_Com_enqueue_12 : decode b_Com_enqueue 12 = .ok (.getfield 18, 3) := by decide +kernel
theorem d_Com_enqueue_15 : decode b_Com_enqueue 15 = .ok (.sipush 1600, 3) := by decide +kernel
theorem d_Com_enqueue_18 : decode b_Com_enqueue 18 = .ok (.if_icmp .ge 40, 3) := by decide +kernel
theorem d_Com_enqueue_21 : decode b_Com_enqueue 21 = .ok (.aload_n 0, 1) := by decide +kernel
theorem d_Com_enqueue_22 : decode b_Com_enqueue 22 = .ok (.getfield 15, 3) := by decide +kernel
theorem d_Com_enqueue_25 : decode b_Com_enqueue 25 = .ok (.iload_n 1, 1) := by decide +kernel
theorem d_Com_enqueue_26 : decode b_Com_enqueue 26 = .ok (.iaload, 1) := by decide +kernel
theorem d_Com_enqueue_27 : decode b_Com_enqueue 27 = .ok (.iconst (-1), 1) := by decide +kernel
theorem d_Com_enqueue_28 : decode b_Com_enqueue 28 = .ok (.if_icmp .ne 30, 3) := by decide +kernel
theorem d_Com_enqueue_31 : decode b_Com_enqueue 31 = .ok (.aload_n 0, 1) := by decide +kernel
theorem d_Com_enqueue_32 : decode b_Com_enqueue 32 = .ok (.getfield 15, 3) := by decide +kernel
theorem d_Com_enqueue_35 : decode b_Com_enqueue 35 = .ok (.iload_n 1, 1) := by decide +kernel
theorem d_Com_enqueue_36 : decode b_Com_enqueue 36 = .ok (.iload_n 2, 1) := by decide +kernel
theorem d_Com_enqueue_37 : decode b_Com_enqueue 37 = .ok (.iastore, 1) := by decide +kernel
theorem d_Com_enqueue_38 : decode b_Com_enqueue 38 = .ok (.aload_n 0, 1) := by decide +kernel
theorem d_Com_enqueue_39 : decode b_Com_enqueue 39 = .ok (.getfield 11, 3) := by decide +kernel
theorem d_Com_enqueue_42 : decode b_Com_enqueue 42 = .ok (.aload_n 0, 1) := by decide +kernel
theorem d_Com_enqueue_43 : decode b_Com_enqueue 43 = .ok (.getfield 18, 3) := by decide +kernel
theorem d_Com_enqueue_46 : decode b_Com_enqueue 46 = .ok (.iload_n 1, 1) := by decide +kernel
theorem d_Com_enqueue_47 : decode b_Com_enqueue 47 = .ok (.iastore, 1) := by decide +kernel
theorem d_Com_enqueue_48 : decode b_Com_enqueue 48 = .ok (.aload_n 0, 1) := by decide +kernel
theorem d_Com_enqueue_49 : decode b_Com_enqueue 49 = .ok (.dup, 1) := by decide +kernel
theorem d_Com_enqueue_50 : decode b_Com_enqueue 50 = .ok (.getfield 18, 3) := by decide +kernel
theorem d_Com_enqueue_53 : decode b_Com_enqueue 53 = .ok (.iconst 1, 1) := by decide +kernel
theorem d_Com_enqueue_54 : decode b_Com_enqueue 54 = .ok (.iadd, 1) := by decide +kernel
theorem d_Com_enqueue_55 : decode b_Com_enqueue 55 = .ok (.putfield 18, 3) := by decide +kernel
theorem d_Com_enqueue_58 : decode b_Com_enqueue 58 = .ok (.return_, 1) := by decide +kernel
theorem d_Com_tellWay_0 : decode b_Com_tellWay 0 = .ok (.aload_n 2, 1) := by decide +kernel
theorem d_Com_tellWay_1 : decode b_Com_tellWay 1 = .ok (.iconst 0, 1) := by decide +kernel
theorem d_Com_tellWay_2 : decode b_Com_tellWay 2 = .ok (.invokevirtual 43, 3) := by decide +kernel
theorem d_Com_tellWay_5 : decode b_Com_tellWay 5 = .ok (.iload_n 1, 1) := by decide +kernel
theorem d_Com_tellWay_6 : decode b_Com_tellWay 6 = .ok (.istore_n 3, 1) := by decide +kernel
theorem d_Com_tellWay_7 : decode b_Com_tellWay 7 = .ok (.iconst 0, 1) := by decide +kernel
theorem d_Com_tellWay_8 : decode b_Com_tellWay 8 = .ok (.istore 4, 2) := by decide +kernel
theorem d_Com_tellWay_10 : decode b_Com_tellWay 10 = .ok (.iload 4, 2) := by decide +kernel
theorem d_Com_tellWay_12 : decode b_Com_tellWay 12 = .ok (.bipush 100, 2) := by decide +kernel
theorem d_Com_tellWay_14 : decode b_Com_tellWay 14 = .ok (.if_icmp .ge 55, 3) := by decide +kernel
theorem d_Com_tellWay_17 : decode b_Com_tellWay 17 = .ok (.iload_n 3, 1) := by decide +kernel
theorem d_Com_tellWay_18 : decode b_Com_tellWay 18 = .ok (.ifCond .lt 19, 3) := by decide +kernel
theorem d_Com_tellWay_21 : decode b_Com_tellWay 21 = .ok (.iload_n 3, 1) := by decide +kernel
theorem d_Com_tellWay_22 : decode b_Com_tellWay 22 = .ok (.sipush 1600, 3) := by decide +kernel
theorem d_Com_tellWay_25 : decode b_Com_tellWay 25 = .ok (.if_icmp .ge 12, 3) := by decide +kernel
theorem d_Com_tellWay_28 : decode b_Com_tellWay 28 = .ok (.aload_n 0, 1) := by decide +kernel
theorem d_Com_tellWay_29 : decode b_Com_tellWay 29 = .ok (.getfield 15, 3) := by decide +kernel
theorem d_Com_tellWay_32 : decode b_Com_tellWay 32 = .ok (.iload_n 3, 1) := by decide +kernel
theorem d_Com_tellWay_33 : decode b_Com_tellWay 33 = .ok (.iaload, 1) := by decide +kernel
theorem d_Com_tellWay_34 : decode b_Com_tellWay 34 = .ok (.goto 5, 3) := by decide +kernel
theorem d_Com_tellWay_37 : decode b_Com_tellWay 37 = .ok (.bipush (-2), 2) := by decide +kernel
theorem d_Com_tellWay_39 : decode b_Com_tellWay 39 = .ok (.istore 5, 2) := by decide +kernel
theorem d_Com_tellWay_41 : decode b_Com_tellWay 41 = .ok (.iload 5, 2) := by decide +kernel
theorem d_Com_tellWay_43 : decode b_Com_tellWay 43 = .ok (.ifCond .ge 6, 3) := by decide +kernel
theorem d_Com_tellWay_46 : decode b_Com_tellWay 46 = .ok (.goto 23, 3) := by decide +kernel
theorem d_Com_tellWay_49 : decode b_Com_tellWay 49 = .ok (.aload_n 2, 1) := by decide +kernel
theorem d_Com_tellWay_50 : decode b_Com_tellWay 50 = .ok (.iload 5, 2) := by decide +kernel
theorem d_Com_tellWay_52 : decode b_Com_tellWay 52 = .ok (.iconst 4, 1) := by decide +kernel
theorem d_Com_tellWay_53 : decode b_Com_tellWay 53 = .ok (.irem, 1) := by decide +kernel
theorem d_Com_tellWay_54 : decode b_Com_tellWay 54 = .ok (.invokevirtual 49, 3) := by decide +kernel
theorem d_Com_tellWay_57 : decode b_Com_tellWay 57 = .ok (.pop, 1) := by decide +kernel
theorem d_Com_tellWay_58 : decode b_Com_tellWay 58 = .ok (.iload 5, 2) := by decide +kernel
theorem d_Com_tellWay_60 : decode b_Com_tellWay 60 = .ok (.iconst 4, 1) := by decide +kernel
theorem d_Com_tellWay_61 : decode b_Com_tellWay 61 = .ok (.idiv, 1) := by decide +kernel
theorem d_Com_tellWay_62 : decode b_Com_tellWay 62 = .ok (.istore_n 3, 1) := by decide +kernel
theorem d_Com_tellWay_63 : decode b_Com_tellWay 63 = .ok (.iinc 4 1, 3) := by decide +kernel
theorem d_Com_tellWay_66 : decode b_Com_tellWay 66 = .ok (.goto (-56), 3) := by decide +kernel
theorem d_Com_tellWay_69 : decode b_Com_tellWay 69 = .ok (.aload_n 2, 1) := by decide +kernel
theorem d_Com_tellWay_70 : decode b_Com_tellWay 70 = .ok (.invokevirtual 52, 3) := by decide +kernel
theorem d_Com_tellWay_73 : decode b_Com_tellWay 73 = .ok (.return_, 1) := by decide +kernel
theorem d_Tal_init_0 : decode b_Tal_init 0 = .ok (.aload_n 0, 1) := by decide +kernel
theorem d_Tal_init_1 : decode b_Tal_init 1 = .ok (.invokespecial 3, 3) := by decide +kernel
theorem d_Tal_init_4 : decode b_Tal_init 4 = .ok (.aload_n 0, 1) := by decide +kernel
theorem d_Tal_init_5 : decode b_Tal_init 5 = .ok (.sipush 4040, 3) := by decide +kernel
theorem d_Tal_init_8 : decode b_Tal_init 8 = .ok (.newarray .long, 2) := by decide +kernel
theorem d_Tal_init_10 : decode b_Tal_init 10 = .ok (.putfield 9, 3) := by decide +kernel
theorem d_Tal_init_13 : decode b_Tal_init 13 = .ok (.aload_n 0, 1) := by decide +kernel
theorem d_Tal_init_14 : decode b_Tal_init 14 = .ok (.iload_n 1, 1) := by decide +kernel
theorem d_Tal_init_15 : decode b_Tal_init 15 = .ok (.putfield 15, 3) := by decide +kernel
theorem d_Tal_init_18 : decode b_Tal_init 18 = .ok (.return_, 1) := by decide +kernel
theorem d_Tal_waysOf_0 : decode b_Tal_waysOf 0 = .ok (.iconst 0, 1) := by decide +kernel
theorem d_Tal_waysOf_1 : decode b_Tal_waysOf 1 = .ok (.istore_n 3, 1) := by decide +kernel
theorem d_Tal_waysOf_2 : decode b_Tal_waysOf 2 = .ok (.iload_n 3, 1) := by decide +kernel
theorem d_Tal_waysOf_3 : decode b_Tal_waysOf 3 = .ok (.iload_n 2, 1) := by decide +kernel
theorem d_Tal_waysOf_4 : decode b_Tal_waysOf 4 = .ok (.if_icmp .gt 21, 3) := by decide +kernel
theorem d_Tal_waysOf_7 : decode b_Tal_waysOf 7 = .ok (.iload_n 3, 1) := by decide +kernel
theorem d_Tal_waysOf_8 : decode b_Tal_waysOf 8 = .ok (.bipush 100, 2) := by decide +kernel
theorem d_Tal_waysOf_10 : decode b_Tal_waysOf 10 = .ok (.if_icmp .gt 15, 3) := by decide +kernel
theorem d_Tal_waysOf_13 : decode b_Tal_waysOf 13 = .ok (.aload_n 0, 1) := by decide +kernel
theorem d_Tal_waysOf_14 : decode b_Tal_waysOf 14 = .ok (.aload_n 1, 1) := by decide +kernel
theorem d_Tal_waysOf_15 : decode b_Tal_waysOf 15 = .ok (.iload_n 3, 1) := by decide +kernel
theorem d_Tal_waysOf_16 : decode b_Tal_waysOf 16 = .ok (.invokevirtual 19, 3) := by decide +kernel
theorem d_Tal_waysOf_19 : decode b_Tal_waysOf 19 = .ok (.iinc 3 1, 3) := by decide +kernel
theorem d_Tal_waysOf_22 : decode b_Tal_waysOf 22 = .ok (.goto (-20), 3) := by decide +kernel
theorem d_Tal_waysOf_25 : decode b_Tal_waysOf 25 = .ok (.aload_n 0, 1) := by decide +kernel
theorem d_Tal_waysOf_26 : decode b_Tal_waysOf 26 = .ok (.iconst 0, 1) := by decide +kernel
theorem d_Tal_waysOf_27 : decode b_Tal_waysOf 27 = .ok (.iload_n 2, 1) := by decide +kernel
theorem d_Tal_waysOf_28 : decode b_Tal_waysOf 28 = .ok (.invokevirtual 23, 3) := by decide +kernel
theorem d_Tal_waysOf_31 : decode b_Tal_waysOf 31 = .ok (.lreturn, 1) := by decide +kernel
theorem d_Tal_countTexts_0 : decode b_Tal_countTexts 0 = .ok (.iconst 0, 1) := by decide +kernel
theorem d_Tal_countTexts_1 : decode b_Tal_countTexts 1 = .ok (.istore_n 3, 1) := by decide +kernel
theorem d_Tal_countTexts_2 : decode b_Tal_countTexts 2 = .ok (.iload_n 3, 1) := by decide +kernel
theorem d_Tal_countTexts_3 : decode b_Tal_countTexts 3 = .ok (.aload_n 1, 1) := by decide +kernel
theorem d_Tal_countTexts_4 : decode b_Tal_countTexts 4 = .ok (.getfield 47, 3) := by decide +kernel
theorem d_Tal_countTexts_7 : decode b_Tal_countTexts 7 = .ok (.if_icmp .ge 79, 3) := by decide +kernel
theorem d_Tal_countTexts_10 : decode b_Tal_countTexts 10 = .ok (.iload_n 2, 1) := by decide +kernel
theorem d_Tal_countTexts_11 : decode b_Tal_countTexts 11 = .ok (.ifCond .ne 15, 3) := by decide +kernel
theorem d_Tal_countTexts_14 : decode b_Tal_countTexts 14 = .ok (.aload_n 1, 1) := by decide +kernel
theorem d_Tal_countTexts_15 : decode b_Tal_countTexts 15 = .ok (.iload_n 3, 1) := by decide +kernel
theorem d_Tal_countTexts_16 : decode b_Tal_countTexts 16 = .ok (.invokevirtual 50, 3) := by decide +kernel
theorem d_Tal_countTexts_19 : decode b_Tal_countTexts 19 = .ok (.ifCond .eq 7, 3) := by decide +kernel
theorem d_Tal_countTexts_22 : decode b_Tal_countTexts 22 = .ok (.lconst 1, 1) := by decide +kernel
theorem d_Tal_countTexts_23 : decode b_Tal_countTexts 23 = .ok (.goto 4, 3) := by decide +kernel
theorem d_Tal_countTexts_26 : decode b_Tal_countTexts 26 = .ok (.lconst 0, 1) := by decide +kernel
theorem d_Tal_countTexts_27 : decode b_Tal_countTexts 27 = .ok (.lstore 4, 2) := by decide +kernel
theorem d_Tal_countTexts_29 : decode b_Tal_countTexts 29 = .ok (.iconst 0, 1) := by decide +kernel
theorem d_Tal_countTexts_30 : decode b_Tal_countTexts 30 = .ok (.istore 6, 2) := by decide +kernel
theorem d_Tal_countTexts_32 : decode b_Tal_countTexts 32 = .ok (.iload 6, 2) := by decide +kernel
theorem d_Tal_countTexts_34 : decode b_Tal_countTexts 34 = .ok (.aload_n 0, 1) := by decide +kernel
theorem d_Tal_countTexts_35 : decode b_Tal_countTexts 35 = .ok (.getfield 15, 3) := by decide +kernel
theorem d_Tal_countTexts_38 : decode b_Tal_countTexts 38 = .ok (.if_icmp .ge 28, 3) := by decide +kernel
theorem d_Tal_countTexts_41 : decode b_Tal_countTexts 41 = .ok (.lload 4, 2) := by decide +kernel
theorem d_Tal_countTexts_43 : decode b_Tal_countTexts 43 = .ok (.aload_n 0, 1) := by decide +kernel
theorem d_Tal_countTexts_44 : decode b_Tal_countTexts 44 = .ok (.aload_n 1, 1) := by decide +kernel
theorem d_Tal_countTexts_45 : decode b_Tal_countTexts 45 = .ok (.iload_n 3, 1) := by decide +kernel
theorem d_Tal_countTexts_46 : decode b_Tal_countTexts 46 = .ok (.iload 6, 2) := by decide +kernel
theorem d_Tal_countTexts_48 : decode b_Tal_countTexts 48 = .ok (.invokevirtual 37, 3) := by decide +kernel
theorem d_Tal_countTexts_51 : decode b_Tal_countTexts 51 = .ok (.iload_n 2, 1) := by decide +kernel
theorem d_Tal_countTexts_52 : decode b_Tal_countTexts 52 = .ok (.iconst 1, 1) := by decide +kernel
theorem d_Tal_countTexts_53 : decode b_Tal_countTexts 53 = .ok (.isub, 1) := by decide +kernel
theorem d_Tal_countTexts_54 : decode b_Tal_countTexts 54 = .ok (.invokevirtual 23, 3) := by decide +kernel
theorem d_Tal_countTexts_57 : decode b_Tal_countTexts 57 = .ok (.ladd, 1) := by decide +kernel
theorem d_Tal_countTexts_58 : decode b_Tal_countTexts 58 = .ok (.lstore 4, 2) := by decide +kernel
theorem d_Tal_countTexts_60 : decode b_Tal_countTexts 60 = .ok (.iinc 6 1, 3) := by decide +kernel
theorem d_Tal_countTexts_63 : decode b_Tal_countTexts 63 = .ok (.goto (-31), 3) := by decide +kernel
theorem d_Tal_countTexts_66 : decode b_Tal_countTexts 66 = .ok (.aload_n 0, 1) := by decide +kernel
theorem d_Tal_countTexts_67 : decode b_Tal_countTexts 67 = .ok (.iload_n 3, 1) := by decide +kernel
theorem d_Tal_countTexts_68 : decode b_Tal_countTexts 68 = .ok (.iload_n 2, 1) := by decide +kernel
theorem d_Tal_countTexts_69 : decode b_Tal_countTexts 69 = .ok (.lload 4, 2) := by decide +kernel
theorem d_Tal_countTexts_71 : decode b_Tal_countTexts 71 = .ok (.ldc2_w 53, 3) := by decide +kernel
theorem d_Tal_countTexts_74 : decode b_Tal_countTexts 74 = .ok (.invokestatic 55, 3) := by decide +kernel
theorem d_Tal_countTexts_77 : decode b_Tal_countTexts 77 = .ok (.invokevirtual 61, 3) := by decide +kernel
theorem d_Tal_countTexts_80 : decode b_Tal_countTexts 80 = .ok (.iinc 3 1, 3) := by decide +kernel
theorem d_Tal_countTexts_83 : decode b_Tal_countTexts 83 = .ok (.goto (-81), 3) := by decide +kernel
theorem d_Tal_countTexts_86 : decode b_Tal_countTexts 86 = .ok (.return_, 1) := by decide +kernel
theorem d_Tal_waysFrom_0 : decode b_Tal_waysFrom 0 = .ok (.iload_n 1, 1) := by decide +kernel
theorem d_Tal_waysFrom_1 : decode b_Tal_waysFrom 1 = .ok (.iload_n 2, 1) := by decide +kernel
theorem d_Tal_waysFrom_2 : decode b_Tal_waysFrom 2 = .ok (.invokestatic 65, 3) := by decide +kernel
theorem d_Tal_waysFrom_5 : decode b_Tal_waysFrom 5 = .ok (.ifCond .eq 17, 3) := by decide +kernel
theorem d_Tal_waysFrom_8 : decode b_Tal_waysFrom 8 = .ok (.aload_n 0, 1) := by decide +kernel
theorem d_Tal_waysFrom_9 : decode b_Tal_waysFrom 9 = .ok (.getfield 9, 3) := by decide +kernel
theorem d_Tal_waysFrom_12 : decode b_Tal_waysFrom 12 = .ok (.iload_n 2, 1) := by decide +kernel
theorem d_Tal_waysFrom_13 : decode b_Tal_waysFrom 13 = .ok (.bipush 40, 2) := by decide +kernel
theorem d_Tal_waysFrom_15 : decode b_Tal_waysFrom 15 = .ok (.imul, 1) := by decide +kernel
theorem d_Tal_waysFrom_16 : decode b_Tal_waysFrom 16 = .ok (.iload_n 1, 1) := by decide +kernel
theorem d_Tal_waysFrom_17 : decode b_Tal_waysFrom 17 = .ok (.iadd, 1) := by decide +kernel
theorem d_Tal_waysFrom_18 : decode b_Tal_waysFrom 18 = .ok (.laload, 1) := by decide +kernel
theorem d_Tal_waysFrom_19 : decode b_Tal_waysFrom 19 = .ok (.goto 4, 3) := by decide +kernel
theorem d_Tal_waysFrom_22 : decode b_Tal_waysFrom 22 = .ok (.lconst 0, 1) := by decide +kernel
theorem d_Tal_waysFrom_23 : decode b_Tal_waysFrom 23 = .ok (.lreturn, 1) := by decide +kernel
theorem d_Tal_isEntry_0 : decode b_Tal_isEntry 0 = .ok (.iload_n 0, 1) := by decide +kernel
theorem d_Tal_isEntry_1 : decode b_Tal_isEntry 1 = .ok (.ifCond .lt 23, 3) := by decide +kernel
theorem d_Tal_isEntry_4 : decode b_Tal_isEntry 4 = .ok (.iload_n 0, 1) := by decide +kernel
theorem d_Tal_isEntry_5 : decode b_Tal_isEntry 5 = .ok (.bipush 40, 2) := by decide +kernel
theorem d_Tal_isEntry_7 : decode b_Tal_isEntry 7 = .ok (.if_icmp .ge 17, 3) := by decide +kernel
theorem d_Tal_isEntry_10 : decode b_Tal_isEntry 10 = .ok (.iload_n 1, 1) := by decide +kernel
theorem d_Tal_isEntry_11 : decode b_Tal_isEntry 11 = .ok (.ifCond .lt 13, 3) := by decide +kernel
theorem d_Tal_isEntry_14 : decode b_Tal_isEntry 14 = .ok (.iload_n 1, 1) := by decide +kernel
theorem d_Tal_isEntry_15 : decode b_Tal_isEntry 15 = .ok (.bipush 100, 2) := by decide +kernel
theorem d_Tal_isEntry_17 : decode b_Tal_isEntry 17 = .ok (.if_icmp .gt 7, 3) := by decide +kernel
theorem d_Tal_isEntry_20 : decode b_Tal_isEntry 20 = .ok (.iconst 1, 1) := by decide +kernel
theorem d_Tal_isEntry_21 : decode b_Tal_isEntry 21 = .ok (.goto 4, 3) := by decide +kernel
theorem d_Tal_isEntry_24 : decode b_Tal_isEntry 24 = .ok (.iconst 0, 1) := by decide +kernel
theorem d_Tal_isEntry_25 : decode b_Tal_isEntry 25 = .ok (.ireturn, 1) := by decide +kernel
theorem d_Tal_setWays_0 : decode b_Tal_setWays 0 = .ok (.iload_n 1, 1) := by decide +kernel
theorem d_Tal_setWays_1 : decode b_Tal_setWays 1 = .ok (.iload_n 2, 1) := by decide +kernel
theorem d_Tal_setWays_2 : decode b_Tal_setWays 2 = .ok (.invokestatic 65, 3) := by decide +kernel
theorem d_Tal_setWays_5 : decode b_Tal_setWays 5 = .ok (.ifCond .eq 15, 3) := by decide +kernel
theorem d_Tal_setWays_8 : decode b_Tal_setWays 8 = .ok (.aload_n 0, 1) := by decide +kernel
theorem d_Tal_setWays_9 : decode b_Tal_setWays 9 = .ok (.getfield 9, 3) := by decide +kernel
theorem d_Tal_setWays_12 : decode b_Tal_setWays 12 = .ok (.iload_n 2, 1) := by decide +kernel
theorem d_Tal_setWays_13 : decode b_Tal_setWays 13 = .ok (.bipush 40, 2) := by decide +kernel
theorem d_Tal_setWays_15 : decode b_Tal_setWays 15 = .ok (.imul, 1) := by decide +kernel
theorem d_Tal_setWays_16 : decode b_Tal_setWays 16 = .ok (.iload_n 1, 1) := by decide +kernel
theorem d_Tal_setWays_17 : decode b_Tal_setWays 17 = .ok (.iadd, 1) := by decide +kernel
theorem d_Tal_setWays_18 : decode b_Tal_setWays 18 = .ok (.lload_n 3, 1) := by decide +kernel
theorem d_Tal_setWays_19 : decode b_Tal_setWays 19 = .ok (.lastore, 1) := by decide +kernel
theorem d_Tal_setWays_20 : decode b_Tal_setWays 20 = .ok (.return_, 1) := by decide +kernel
theorem d_Tal_tellText_0 : decode b_Tal_tellText 0 = .ok (.iload_n 2, 1) := by decide +kernel
theorem d_Tal_tellText_1 : decode b_Tal_tellText 1 = .ok (.i2l, 1) := by decide +kernel
theorem d_Tal_tellText_2 : decode b_Tal_tellText 2 = .ok (.lstore 4, 2) := by decide +kernel
theorem d_Tal_tellText_4 : decode b_Tal_tellText 4 = .ok (.iconst 0, 1) := by decide +kernel
theorem d_Tal_tellText_5 : decode b_Tal_tellText 5 = .ok (.istore 6, 2) := by decide +kernel
theorem d_Tal_tellText_7 : decode b_Tal_tellText 7 = .ok (.iload 6, 2) := by decide +kernel
theorem d_Tal_tellText_9 : decode b_Tal_tellText 9 = .ok (.bipush 100, 2) := by decide +kernel
theorem d_Tal_tellText_11 : decode b_Tal_tellText 11 = .ok (.if_icmp .gt 52, 3) := by decide +kernel
theorem d_Tal_tellText_14 : decode b_Tal_tellText 14 = .ok (.aload_n 0, 1) := by decide +kernel
theorem d_Tal_tellText_15 : decode b_Tal_tellText 15 = .ok (.aload_n 1, 1) := by decide +kernel
theorem d_Tal_tellText_16 : decode b_Tal_tellText 16 = .ok (.iload 6, 2) := by decide +kernel
theorem d_Tal_tellText_18 : decode b_Tal_tellText 18 = .ok (.invokevirtual 19, 3) := by decide +kernel
theorem d_Tal_tellText_21 : decode b_Tal_tellText 21 = .ok (.aload_n 0, 1) := by decide +kernel
theorem d_Tal_tellText_22 : decode b_Tal_tellText 22 = .ok (.iconst 0, 1) := by decide +kernel
theorem d_Tal_tellText_23 : decode b_Tal_tellText 23 = .ok (.iload 6, 2) := by decide +kernel
theorem d_Tal_tellText_25 : decode b_Tal_tellText 25 = .ok (.invokevirtual 23, 3) := by decide +kernel
theorem d_Tal_tellText_28 : decode b_Tal_tellText 28 = .ok (.lstore 7, 2) := by decide +kernel
theorem d_Tal_tellText_30 : decode b_Tal_tellText 30 = .ok (.lload 4, 2) := by decide +kernel
theorem d_Tal_tellText_32 : decode b_Tal_tellText 32 = .ok (.lload 7, 2) := by decide +kernel
theorem d_Tal_tellText_34 : decode b_Tal_tellText 34 = .ok (.lcmp, 1) := by decide +kernel
theorem d_Tal_tellText_35 : decode b_Tal_tellText 35 = .ok (.ifCond .ge 15, 3) := by decide +kernel
theorem d_Tal_tellText_38 : decode b_Tal_tellText 38 = .ok (.aload_n 0, 1) := by decide +kernel
theorem d_Tal_tellText_39 : decode b_Tal_tellText 39 = .ok (.aload_n 1, 1) := by decide +kernel
theorem d_Tal_tellText_40 : decode b_Tal_tellText 40 = .ok (.iload 6, 2) := by decide +kernel
theorem d_Tal_tellText_42 : decode b_Tal_tellText 42 = .ok (.lload 4, 2) := by decide +kernel
theorem d_Tal_tellText_44 : decode b_Tal_tellText 44 = .ok (.aload_n 3, 1) := by decide +kernel
theorem d_Tal_tellText_45 : decode b_Tal_tellText 45 = .ok (.invokevirtual 27, 3) := by decide +kernel
theorem d_Tal_tellText_48 : decode b_Tal_tellText 48 = .ok (.iconst 1, 1) := by decide +kernel
theorem d_Tal_tellText_49 : decode b_Tal_tellText 49 = .ok (.ireturn, 1) := by decide +kernel
theorem d_Tal_tellText_50 : decode b_Tal_tellText 50 = .ok (.lload 4, 2) := by decide +kernel
theorem d_Tal_tellText_52 : decode b_Tal_tellText 52 = .ok (.lload 7, 2) := by decide +kernel
theorem d_Tal_tellText_54 : decode b_Tal_tellText 54 = .ok (.lsub, 1) := by decide +kernel
theorem d_Tal_tellText_55 : decode b_Tal_tellText 55 = .ok (.lstore 4, 2) := by decide +kernel
theorem d_Tal_tellText_57 : decode b_Tal_tellText 57 = .ok (.iinc 6 1, 3) := by decide +kernel
theorem d_Tal_tellText_60 : decode b_Tal_tellText 60 = .ok (.goto (-53), 3) := by decide +kernel
theorem d_Tal_tellText_63 : decode b_Tal_tellText 63 = .ok (.iconst 0, 1) := by decide +kernel
theorem d_Tal_tellText_64 : decode b_Tal_tellText 64 = .ok (.ireturn, 1) := by decide +kernel
theorem d_Tal_spell_0 : decode b_Tal_spell 0 = .ok (.aload 5, 2) := by decide +kernel
theorem d_Tal_spell_2 : decode b_Tal_spell 2 = .ok (.iconst 0, 1) := by decide +kernel
theorem d_Tal_spell_3 : decode b_Tal_spell 3 = .ok (.invokevirtual 31, 3) := by decide +kernel
theorem d_Tal_spell_6 : decode b_Tal_spell 6 = .ok (.iconst 0, 1) := by decide +kernel
theorem d_Tal_spell_7 : decode b_Tal_spell 7 = .ok (.istore 6, 2) := by decide +kernel
theorem d_Tal_spell_9 : decode b_Tal_spell 9 = .ok (.lload_n 3, 1) := by decide +kernel
theorem d_Tal_spell_10 : decode b_Tal_spell 10 = .ok (.lstore 7, 2) := by decide +kernel
theorem d_Tal_spell_12 : decode b_Tal_spell 12 = .ok (.iload_n 2, 1) := by decide +kernel
theorem d_Tal_spell_13 : decode b_Tal_spell 13 = .ok (.iconst 1, 1) := by decide +kernel
theorem d_Tal_spell_14 : decode b_Tal_spell 14 = .ok (.isub, 1) := by decide +kernel
theorem d_Tal_spell_15 : decode b_Tal_spell 15 = .ok (.istore 9, 2) := by decide +kernel
theorem d_Tal_spell_17 : decode b_Tal_spell 17 = .ok (.iload 9, 2) := by decide +kernel
theorem d_Tal_spell_19 : decode b_Tal_spell 19 = .ok (.ifCond .lt 94, 3) := by decide +kernel
theorem d_Tal_spell_22 : decode b_Tal_spell 22 = .ok (.iconst 0, 1) := by decide +kernel
theorem d_Tal_spell_23 : decode b_Tal_spell 23 = .ok (.istore 10, 2) := by decide +kernel
theorem d_Tal_spell_25 : decode b_Tal_spell 25 = .ok (.aload_n 0, 1) := by decide +kernel
theorem d_Tal_spell_26 : decode b_Tal_spell 26 = .ok (.aload_n 1, 1) := by decide +kernel
theorem d_Tal_spell_27 : decode b_Tal_spell 27 = .ok (.iload 6, 2) := by decide +kernel
theorem d_Tal_spell_29 : decode b_Tal_spell 29 = .ok (.iload 10, 2) := by decide +kernel
theorem d_Tal_spell_31 : decode b_Tal_spell 31 = .ok (.invokevirtual 37, 3) := by decide +kernel
theorem d_Tal_spell_34 : decode b_Tal_spell 34 = .ok (.iload 9, 2) := by decide +kernel
theorem d_Tal_spell_36 : decode b_Tal_spell 36 = .ok (.invokevirtual 23, 3) := by decide +kernel
theorem d_Tal_spell_39 : decode b_Tal_spell 39 = .ok (.lstore 11, 2) := by decide +kernel
theorem d_Tal_spell_41 : decode b_Tal_spell 41 = .ok (.iload 10, 2) := by decide +kernel
theorem d_Tal_spell_43 : decode b_Tal_spell 43 = .ok (.aload_n 0, 1) := by decide +kernel
theorem d_Tal_spell_44 : decode b_Tal_spell 44 = .ok (.getfield 15, 3) := by decide +kernel
theorem d_Tal_spell_47 : decode b_Tal_spell 47 = .ok (.iconst 1, 1) := by decide +kernel
theorem d_Tal_spell_48 : decode b_Tal_spell 48 = .ok (.isub, 1) := by decide +kernel
theorem d_Tal_spell_49 : decode b_Tal_spell 49 = .ok (.if_icmp .ge 40, 3) := by decide +kernel
theorem d_Tal_spell_52 : decode b_Tal_spell 52 = .ok (.lload 7, 2) := by decide +kernel
theorem d_Tal_spell_54 : decode b_Tal_spell 54 = .ok (.lload 11, 2) := by decide +kernel
theorem d_Tal_spell_56 : decode b_Tal_spell 56 = .ok (.lcmp, 1) := by decide +kernel
theorem d_Tal_spell_57 : decode b_Tal_spell 57 = .ok (.ifCond .lt 32, 3) := by decide +kernel
theorem d_Tal_spell_60 : decode b_Tal_spell 60 = .ok (.lload 7, 2) := by decide +kernel
theorem d_Tal_spell_62 : decode b_Tal_spell 62 = .ok (.lload 11, 2) := by decide +kernel
theorem d_Tal_spell_64 : decode b_Tal_spell 64 = .ok (.lsub, 1) := by decide +kernel
theorem d_Tal_spell_65 : decode b_Tal_spell 65 = .ok (.lstore 7, 2) := by decide +kernel
theorem d_Tal_spell_67 : decode b_Tal_spell 67 = .ok (.iinc 10 1, 3) := by decide +kernel
theorem d_Tal_spell_70 : decode b_Tal_spell 70 = .ok (.aload_n 0, 1) := by decide +kernel
theorem d_Tal_spell_71 : decode b_Tal_spell 71 = .ok (.aload_n 1, 1) := by decide +kernel
theorem d_Tal_spell_72 : decode b_Tal_spell 72 = .ok (.iload 6, 2) := by decide +kernel
theorem d_Tal_spell_74 : decode b_Tal_spell 74 = .ok (.iload 10, 2) := by decide +kernel
theorem d_Tal_spell_76 : decode b_Tal_spell 76 = .ok (.invokevirtual 37, 3) := by decide +kernel
theorem d_Tal_spell_79 : decode b_Tal_spell 79 = .ok (.iload 9, 2) := by decide +kernel
theorem d_Tal_spell_81 : decode b_Tal_spell 81 = .ok (.invokevirtual 23, 3) := by decide +kernel
theorem d_Tal_spell_84 : decode b_Tal_spell 84 = .ok (.lstore 11, 2) := by decide +kernel
theorem d_Tal_spell_86 : decode b_Tal_spell 86 = .ok (.goto (-45), 3) := by decide +kernel
theorem d_Tal_spell_89 : decode b_Tal_spell 89 = .ok (.aload 5, 2) := by decide +kernel
theorem d_Tal_spell_91 : decode b_Tal_spell 91 = .ok (.iload 10, 2) := by decide +kernel
theorem d_Tal_spell_93 : decode b_Tal_spell 93 = .ok (.invokevirtual 43, 3) := by decide +kernel
theorem d_Tal_spell_96 : decode b_Tal_spell 96 = .ok (.pop, 1) := by decide +kernel
theorem d_Tal_spell_97 : decode b_Tal_spell 97 = .ok (.aload_n 1, 1) := by decide +kernel
theorem d_Tal_spell_98 : decode b_Tal_spell 98 = .ok (.iload 6, 2) := by decide +kernel
theorem d_Tal_spell_100 : decode b_Tal_spell 100 = .ok (.iload 10, 2) := by decide +kernel
theorem d_Tal_spell_102 : decode b_Tal_spell 102 = .ok (.invokevirtual 37, 3) := by decide +kernel
theorem d_Tal_spell_105 : decode b_Tal_spell 105 = .ok (.istore 6, 2) := by decide +kernel
theorem d_Tal_spell_107 : decode b_Tal_spell 107 = .ok (.iinc 9 (-1), 3) := by decide +kernel
theorem d_Tal_spell_110 : decode b_Tal_spell 110 = .ok (.goto (-93), 3) := by decide +kernel
theorem d_Tal_spell_113 : decode b_Tal_spell 113 = .ok (.return_, 1) := by decide +kernel
theorem d_Joi_first_0 : decode b_Joi_first 0 = .ok (.aload_n 0, 1) := by decide +kernel
theorem d_Joi_first_1 : decode b_Joi_first 1 = .ok (.iconst 0, 1) := by decide +kernel
theorem d_Joi_first_2 : decode b_Joi_first 2 = .ok (.lconst 0, 1) := by decide +kernel
theorem d_Joi_first_3 : decode b_Joi_first 3 = .ok (.invokevirtual 18, 3) := by decide +kernel
theorem d_Joi_first_6 : decode b_Joi_first 6 = .ok (.lreturn, 1) := by decide +kernel
theorem d_Joi_placeOf_0 : decode b_Joi_placeOf 0 = .ok (.iload_n 1, 1) := by decide +kernel
theorem d_Joi_placeOf_1 : decode b_Joi_placeOf 1 = .ok (.i2l, 1) := by decide +kernel
theorem d_Joi_placeOf_2 : decode b_Joi_placeOf 2 = .ok (.bipush 40, 2) := by decide +kernel
theorem d_Joi_placeOf_4 : decode b_Joi_placeOf 4 = .ok (.lshl, 1) := by decide +kernel
theorem d_Joi_placeOf_5 : decode b_Joi_placeOf 5 = .ok (.lload_n 2, 1) := by decide +kernel
theorem d_Joi_placeOf_6 : decode b_Joi_placeOf 6 = .ok (.lor, 1) := by decide +kernel
theorem d_Joi_placeOf_7 : decode b_Joi_placeOf 7 = .ok (.aload_n 0, 1) := by decide +kernel
theorem d_Joi_placeOf_8 : decode b_Joi_placeOf 8 = .ok (.getfield 9, 3) := by decide +kernel
theorem d_Joi_placeOf_11 : decode b_Joi_placeOf 11 = .ok (.iload_n 1, 1) := by decide +kernel
theorem d_Joi_placeOf_12 : decode b_Joi_placeOf 12 = .ok (.invokevirtual 38, 3) := by decide +kernel
theorem d_Joi_placeOf_15 : decode b_Joi_placeOf 15 = .ok (.ifCond .eq 7, 3) := by decide +kernel
theorem d_Joi_placeOf_18 : decode b_Joi_placeOf 18 = .ok (.lconst 1, 1) := by decide +kernel
theorem d_Joi_placeOf_19 : decode b_Joi_placeOf 19 = .ok (.goto 4, 3) := by decide +kernel
theorem d_Joi_placeOf_22 : decode b_Joi_placeOf 22 = .ok (.lconst 0, 1) := by decide +kernel
theorem d_Joi_placeOf_23 : decode b_Joi_placeOf 23 = .ok (.lor, 1) := by decide +kernel
theorem d_Joi_placeOf_24 : decode b_Joi_placeOf 24 = .ok (.lreturn, 1) := by decide +kernel
theorem d_Joi_isLast_0 : decode b_Joi_isLast 0 = .ok (.lload_n 1, 1) := by decide +kernel
theorem d_Joi_isLast_1 : decode b_Joi_isLast 1 = .ok (.ldc2_w 28, 3) := by decide +kernel
theorem d_Joi_isLast_4 : decode b_Joi_isLast 4 = .ok (.land, 1) := by decide +kernel
theorem d_Joi_isLast_5 : decode b_Joi_isLast 5 = .ok (.aload_n 0, 1) := by decide +kernel
theorem d_Joi_isLast_6 : decode b_Joi_isLast 6 = .ok (.getfield 15, 3) := by decide +kernel
theorem d_Joi_isLast_9 : decode b_Joi_isLast 9 = .ok (.getfield 34, 3) := by decide +kernel
theorem d_Joi_isLast_12 : decode b_Joi_isLast 12 = .ok (.land, 1) := by decide +kernel
theorem d_Joi_isLast_13 : decode b_Joi_isLast 13 = .ok (.lconst 0, 1) := by decide +kernel
theorem d_Joi_isLast_14 : decode b_Joi_isLast 14 = .ok (.lcmp, 1) := by decide +kernel
theorem d_Joi_isLast_15 : decode b_Joi_isLast 15 = .ok (.ifCond .eq 7, 3) := by decide +kernel
theorem d_Joi_isLast_18 : decode b_Joi_isLast 18 = .ok (.iconst 1, 1) := by decide +kernel
theorem d_Joi_isLast_19 : decode b_Joi_isLast 19 = .ok (.goto 4, 3) := by decide +kernel
theorem d_Joi_isLast_22 : decode b_Joi_isLast 22 = .ok (.iconst 0, 1) := by decide +kernel
theorem d_Joi_isLast_23 : decode b_Joi_isLast 23 = .ok (.ireturn, 1) := by decide +kernel
theorem d_Joi_after_0 : decode b_Joi_after 0 = .ok (.aload_n 0, 1) := by decide +kernel
theorem d_Joi_after_1 : decode b_Joi_after 1 = .ok (.aload_n 0, 1) := by decide +kernel
theorem d_Joi_after_2 : decode b_Joi_after 2 = .ok (.getfield 9, 3) := by decide +kernel
theorem d_Joi_after_5 : decode b_Joi_after 5 = .ok (.lload_n 1, 1) := by decide +kernel
theorem d_Joi_after_6 : decode b_Joi_after 6 = .ok (.bipush 40, 2) := by decide +kernel
theorem d_Joi_after_8 : decode b_Joi_after 8 = .ok (.lushr, 1) := by decide +kernel
theorem d_Joi_after_9 : decode b_Joi_after 9 = .ok (.l2i, 1) := by decide +kernel
theorem d_Joi_after_10 : decode b_Joi_after 10 = .ok (.iload_n 3, 1) := by decide +kernel
theorem d_Joi_after_11 : decode b_Joi_after 11 = .ok (.invokevirtual 22, 3) := by decide +kernel
theorem d_Joi_after_14 : decode b_Joi_after 14 = .ok (.aload_n 0, 1) := by decide +kernel
theorem d_Joi_after_15 : decode b_Joi_after 15 = .ok (.getfield 15, 3) := by decide +kernel
theorem d_Joi_after_18 : decode b_Joi_after 18 = .ok (.lload_n 1, 1) := by decide +kernel
theorem d_Joi_after_19 : decode b_Joi_after 19 = .ok (.ldc2_w 28, 3) := by decide +kernel
theorem d_Joi_after_22 : decode b_Joi_after 22 = .ok (.land, 1) := by decide +kernel
theorem d_Joi_after_23 : decode b_Joi_after 23 = .ok (.iload_n 3, 1) := by decide +kernel
theorem d_Joi_after_24 : decode b_Joi_after 24 = .ok (.invokevirtual 30, 3) := by decide +kernel
theorem d_Joi_after_27 : decode b_Joi_after 27 = .ok (.invokevirtual 18, 3) := by decide +kernel
theorem d_Joi_after_30 : decode b_Joi_after 30 = .ok (.lreturn, 1) := by decide +kernel
theorem d_Joi_init_0 : decode b_Joi_init 0 = .ok (.aload_n 0, 1) := by decide +kernel
theorem d_Joi_init_1 : decode b_Joi_init 1 = .ok (.invokespecial 3, 3) := by decide +kernel
theorem d_Joi_init_4 : decode b_Joi_init 4 = .ok (.aload_n 0, 1) := by decide +kernel
theorem d_Joi_init_5 : decode b_Joi_init 5 = .ok (.aload_n 1, 1) := by decide +kernel
theorem d_Joi_init_6 : decode b_Joi_init 6 = .ok (.putfield 9, 3) := by decide +kernel
theorem d_Joi_init_9 : decode b_Joi_init 9 = .ok (.aload_n 0, 1) := by decide +kernel
theorem d_Joi_init_10 : decode b_Joi_init 10 = .ok (.aload_n 2, 1) := by decide +kernel
theorem d_Joi_init_11 : decode b_Joi_init 11 = .ok (.putfield 15, 3) := by decide +kernel
theorem d_Joi_init_14 : decode b_Joi_init 14 = .ok (.return_, 1) := by decide +kernel
theorem d_Pai_first_0 : decode b_Pai_first 0 = .ok (.lconst 0, 1) := by decide +kernel
theorem d_Pai_first_1 : decode b_Pai_first 1 = .ok (.lreturn, 1) := by decide +kernel
theorem d_Pai_isLast_0 : decode b_Pai_isLast 0 = .ok (.aload_n 0, 1) := by decide +kernel
theorem d_Pai_isLast_1 : decode b_Pai_isLast 1 = .ok (.getfield 9, 3) := by decide +kernel
theorem d_Pai_isLast_4 : decode b_Pai_isLast 4 = .ok (.aload_n 0, 1) := by decide +kernel
theorem d_Pai_isLast_5 : decode b_Pai_isLast 5 = .ok (.getfield 15, 3) := by decide +kernel
theorem d_Pai_isLast_8 : decode b_Pai_isLast 8 = .ok (.lload_n 1, 1) := by decide +kernel
theorem d_Pai_isLast_9 : decode b_Pai_isLast 9 = .ok (.bipush 6, 2) := by decide +kernel
theorem d_Pai_isLast_11 : decode b_Pai_isLast 11 = .ok (.lushr, 1) := by decide +kernel
theorem d_Pai_isLast_12 : decode b_Pai_isLast 12 = .ok (.l2i, 1) := by decide +kernel
theorem d_Pai_isLast_13 : decode b_Pai_isLast 13 = .ok (.invokevirtual 30, 3) := by decide +kernel
theorem d_Pai_isLast_16 : decode b_Pai_isLast 16 = .ok (.aload_n 0, 1) := by decide +kernel
theorem d_Pai_isLast_17 : decode b_Pai_isLast 17 = .ok (.getfield 19, 3) := by decide +kernel
theorem d_Pai_isLast_20 : decode b_Pai_isLast 20 = .ok (.lload_n 1, 1) := by decide +kernel
theorem d_Pai_isLast_21 : decode b_Pai_isLast 21 = .ok (.ldc2_w 28, 3) := by decide +kernel
theorem d_Pai_isLast_24 : decode b_Pai_isLast 24 = .ok (.land, 1) := by decide +kernel
theorem d_Pai_isLast_25 : decode b_Pai_isLast 25 = .ok (.l2i, 1) := by decide +kernel
theorem d_Pai_isLast_26 : decode b_Pai_isLast 26 = .ok (.invokevirtual 30, 3) := by decide +kernel
theorem d_Pai_isLast_29 : decode b_Pai_isLast 29 = .ok (.invokestatic 34, 3) := by decide +kernel
theorem d_Pai_isLast_32 : decode b_Pai_isLast 32 = .ok (.ireturn, 1) := by decide +kernel
theorem d_Pai_after_0 : decode b_Pai_after 0 = .ok (.aload_n 0, 1) := by decide +kernel
theorem d_Pai_after_1 : decode b_Pai_after 1 = .ok (.getfield 15, 3) := by decide +kernel
theorem d_Pai_after_4 : decode b_Pai_after 4 = .ok (.lload_n 1, 1) := by decide +kernel
theorem d_Pai_after_5 : decode b_Pai_after 5 = .ok (.bipush 6, 2) := by decide +kernel
theorem d_Pai_after_7 : decode b_Pai_after 7 = .ok (.lushr, 1) := by decide +kernel
theorem d_Pai_after_8 : decode b_Pai_after 8 = .ok (.l2i, 1) := by decide +kernel
theorem d_Pai_after_9 : decode b_Pai_after 9 = .ok (.iload_n 3, 1) := by decide +kernel
theorem d_Pai_after_10 : decode b_Pai_after 10 = .ok (.invokevirtual 22, 3) := by decide +kernel
theorem d_Pai_after_13 : decode b_Pai_after 13 = .ok (.i2l, 1) := by decide +kernel
theorem d_Pai_after_14 : decode b_Pai_after 14 = .ok (.lstore 4, 2) := by decide +kernel
theorem d_Pai_after_16 : decode b_Pai_after 16 = .ok (.lload 4, 2) := by decide +kernel
theorem d_Pai_after_18 : decode b_Pai_after 18 = .ok (.bipush 6, 2) := by decide +kernel
theorem d_Pai_after_20 : decode b_Pai_after 20 = .ok (.lshl, 1) := by decide +kernel
theorem d_Pai_after_21 : decode b_Pai_after 21 = .ok (.aload_n 0, 1) := by decide +kernel
theorem d_Pai_after_22 : decode b_Pai_after 22 = .ok (.getfield 19, 3) := by decide +kernel
theorem d_Pai_after_25 : decode b_Pai_after 25 = .ok (.lload_n 1, 1) := by decide +kernel
theorem d_Pai_after_26 : decode b_Pai_after 26 = .ok (.ldc2_w 28, 3) := by decide +kernel
theorem d_Pai_after_29 : decode b_Pai_after 29 = .ok (.land, 1) := by decide +kernel
theorem d_Pai_after_30 : decode b_Pai_after 30 = .ok (.l2i, 1) := by decide +kernel
theorem d_Pai_after_31 : decode b_Pai_after 31 = .ok (.iload_n 3, 1) := by decide +kernel
theorem d_Pai_after_32 : decode b_Pai_after 32 = .ok (.invokevirtual 22, 3) := by decide +kernel
theorem d_Pai_after_35 : decode b_Pai_after 35 = .ok (.i2l, 1) := by decide +kernel
theorem d_Pai_after_36 : decode b_Pai_after 36 = .ok (.lor, 1) := by decide +kernel
theorem d_Pai_after_37 : decode b_Pai_after 37 = .ok (.lreturn, 1) := by decide +kernel
theorem d_Pai_init_0 : decode b_Pai_init 0 = .ok (.aload_n 0, 1) := by decide +kernel
theorem d_Pai_init_1 : decode b_Pai_init 1 = .ok (.invokespecial 3, 3) := by decide +kernel
theorem d_Pai_init_4 : decode b_Pai_init 4 = .ok (.aload_n 0, 1) := by decide +kernel
theorem d_Pai_init_5 : decode b_Pai_init 5 = .ok (.iload_n 1, 1) := by decide +kernel
theorem d_Pai_init_6 : decode b_Pai_init 6 = .ok (.putfield 9, 3) := by decide +kernel
theorem d_Pai_init_9 : decode b_Pai_init 9 = .ok (.aload_n 0, 1) := by decide +kernel
theorem d_Pai_init_10 : decode b_Pai_init 10 = .ok (.aload_n 2, 1) := by decide +kernel
theorem d_Pai_init_11 : decode b_Pai_init 11 = .ok (.putfield 15, 3) := by decide +kernel
theorem d_Pai_init_14 : decode b_Pai_init 14 = .ok (.aload_n 0, 1) := by decide +kernel
theorem d_Pai_init_15 : decode b_Pai_init 15 = .ok (.aload_n 3, 1) := by decide +kernel
theorem d_Pai_init_16 : decode b_Pai_init 16 = .ok (.putfield 19, 3) := by decide +kernel
theorem d_Pai_init_19 : decode b_Pai_init 19 = .ok (.return_, 1) := by decide +kernel
theorem d_Rul_init_0 : decode b_Rul_init 0 = .ok (.aload_n 0, 1) := by decide +kernel
theorem d_Rul_init_1 : decode b_Rul_init 1 = .ok (.invokespecial 1, 3) := by decide +kernel
theorem d_Rul_init_4 : decode b_Rul_init 4 = .ok (.return_, 1) := by decide +kernel
theorem d_Law_cell_0 : decode b_Law_cell 0 = .ok (.iload_n 1, 1) := by decide +kernel
theorem d_Law_cell_1 : decode b_Law_cell 1 = .ok (.aload_n 0, 1) := by decide +kernel
theorem d_Law_cell_2 : decode b_Law_cell 2 = .ok (.arraylength, 1) := by decide +kernel
theorem d_Law_cell_3 : decode b_Law_cell 3 = .ok (.if_icmp .ge 9, 3) := by decide +kernel
theorem d_Law_cell_6 : decode b_Law_cell 6 = .ok (.aload_n 0, 1) := by decide +kernel
theorem d_Law_cell_7 : decode b_Law_cell 7 = .ok (.iload_n 1, 1) := by decide +kernel
theorem d_Law_cell_8 : decode b_Law_cell 8 = .ok (.iaload, 1) := by decide +kernel
theorem d_Law_cell_9 : decode b_Law_cell 9 = .ok (.goto 4, 3) := by decide +kernel
theorem d_Law_cell_12 : decode b_Law_cell 12 = .ok (.iconst 0, 1) := by decide +kernel
theorem d_Law_cell_13 : decode b_Law_cell 13 = .ok (.ireturn, 1) := by decide +kernel
