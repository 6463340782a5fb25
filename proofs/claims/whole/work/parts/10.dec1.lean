/-! DECODE ROWS -/
theorem d_Row_init_0 : decode b_Row_init 0 = .ok (.aload_n 0, 1) := by decide +kernel
theorem d_Row_init_1 : decode b_Row_init 1 = .ok (.invokespecial 3, 3) := by decide +kernel
theorem d_Row_init_4 : decode b_Row_init 4 = .ok (.aload_n 0, 1) := by decide +kernel
theorem d_Row_init_5 : decode b_Row_init 5 = .ok (.bipush 100, 2) := by decide +kernel
theorem d_Row_init_7 : decode b_Row_init 7 = .ok (.newarray .int, 2) := by decide +kernel
theorem d_Row_init_9 : decode b_Row_init 9 = .ok (.putfield 9, 3) := by decide +kernel
theorem d_Row_init_12 : decode b_Row_init 12 = .ok (.aload_n 0, 1) := by decide +kernel
theorem d_Row_init_13 : decode b_Row_init 13 = .ok (.iconst 0, 1) := by decide +kernel
theorem d_Row_init_14 : decode b_Row_init 14 = .ok (.putfield 15, 3) := by decide +kernel
theorem d_Row_init_17 : decode b_Row_init 17 = .ok (.return_, 1) := by decide +kernel
theorem d_Row_shortenTo_0 : decode b_Row_shortenTo 0 = .ok (.iload_n 1, 1) := by decide +kernel
theorem d_Row_shortenTo_1 : decode b_Row_shortenTo 1 = .ok (.ifCond .lt 16, 3) := by decide +kernel
theorem d_Row_shortenTo_4 : decode b_Row_shortenTo 4 = .ok (.iload_n 1, 1) := by decide +kernel
theorem d_Row_shortenTo_5 : decode b_Row_shortenTo 5 = .ok (.aload_n 0, 1) := by decide +kernel
theorem d_Row_shortenTo_6 : decode b_Row_shortenTo 6 = .ok (.getfield 15, 3) := by decide +kernel
theorem d_Row_shortenTo_9 : decode b_Row_shortenTo 9 = .ok (.if_icmp .ge 8, 3) := by decide +kernel
theorem d_Row_shortenTo_12 : decode b_Row_shortenTo 12 = .ok (.aload_n 0, 1) := by decide +kernel
theorem d_Row_shortenTo_13 : decode b_Row_shortenTo 13 = .ok (.iload_n 1, 1) := by decide +kernel
theorem d_Row_shortenTo_14 : decode b_Row_shortenTo 14 = .ok (.putfield 15, 3) := by decide +kernel
theorem d_Row_shortenTo_17 : decode b_Row_shortenTo 17 = .ok (.return_, 1) := by decide +kernel
theorem d_Row_append_0 : decode b_Row_append 0 = .ok (.aload_n 0, 1) := by decide +kernel
theorem d_Row_append_1 : decode b_Row_append 1 = .ok (.getfield 15, 3) := by decide +kernel
theorem d_Row_append_4 : decode b_Row_append 4 = .ok (.bipush 100, 2) := by decide +kernel
theorem d_Row_append_6 : decode b_Row_append 6 = .ok (.if_icmp .lt 5, 3) := by decide +kernel
theorem d_Row_append_9 : decode b_Row_append 9 = .ok (.iconst 0, 1) := by decide +kernel
theorem d_Row_append_10 : decode b_Row_append 10 = .ok (.ireturn, 1) := by decide +kernel
theorem d_Row_append_11 : decode b_Row_append 11 = .ok (.aload_n 0, 1) := by decide +kernel
theorem d_Row_append_12 : decode b_Row_append 12 = .ok (.getfield 9, 3) := by decide +kernel
theorem d_Row_append_15 : decode b_Row_append 15 = .ok (.aload_n 0, 1) := by decide +kernel
theorem d_Row_append_16 : decode b_Row_append 16 = .ok (.getfield 15, 3) := by decide +kernel
theorem d_Row_append_19 : decode b_Row_append 19 = .ok (.iload_n 1, 1) := by decide +kernel
theorem d_Row_append_20 : decode b_Row_append 20 = .ok (.iastore, 1) := by decide +kernel
theorem d_Row_append_21 : decode b_Row_append 21 = .ok (.aload_n 0, 1) := by decide +kernel
theorem d_Row_append_22 : decode b_Row_append 22 = .ok (.dup, 1) := by decide +kernel
theorem d_Row_append_23 : decode b_Row_append 23 = .ok (.getfield 15, 3) := by decide +kernel
theorem d_Row_append_26 : decode b_Row_append 26 = .ok (.iconst 1, 1) := by decide +kernel
theorem d_Row_append_27 : decode b_Row_append 27 = .ok (.iadd, 1) := by decide +kernel
theorem d_Row_append_28 : decode b_Row_append 28 = .ok (.putfield 15, 3) := by decide +kernel
theorem d_Row_append_31 : decode b_Row_append 31 = .ok (.iconst 1, 1) := by decide +kernel
theorem d_Row_append_32 : decode b_Row_append 32 = .ok (.ireturn, 1) := by decide +kernel
theorem d_Row_copy_0 : decode b_Row_copy 0 = .ok (.aload_n 0, 1) := by decide +kernel
theorem d_Row_copy_1 : decode b_Row_copy 1 = .ok (.aload_n 1, 1) := by decide +kernel
theorem d_Row_copy_2 : decode b_Row_copy 2 = .ok (.getfield 15, 3) := by decide +kernel
theorem d_Row_copy_5 : decode b_Row_copy 5 = .ok (.putfield 15, 3) := by decide +kernel
theorem d_Row_copy_8 : decode b_Row_copy 8 = .ok (.aload_n 1, 1) := by decide +kernel
theorem d_Row_copy_9 : decode b_Row_copy 9 = .ok (.getfield 9, 3) := by decide +kernel
theorem d_Row_copy_12 : decode b_Row_copy 12 = .ok (.iconst 0, 1) := by decide +kernel
theorem d_Row_copy_13 : decode b_Row_copy 13 = .ok (.aload_n 0, 1) := by decide +kernel
theorem d_Row_copy_14 : decode b_Row_copy 14 = .ok (.getfield 9, 3) := by decide +kernel
theorem d_Row_copy_17 : decode b_Row_copy 17 = .ok (.iconst 0, 1) := by decide +kernel
theorem d_Row_copy_18 : decode b_Row_copy 18 = .ok (.aload_n 0, 1) := by decide +kernel
theorem d_Row_copy_19 : decode b_Row_copy 19 = .ok (.getfield 9, 3) := by decide +kernel
theorem d_Row_copy_22 : decode b_Row_copy 22 = .ok (.arraylength, 1) := by decide +kernel
theorem d_Row_copy_23 : decode b_Row_copy 23 = .ok (.invokestatic 19, 3) := by decide +kernel
theorem d_Row_copy_26 : decode b_Row_copy 26 = .ok (.return_, 1) := by decide +kernel
theorem d_Row_at_0 : decode b_Row_at 0 = .ok (.iload_n 1, 1) := by decide +kernel
theorem d_Row_at_1 : decode b_Row_at 1 = .ok (.ifCond .lt 20, 3) := by decide +kernel
theorem d_Row_at_4 : decode b_Row_at 4 = .ok (.iload_n 1, 1) := by decide +kernel
theorem d_Row_at_5 : decode b_Row_at 5 = .ok (.aload_n 0, 1) := by decide +kernel
theorem d_Row_at_6 : decode b_Row_at 6 = .ok (.getfield 15, 3) := by decide +kernel
theorem d_Row_at_9 : decode b_Row_at 9 = .ok (.if_icmp .ge 12, 3) := by decide +kernel
theorem d_Row_at_12 : decode b_Row_at 12 = .ok (.aload_n 0, 1) := by decide +kernel
theorem d_Row_at_13 : decode b_Row_at 13 = .ok (.getfield 9, 3) := by decide +kernel
theorem d_Row_at_16 : decode b_Row_at 16 = .ok (.iload_n 1, 1) := by decide +kernel
theorem d_Row_at_17 : decode b_Row_at 17 = .ok (.iaload, 1) := by decide +kernel
theorem d_Row_at_18 : decode b_Row_at 18 = .ok (.goto 4, 3) := by decide +kernel
theorem d_Row_at_21 : decode b_Row_at 21 = .ok (.iconst (-1), 1) := by decide +kernel
theorem d_Row_at_22 : decode b_Row_at 22 = .ok (.ireturn, 1) := by decide +kernel
theorem d_Row_turnAround_0 : decode b_Row_turnAround 0 = .ok (.iconst 0, 1) := by decide +kernel
theorem d_Row_turnAround_1 : decode b_Row_turnAround 1 = .ok (.istore_n 1, 1) := by decide +kernel
theorem d_Row_turnAround_2 : decode b_Row_turnAround 2 = .ok (.iload_n 1, 1) := by decide +kernel
theorem d_Row_turnAround_3 : decode b_Row_turnAround 3 = .ok (.aload_n 0, 1) := by decide +kernel
theorem d_Row_turnAround_4 : decode b_Row_turnAround 4 = .ok (.getfield 15, 3) := by decide +kernel
theorem d_Row_turnAround_7 : decode b_Row_turnAround 7 = .ok (.iconst 2, 1) := by decide +kernel
theorem d_Row_turnAround_8 : decode b_Row_turnAround 8 = .ok (.idiv, 1) := by decide +kernel
theorem d_Row_turnAround_9 : decode b_Row_turnAround 9 = .ok (.if_icmp .ge 49, 3) := by decide +kernel
theorem d_Row_turnAround_12 : decode b_Row_turnAround 12 = .ok (.aload_n 0, 1) := by decide +kernel
theorem d_Row_turnAround_13 : decode b_Row_turnAround 13 = .ok (.getfield 9, 3) := by decide +kernel
theorem d_Row_turnAround_16 : decode b_Row_turnAround 16 = .ok (.iload_n 1, 1) := by decide +kernel
theorem d_Row_turnAround_17 : decode b_Row_turnAround 17 = .ok (.iaload, 1) := by decide +kernel
theorem d_Row_turnAround_18 : decode b_Row_turnAround 18 = .ok (.istore_n 2, 1) := by decide +kernel
theorem d_Row_turnAround_19 : decode b_Row_turnAround 19 = .ok (.aload_n 0, 1) := by decide +kernel
theorem d_Row_turnAround_20 : decode b_Row_turnAround 20 = .ok (.getfield 9, 3) := by decide +kernel
theorem d_Row_turnAround_23 : decode b_Row_turnAround 23 = .ok (.iload_n 1, 1) := by decide +kernel
theorem d_Row_turnAround_24 : decode b_Row_turnAround 24 = .ok (.aload_n 0, 1) := by decide +kernel
theorem d_Row_turnAround_25 : decode b_Row_turnAround 25 = .ok (.getfield 9, 3) := by decide +kernel
theorem d_Row_turnAround_28 : decode b_Row_turnAround 28 = .ok (.aload_n 0, 1) := by decide +kernel
theorem d_Row_turnAround_29 : decode b_Row_turnAround 29 = .ok (.getfield 15, 3) := by decide +kernel
theorem d_Row_turnAround_32 : decode b_Row_turnAround 32 = .ok (.iconst 1, 1) := by decide +kernel
theorem d_Row_turnAround_33 : decode b_Row_turnAround 33 = .ok (.isub, 1) := by decide +kernel
theorem d_Row_turnAround_34 : decode b_Row_turnAround 34 = .ok (.iload_n 1, 1) := by decide +kernel
theorem d_Row_turnAround_35 : decode b_Row_turnAround 35 = .ok (.isub, 1) := by decide +kernel
theorem d_Row_turnAround_36 : decode b_Row_turnAround 36 = .ok (.iaload, 1) := by decide +kernel
theorem d_Row_turnAround_37 : decode b_Row_turnAround 37 = .ok (.iastore, 1) := by decide +kernel
theorem d_Row_turnAround_38 : decode b_Row_turnAround 38 = .ok (.aload_n 0, 1) := by decide +kernel
theorem d_Row_turnAround_39 : decode b_Row_turnAround 39 = .ok (.getfield 9, 3) := by decide +kernel
theorem d_Row_turnAround_42 : decode b_Row_turnAround 42 = .ok (.aload_n 0, 1) := by decide +kernel
theorem d_Row_turnAround_43 : decode b_Row_turnAround 43 = .ok (.getfield 15, 3) := by decide +kernel
theorem d_Row_turnAround_46 : decode b_Row_turnAround 46 = .ok (.iconst 1, 1) := by decide +kernel
theorem d_Row_turnAround_47 : decode b_Row_turnAround 47 = .ok (.isub, 1) := by decide +kernel
theorem d_Row_turnAround_48 : decode b_Row_turnAround 48 = .ok (.iload_n 1, 1) := by decide +kernel
theorem d_Row_turnAround_49 : decode b_Row_turnAround 49 = .ok (.isub, 1) := by decide +kernel
theorem d_Row_turnAround_50 : decode b_Row_turnAround 50 = .ok (.iload_n 2, 1) := by decide +kernel
theorem d_Row_turnAround_51 : decode b_Row_turnAround 51 = .ok (.iastore, 1) := by decide +kernel
theorem d_Row_turnAround_52 : decode b_Row_turnAround 52 = .ok (.iinc 1 1, 3) := by decide +kernel
theorem d_Row_turnAround_55 : decode b_Row_turnAround 55 = .ok (.goto (-53), 3) := by decide +kernel
theorem d_Row_turnAround_58 : decode b_Row_turnAround 58 = .ok (.return_, 1) := by decide +kernel
theorem d_Mac_init_0 : decode b_Mac_init 0 = .ok (.aload_n 0, 1) := by decide +kernel
theorem d_Mac_init_1 : decode b_Mac_init 1 = .ok (.invokespecial 3, 3) := by decide +kernel
theorem d_Mac_init_4 : decode b_Mac_init 4 = .ok (.aload_n 0, 1) := by decide +kernel
theorem d_Mac_init_5 : decode b_Mac_init 5 = .ok (.bipush 40, 2) := by decide +kernel
theorem d_Mac_init_7 : decode b_Mac_init 7 = .ok (.newarray .int, 2) := by decide +kernel
theorem d_Mac_init_9 : decode b_Mac_init 9 = .ok (.putfield 9, 3) := by decide +kernel
theorem d_Mac_init_12 : decode b_Mac_init 12 = .ok (.aload_n 0, 1) := by decide +kernel
theorem d_Mac_init_13 : decode b_Mac_init 13 = .ok (.iconst 1, 1) := by decide +kernel
theorem d_Mac_init_14 : decode b_Mac_init 14 = .ok (.putfield 15, 3) := by decide +kernel
theorem d_Mac_init_17 : decode b_Mac_init 17 = .ok (.aload_n 0, 1) := by decide +kernel
theorem d_Mac_init_18 : decode b_Mac_init 18 = .ok (.lconst 0, 1) := by decide +kernel
theorem d_Mac_init_19 : decode b_Mac_init 19 = .ok (.putfield 19, 3) := by decide +kernel
theorem d_Mac_init_22 : decode b_Mac_init 22 = .ok (.aload_n 0, 1) := by decide +kernel
theorem d_Mac_init_23 : decode b_Mac_init 23 = .ok (.iload_n 1, 1) := by decide +kernel
theorem d_Mac_init_24 : decode b_Mac_init 24 = .ok (.putfield 23, 3) := by decide +kernel
theorem d_Mac_init_27 : decode b_Mac_init 27 = .ok (.return_, 1) := by decide +kernel
theorem d_Mac_isEnd_0 : decode b_Mac_isEnd 0 = .ok (.iload_n 1, 1) := by decide +kernel
theorem d_Mac_isEnd_1 : decode b_Mac_isEnd 1 = .ok (.ifCond .lt 26, 3) := by decide +kernel
theorem d_Mac_isEnd_4 : decode b_Mac_isEnd 4 = .ok (.iload_n 1, 1) := by decide +kernel
theorem d_Mac_isEnd_5 : decode b_Mac_isEnd 5 = .ok (.aload_n 0, 1) := by decide +kernel
theorem d_Mac_isEnd_6 : decode b_Mac_isEnd 6 = .ok (.getfield 15, 3) := by decide +kernel
theorem d_Mac_isEnd_9 : decode b_Mac_isEnd 9 = .ok (.if_icmp .ge 18, 3) := by decide +kernel
theorem d_Mac_isEnd_12 : decode b_Mac_isEnd 12 = .ok (.aload_n 0, 1) := by decide +kernel
theorem d_Mac_isEnd_13 : decode b_Mac_isEnd 13 = .ok (.getfield 19, 3) := by decide +kernel
theorem d_Mac_isEnd_16 : decode b_Mac_isEnd 16 = .ok (.iload_n 1, 1) := by decide +kernel
theorem d_Mac_isEnd_17 : decode b_Mac_isEnd 17 = .ok (.invokestatic 49, 3) := by decide +kernel
theorem d_Mac_isEnd_20 : decode b_Mac_isEnd 20 = .ok (.ifCond .eq 7, 3) := by decide +kernel
theorem d_Mac_isEnd_23 : decode b_Mac_isEnd 23 = .ok (.iconst 1, 1) := by decide +kernel
theorem d_Mac_isEnd_24 : decode b_Mac_isEnd 24 = .ok (.goto 4, 3) := by decide +kernel
theorem d_Mac_isEnd_27 : decode b_Mac_isEnd 27 = .ok (.iconst 0, 1) := by decide +kernel
theorem d_Mac_isEnd_28 : decode b_Mac_isEnd 28 = .ok (.ireturn, 1) := by decide +kernel
theorem d_Mac_step_0 : decode b_Mac_step 0 = .ok (.aload_n 0, 1) := by decide +kernel
theorem d_Mac_step_1 : decode b_Mac_step 1 = .ok (.iload_n 1, 1) := by decide +kernel
theorem d_Mac_step_2 : decode b_Mac_step 2 = .ok (.iload_n 2, 1) := by decide +kernel
theorem d_Mac_step_3 : decode b_Mac_step 3 = .ok (.invokevirtual 41, 3) := by decide +kernel
theorem d_Mac_step_6 : decode b_Mac_step 6 = .ok (.ifCond .eq 20, 3) := by decide +kernel
theorem d_Mac_step_9 : decode b_Mac_step 9 = .ok (.aload_n 0, 1) := by decide +kernel
theorem d_Mac_step_10 : decode b_Mac_step 10 = .ok (.getfield 9, 3) := by decide +kernel
theorem d_Mac_step_13 : decode b_Mac_step 13 = .ok (.iload_n 1, 1) := by decide +kernel
theorem d_Mac_step_14 : decode b_Mac_step 14 = .ok (.iaload, 1) := by decide +kernel
theorem d_Mac_step_15 : decode b_Mac_step 15 = .ok (.iload_n 2, 1) := by decide +kernel
theorem d_Mac_step_16 : decode b_Mac_step 16 = .ok (.bipush 6, 2) := by decide +kernel
theorem d_Mac_step_18 : decode b_Mac_step 18 = .ok (.imul, 1) := by decide +kernel
theorem d_Mac_step_19 : decode b_Mac_step 19 = .ok (.iushr, 1) := by decide +kernel
theorem d_Mac_step_20 : decode b_Mac_step 20 = .ok (.bipush 63, 2) := by decide +kernel
theorem d_Mac_step_22 : decode b_Mac_step 22 = .ok (.iand, 1) := by decide +kernel
theorem d_Mac_step_23 : decode b_Mac_step 23 = .ok (.goto 4, 3) := by decide +kernel
theorem d_Mac_step_26 : decode b_Mac_step 26 = .ok (.iconst 0, 1) := by decide +kernel
theorem d_Mac_step_27 : decode b_Mac_step 27 = .ok (.ireturn, 1) := by decide +kernel
theorem d_Mac_hasStep_0 : decode b_Mac_hasStep 0 = .ok (.iload_n 1, 1) := by decide +kernel
theorem d_Mac_hasStep_1 : decode b_Mac_hasStep 1 = .ok (.ifCond .lt 27, 3) := by decide +kernel
theorem d_Mac_hasStep_4 : decode b_Mac_hasStep 4 = .ok (.iload_n 1, 1) := by decide +kernel
theorem d_Mac_hasStep_5 : decode b_Mac_hasStep 5 = .ok (.aload_n 0, 1) := by decide +kernel
theorem d_Mac_hasStep_6 : decode b_Mac_hasStep 6 = .ok (.getfield 15, 3) := by decide +kernel
theorem d_Mac_hasStep_9 : decode b_Mac_hasStep 9 = .ok (.if_icmp .ge 19, 3) := by decide +kernel
theorem d_Mac_hasStep_12 : decode b_Mac_hasStep 12 = .ok (.iload_n 2, 1) := by decide +kernel
theorem d_Mac_hasStep_13 : decode b_Mac_hasStep 13 = .ok (.ifCond .lt 15, 3) := by decide +kernel
theorem d_Mac_hasStep_16 : decode b_Mac_hasStep 16 = .ok (.iload_n 2, 1) := by decide +kernel
theorem d_Mac_hasStep_17 : decode b_Mac_hasStep 17 = .ok (.aload_n 0, 1) := by decide +kernel
theorem d_Mac_hasStep_18 : decode b_Mac_hasStep 18 = .ok (.getfield 23, 3) := by decide +kernel
theorem d_Mac_hasStep_21 : decode b_Mac_hasStep 21 = .ok (.if_icmp .ge 7, 3) := by decide +kernel
theorem d_Mac_hasStep_24 : decode b_Mac_hasStep 24 = .ok (.iconst 1, 1) := by decide +kernel
theorem d_Mac_hasStep_25 : decode b_Mac_hasStep 25 = .ok (.goto 4, 3) := by decide +kernel
theorem d_Mac_hasStep_28 : decode b_Mac_hasStep 28 = .ok (.iconst 0, 1) := by decide +kernel
theorem d_Mac_hasStep_29 : decode b_Mac_hasStep 29 = .ok (.ireturn, 1) := by decide +kernel
theorem d_Mac_after_0 : decode b_Mac_after 0 = .ok (.lconst 0, 1) := by decide +kernel
theorem d_Mac_after_1 : decode b_Mac_after 1 = .ok (.lstore 4, 2) := by decide +kernel
theorem d_Mac_after_3 : decode b_Mac_after 3 = .ok (.iconst 0, 1) := by decide +kernel
theorem d_Mac_after_4 : decode b_Mac_after 4 = .ok (.istore 6, 2) := by decide +kernel
theorem d_Mac_after_6 : decode b_Mac_after 6 = .ok (.iload 6, 2) := by decide +kernel
theorem d_Mac_after_8 : decode b_Mac_after 8 = .ok (.aload_n 0, 1) := by decide +kernel
theorem d_Mac_after_9 : decode b_Mac_after 9 = .ok (.getfield 15, 3) := by decide +kernel
theorem d_Mac_after_12 : decode b_Mac_after 12 = .ok (.if_icmp .ge 32, 3) := by decide +kernel
theorem d_Mac_after_15 : decode b_Mac_after 15 = .ok (.lload_n 1, 1) := by decide +kernel
theorem d_Mac_after_16 : decode b_Mac_after 16 = .ok (.iload 6, 2) := by decide +kernel
theorem d_Mac_after_18 : decode b_Mac_after 18 = .ok (.invokestatic 49, 3) := by decide +kernel
theorem d_Mac_after_21 : decode b_Mac_after 21 = .ok (.ifCond .eq 17, 3) := by decide +kernel
theorem d_Mac_after_24 : decode b_Mac_after 24 = .ok (.lload 4, 2) := by decide +kernel
theorem d_Mac_after_26 : decode b_Mac_after 26 = .ok (.lconst 1, 1) := by decide +kernel
theorem d_Mac_after_27 : decode b_Mac_after 27 = .ok (.aload_n 0, 1) := by decide +kernel
theorem d_Mac_after_28 : decode b_Mac_after 28 = .ok (.iload 6, 2) := by decide +kernel
theorem d_Mac_after_30 : decode b_Mac_after 30 = .ok (.iload_n 3, 1) := by decide +kernel
theorem d_Mac_after_31 : decode b_Mac_after 31 = .ok (.invokevirtual 60, 3) := by decide +kernel
theorem d_Mac_after_34 : decode b_Mac_after 34 = .ok (.lshl, 1) := by decide +kernel
theorem d_Mac_after_35 : decode b_Mac_after 35 = .ok (.lor, 1) := by decide +kernel
theorem d_Mac_after_36 : decode b_Mac_after 36 = .ok (.lstore 4, 2) := by decide +kernel
theorem d_Mac_after_38 : decode b_Mac_after 38 = .ok (.iinc 6 1, 3) := by decide +kernel
theorem d_Mac_after_41 : decode b_Mac_after 41 = .ok (.goto (-35), 3) := by decide +kernel
theorem d_Mac_after_44 : decode b_Mac_after 44 = .ok (.lload 4, 2) := by decide +kernel
theorem d_Mac_after_46 : decode b_Mac_after 46 = .ok (.lreturn, 1) := by decide +kernel
theorem d_Mac_begin_0 : decode b_Mac_begin 0 = .ok (.aload_n 0, 1) := by decide +kernel
theorem d_Mac_begin_1 : decode b_Mac_begin 1 = .ok (.iconst 1, 1) := by decide +kernel
theorem d_Mac_begin_2 : decode b_Mac_begin 2 = .ok (.bipush 40, 2) := by decide +kernel
theorem d_Mac_begin_4 : decode b_Mac_begin 4 = .ok (.iload_n 1, 1) := by decide +kernel
theorem d_Mac_begin_5 : decode b_Mac_begin 5 = .ok (.invokestatic 26, 3) := by decide +kernel
theorem d_Mac_begin_8 : decode b_Mac_begin 8 = .ok (.invokestatic 32, 3) := by decide +kernel
theorem d_Mac_begin_11 : decode b_Mac_begin 11 = .ok (.putfield 15, 3) := by decide +kernel
theorem d_Mac_begin_14 : decode b_Mac_begin 14 = .ok (.aload_n 0, 1) := by decide +kernel
theorem d_Mac_begin_15 : decode b_Mac_begin 15 = .ok (.lconst 0, 1) := by decide +kernel
theorem d_Mac_begin_16 : decode b_Mac_begin 16 = .ok (.putfield 19, 3) := by decide +kernel
theorem d_Mac_begin_19 : decode b_Mac_begin 19 = .ok (.iconst 0, 1) := by decide +kernel
theorem d_Mac_begin_20 : decode b_Mac_begin 20 = .ok (.istore_n 2, 1) := by decide +kernel
theorem d_Mac_begin_21 : decode b_Mac_begin 21 = .ok (.iload_n 2, 1) := by decide +kernel
theorem d_Mac_begin_22 : decode b_Mac_begin 22 = .ok (.aload_n 0, 1) := by decide +kernel
theorem d_Mac_begin_23 : decode b_Mac_begin 23 = .ok (.getfield 9, 3) := by decide +kernel
theorem d_Mac_begin_26 : decode b_Mac_begin 26 = .ok (.arraylength, 1) := by decide +kernel
theorem d_Mac_begin_27 : decode b_Mac_begin 27 = .ok (.if_icmp .ge 16, 3) := by decide +kernel
theorem d_Mac_begin_30 : decode b_Mac_begin 30 = .ok (.aload_n 0, 1) := by decide +kernel
theorem d_Mac_begin_31 : decode b_Mac_begin 31 = .ok (.getfield 9, 3) := by decide +kernel
theorem d_Mac_begin_34 : decode b_Mac_begin 34 = .ok (.iload_n 2, 1) := by decide +kernel
theorem d_Mac_begin_35 : decode b_Mac_begin 35 = .ok (.iconst 0, 1) := by decide +kernel
theorem d_Mac_begin_36 : decode b_Mac_begin 36 = .ok (.iastore, 1) := by decide +kernel
theorem d_Mac_begin_37 : decode b_Mac_begin 37 = .ok (.iinc 2 1, 3) := by decide +kernel
theorem d_Mac_begin_40 : decode b_Mac_begin 40 = .ok (.goto (-19), 3) := by decide +kernel
theorem d_Mac_begin_43 : decode b_Mac_begin 43 = .ok (.return_, 1) := by decide +kernel
theorem d_Mac_setStep_0 : decode b_Mac_setStep 0 = .ok (.aload_n 0, 1) := by decide +kernel
theorem d_Mac_setStep_1 : decode b_Mac_setStep 1 = .ok (.iload_n 1, 1) := by decide +kernel
theorem d_Mac_setStep_2 : decode b_Mac_setStep 2 = .ok (.iload_n 2, 1) := by decide +kernel
theorem d_Mac_setStep_3 : decode b_Mac_setStep 3 = .ok (.invokevirtual 41, 3) := by decide +kernel
theorem d_Mac_setStep_6 : decode b_Mac_setStep 6 = .ok (.ifCond .eq 46, 3) := by decide +kernel
theorem d_Mac_setStep_9 : decode b_Mac_setStep 9 = .ok (.iload_n 3, 1) := by decide +kernel
theorem d_Mac_setStep_10 : decode b_Mac_setStep 10 = .ok (.ifCond .lt 42, 3) := by decide +kernel
theorem d_Mac_setStep_13 : decode b_Mac_setStep 13 = .ok (.iload_n 3, 1) := by decide +kernel
theorem d_Mac_setStep_14 : decode b_Mac_setStep 14 = .ok (.aload_n 0, 1) := by decide +kernel
theorem d_Mac_setStep_15 : decode b_Mac_setStep 15 = .ok (.getfield 15, 3) := by decide +kernel
theorem d_Mac_setStep_18 : decode b_Mac_setStep 18 = .ok (.if_icmp .ge 34, 3) := by decide +kernel
theorem d_Mac_setStep_21 : decode b_Mac_setStep 21 = .ok (.iload_n 2, 1) := by decide +kernel
theorem d_Mac_setStep_22 : decode b_Mac_setStep 22 = .ok (.bipush 6, 2) := by decide +kernel
theorem d_Mac_setStep_24 : decode b_Mac_setStep 24 = .ok (.imul, 1) := by decide +kernel
theorem d_Mac_setStep_25 : decode b_Mac_setStep 25 = .ok (.istore 4, 2) := by decide +kernel
theorem d_Mac_setStep_27 : decode b_Mac_setStep 27 = .ok (.aload_n 0, 1) := by decide +kernel
theorem d_Mac_setStep_28 : decode b_Mac_setStep 28 = .ok (.getfield 9, 3) := by decide +kernel
theorem d_Mac_setStep_31 : decode b_Mac_setStep 31 = .ok (.iload_n 1, 1) := by decide +kernel
theorem d_Mac_setStep_32 : decode b_Mac_setStep 32 = .ok (.aload_n 0, 1) := by decide +kernel
theorem d_Mac_setStep_33 : decode b_Mac_setStep 33 = .ok (.getfield 9, 3) := by decide +kernel
theorem d_Mac_setStep_36 : decode b_Mac_setStep 36 = .ok (.iload_n 1, 1) := by decide +kernel
theorem d_Mac_setStep_37 : decode b_Mac_setStep 37 = .ok (.iaload, 1) := by decide +kernel
theorem d_Mac_setStep_38 : decode b_Mac_setStep 38 = .ok (.bipush 63, 2) := by decide +kernel
theorem d_Mac_setStep_40 : decode b_Mac_setStep 40 = .ok (.iload 4, 2) := by decide +kernel
theorem d_Mac_setStep_42 : decode b_Mac_setStep 42 = .ok (.ishl, 1) := by decide +kernel
theorem d_Mac_setStep_43 : decode b_Mac_setStep 43 = .ok (.iconst (-1), 1) := by decide +kernel
theorem d_Mac_setStep_44 : decode b_Mac_setStep 44 = .ok (.ixor, 1) := by decide +kernel
theorem d_Mac_setStep_45 : decode b_Mac_setStep 45 = .ok (.iand, 1) := by decide +kernel
theorem d_Mac_setStep_46 : decode b_Mac_setStep 46 = .ok (.iload_n 3, 1) := by decide +kernel
theorem d_Mac_setStep_47 : decode b_Mac_setStep 47 = .ok (.iload 4, 2) := by decide +kernel
theorem d_Mac_setStep_49 : decode b_Mac_setStep 49 = .ok (.ishl, 1) := by decide +kernel
theorem d_Mac_setStep_50 : decode b_Mac_setStep 50 = .ok (.ior, 1) := by decide +kernel
theorem d_Mac_setStep_51 : decode b_Mac_setStep 51 = .ok (.iastore, 1) := by decide +kernel
theorem d_Mac_setStep_52 : decode b_Mac_setStep 52 = .ok (.return_, 1) := by decide +kernel
theorem d_Mac_setEnds_0 : decode b_Mac_setEnds 0 = .ok (.aload_n 0, 1) := by decide +kernel
theorem d_Mac_setEnds_1 : decode b_Mac_setEnds 1 = .ok (.lload_n 1, 1) := by decide +kernel
theorem d_Mac_setEnds_2 : decode b_Mac_setEnds 2 = .ok (.aload_n 0, 1) := by decide +kernel
theorem d_Mac_setEnds_3 : decode b_Mac_setEnds 3 = .ok (.invokevirtual 45, 3) := by decide +kernel
theorem d_Mac_setEnds_6 : decode b_Mac_setEnds 6 = .ok (.land, 1) := by decide +kernel
theorem d_Mac_setEnds_7 : decode b_Mac_setEnds 7 = .ok (.putfield 19, 3) := by decide +kernel
theorem d_Mac_setEnds_10 : decode b_Mac_setEnds 10 = .ok (.return_, 1) := by decide +kernel
theorem d_Mac_allStates_0 : decode b_Mac_allStates 0 = .ok (.lconst 1, 1) := by decide +kernel
theorem d_Mac_allStates_1 : decode b_Mac_allStates 1 = .ok (.aload_n 0, 1) := by decide +kernel
theorem d_Mac_allStates_2 : decode b_Mac_allStates 2 = .ok (.getfield 15, 3) := by decide +kernel
theorem d_Mac_allStates_5 : decode b_Mac_allStates 5 = .ok (.lshl, 1) := by decide +kernel
theorem d_Mac_allStates_6 : decode b_Mac_allStates 6 = .ok (.lconst 1, 1) := by decide +kernel
theorem d_Mac_allStates_7 : decode b_Mac_allStates 7 = .ok (.lsub, 1) := by decide +kernel
theorem d_Mac_allStates_8 : decode b_Mac_allStates 8 = .ok (.lreturn, 1) := by decide +kernel
theorem d_Mac_isSame_0 : decode b_Mac_isSame 0 = .ok (.aload_n 0, 1) := by decide +kernel
theorem d_Mac_isSame_1 : decode b_Mac_isSame 1 = .ok (.getfield 15, 3) := by decide +kernel
theorem d_Mac_isSame_4 : decode b_Mac_isSame 4 = .ok (.aload_n 1, 1) := by decide +kernel
theorem d_Mac_isSame_5 : decode b_Mac_isSame 5 = .ok (.getfield 15, 3) := by decide +kernel
theorem d_Mac_isSame_8 : decode b_Mac_isSame 8 = .ok (.if_icmp .ne 15, 3) := by decide +kernel
theorem d_Mac_isSame_11 : decode b_Mac_isSame 11 = .ok (.aload_n 0, 1) := by decide +kernel
theorem d_Mac_isSame_12 : decode b_Mac_isSame 12 = .ok (.getfield 19, 3) := by decide +kernel
theorem d_Mac_isSame_15 : decode b_Mac_isSame 15 = .ok (.aload_n 1, 1) := by decide +kernel
theorem d_Mac_isSame_16 : decode b_Mac_isSame 16 = .ok (.getfield 19, 3) := by decide +kernel
theorem d_Mac_isSame_19 : decode b_Mac_isSame 19 = .ok (.lcmp, 1) := by decide +kernel
theorem d_Mac_isSame_20 : decode b_Mac_isSame 20 = .ok (.ifCond .eq 5, 3) := by decide +kernel
theorem d_Mac_isSame_23 : decode b_Mac_isSame 23 = .ok (.iconst 0, 1) := by decide +kernel
theorem d_Mac_isSame_24 : decode b_Mac_isSame 24 = .ok (.ireturn, 1) := by decide +kernel
theorem d_Mac_isSame_25 : decode b_Mac_isSame 25 = .ok (.iconst 0, 1) := by decide +kernel
theorem d_Mac_isSame_26 : decode b_Mac_isSame 26 = .ok (.istore_n 2, 1) := by decide +kernel
theorem d_Mac_isSame_27 : decode b_Mac_isSame 27 = .ok (.iload_n 2, 1) := by decide +kernel
theorem d_Mac_isSame_28 : decode b_Mac_isSame 28 = .ok (.aload_n 0, 1) := by decide +kernel
theorem d_Mac_isSame_29 : decode b_Mac_isSame 29 = .ok (.getfield 15, 3) := by decide +kernel
theorem d_Mac_isSame_32 : decode b_Mac_isSame 32 = .ok (.if_icmp .ge 26, 3) := by decide +kernel
theorem d_Mac_isSame_35 : decode b_Mac_isSame 35 = .ok (.aload_n 0, 1) := by decide +kernel
theorem d_Mac_isSame_36 : decode b_Mac_isSame 36 = .ok (.getfield 9, 3) := by decide +kernel
theorem d_Mac_isSame_39 : decode b_Mac_isSame 39 = .ok (.iload_n 2, 1) := by decide +kernel
theorem d_Mac_isSame_40 : decode b_Mac_isSame 40 = .ok (.iaload, 1) := by decide +kernel
theorem d_Mac_isSame_41 : decode b_Mac_isSame 41 = .ok (.aload_n 1, 1) := by decide +kernel
theorem d_Mac_isSame_42 : decode b_Mac_isSame 42 = .ok (.getfield 9, 3) := by decide +kernel
theorem d_Mac_isSame_45 : decode b_Mac_isSame 45 = .ok (.iload_n 2, 1) := by decide +kernel
theorem d_Mac_isSame_46 : decode b_Mac_isSame 46 = .ok (.iaload, 1) := by decide +kernel
theorem d_Mac_isSame_47 : decode b_Mac_isSame 47 = .ok (.if_icmp .eq 5, 3) := by decide +kernel
theorem d_Mac_isSame_50 : decode b_Mac_isSame 50 = .ok (.iconst 0, 1) := by decide +kernel
theorem d_Mac_isSame_51 : decode b_Mac_isSame 51 = .ok (.ireturn, 1) := by decide +kernel
theorem d_Mac_isSame_52 : decode b_Mac_isSame 52 = .ok (.iinc 2 1, 3) := by decide +kernel
theorem d_Mac_isSame_55 : decode b_Mac_isSame 55 = .ok (.goto (-28), 3) := by decide +kernel
theorem d_Mac_isSame_58 : decode b_Mac_isSame 58 = .ok (.iconst 1, 1) := by decide +kernel
theorem d_Mac_isSame_59 : decode b_Mac_isSame 59 = .ok (.ireturn, 1) := by decide +kernel
theorem d_Mac_copy_0 : decode b_Mac_copy 0 = .ok (.aload_n 0, 1) := by decide +kernel
theorem d_Mac_copy_1 : decode b_Mac_copy 1 = .ok (.aload_n 1, 1) := by decide +kernel
theorem d_Mac_copy_2 : decode b_Mac_copy 2 = .ok (.getfield 15, 3) := by decide +kernel
theorem d_Mac_copy_5 : decode b_Mac_copy 5 = .ok (.putfield 15, 3) := by decide +kernel
theorem d_Mac_copy_8 : decode b_Mac_copy 8 = .ok (.aload_n 0, 1) := by decide +kernel
theorem d_Mac_copy_9 : decode b_Mac_copy 9 = .ok (.aload_n 1, 1) := by decide +kernel
theorem d_Mac_copy_10 : decode b_Mac_copy 10 = .ok (.getfield 19, 3) := by decide +kernel
theorem d_Mac_copy_13 : decode b_Mac_copy 13 = .ok (.putfield 19, 3) := by decide +kernel
theorem d_Mac_copy_16 : decode b_Mac_copy 16 = .ok (.aload_n 1, 1) := by decide +kernel
theorem d_Mac_copy_17 : decode b_Mac_copy 17 = .ok (.getfield 9, 3) := by decide +kernel
theorem d_Mac_copy_20 : decode b_Mac_copy 20 = .ok (.iconst 0, 1) := by decide +kernel
theorem d_Mac_copy_21 : decode b_Mac_copy 21 = .ok (.aload_n 0, 1) := by decide +kernel
theorem d_Mac_copy_22 : decode b_Mac_copy 22 = .ok (.getfield 9, 3) := by decide +kernel
theorem d_Mac_copy_25 : decode b_Mac_copy 25 = .ok (.iconst 0, 1) := by decide +kernel
theorem d_Mac_copy_26 : decode b_Mac_copy 26 = .ok (.aload_n 0, 1) := by decide +kernel
theorem d_Mac_copy_27 : decode b_Mac_copy 27 = .ok (.getfield 9, 3) := by decide +kernel
theorem d_Mac_copy_30 : decode b_Mac_copy 30 = .ok (.arraylength, 1) := by decide +kernel
theorem d_Mac_copy_31 : decode b_Mac_copy 31 = .ok (.invokestatic 35, 3) := by decide +kernel
theorem d_Mac_copy_34 : decode b_Mac_copy 34 = .ok (.return_, 1) := by decide +kernel
theorem d_Mac_reachedBy_0 : decode b_Mac_reachedBy 0 = .ok (.lconst 1, 1) := by decide +kernel
theorem d_Mac_reachedBy_1 : decode b_Mac_reachedBy 1 = .ok (.lstore_n 2, 1) := by decide +kernel
theorem d_Mac_reachedBy_2 : decode b_Mac_reachedBy 2 = .ok (.iconst 0, 1) := by decide +kernel
theorem d_Mac_reachedBy_3 : decode b_Mac_reachedBy 3 = .ok (.istore 4, 2) := by decide +kernel
theorem d_Mac_reachedBy_5 : decode b_Mac_reachedBy 5 = .ok (.iload 4, 2) := by decide +kernel
theorem d_Mac_reachedBy_7 : decode b_Mac_reachedBy 7 = .ok (.iload_n 1, 1) := by decide +kernel
theorem d_Mac_reachedBy_8 : decode b_Mac_reachedBy 8 = .ok (.if_icmp .ge 15, 3) := by decide +kernel
theorem d_Mac_reachedBy_11 : decode b_Mac_reachedBy 11 = .ok (.aload_n 0, 1) := by decide +kernel
theorem d_Mac_reachedBy_12 : decode b_Mac_reachedBy 12 = .ok (.lload_n 2, 1) := by decide +kernel
theorem d_Mac_reachedBy_13 : decode b_Mac_reachedBy 13 = .ok (.invokevirtual 67, 3) := by decide +kernel
theorem d_Mac_reachedBy_16 : decode b_Mac_reachedBy 16 = .ok (.lstore_n 2, 1) := by decide +kernel
theorem d_Mac_reachedBy_17 : decode b_Mac_reachedBy 17 = .ok (.iinc 4 1, 3) := by decide +kernel
theorem d_Mac_reachedBy_20 : decode b_Mac_reachedBy 20 = .ok (.goto (-15), 3) := by decide +kernel
theorem d_Mac_reachedBy_23 : decode b_Mac_reachedBy 23 = .ok (.lload_n 2, 1) := by decide +kernel
theorem d_Mac_reachedBy_24 : decode b_Mac_reachedBy 24 = .ok (.lreturn, 1) := by decide +kernel
theorem d_Mac_afterAny_0 : decode b_Mac_afterAny 0 = .ok (.lconst 0, 1) := by decide +kernel
theorem d_Mac_afterAny_1 : decode b_Mac_afterAny 1 = .ok (.lstore_n 3, 1) := by decide +kernel
theorem d_Mac_afterAny_2 : decode b_Mac_afterAny 2 = .ok (.iconst 0, 1) := by decide +kernel
theorem d_Mac_afterAny_3 : decode b_Mac_afterAny 3 = .ok (.istore 5, 2) := by decide +kernel
theorem d_Mac_afterAny_5 : decode b_Mac_afterAny 5 = .ok (.iload 5, 2) := by decide +kernel
theorem d_Mac_afterAny_7 : decode b_Mac_afterAny 7 = .ok (.aload_n 0, 1) := by decide +kernel
theorem d_Mac_afterAny_8 : decode b_Mac_afterAny 8 = .ok (.getfield 23, 3) := by decide +kernel
theorem d_Mac_afterAny_11 : decode b_Mac_afterAny 11 = .ok (.if_icmp .ge 19, 3) := by decide +kernel
theorem d_Mac_afterAny_14 : decode b_Mac_afterAny 14 = .ok (.lload_n 3, 1) := by decide +kernel
theorem d_Mac_afterAny_15 : decode b_Mac_afterAny 15 = .ok (.aload_n 0, 1) := by decide +kernel
theorem d_Mac_afterAny_16 : decode b_Mac_afterAny 16 = .ok (.lload_n 1, 1) := by decide +kernel
theorem d_Mac_afterAny_17 : decode b_Mac_afterAny 17 = .ok (.iload 5, 2) := by decide +kernel
theorem d_Mac_afterAny_19 : decode b_Mac_afterAny 19 = .ok (.invokevirtual 63, 3) := by decide +kernel
theorem d_Mac_afterAny_22 : decode b_Mac_afterAny 22 = .ok (.lor, 1) := by decide +kernel
theorem d_Mac_afterAny_23 : decode b_Mac_afterAny 23 = .ok (.lstore_n 3, 1) := by decide +kernel
theorem d_Mac_afterAny_24 : decode b_Mac_afterAny 24 = .ok (.iinc 5 1, 3) := by decide +kernel
theorem d_Mac_afterAny_27 : decode b_Mac_afterAny 27 = .ok (.goto (-22), 3) := by decide +kernel
theorem d_Mac_afterAny_30 : decode b_Mac_afterAny 30 = .ok (.lload_n 3, 1) := by decide +kernel
theorem d_Mac_afterAny_31 : decode b_Mac_afterAny 31 = .ok (.lreturn, 1) := by decide +kernel
theorem d_Mac_endingIn_0 : decode b_Mac_endingIn 0 = .ok (.aload_n 0, 1) := by decide +kernel
theorem d_Mac_endingIn_1 : decode b_Mac_endingIn 1 = .ok (.getfield 19, 3) := by decide +kernel
theorem d_Mac_endingIn_4 : decode b_Mac_endingIn 4 = .ok (.lstore_n 2, 1) := by decide +kernel
theorem d_Mac_endingIn_5 : decode b_Mac_endingIn 5 = .ok (.iconst 0, 1) := by decide +kernel
theorem d_Mac_endingIn_6 : decode b_Mac_endingIn 6 = .ok (.istore 4, 2) := by decide +kernel
theorem d_Mac_endingIn_8 : decode b_Mac_endingIn 8 = .ok (.iload 4, 2) := by decide +kernel
theorem d_Mac_endingIn_10 : decode b_Mac_endingIn 10 = .ok (.iload_n 1, 1) := by decide +kernel
theorem d_Mac_endingIn_11 : decode b_Mac_endingIn 11 = .ok (.if_icmp .ge 15, 3) := by decide +kernel
theorem d_Mac_endingIn_14 : decode b_Mac_endingIn 14 = .ok (.aload_n 0, 1) := by decide +kernel
theorem d_Mac_endingIn_15 : decode b_Mac_endingIn 15 = .ok (.lload_n 2, 1) := by decide +kernel
theorem d_Mac_endingIn_16 : decode b_Mac_endingIn 16 = .ok (.invokevirtual 71, 3) := by decide +kernel
theorem d_Mac_endingIn_19 : decode b_Mac_endingIn 19 = .ok (.lstore_n 2, 1) := by decide +kernel
theorem d_Mac_endingIn_20 : decode b_Mac_endingIn 20 = .ok (.iinc 4 1, 3) := by decide +kernel
theorem d_Mac_endingIn_23 : decode b_Mac_endingIn 23 = .ok (.goto (-15), 3) := by decide +kernel
theorem d_Mac_endingIn_26 : decode b_Mac_endingIn 26 = .ok (.lload_n 2, 1) := by decide +kernel
theorem d_Mac_endingIn_27 : decode b_Mac_endingIn 27 = .ok (.lreturn, 1) := by decide +kernel
theorem d_Mac_beforeAny_0 : decode b_Mac_beforeAny 0 = .ok (.lconst 0, 1) := by decide +kernel
theorem d_Mac_beforeAny_1 : decode b_Mac_beforeAny 1 = .ok (.lstore_n 3, 1) := by decide +kernel
theorem d_Mac_beforeAny_2 : decode b_Mac_beforeAny 2 = .ok (.iconst 0, 1) := by decide +kernel
theorem d_Mac_beforeAny_3 : decode b_Mac_beforeAny 3 = .ok (.istore 5, 2) := by decide +kernel
theorem d_Mac_beforeAny_5 : decode b_Mac_beforeAny 5 = .ok (.iload 5, 2) := by decide +kernel
theorem d_Mac_beforeAny_7 : decode b_Mac_beforeAny 7 = .ok (.aload_n 0, 1) := by decide +kernel
theorem d_Mac_beforeAny_8 : decode b_Mac_beforeAny 8 = .ok (.getfield 15, 3) := by decide +kernel
theorem d_Mac_beforeAny_11 : decode b_Mac_beforeAny 11 = .ok (.if_icmp .ge 49, 3) := by decide +kernel
theorem d_Mac_beforeAny_14 : decode b_Mac_beforeAny 14 = .ok (.iconst 0, 1) := by decide +kernel
theorem d_Mac_beforeAny_15 : decode b_Mac_beforeAny 15 = .ok (.istore 6, 2) := by decide +kernel
theorem d_Mac_beforeAny_17 : decode b_Mac_beforeAny 17 = .ok (.iload 6, 2) := by decide +kernel
theorem d_Mac_beforeAny_19 : decode b_Mac_beforeAny 19 = .ok (.aload_n 0, 1) := by decide +kernel
theorem d_Mac_beforeAny_20 : decode b_Mac_beforeAny 20 = .ok (.getfield 23, 3) := by decide +kernel
theorem d_Mac_beforeAny_23 : decode b_Mac_beforeAny 23 = .ok (.if_icmp .ge 31, 3) := by decide +kernel
theorem d_Mac_beforeAny_26 : decode b_Mac_beforeAny 26 = .ok (.lload_n 1, 1) := by decide +kernel
theorem d_Mac_beforeAny_27 : decode b_Mac_beforeAny 27 = .ok (.aload_n 0, 1) := by decide +kernel
theorem d_Mac_beforeAny_28 : decode b_Mac_beforeAny 28 = .ok (.iload 5, 2) := by decide +kernel
theorem d_Mac_beforeAny_30 : decode b_Mac_beforeAny 30 = .ok (.iload 6, 2) := by decide +kernel
theorem d_Mac_beforeAny_32 : decode b_Mac_beforeAny 32 = .ok (.invokevirtual 60, 3) := by decide +kernel
theorem d_Mac_beforeAny_35 : decode b_Mac_beforeAny 35 = .ok (.invokestatic 49, 3) := by decide +kernel
theorem d_Mac_beforeAny_38 : decode b_Mac_beforeAny 38 = .ok (.ifCond .eq 10, 3) := by decide +kernel
theorem d_Mac_beforeAny_41 : decode b_Mac_beforeAny 41 = .ok (.lload_n 3, 1) := by decide +kernel
theorem d_Mac_beforeAny_42 : decode b_Mac_beforeAny 42 = .ok (.lconst 1, 1) := by decide +kernel
theorem d_Mac_beforeAny_43 : decode b_Mac_beforeAny 43 = .ok (.iload 5, 2) := by decide +kernel
theorem d_Mac_beforeAny_45 : decode b_Mac_beforeAny 45 = .ok (.lshl, 1) := by decide +kernel
theorem d_Mac_beforeAny_46 : decode b_Mac_beforeAny 46 = .ok (.lor, 1) := by decide +kernel
theorem d_Mac_beforeAny_47 : decode b_Mac_beforeAny 47 = .ok (.lstore_n 3, 1) := by decide +kernel
theorem d_Mac_beforeAny_48 : decode b_Mac_beforeAny 48 = .ok (.iinc 6 1, 3) := by decide +kernel
theorem d_Mac_beforeAny_51 : decode b_Mac_beforeAny 51 = .ok (.goto (-34), 3) := by decide +kernel
theorem d_Mac_beforeAny_54 : decode b_Mac_beforeAny 54 = .ok (.iinc 5 1, 3) := by decide +kernel
theorem d_Mac_beforeAny_57 : decode b_Mac_beforeAny 57 = .ok (.goto (-52), 3) := by decide +kernel
theorem d_Mac_beforeAny_60 : decode b_Mac_beforeAny 60 = .ok (.lload_n 3, 1) := by decide +kernel
theorem d_Mac_beforeAny_61 : decode b_Mac_beforeAny 61 = .ok (.lreturn, 1) := by decide +kernel
theorem d_Mac_liveStates_0 : decode b_Mac_liveStates 0 = .ok (.aload_n 0, 1) := by decide +kernel
theorem d_Mac_liveStates_1 : decode b_Mac_liveStates 1 = .ok (.getfield 19, 3) := by decide +kernel
theorem d_Mac_liveStates_4 : decode b_Mac_liveStates 4 = .ok (.lstore_n 1, 1) := by decide +kernel
theorem d_Mac_liveStates_5 : decode b_Mac_liveStates 5 = .ok (.iconst 0, 1) := by decide +kernel
theorem d_Mac_liveStates_6 : decode b_Mac_liveStates 6 = .ok (.istore_n 3, 1) := by decide +kernel
theorem d_Mac_liveStates_7 : decode b_Mac_liveStates 7 = .ok (.iload_n 3, 1) := by decide +kernel
theorem d_Mac_liveStates_8 : decode b_Mac_liveStates 8 = .ok (.aload_n 0, 1) := by decide +kernel
theorem d_Mac_liveStates_9 : decode b_Mac_liveStates 9 = .ok (.getfield 15, 3) := by decide +kernel
theorem d_Mac_liveStates_12 : decode b_Mac_liveStates 12 = .ok (.if_icmp .ge 17, 3) := by decide +kernel
theorem d_Mac_liveStates_15 : decode b_Mac_liveStates 15 = .ok (.lload_n 1, 1) := by decide +kernel
theorem d_Mac_liveStates_16 : decode b_Mac_liveStates 16 = .ok (.aload_n 0, 1) := by decide +kernel
theorem d_Mac_liveStates_17 : decode b_Mac_liveStates 17 = .ok (.lload_n 1, 1) := by decide +kernel
theorem d_Mac_liveStates_18 : decode b_Mac_liveStates 18 = .ok (.invokevirtual 71, 3) := by decide +kernel
theorem d_Mac_liveStates_21 : decode b_Mac_liveStates 21 = .ok (.lor, 1) := by decide +kernel
theorem d_Mac_liveStates_22 : decode b_Mac_liveStates 22 = .ok (.lstore_n 1, 1) := by decide +kernel
theorem d_Mac_liveStates_23 : decode b_Mac_liveStates 23 = .ok (.iinc 3 1, 3) := by decide +kernel
theorem d_Mac_liveStates_26 : decode b_Mac_liveStates 26 = .ok (.goto (-19), 3) := by decide +kernel
theorem d_Mac_liveStates_29 : decode b_Mac_liveStates 29 = .ok (.lload_n 1, 1) := by decide +kernel
theorem d_Mac_liveStates_30 : decode b_Mac_liveStates 30 = .ok (.lreturn, 1) := by decide +kernel
theorem d_Mac_walk_0 : decode b_Mac_walk 0 = .ok (.iconst 0, 1) := by decide +kernel
theorem d_Mac_walk_1 : decode b_Mac_walk 1 = .ok (.istore_n 2, 1) := by decide +kernel
theorem d_Mac_walk_2 : decode b_Mac_walk 2 = .ok (.iconst 0, 1) := by decide +kernel
theorem d_Mac_walk_3 : decode b_Mac_walk 3 = .ok (.istore_n 3, 1) := by decide +kernel
theorem d_Mac_walk_4 : decode b_Mac_walk 4 = .ok (.iload_n 3, 1) := by decide +kernel
theorem d_Mac_walk_5 : decode b_Mac_walk 5 = .ok (.aload_n 1, 1) := by decide +kernel
theorem d_Mac_walk_6 : decode b_Mac_walk 6 = .ok (.getfield 53, 3) := by decide +kernel
theorem d_Mac_walk_9 : decode b_Mac_walk 9 = .ok (.if_icmp .ge 20, 3) := by decide +kernel
theorem d_Mac_walk_12 : decode b_Mac_walk 12 = .ok (.aload_n 0, 1) := by decide +kernel
theorem d_Mac_walk_13 : decode b_Mac_walk 13 = .ok (.iload_n 2, 1) := by decide +kernel
theorem d_Mac_walk_14 : decode b_Mac_walk 14 = .ok (.aload_n 1, 1) := by decide +kernel
theorem d_Mac_walk_15 : decode b_Mac_walk 15 = .ok (.iload_n 3, 1) := by decide +kernel
theorem d_Mac_walk_16 : decode b_Mac_walk 16 = .ok (.invokevirtual 56, 3) := by decide +kernel
theorem d_Mac_walk_19 : decode b_Mac_walk 19 = .ok (.invokevirtual 60, 3) := by decide +kernel
theorem d_Mac_walk_22 : decode b_Mac_walk 22 = .ok (.istore_n 2, 1) := by decide +kernel
theorem d_Mac_walk_23 : decode b_Mac_walk 23 = .ok (.iinc 3 1, 3) := by decide +kernel
theorem d_Mac_walk_26 : decode b_Mac_walk 26 = .ok (.goto (-22), 3) := by decide +kernel
theorem d_Mac_walk_29 : decode b_Mac_walk 29 = .ok (.iload_n 2, 1) := by decide +kernel
theorem d_Mac_walk_30 : decode b_Mac_walk 30 = .ok (.ireturn, 1) := by decide +kernel
theorem d_Mac_mostLetters_0 : decode b_Mac_mostLetters 0 = .ok (.iconst (-1), 1) := by decide +kernel
theorem d_Mac_mostLetters_1 : decode b_Mac_mostLetters 1 = .ok (.istore_n 1, 1) := by decide +kernel
theorem d_Mac_mostLetters_2 : decode b_Mac_mostLetters 2 = .ok (.lconst 1, 1) := by decide +kernel
theorem d_Mac_mostLetters_3 : decode b_Mac_mostLetters 3 = .ok (.lstore_n 2, 1) := by decide +kernel
theorem d_Mac_mostLetters_4 : decode b_Mac_mostLetters 4 = .ok (.iconst 0, 1) := by decide +kernel
theorem d_Mac_mostLetters_5 : decode b_Mac_mostLetters 5 = .ok (.istore 4, 2) := by decide +kernel
theorem d_Mac_mostLetters_7 : decode b_Mac_mostLetters 7 = .ok (.iload 4, 2) := by decide +kernel
theorem d_Mac_mostLetters_9 : decode b_Mac_mostLetters 9 = .ok (.iconst 2, 1) := by decide +kernel
theorem d_Mac_mostLetters_10 : decode b_Mac_mostLetters 10 = .ok (.aload_n 0, 1) := by decide +kernel
theorem d_Mac_mostLetters_11 : decode b_Mac_mostLetters 11 = .ok (.getfield 15, 3) := by decide +kernel
theorem d_Mac_mostLetters_14 : decode b_Mac_mostLetters 14 = .ok (.imul, 1) := by decide +kernel
theorem d_Mac_mostLetters_15 : decode b_Mac_mostLetters 15 = .ok (.if_icmp .ge 29, 3) := by decide +kernel
theorem d_Mac_mostLetters_18 : decode b_Mac_mostLetters 18 = .ok (.lload_n 2, 1) := by decide +kernel
theorem d_Mac_mostLetters_19 : decode b_Mac_mostLetters 19 = .ok (.aload_n 0, 1) := by decide +kernel
theorem d_Mac_mostLetters_20 : decode b_Mac_mostLetters 20 = .ok (.getfield 19, 3) := by decide +kernel
theorem d_Mac_mostLetters_23 : decode b_Mac_mostLetters 23 = .ok (.land, 1) := by decide +kernel
theorem d_Mac_mostLetters_24 : decode b_Mac_mostLetters 24 = .ok (.lconst 0, 1) := by decide +kernel
theorem d_Mac_mostLetters_25 : decode b_Mac_mostLetters 25 = .ok (.lcmp, 1) := by decide +kernel
theorem d_Mac_mostLetters_26 : decode b_Mac_mostLetters 26 = .ok (.ifCond .eq 6, 3) := by decide +kernel
theorem d_Mac_mostLetters_29 : decode b_Mac_mostLetters 29 = .ok (.iload 4, 2) := by decide +kernel
theorem d_Mac_mostLetters_31 : decode b_Mac_mostLetters 31 = .ok (.istore_n 1, 1) := by decide +kernel
theorem d_Mac_mostLetters_32 : decode b_Mac_mostLetters 32 = .ok (.aload_n 0, 1) := by decide +kernel
theorem d_Mac_mostLetters_33 : decode b_Mac_mostLetters 33 = .ok (.lload_n 2, 1) := by decide +kernel
theorem d_Mac_mostLetters_34 : decode b_Mac_mostLetters 34 = .ok (.invokevirtual 67, 3) := by decide +kernel
theorem d_Mac_mostLetters_37 : decode b_Mac_mostLetters 37 = .ok (.lstore_n 2, 1) := by decide +kernel
theorem d_Mac_mostLetters_38 : decode b_Mac_mostLetters 38 = .ok (.iinc 4 1, 3) := by decide +kernel
theorem d_Mac_mostLetters_41 : decode b_Mac_mostLetters 41 = .ok (.goto (-34), 3) := by decide +kernel
theorem d_Mac_mostLetters_44 : decode b_Mac_mostLetters 44 = .ok (.iload_n 1, 1) := by decide +kernel
theorem d_Mac_mostLetters_45 : decode b_Mac_mostLetters 45 = .ok (.aload_n 0, 1) := by decide +kernel
theorem d_Mac_mostLetters_46 : decode b_Mac_mostLetters 46 = .ok (.getfield 15, 3) := by decide +kernel
theorem d_Mac_mostLetters_49 : decode b_Mac_mostLetters 49 = .ok (.if_icmp .lt 8, 3) := by decide +kernel
theorem d_Mac_mostLetters_52 : decode b_Mac_mostLetters 52 = .ok (.bipush (-5), 2) := by decide +kernel
theorem d_Mac_mostLetters_54 : decode b_Mac_mostLetters 54 = .ok (.goto 4, 3) := by decide +kernel
theorem d_Mac_mostLetters_57 : decode b_Mac_mostLetters 57 = .ok (.iload_n 1, 1) := by decide +kernel
theorem d_Mac_mostLetters_58 : decode b_Mac_mostLetters 58 = .ok (.ireturn, 1) := by decide +kernel
