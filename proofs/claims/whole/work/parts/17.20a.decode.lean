theorem d_Rules_init_0 : decode b_Rules_init 0 = .ok (.aload_n 0, 1) := by decide +kernel
theorem d_Rules_init_1 : decode b_Rules_init 1 = .ok (.invokespecial 3, 3) := by decide +kernel
theorem d_Rules_init_4 : decode b_Rules_init 4 = .ok (.aload_n 0, 1) := by decide +kernel
theorem d_Rules_init_5 : decode b_Rules_init 5 = .ok (.iload_n 1, 1) := by decide +kernel
theorem d_Rules_init_6 : decode b_Rules_init 6 = .ok (.putfield 9, 3) := by decide +kernel
theorem d_Rules_init_9 : decode b_Rules_init 9 = .ok (.aload_n 0, 1) := by decide +kernel
theorem d_Rules_init_10 : decode b_Rules_init 10 = .ok (.iload_n 1, 1) := by decide +kernel
theorem d_Rules_init_11 : decode b_Rules_init 11 = .ok (.iconst 1, 1) := by decide +kernel
theorem d_Rules_init_12 : decode b_Rules_init 12 = .ok (.isub, 1) := by decide +kernel
theorem d_Rules_init_13 : decode b_Rules_init 13 = .ok (.iconst 3, 1) := by decide +kernel
theorem d_Rules_init_14 : decode b_Rules_init 14 = .ok (.idiv, 1) := by decide +kernel
theorem d_Rules_init_15 : decode b_Rules_init 15 = .ok (.putfield 15, 3) := by decide +kernel
theorem d_Rules_init_18 : decode b_Rules_init 18 = .ok (.aload_n 0, 1) := by decide +kernel
theorem d_Rules_init_19 : decode b_Rules_init 19 = .ok (.iload_n 1, 1) := by decide +kernel
theorem d_Rules_init_20 : decode b_Rules_init 20 = .ok (.aload_n 0, 1) := by decide +kernel
theorem d_Rules_init_21 : decode b_Rules_init 21 = .ok (.getfield 15, 3) := by decide +kernel
theorem d_Rules_init_24 : decode b_Rules_init 24 = .ok (.isub, 1) := by decide +kernel
theorem d_Rules_init_25 : decode b_Rules_init 25 = .ok (.putfield 18, 3) := by decide +kernel
theorem d_Rules_init_28 : decode b_Rules_init 28 = .ok (.aload_n 0, 1) := by decide +kernel
theorem d_Rules_init_29 : decode b_Rules_init 29 = .ok (.iload_n 1, 1) := by decide +kernel
theorem d_Rules_init_30 : decode b_Rules_init 30 = .ok (.aload_n 0, 1) := by decide +kernel
theorem d_Rules_init_31 : decode b_Rules_init 31 = .ok (.getfield 15, 3) := by decide +kernel
theorem d_Rules_init_34 : decode b_Rules_init 34 = .ok (.iadd, 1) := by decide +kernel
theorem d_Rules_init_35 : decode b_Rules_init 35 = .ok (.iconst 2, 1) := by decide +kernel
theorem d_Rules_init_36 : decode b_Rules_init 36 = .ok (.idiv, 1) := by decide +kernel
theorem d_Rules_init_37 : decode b_Rules_init 37 = .ok (.iconst 1, 1) := by decide +kernel
theorem d_Rules_init_38 : decode b_Rules_init 38 = .ok (.iadd, 1) := by decide +kernel
theorem d_Rules_init_39 : decode b_Rules_init 39 = .ok (.putfield 21, 3) := by decide +kernel
theorem d_Rules_init_42 : decode b_Rules_init 42 = .ok (.return_, 1) := by decide +kernel
theorem d_Log_init_0 : decode b_Log_init 0 = .ok (.aload_n 0, 1) := by decide +kernel
theorem d_Log_init_1 : decode b_Log_init 1 = .ok (.invokespecial 3, 3) := by decide +kernel
theorem d_Log_init_4 : decode b_Log_init 4 = .ok (.aload_n 0, 1) := by decide +kernel
theorem d_Log_init_5 : decode b_Log_init 5 = .ok (.sipush 135, 3) := by decide +kernel
theorem d_Log_init_8 : decode b_Log_init 8 = .ok (.newarray .int, 2) := by decide +kernel
theorem d_Log_init_10 : decode b_Log_init 10 = .ok (.putfield 9, 3) := by decide +kernel
theorem d_Log_init_13 : decode b_Log_init 13 = .ok (.aload_n 0, 1) := by decide +kernel
theorem d_Log_init_14 : decode b_Log_init 14 = .ok (.iconst 0, 1) := by decide +kernel
theorem d_Log_init_15 : decode b_Log_init 15 = .ok (.putfield 15, 3) := by decide +kernel
theorem d_Log_init_18 : decode b_Log_init 18 = .ok (.return_, 1) := by decide +kernel
theorem d_Tally_init_0 : decode b_Tally_init 0 = .ok (.aload_n 0, 1) := by decide +kernel
theorem d_Tally_init_1 : decode b_Tally_init 1 = .ok (.invokespecial 3, 3) := by decide +kernel
theorem d_Tally_init_4 : decode b_Tally_init 4 = .ok (.aload_n 0, 1) := by decide +kernel
theorem d_Tally_init_5 : decode b_Tally_init 5 = .ok (.sipush 189, 3) := by decide +kernel
theorem d_Tally_init_8 : decode b_Tally_init 8 = .ok (.newarray .int, 2) := by decide +kernel
theorem d_Tally_init_10 : decode b_Tally_init 10 = .ok (.putfield 9, 3) := by decide +kernel
theorem d_Tally_init_13 : decode b_Tally_init 13 = .ok (.aload_n 0, 1) := by decide +kernel
theorem d_Tally_init_14 : decode b_Tally_init 14 = .ok (.sipush 756, 3) := by decide +kernel
theorem d_Tally_init_17 : decode b_Tally_init 17 = .ok (.newarray .int, 2) := by decide +kernel
theorem d_Tally_init_19 : decode b_Tally_init 19 = .ok (.putfield 15, 3) := by decide +kernel
theorem d_Tally_init_22 : decode b_Tally_init 22 = .ok (.return_, 1) := by decide +kernel
theorem d_Row_init_0 : decode b_Row_init 0 = .ok (.aload_n 0, 1) := by decide +kernel
theorem d_Row_init_1 : decode b_Row_init 1 = .ok (.invokespecial 3, 3) := by decide +kernel
theorem d_Row_init_4 : decode b_Row_init 4 = .ok (.aload_n 0, 1) := by decide +kernel
theorem d_Row_init_5 : decode b_Row_init 5 = .ok (.bipush 7, 2) := by decide +kernel
theorem d_Row_init_7 : decode b_Row_init 7 = .ok (.newarray .int, 2) := by decide +kernel
theorem d_Row_init_9 : decode b_Row_init 9 = .ok (.putfield 9, 3) := by decide +kernel
theorem d_Row_init_12 : decode b_Row_init 12 = .ok (.aload_n 0, 1) := by decide +kernel
theorem d_Row_init_13 : decode b_Row_init 13 = .ok (.bipush 7, 2) := by decide +kernel
theorem d_Row_init_15 : decode b_Row_init 15 = .ok (.newarray .int, 2) := by decide +kernel
theorem d_Row_init_17 : decode b_Row_init 17 = .ok (.putfield 15, 3) := by decide +kernel
theorem d_Row_init_20 : decode b_Row_init 20 = .ok (.aload_n 0, 1) := by decide +kernel
theorem d_Row_init_21 : decode b_Row_init 21 = .ok (.iconst 4, 1) := by decide +kernel
theorem d_Row_init_22 : decode b_Row_init 22 = .ok (.newarray .int, 2) := by decide +kernel
theorem d_Row_init_24 : decode b_Row_init 24 = .ok (.putfield 18, 3) := by decide +kernel
theorem d_Row_init_27 : decode b_Row_init 27 = .ok (.aload_n 0, 1) := by decide +kernel
theorem d_Row_init_28 : decode b_Row_init 28 = .ok (.iconst 0, 1) := by decide +kernel
theorem d_Row_init_29 : decode b_Row_init 29 = .ok (.putfield 21, 3) := by decide +kernel
theorem d_Row_init_32 : decode b_Row_init 32 = .ok (.return_, 1) := by decide +kernel
theorem d_ER_isPlain_0 : decode b_ER_isPlain 0 = .ok (.iload_n 0, 1) := by decide +kernel
theorem d_ER_isPlain_1 : decode b_ER_isPlain 1 = .ok (.ifCond .eq 8, 3) := by decide +kernel
theorem d_ER_isPlain_4 : decode b_ER_isPlain 4 = .ok (.iload_n 0, 1) := by decide +kernel
theorem d_ER_isPlain_5 : decode b_ER_isPlain 5 = .ok (.iconst 1, 1) := by decide +kernel
theorem d_ER_isPlain_6 : decode b_ER_isPlain 6 = .ok (.if_icmp .ne 7, 3) := by decide +kernel
theorem d_ER_isPlain_9 : decode b_ER_isPlain 9 = .ok (.iconst 1, 1) := by decide +kernel
theorem d_ER_isPlain_10 : decode b_ER_isPlain 10 = .ok (.goto 4, 3) := by decide +kernel
theorem d_ER_isPlain_13 : decode b_ER_isPlain 13 = .ok (.iconst 0, 1) := by decide +kernel
theorem d_ER_isPlain_14 : decode b_ER_isPlain 14 = .ok (.ireturn, 1) := by decide +kernel
theorem d_ER_codeOf_0 : decode b_ER_codeOf 0 = .ok (.sipush 1000, 3) := by decide +kernel
theorem d_ER_codeOf_3 : decode b_ER_codeOf 3 = .ok (.iload_n 1, 1) := by decide +kernel
theorem d_ER_codeOf_4 : decode b_ER_codeOf 4 = .ok (.imul, 1) := by decide +kernel
theorem d_ER_codeOf_5 : decode b_ER_codeOf 5 = .ok (.bipush 100, 2) := by decide +kernel
theorem d_ER_codeOf_7 : decode b_ER_codeOf 7 = .ok (.iload_n 2, 1) := by decide +kernel
theorem d_ER_codeOf_8 : decode b_ER_codeOf 8 = .ok (.imul, 1) := by decide +kernel
theorem d_ER_codeOf_9 : decode b_ER_codeOf 9 = .ok (.iadd, 1) := by decide +kernel
theorem d_ER_codeOf_10 : decode b_ER_codeOf 10 = .ok (.bipush 10, 2) := by decide +kernel
theorem d_ER_codeOf_12 : decode b_ER_codeOf 12 = .ok (.iload_n 0, 1) := by decide +kernel
theorem d_ER_codeOf_13 : decode b_ER_codeOf 13 = .ok (.imul, 1) := by decide +kernel
theorem d_ER_codeOf_14 : decode b_ER_codeOf 14 = .ok (.iadd, 1) := by decide +kernel
theorem d_ER_codeOf_15 : decode b_ER_codeOf 15 = .ok (.iload_n 3, 1) := by decide +kernel
theorem d_ER_codeOf_16 : decode b_ER_codeOf 16 = .ok (.iadd, 1) := by decide +kernel
theorem d_ER_codeOf_17 : decode b_ER_codeOf 17 = .ok (.ireturn, 1) := by decide +kernel
theorem d_Log_append_0 : decode b_Log_append 0 = .ok (.aload_n 0, 1) := by decide +kernel
theorem d_Log_append_1 : decode b_Log_append 1 = .ok (.getfield 15, 3) := by decide +kernel
theorem d_Log_append_4 : decode b_Log_append 4 = .ok (.aload_n 0, 1) := by decide +kernel
theorem d_Log_append_5 : decode b_Log_append 5 = .ok (.getfield 9, 3) := by decide +kernel
theorem d_Log_append_8 : decode b_Log_append 8 = .ok (.arraylength, 1) := by decide +kernel
theorem d_Log_append_9 : decode b_Log_append 9 = .ok (.if_icmp .ge 23, 3) := by decide +kernel
theorem d_Log_append_12 : decode b_Log_append 12 = .ok (.aload_n 0, 1) := by decide +kernel
theorem d_Log_append_13 : decode b_Log_append 13 = .ok (.getfield 9, 3) := by decide +kernel
theorem d_Log_append_16 : decode b_Log_append 16 = .ok (.aload_n 0, 1) := by decide +kernel
theorem d_Log_append_17 : decode b_Log_append 17 = .ok (.getfield 15, 3) := by decide +kernel
theorem d_Log_append_20 : decode b_Log_append 20 = .ok (.iload_n 1, 1) := by decide +kernel
theorem d_Log_append_21 : decode b_Log_append 21 = .ok (.iastore, 1) := by decide +kernel
theorem d_Log_append_22 : decode b_Log_append 22 = .ok (.aload_n 0, 1) := by decide +kernel
theorem d_Log_append_23 : decode b_Log_append 23 = .ok (.dup, 1) := by decide +kernel
theorem d_Log_append_24 : decode b_Log_append 24 = .ok (.getfield 15, 3) := by decide +kernel
theorem d_Log_append_27 : decode b_Log_append 27 = .ok (.iconst 1, 1) := by decide +kernel
theorem d_Log_append_28 : decode b_Log_append 28 = .ok (.iadd, 1) := by decide +kernel
theorem d_Log_append_29 : decode b_Log_append 29 = .ok (.putfield 15, 3) := by decide +kernel
theorem d_Log_append_32 : decode b_Log_append 32 = .ok (.return_, 1) := by decide +kernel
theorem d_Log_codeAt_0 : decode b_Log_codeAt 0 = .ok (.iload_n 1, 1) := by decide +kernel
theorem d_Log_codeAt_1 : decode b_Log_codeAt 1 = .ok (.ifCond .lt 20, 3) := by decide +kernel
theorem d_Log_codeAt_4 : decode b_Log_codeAt 4 = .ok (.iload_n 1, 1) := by decide +kernel
theorem d_Log_codeAt_5 : decode b_Log_codeAt 5 = .ok (.aload_n 0, 1) := by decide +kernel
theorem d_Log_codeAt_6 : decode b_Log_codeAt 6 = .ok (.getfield 15, 3) := by decide +kernel
theorem d_Log_codeAt_9 : decode b_Log_codeAt 9 = .ok (.if_icmp .ge 12, 3) := by decide +kernel
theorem d_Log_codeAt_12 : decode b_Log_codeAt 12 = .ok (.aload_n 0, 1) := by decide +kernel
theorem d_Log_codeAt_13 : decode b_Log_codeAt 13 = .ok (.getfield 9, 3) := by decide +kernel
theorem d_Log_codeAt_16 : decode b_Log_codeAt 16 = .ok (.iload_n 1, 1) := by decide +kernel
theorem d_Log_codeAt_17 : decode b_Log_codeAt 17 = .ok (.iaload, 1) := by decide +kernel
theorem d_Log_codeAt_18 : decode b_Log_codeAt 18 = .ok (.goto 4, 3) := by decide +kernel
theorem d_Log_codeAt_21 : decode b_Log_codeAt 21 = .ok (.iconst (-1), 1) := by decide +kernel
theorem d_Log_codeAt_22 : decode b_Log_codeAt 22 = .ok (.ireturn, 1) := by decide +kernel
theorem d_ER_cellOf_0 : decode b_ER_cellOf 0 = .ok (.iload_n 0, 1) := by decide +kernel
theorem d_ER_cellOf_1 : decode b_ER_cellOf 1 = .ok (.bipush 7, 2) := by decide +kernel
theorem d_ER_cellOf_3 : decode b_ER_cellOf 3 = .ok (.imul, 1) := by decide +kernel
theorem d_ER_cellOf_4 : decode b_ER_cellOf 4 = .ok (.iload_n 1, 1) := by decide +kernel
theorem d_ER_cellOf_5 : decode b_ER_cellOf 5 = .ok (.iadd, 1) := by decide +kernel
theorem d_ER_cellOf_6 : decode b_ER_cellOf 6 = .ok (.ireturn, 1) := by decide +kernel
theorem d_Tally_countIn_0 : decode b_Tally_countIn 0 = .ok (.iload_n 2, 1) := by decide +kernel
theorem d_Tally_countIn_1 : decode b_Tally_countIn 1 = .ok (.bipush 63, 2) := by decide +kernel
theorem d_Tally_countIn_3 : decode b_Tally_countIn 3 = .ok (.imul, 1) := by decide +kernel
theorem d_Tally_countIn_4 : decode b_Tally_countIn 4 = .ok (.iload_n 3, 1) := by decide +kernel
theorem d_Tally_countIn_5 : decode b_Tally_countIn 5 = .ok (.iadd, 1) := by decide +kernel
theorem d_Tally_countIn_6 : decode b_Tally_countIn 6 = .ok (.istore 5, 2) := by decide +kernel
theorem d_Tally_countIn_8 : decode b_Tally_countIn 8 = .ok (.aload_n 0, 1) := by decide +kernel
theorem d_Tally_countIn_9 : decode b_Tally_countIn 9 = .ok (.getfield 9, 3) := by decide +kernel
theorem d_Tally_countIn_12 : decode b_Tally_countIn 12 = .ok (.iload 5, 2) := by decide +kernel
theorem d_Tally_countIn_14 : decode b_Tally_countIn 14 = .ok (.iaload, 1) := by decide +kernel
theorem d_Tally_countIn_15 : decode b_Tally_countIn 15 = .ok (.iload_n 1, 1) := by decide +kernel
theorem d_Tally_countIn_16 : decode b_Tally_countIn 16 = .ok (.ishr, 1) := by decide +kernel
theorem d_Tally_countIn_17 : decode b_Tally_countIn 17 = .ok (.iconst 1, 1) := by decide +kernel
theorem d_Tally_countIn_18 : decode b_Tally_countIn 18 = .ok (.iand, 1) := by decide +kernel
theorem d_Tally_countIn_19 : decode b_Tally_countIn 19 = .ok (.ifCond .eq 5, 3) := by decide +kernel
theorem d_Tally_countIn_22 : decode b_Tally_countIn 22 = .ok (.iconst 0, 1) := by decide +kernel
theorem d_Tally_countIn_23 : decode b_Tally_countIn 23 = .ok (.ireturn, 1) := by decide +kernel
theorem d_Tally_countIn_24 : decode b_Tally_countIn 24 = .ok (.aload_n 0, 1) := by decide +kernel
theorem d_Tally_countIn_25 : decode b_Tally_countIn 25 = .ok (.getfield 9, 3) := by decide +kernel
theorem d_Tally_countIn_28 : decode b_Tally_countIn 28 = .ok (.iload 5, 2) := by decide +kernel
theorem d_Tally_countIn_30 : decode b_Tally_countIn 30 = .ok (.dup2, 1) := by decide +kernel
theorem d_Tally_countIn_31 : decode b_Tally_countIn 31 = .ok (.iaload, 1) := by decide +kernel
theorem d_Tally_countIn_32 : decode b_Tally_countIn 32 = .ok (.iconst 1, 1) := by decide +kernel
theorem d_Tally_countIn_33 : decode b_Tally_countIn 33 = .ok (.iload_n 1, 1) := by decide +kernel
theorem d_Tally_countIn_34 : decode b_Tally_countIn 34 = .ok (.ishl, 1) := by decide +kernel
theorem d_Tally_countIn_35 : decode b_Tally_countIn 35 = .ok (.ior, 1) := by decide +kernel
theorem d_Tally_countIn_36 : decode b_Tally_countIn 36 = .ok (.iastore, 1) := by decide +kernel
theorem d_Tally_countIn_37 : decode b_Tally_countIn 37 = .ok (.aload_n 0, 1) := by decide +kernel
theorem d_Tally_countIn_38 : decode b_Tally_countIn 38 = .ok (.getfield 15, 3) := by decide +kernel
theorem d_Tally_countIn_41 : decode b_Tally_countIn 41 = .ok (.iload 5, 2) := by decide +kernel
theorem d_Tally_countIn_43 : decode b_Tally_countIn 43 = .ok (.iconst 4, 1) := by decide +kernel
theorem d_Tally_countIn_44 : decode b_Tally_countIn 44 = .ok (.imul, 1) := by decide +kernel
theorem d_Tally_countIn_45 : decode b_Tally_countIn 45 = .ok (.iload 4, 2) := by decide +kernel
theorem d_Tally_countIn_47 : decode b_Tally_countIn 47 = .ok (.iadd, 1) := by decide +kernel
theorem d_Tally_countIn_48 : decode b_Tally_countIn 48 = .ok (.dup2, 1) := by decide +kernel
theorem d_Tally_countIn_49 : decode b_Tally_countIn 49 = .ok (.iaload, 1) := by decide +kernel
theorem d_Tally_countIn_50 : decode b_Tally_countIn 50 = .ok (.iconst 1, 1) := by decide +kernel
theorem d_Tally_countIn_51 : decode b_Tally_countIn 51 = .ok (.iadd, 1) := by decide +kernel
theorem d_Tally_countIn_52 : decode b_Tally_countIn 52 = .ok (.iastore, 1) := by decide +kernel
theorem d_Tally_countIn_53 : decode b_Tally_countIn 53 = .ok (.iconst 1, 1) := by decide +kernel
theorem d_Tally_countIn_54 : decode b_Tally_countIn 54 = .ok (.ireturn, 1) := by decide +kernel
theorem d_Tally_count_0 : decode b_Tally_count 0 = .ok (.aload_n 0, 1) := by decide +kernel
theorem d_Tally_count_1 : decode b_Tally_count 1 = .ok (.getfield 15, 3) := by decide +kernel
theorem d_Tally_count_4 : decode b_Tally_count 4 = .ok (.iload_n 1, 1) := by decide +kernel
theorem d_Tally_count_5 : decode b_Tally_count 5 = .ok (.bipush 63, 2) := by decide +kernel
theorem d_Tally_count_7 : decode b_Tally_count 7 = .ok (.imul, 1) := by decide +kernel
theorem d_Tally_count_8 : decode b_Tally_count 8 = .ok (.iload_n 2, 1) := by decide +kernel
theorem d_Tally_count_9 : decode b_Tally_count 9 = .ok (.iadd, 1) := by decide +kernel
theorem d_Tally_count_10 : decode b_Tally_count 10 = .ok (.iconst 4, 1) := by decide +kernel
theorem d_Tally_count_11 : decode b_Tally_count 11 = .ok (.imul, 1) := by decide +kernel
theorem d_Tally_count_12 : decode b_Tally_count 12 = .ok (.iload_n 3, 1) := by decide +kernel
theorem d_Tally_count_13 : decode b_Tally_count 13 = .ok (.iadd, 1) := by decide +kernel
theorem d_Tally_count_14 : decode b_Tally_count 14 = .ok (.iaload, 1) := by decide +kernel
theorem d_Tally_count_15 : decode b_Tally_count 15 = .ok (.ireturn, 1) := by decide +kernel
theorem d_Row_holds_0 : decode b_Row_holds 0 = .ok (.iconst 0, 1) := by decide +kernel
theorem d_Row_holds_1 : decode b_Row_holds 1 = .ok (.istore_n 2, 1) := by decide +kernel
theorem d_Row_holds_2 : decode b_Row_holds 2 = .ok (.iload_n 2, 1) := by decide +kernel
theorem d_Row_holds_3 : decode b_Row_holds 3 = .ok (.aload_n 0, 1) := by decide +kernel
theorem d_Row_holds_4 : decode b_Row_holds 4 = .ok (.getfield 21, 3) := by decide +kernel
theorem d_Row_holds_7 : decode b_Row_holds 7 = .ok (.if_icmp .ge 21, 3) := by decide +kernel
theorem d_Row_holds_10 : decode b_Row_holds 10 = .ok (.aload_n 0, 1) := by decide +kernel
theorem d_Row_holds_11 : decode b_Row_holds 11 = .ok (.getfield 9, 3) := by decide +kernel
theorem d_Row_holds_14 : decode b_Row_holds 14 = .ok (.iload_n 2, 1) := by decide +kernel
theorem d_Row_holds_15 : decode b_Row_holds 15 = .ok (.iaload, 1) := by decide +kernel
theorem d_Row_holds_16 : decode b_Row_holds 16 = .ok (.iload_n 1, 1) := by decide +kernel
theorem d_Row_holds_17 : decode b_Row_holds 17 = .ok (.if_icmp .ne 5, 3) := by decide +kernel
theorem d_Row_holds_20 : decode b_Row_holds 20 = .ok (.iconst 1, 1) := by decide +kernel
theorem d_Row_holds_21 : decode b_Row_holds 21 = .ok (.ireturn, 1) := by decide +kernel
theorem d_Row_holds_22 : decode b_Row_holds 22 = .ok (.iinc 2 1, 3) := by decide +kernel
theorem d_Row_holds_25 : decode b_Row_holds 25 = .ok (.goto (-23), 3) := by decide +kernel
theorem d_Row_holds_28 : decode b_Row_holds 28 = .ok (.iconst 0, 1) := by decide +kernel
theorem d_Row_holds_29 : decode b_Row_holds 29 = .ok (.ireturn, 1) := by decide +kernel
theorem d_Rules_isFull_0 : decode b_Rules_isFull 0 = .ok (.aload_n 1, 1) := by decide +kernel
theorem d_Rules_isFull_1 : decode b_Rules_isFull 1 = .ok (.getfield 24, 3) := by decide +kernel
theorem d_Rules_isFull_4 : decode b_Rules_isFull 4 = .ok (.aload_n 0, 1) := by decide +kernel
theorem d_Rules_isFull_5 : decode b_Rules_isFull 5 = .ok (.getfield 18, 3) := by decide +kernel
theorem d_Rules_isFull_8 : decode b_Rules_isFull 8 = .ok (.if_icmp .lt 7, 3) := by decide +kernel
theorem d_Rules_isFull_11 : decode b_Rules_isFull 11 = .ok (.iconst 1, 1) := by decide +kernel
theorem d_Rules_isFull_12 : decode b_Rules_isFull 12 = .ok (.goto 4, 3) := by decide +kernel
theorem d_Rules_isFull_15 : decode b_Rules_isFull 15 = .ok (.iconst 0, 1) := by decide +kernel
theorem d_Rules_isFull_16 : decode b_Rules_isFull 16 = .ok (.ireturn, 1) := by decide +kernel
theorem d_Rules_mostChosen_0 : decode b_Rules_mostChosen 0 = .ok (.aload_n 1, 1) := by decide +kernel
theorem d_Rules_mostChosen_1 : decode b_Rules_mostChosen 1 = .ok (.getfield 58, 3) := by decide +kernel
theorem d_Rules_mostChosen_4 : decode b_Rules_mostChosen 4 = .ok (.iload_n 2, 1) := by decide +kernel
theorem d_Rules_mostChosen_5 : decode b_Rules_mostChosen 5 = .ok (.iaload, 1) := by decide +kernel
theorem d_Rules_mostChosen_6 : decode b_Rules_mostChosen 6 = .ok (.aload_n 0, 1) := by decide +kernel
theorem d_Rules_mostChosen_7 : decode b_Rules_mostChosen 7 = .ok (.getfield 18, 3) := by decide +kernel
theorem d_Rules_mostChosen_10 : decode b_Rules_mostChosen 10 = .ok (.invokestatic 62, 3) := by decide +kernel
theorem d_Rules_mostChosen_13 : decode b_Rules_mostChosen 13 = .ok (.ireturn, 1) := by decide +kernel
theorem d_Rules_isMajority_0 : decode b_Rules_isMajority 0 = .ok (.iconst 2, 1) := by decide +kernel
theorem d_Rules_isMajority_1 : decode b_Rules_isMajority 1 = .ok (.iload_n 1, 1) := by decide +kernel
theorem d_Rules_isMajority_2 : decode b_Rules_isMajority 2 = .ok (.imul, 1) := by decide +kernel
theorem d_Rules_isMajority_3 : decode b_Rules_isMajority 3 = .ok (.aload_n 0, 1) := by decide +kernel
theorem d_Rules_isMajority_4 : decode b_Rules_isMajority 4 = .ok (.getfield 9, 3) := by decide +kernel
theorem d_Rules_isMajority_7 : decode b_Rules_isMajority 7 = .ok (.if_icmp .le 7, 3) := by decide +kernel
theorem d_Rules_isMajority_10 : decode b_Rules_isMajority 10 = .ok (.iconst 1, 1) := by decide +kernel
theorem d_Rules_isMajority_11 : decode b_Rules_isMajority 11 = .ok (.goto 4, 3) := by decide +kernel
theorem d_Rules_isMajority_14 : decode b_Rules_isMajority 14 = .ok (.iconst 0, 1) := by decide +kernel
theorem d_Rules_isMajority_15 : decode b_Rules_isMajority 15 = .ok (.ireturn, 1) := by decide +kernel
theorem d_Row_holdsWith_0 : decode b_Row_holdsWith 0 = .ok (.iconst 0, 1) := by decide +kernel
theorem d_Row_holdsWith_1 : decode b_Row_holdsWith 1 = .ok (.istore_n 3, 1) := by decide +kernel
theorem d_Row_holdsWith_2 : decode b_Row_holdsWith 2 = .ok (.iload_n 3, 1) := by decide +kernel
theorem d_Row_holdsWith_3 : decode b_Row_holdsWith 3 = .ok (.aload_n 0, 1) := by decide +kernel
theorem d_Row_holdsWith_4 : decode b_Row_holdsWith 4 = .ok (.getfield 21, 3) := by decide +kernel
theorem d_Row_holdsWith_7 : decode b_Row_holdsWith 7 = .ok (.if_icmp .ge 35, 3) := by decide +kernel
theorem d_Row_holdsWith_10 : decode b_Row_holdsWith 10 = .ok (.aload_n 0, 1) := by decide +kernel
theorem d_Row_holdsWith_11 : decode b_Row_holdsWith 11 = .ok (.getfield 9, 3) := by decide +kernel
theorem d_Row_holdsWith_14 : decode b_Row_holdsWith 14 = .ok (.iload_n 3, 1) := by decide +kernel
theorem d_Row_holdsWith_15 : decode b_Row_holdsWith 15 = .ok (.iaload, 1) := by decide +kernel
theorem d_Row_holdsWith_16 : decode b_Row_holdsWith 16 = .ok (.iload_n 1, 1) := by decide +kernel
theorem d_Row_holdsWith_17 : decode b_Row_holdsWith 17 = .ok (.if_icmp .ne 19, 3) := by decide +kernel
theorem d_Row_holdsWith_20 : decode b_Row_holdsWith 20 = .ok (.aload_n 0, 1) := by decide +kernel
theorem d_Row_holdsWith_21 : decode b_Row_holdsWith 21 = .ok (.getfield 15, 3) := by decide +kernel
theorem d_Row_holdsWith_24 : decode b_Row_holdsWith 24 = .ok (.iload_n 3, 1) := by decide +kernel
theorem d_Row_holdsWith_25 : decode b_Row_holdsWith 25 = .ok (.iaload, 1) := by decide +kernel
theorem d_Row_holdsWith_26 : decode b_Row_holdsWith 26 = .ok (.iload_n 2, 1) := by decide +kernel
theorem d_Row_holdsWith_27 : decode b_Row_holdsWith 27 = .ok (.if_icmp .ne 7, 3) := by decide +kernel
theorem d_Row_holdsWith_30 : decode b_Row_holdsWith 30 = .ok (.iconst 1, 1) := by decide +kernel
theorem d_Row_holdsWith_31 : decode b_Row_holdsWith 31 = .ok (.goto 4, 3) := by decide +kernel
theorem d_Row_holdsWith_34 : decode b_Row_holdsWith 34 = .ok (.iconst 0, 1) := by decide +kernel
theorem d_Row_holdsWith_35 : decode b_Row_holdsWith 35 = .ok (.ireturn, 1) := by decide +kernel
theorem d_Row_holdsWith_36 : decode b_Row_holdsWith 36 = .ok (.iinc 3 1, 3) := by decide +kernel
theorem d_Row_holdsWith_39 : decode b_Row_holdsWith 39 = .ok (.goto (-37), 3) := by decide +kernel
theorem d_Row_holdsWith_42 : decode b_Row_holdsWith 42 = .ok (.iconst 0, 1) := by decide +kernel
theorem d_Row_holdsWith_43 : decode b_Row_holdsWith 43 = .ok (.ireturn, 1) := by decide +kernel
theorem d_Rules_canStayDivided_0 : decode b_Rules_canStayDivided 0 = .ok (.aload_n 1, 1) := by decide +kernel
theorem d_Rules_canStayDivided_1 : decode b_Rules_canStayDivided 1 = .ok (.getfield 58, 3) := by decide +kernel
theorem d_Rules_canStayDivided_4 : decode b_Rules_canStayDivided 4 = .ok (.iconst 0, 1) := by decide +kernel
theorem d_Rules_canStayDivided_5 : decode b_Rules_canStayDivided 5 = .ok (.iaload, 1) := by decide +kernel
theorem d_Rules_canStayDivided_6 : decode b_Rules_canStayDivided 6 = .ok (.aload_n 0, 1) := by decide +kernel
theorem d_Rules_canStayDivided_7 : decode b_Rules_canStayDivided 7 = .ok (.getfield 9, 3) := by decide +kernel
theorem d_Rules_canStayDivided_10 : decode b_Rules_canStayDivided 10 = .ok (.iconst 2, 1) := by decide +kernel
theorem d_Rules_canStayDivided_11 : decode b_Rules_canStayDivided 11 = .ok (.idiv, 1) := by decide +kernel
theorem d_Rules_canStayDivided_12 : decode b_Rules_canStayDivided 12 = .ok (.invokestatic 62, 3) := by decide +kernel
theorem d_Rules_canStayDivided_15 : decode b_Rules_canStayDivided 15 = .ok (.istore_n 2, 1) := by decide +kernel
theorem d_Rules_canStayDivided_16 : decode b_Rules_canStayDivided 16 = .ok (.aload_n 1, 1) := by decide +kernel
theorem d_Rules_canStayDivided_17 : decode b_Rules_canStayDivided 17 = .ok (.getfield 58, 3) := by decide +kernel
theorem d_Rules_canStayDivided_20 : decode b_Rules_canStayDivided 20 = .ok (.iconst 1, 1) := by decide +kernel
theorem d_Rules_canStayDivided_21 : decode b_Rules_canStayDivided 21 = .ok (.iaload, 1) := by decide +kernel
theorem d_Rules_canStayDivided_22 : decode b_Rules_canStayDivided 22 = .ok (.aload_n 0, 1) := by decide +kernel
theorem d_Rules_canStayDivided_23 : decode b_Rules_canStayDivided 23 = .ok (.getfield 9, 3) := by decide +kernel
theorem d_Rules_canStayDivided_26 : decode b_Rules_canStayDivided 26 = .ok (.iconst 2, 1) := by decide +kernel
theorem d_Rules_canStayDivided_27 : decode b_Rules_canStayDivided 27 = .ok (.idiv, 1) := by decide +kernel
theorem d_Rules_canStayDivided_28 : decode b_Rules_canStayDivided 28 = .ok (.invokestatic 62, 3) := by decide +kernel
theorem d_Rules_canStayDivided_31 : decode b_Rules_canStayDivided 31 = .ok (.istore_n 3, 1) := by decide +kernel
theorem d_Rules_canStayDivided_32 : decode b_Rules_canStayDivided 32 = .ok (.iload_n 2, 1) := by decide +kernel
theorem d_Rules_canStayDivided_33 : decode b_Rules_canStayDivided 33 = .ok (.iload_n 3, 1) := by decide +kernel
theorem d_Rules_canStayDivided_34 : decode b_Rules_canStayDivided 34 = .ok (.iadd, 1) := by decide +kernel
theorem d_Rules_canStayDivided_35 : decode b_Rules_canStayDivided 35 = .ok (.aload_n 0, 1) := by decide +kernel
theorem d_Rules_canStayDivided_36 : decode b_Rules_canStayDivided 36 = .ok (.getfield 18, 3) := by decide +kernel
theorem d_Rules_canStayDivided_39 : decode b_Rules_canStayDivided 39 = .ok (.if_icmp .lt 7, 3) := by decide +kernel
theorem d_Rules_canStayDivided_42 : decode b_Rules_canStayDivided 42 = .ok (.iconst 1, 1) := by decide +kernel
theorem d_Rules_canStayDivided_43 : decode b_Rules_canStayDivided 43 = .ok (.goto 4, 3) := by decide +kernel
theorem d_Rules_canStayDivided_46 : decode b_Rules_canStayDivided 46 = .ok (.iconst 0, 1) := by decide +kernel
theorem d_Rules_canStayDivided_47 : decode b_Rules_canStayDivided 47 = .ok (.ireturn, 1) := by decide +kernel
theorem d_Rules_canNeedToss_0 : decode b_Rules_canNeedToss 0 = .ok (.aload_n 1, 1) := by decide +kernel
theorem d_Rules_canNeedToss_1 : decode b_Rules_canNeedToss 1 = .ok (.getfield 58, 3) := by decide +kernel
theorem d_Rules_canNeedToss_4 : decode b_Rules_canNeedToss 4 = .ok (.iconst 2, 1) := by decide +kernel
theorem d_Rules_canNeedToss_5 : decode b_Rules_canNeedToss 5 = .ok (.iaload, 1) := by decide +kernel
theorem d_Rules_canNeedToss_6 : decode b_Rules_canNeedToss 6 = .ok (.aload_n 0, 1) := by decide +kernel
theorem d_Rules_canNeedToss_7 : decode b_Rules_canNeedToss 7 = .ok (.getfield 15, 3) := by decide +kernel
theorem d_Rules_canNeedToss_10 : decode b_Rules_canNeedToss 10 = .ok (.invokestatic 62, 3) := by decide +kernel
theorem d_Rules_canNeedToss_13 : decode b_Rules_canNeedToss 13 = .ok (.istore_n 2, 1) := by decide +kernel
theorem d_Rules_canNeedToss_14 : decode b_Rules_canNeedToss 14 = .ok (.aload_n 1, 1) := by decide +kernel
theorem d_Rules_canNeedToss_15 : decode b_Rules_canNeedToss 15 = .ok (.getfield 58, 3) := by decide +kernel
theorem d_Rules_canNeedToss_18 : decode b_Rules_canNeedToss 18 = .ok (.iconst 3, 1) := by decide +kernel
theorem d_Rules_canNeedToss_19 : decode b_Rules_canNeedToss 19 = .ok (.iaload, 1) := by decide +kernel
theorem d_Rules_canNeedToss_20 : decode b_Rules_canNeedToss 20 = .ok (.aload_n 0, 1) := by decide +kernel
theorem d_Rules_canNeedToss_21 : decode b_Rules_canNeedToss 21 = .ok (.getfield 15, 3) := by decide +kernel
theorem d_Rules_canNeedToss_24 : decode b_Rules_canNeedToss 24 = .ok (.invokestatic 62, 3) := by decide +kernel
theorem d_Rules_canNeedToss_27 : decode b_Rules_canNeedToss 27 = .ok (.istore_n 3, 1) := by decide +kernel
theorem d_Rules_canNeedToss_28 : decode b_Rules_canNeedToss 28 = .ok (.aload_n 1, 1) := by decide +kernel
theorem d_Rules_canNeedToss_29 : decode b_Rules_canNeedToss 29 = .ok (.getfield 58, 3) := by decide +kernel
theorem d_Rules_canNeedToss_32 : decode b_Rules_canNeedToss 32 = .ok (.iconst 0, 1) := by decide +kernel
theorem d_Rules_canNeedToss_33 : decode b_Rules_canNeedToss 33 = .ok (.iaload, 1) := by decide +kernel
theorem d_Rules_canNeedToss_34 : decode b_Rules_canNeedToss 34 = .ok (.aload_n 1, 1) := by decide +kernel
theorem d_Rules_canNeedToss_35 : decode b_Rules_canNeedToss 35 = .ok (.getfield 58, 3) := by decide +kernel
theorem d_Rules_canNeedToss_38 : decode b_Rules_canNeedToss 38 = .ok (.iconst 1, 1) := by decide +kernel
theorem d_Rules_canNeedToss_39 : decode b_Rules_canNeedToss 39 = .ok (.iaload, 1) := by decide +kernel
theorem d_Rules_canNeedToss_40 : decode b_Rules_canNeedToss 40 = .ok (.iadd, 1) := by decide +kernel
theorem d_Rules_canNeedToss_41 : decode b_Rules_canNeedToss 41 = .ok (.iload_n 2, 1) := by decide +kernel
theorem d_Rules_canNeedToss_42 : decode b_Rules_canNeedToss 42 = .ok (.iadd, 1) := by decide +kernel
theorem d_Rules_canNeedToss_43 : decode b_Rules_canNeedToss 43 = .ok (.iload_n 3, 1) := by decide +kernel
theorem d_Rules_canNeedToss_44 : decode b_Rules_canNeedToss 44 = .ok (.iadd, 1) := by decide +kernel
theorem d_Rules_canNeedToss_45 : decode b_Rules_canNeedToss 45 = .ok (.aload_n 0, 1) := by decide +kernel
theorem d_Rules_canNeedToss_46 : decode b_Rules_canNeedToss 46 = .ok (.getfield 18, 3) := by decide +kernel
theorem d_Rules_canNeedToss_49 : decode b_Rules_canNeedToss 49 = .ok (.if_icmp .lt 7, 3) := by decide +kernel
theorem d_Rules_canNeedToss_52 : decode b_Rules_canNeedToss 52 = .ok (.iconst 1, 1) := by decide +kernel
theorem d_Rules_canNeedToss_53 : decode b_Rules_canNeedToss 53 = .ok (.goto 4, 3) := by decide +kernel
theorem d_Rules_canNeedToss_56 : decode b_Rules_canNeedToss 56 = .ok (.iconst 0, 1) := by decide +kernel
theorem d_Rules_canNeedToss_57 : decode b_Rules_canNeedToss 57 = .ok (.ireturn, 1) := by decide +kernel
theorem d_Row_append_0 : decode b_Row_append 0 = .ok (.aload_n 0, 1) := by decide +kernel
theorem d_Row_append_1 : decode b_Row_append 1 = .ok (.getfield 21, 3) := by decide +kernel
theorem d_Row_append_4 : decode b_Row_append 4 = .ok (.aload_n 0, 1) := by decide +kernel
theorem d_Row_append_5 : decode b_Row_append 5 = .ok (.getfield 9, 3) := by decide +kernel
theorem d_Row_append_8 : decode b_Row_append 8 = .ok (.arraylength, 1) := by decide +kernel
theorem d_Row_append_9 : decode b_Row_append 9 = .ok (.if_icmp .ge 43, 3) := by decide +kernel
theorem d_Row_append_12 : decode b_Row_append 12 = .ok (.aload_n 0, 1) := by decide +kernel
theorem d_Row_append_13 : decode b_Row_append 13 = .ok (.getfield 9, 3) := by decide +kernel
theorem d_Row_append_16 : decode b_Row_append 16 = .ok (.aload_n 0, 1) := by decide +kernel
theorem d_Row_append_17 : decode b_Row_append 17 = .ok (.getfield 21, 3) := by decide +kernel
theorem d_Row_append_20 : decode b_Row_append 20 = .ok (.iload_n 1, 1) := by decide +kernel
theorem d_Row_append_21 : decode b_Row_append 21 = .ok (.iastore, 1) := by decide +kernel
theorem d_Row_append_22 : decode b_Row_append 22 = .ok (.aload_n 0, 1) := by decide +kernel
theorem d_Row_append_23 : decode b_Row_append 23 = .ok (.getfield 15, 3) := by decide +kernel
theorem d_Row_append_26 : decode b_Row_append 26 = .ok (.aload_n 0, 1) := by decide +kernel
theorem d_Row_append_27 : decode b_Row_append 27 = .ok (.getfield 21, 3) := by decide +kernel
theorem d_Row_append_30 : decode b_Row_append 30 = .ok (.iload_n 2, 1) := by decide +kernel
theorem d_Row_append_31 : decode b_Row_append 31 = .ok (.iastore, 1) := by decide +kernel
theorem d_Row_append_32 : decode b_Row_append 32 = .ok (.aload_n 0, 1) := by decide +kernel
theorem d_Row_append_33 : decode b_Row_append 33 = .ok (.getfield 18, 3) := by decide +kernel
theorem d_Row_append_36 : decode b_Row_append 36 = .ok (.iload_n 2, 1) := by decide +kernel
theorem d_Row_append_37 : decode b_Row_append 37 = .ok (.dup2, 1) := by decide +kernel
theorem d_Row_append_38 : decode b_Row_append 38 = .ok (.iaload, 1) := by decide +kernel
theorem d_Row_append_39 : decode b_Row_append 39 = .ok (.iconst 1, 1) := by decide +kernel
theorem d_Row_append_40 : decode b_Row_append 40 = .ok (.iadd, 1) := by decide +kernel
theorem d_Row_append_41 : decode b_Row_append 41 = .ok (.iastore, 1) := by decide +kernel
theorem d_Row_append_42 : decode b_Row_append 42 = .ok (.aload_n 0, 1) := by decide +kernel
theorem d_Row_append_43 : decode b_Row_append 43 = .ok (.dup, 1) := by decide +kernel
theorem d_Row_append_44 : decode b_Row_append 44 = .ok (.getfield 21, 3) := by decide +kernel
theorem d_Row_append_47 : decode b_Row_append 47 = .ok (.iconst 1, 1) := by decide +kernel
theorem d_Row_append_48 : decode b_Row_append 48 = .ok (.iadd, 1) := by decide +kernel
theorem d_Row_append_49 : decode b_Row_append 49 = .ok (.putfield 21, 3) := by decide +kernel
theorem d_Row_append_52 : decode b_Row_append 52 = .ok (.return_, 1) := by decide +kernel
theorem d_ER_isSlot_0 : decode b_ER_isSlot 0 = .ok (.iload_n 0, 1) := by decide +kernel
theorem d_ER_isSlot_1 : decode b_ER_isSlot 1 = .ok (.ifCond .lt 13, 3) := by decide +kernel
theorem d_ER_isSlot_4 : decode b_ER_isSlot 4 = .ok (.iload_n 0, 1) := by decide +kernel
theorem d_ER_isSlot_5 : decode b_ER_isSlot 5 = .ok (.bipush 9, 2) := by decide +kernel
theorem d_ER_isSlot_7 : decode b_ER_isSlot 7 = .ok (.if_icmp .ge 7, 3) := by decide +kernel
theorem d_ER_isSlot_10 : decode b_ER_isSlot 10 = .ok (.iconst 1, 1) := by decide +kernel
theorem d_ER_isSlot_11 : decode b_ER_isSlot 11 = .ok (.goto 4, 3) := by decide +kernel
theorem d_ER_isSlot_14 : decode b_ER_isSlot 14 = .ok (.iconst 0, 1) := by decide +kernel
theorem d_ER_isSlot_15 : decode b_ER_isSlot 15 = .ok (.ireturn, 1) := by decide +kernel
theorem d_Row_countInFirst_0 : decode b_Row_countInFirst 0 = .ok (.iconst 0, 1) := by decide +kernel
theorem d_Row_countInFirst_1 : decode b_Row_countInFirst 1 = .ok (.istore_n 3, 1) := by decide +kernel
theorem d_Row_countInFirst_2 : decode b_Row_countInFirst 2 = .ok (.iconst 0, 1) := by decide +kernel
theorem d_Row_countInFirst_3 : decode b_Row_countInFirst 3 = .ok (.istore 4, 2) := by decide +kernel
theorem d_Row_countInFirst_5 : decode b_Row_countInFirst 5 = .ok (.iload 4, 2) := by decide +kernel
theorem d_Row_countInFirst_7 : decode b_Row_countInFirst 7 = .ok (.iload_n 1, 1) := by decide +kernel
theorem d_Row_countInFirst_8 : decode b_Row_countInFirst 8 = .ok (.if_icmp .ge 32, 3) := by decide +kernel
theorem d_Row_countInFirst_11 : decode b_Row_countInFirst 11 = .ok (.iload 4, 2) := by decide +kernel
theorem d_Row_countInFirst_13 : decode b_Row_countInFirst 13 = .ok (.aload_n 0, 1) := by decide +kernel
theorem d_Row_countInFirst_14 : decode b_Row_countInFirst 14 = .ok (.getfield 21, 3) := by decide +kernel
theorem d_Row_countInFirst_17 : decode b_Row_countInFirst 17 = .ok (.if_icmp .ge 23, 3) := by decide +kernel
theorem d_Row_countInFirst_20 : decode b_Row_countInFirst 20 = .ok (.aload_n 0, 1) := by decide +kernel
theorem d_Row_countInFirst_21 : decode b_Row_countInFirst 21 = .ok (.getfield 15, 3) := by decide +kernel
theorem d_Row_countInFirst_24 : decode b_Row_countInFirst 24 = .ok (.iload 4, 2) := by decide +kernel
theorem d_Row_countInFirst_26 : decode b_Row_countInFirst 26 = .ok (.iaload, 1) := by decide +kernel
theorem d_Row_countInFirst_27 : decode b_Row_countInFirst 27 = .ok (.iload_n 2, 1) := by decide +kernel
theorem d_Row_countInFirst_28 : decode b_Row_countInFirst 28 = .ok (.if_icmp .ne 6, 3) := by decide +kernel
theorem d_Row_countInFirst_31 : decode b_Row_countInFirst 31 = .ok (.iinc 3 1, 3) := by decide +kernel
theorem d_Row_countInFirst_34 : decode b_Row_countInFirst 34 = .ok (.iinc 4 1, 3) := by decide +kernel
theorem d_Row_countInFirst_37 : decode b_Row_countInFirst 37 = .ok (.goto (-32), 3) := by decide +kernel
theorem d_Row_countInFirst_40 : decode b_Row_countInFirst 40 = .ok (.iload_n 3, 1) := by decide +kernel
theorem d_Row_countInFirst_41 : decode b_Row_countInFirst 41 = .ok (.ireturn, 1) := by decide +kernel
theorem d_Row_speakerAt_0 : decode b_Row_speakerAt 0 = .ok (.iload_n 1, 1) := by decide +kernel
theorem d_Row_speakerAt_1 : decode b_Row_speakerAt 1 = .ok (.ifCond .lt 20, 3) := by decide +kernel
theorem d_Row_speakerAt_4 : decode b_Row_speakerAt 4 = .ok (.iload_n 1, 1) := by decide +kernel
theorem d_Row_speakerAt_5 : decode b_Row_speakerAt 5 = .ok (.aload_n 0, 1) := by decide +kernel
theorem d_Row_speakerAt_6 : decode b_Row_speakerAt 6 = .ok (.getfield 21, 3) := by decide +kernel
theorem d_Row_speakerAt_9 : decode b_Row_speakerAt 9 = .ok (.if_icmp .ge 12, 3) := by decide +kernel
theorem d_Row_speakerAt_12 : decode b_Row_speakerAt 12 = .ok (.aload_n 0, 1) := by decide +kernel
theorem d_Row_speakerAt_13 : decode b_Row_speakerAt 13 = .ok (.getfield 9, 3) := by decide +kernel
theorem d_Row_speakerAt_16 : decode b_Row_speakerAt 16 = .ok (.iload_n 1, 1) := by decide +kernel
theorem d_Row_speakerAt_17 : decode b_Row_speakerAt 17 = .ok (.iaload, 1) := by decide +kernel
theorem d_Row_speakerAt_18 : decode b_Row_speakerAt 18 = .ok (.goto 4, 3) := by decide +kernel
theorem d_Row_speakerAt_21 : decode b_Row_speakerAt 21 = .ok (.iconst (-1), 1) := by decide +kernel
theorem d_Row_speakerAt_22 : decode b_Row_speakerAt 22 = .ok (.ireturn, 1) := by decide +kernel
theorem d_Rules_canPrevail_0 : decode b_Rules_canPrevail 0 = .ok (.iconst 2, 1) := by decide +kernel
theorem d_Rules_canPrevail_1 : decode b_Rules_canPrevail 1 = .ok (.aload_n 0, 1) := by decide +kernel
theorem d_Rules_canPrevail_2 : decode b_Rules_canPrevail 2 = .ok (.aload_n 1, 1) := by decide +kernel
theorem d_Rules_canPrevail_3 : decode b_Rules_canPrevail 3 = .ok (.iload_n 2, 1) := by decide +kernel
theorem d_Rules_canPrevail_4 : decode b_Rules_canPrevail 4 = .ok (.invokevirtual 33, 3) := by decide +kernel
theorem d_Rules_canPrevail_7 : decode b_Rules_canPrevail 7 = .ok (.imul, 1) := by decide +kernel
theorem d_Rules_canPrevail_8 : decode b_Rules_canPrevail 8 = .ok (.istore_n 3, 1) := by decide +kernel
theorem d_Rules_canPrevail_9 : decode b_Rules_canPrevail 9 = .ok (.iload_n 3, 1) := by decide +kernel
theorem d_Rules_canPrevail_10 : decode b_Rules_canPrevail 10 = .ok (.aload_n 0, 1) := by decide +kernel
theorem d_Rules_canPrevail_11 : decode b_Rules_canPrevail 11 = .ok (.getfield 18, 3) := by decide +kernel
theorem d_Rules_canPrevail_14 : decode b_Rules_canPrevail 14 = .ok (.if_icmp .gt 15, 3) := by decide +kernel
theorem d_Rules_canPrevail_17 : decode b_Rules_canPrevail 17 = .ok (.iload_n 2, 1) := by decide +kernel
theorem d_Rules_canPrevail_18 : decode b_Rules_canPrevail 18 = .ok (.ifCond .ne 15, 3) := by decide +kernel
theorem d_Rules_canPrevail_21 : decode b_Rules_canPrevail 21 = .ok (.iload_n 3, 1) := by decide +kernel
theorem d_Rules_canPrevail_22 : decode b_Rules_canPrevail 22 = .ok (.aload_n 0, 1) := by decide +kernel
theorem d_Rules_canPrevail_23 : decode b_Rules_canPrevail 23 = .ok (.getfield 18, 3) := by decide +kernel
theorem d_Rules_canPrevail_26 : decode b_Rules_canPrevail 26 = .ok (.if_icmp .ne 7, 3) := by decide +kernel
theorem d_Rules_canPrevail_29 : decode b_Rules_canPrevail 29 = .ok (.iconst 1, 1) := by decide +kernel
theorem d_Rules_canPrevail_30 : decode b_Rules_canPrevail 30 = .ok (.goto 4, 3) := by decide +kernel
theorem d_Rules_canPrevail_33 : decode b_Rules_canPrevail 33 = .ok (.iconst 0, 1) := by decide +kernel
theorem d_Rules_canPrevail_34 : decode b_Rules_canPrevail 34 = .ok (.ireturn, 1) := by decide +kernel
theorem d_Rules_prevailing_0 : decode b_Rules_prevailing 0 = .ok (.aload_n 1, 1) := by decide +kernel
theorem d_Rules_prevailing_1 : decode b_Rules_prevailing 1 = .ok (.aload_n 0, 1) := by decide +kernel
theorem d_Rules_prevailing_2 : decode b_Rules_prevailing 2 = .ok (.getfield 18, 3) := by decide +kernel
theorem d_Rules_prevailing_5 : decode b_Rules_prevailing 5 = .ok (.iconst 1, 1) := by decide +kernel
theorem d_Rules_prevailing_6 : decode b_Rules_prevailing 6 = .ok (.invokevirtual 68, 3) := by decide +kernel
theorem d_Rules_prevailing_9 : decode b_Rules_prevailing 9 = .ok (.aload_n 1, 1) := by decide +kernel
theorem d_Rules_prevailing_10 : decode b_Rules_prevailing 10 = .ok (.aload_n 0, 1) := by decide +kernel
theorem d_Rules_prevailing_11 : decode b_Rules_prevailing 11 = .ok (.getfield 18, 3) := by decide +kernel
theorem d_Rules_prevailing_14 : decode b_Rules_prevailing 14 = .ok (.iconst 0, 1) := by decide +kernel
theorem d_Rules_prevailing_15 : decode b_Rules_prevailing 15 = .ok (.invokevirtual 68, 3) := by decide +kernel
theorem d_Rules_prevailing_18 : decode b_Rules_prevailing 18 = .ok (.if_icmp .le 7, 3) := by decide +kernel
theorem d_Rules_prevailing_21 : decode b_Rules_prevailing 21 = .ok (.iconst 1, 1) := by decide +kernel
theorem d_Rules_prevailing_22 : decode b_Rules_prevailing 22 = .ok (.goto 4, 3) := by decide +kernel
theorem d_Rules_prevailing_25 : decode b_Rules_prevailing 25 = .ok (.iconst 0, 1) := by decide +kernel
theorem d_Rules_prevailing_26 : decode b_Rules_prevailing 26 = .ok (.ireturn, 1) := by decide +kernel
theorem d_Rules_firmOr_0 : decode b_Rules_firmOr 0 = .ok (.iconst 0, 1) := by decide +kernel
theorem d_Rules_firmOr_1 : decode b_Rules_firmOr 1 = .ok (.istore_n 3, 1) := by decide +kernel
theorem d_Rules_firmOr_2 : decode b_Rules_firmOr 2 = .ok (.iload_n 3, 1) := by decide +kernel
theorem d_Rules_firmOr_3 : decode b_Rules_firmOr 3 = .ok (.iconst 1, 1) := by decide +kernel
theorem d_Rules_firmOr_4 : decode b_Rules_firmOr 4 = .ok (.if_icmp .gt 29, 3) := by decide +kernel
theorem d_Rules_firmOr_7 : decode b_Rules_firmOr 7 = .ok (.aload_n 0, 1) := by decide +kernel
theorem d_Rules_firmOr_8 : decode b_Rules_firmOr 8 = .ok (.aload_n 1, 1) := by decide +kernel
theorem d_Rules_firmOr_9 : decode b_Rules_firmOr 9 = .ok (.aload_n 0, 1) := by decide +kernel
theorem d_Rules_firmOr_10 : decode b_Rules_firmOr 10 = .ok (.getfield 18, 3) := by decide +kernel
theorem d_Rules_firmOr_13 : decode b_Rules_firmOr 13 = .ok (.iload_n 3, 1) := by decide +kernel
theorem d_Rules_firmOr_14 : decode b_Rules_firmOr 14 = .ok (.invokevirtual 68, 3) := by decide +kernel
theorem d_Rules_firmOr_17 : decode b_Rules_firmOr 17 = .ok (.invokevirtual 37, 3) := by decide +kernel
theorem d_Rules_firmOr_20 : decode b_Rules_firmOr 20 = .ok (.ifCond .eq 7, 3) := by decide +kernel
theorem d_Rules_firmOr_23 : decode b_Rules_firmOr 23 = .ok (.iload_n 3, 1) := by decide +kernel
theorem d_Rules_firmOr_24 : decode b_Rules_firmOr 24 = .ok (.iconst 2, 1) := by decide +kernel
theorem d_Rules_firmOr_25 : decode b_Rules_firmOr 25 = .ok (.iadd, 1) := by decide +kernel
theorem d_Rules_firmOr_26 : decode b_Rules_firmOr 26 = .ok (.ireturn, 1) := by decide +kernel
theorem d_Rules_firmOr_27 : decode b_Rules_firmOr 27 = .ok (.iinc 3 1, 3) := by decide +kernel
theorem d_Rules_firmOr_30 : decode b_Rules_firmOr 30 = .ok (.goto (-28), 3) := by decide +kernel
theorem d_Rules_firmOr_33 : decode b_Rules_firmOr 33 = .ok (.iload_n 2, 1) := by decide +kernel
theorem d_Rules_firmOr_34 : decode b_Rules_firmOr 34 = .ok (.ireturn, 1) := by decide +kernel
theorem d_Rules_heldFirm_0 : decode b_Rules_heldFirm 0 = .ok (.iconst 0, 1) := by decide +kernel
theorem d_Rules_heldFirm_1 : decode b_Rules_heldFirm 1 = .ok (.istore_n 3, 1) := by decide +kernel
theorem d_Rules_heldFirm_2 : decode b_Rules_heldFirm 2 = .ok (.iload_n 3, 1) := by decide +kernel
theorem d_Rules_heldFirm_3 : decode b_Rules_heldFirm 3 = .ok (.iconst 1, 1) := by decide +kernel
theorem d_Rules_heldFirm_4 : decode b_Rules_heldFirm 4 = .ok (.if_icmp .gt 26, 3) := by decide +kernel
theorem d_Rules_heldFirm_7 : decode b_Rules_heldFirm 7 = .ok (.aload_n 1, 1) := by decide +kernel
theorem d_Rules_heldFirm_8 : decode b_Rules_heldFirm 8 = .ok (.aload_n 0, 1) := by decide +kernel
theorem d_Rules_heldFirm_9 : decode b_Rules_heldFirm 9 = .ok (.getfield 18, 3) := by decide +kernel
theorem d_Rules_heldFirm_12 : decode b_Rules_heldFirm 12 = .ok (.iload_n 3, 1) := by decide +kernel
theorem d_Rules_heldFirm_13 : decode b_Rules_heldFirm 13 = .ok (.iconst 2, 1) := by decide +kernel
theorem d_Rules_heldFirm_14 : decode b_Rules_heldFirm 14 = .ok (.iadd, 1) := by decide +kernel
theorem d_Rules_heldFirm_15 : decode b_Rules_heldFirm 15 = .ok (.invokevirtual 68, 3) := by decide +kernel
theorem d_Rules_heldFirm_18 : decode b_Rules_heldFirm 18 = .ok (.iload_n 2, 1) := by decide +kernel
theorem d_Rules_heldFirm_19 : decode b_Rules_heldFirm 19 = .ok (.if_icmp .lt 5, 3) := by decide +kernel
theorem d_Rules_heldFirm_22 : decode b_Rules_heldFirm 22 = .ok (.iload_n 3, 1) := by decide +kernel
theorem d_Rules_heldFirm_23 : decode b_Rules_heldFirm 23 = .ok (.ireturn, 1) := by decide +kernel
theorem d_Rules_heldFirm_24 : decode b_Rules_heldFirm 24 = .ok (.iinc 3 1, 3) := by decide +kernel
theorem d_Rules_heldFirm_27 : decode b_Rules_heldFirm 27 = .ok (.goto (-25), 3) := by decide +kernel
theorem d_Rules_heldFirm_30 : decode b_Rules_heldFirm 30 = .ok (.iconst (-1), 1) := by decide +kernel
theorem d_Rules_heldFirm_31 : decode b_Rules_heldFirm 31 = .ok (.ireturn, 1) := by decide +kernel
theorem d_Rules_follows_0 : decode b_Rules_follows 0 = .ok (.aload_n 0, 1) := by decide +kernel
theorem d_Rules_follows_1 : decode b_Rules_follows 1 = .ok (.aload 4, 2) := by decide +kernel
theorem d_Rules_follows_3 : decode b_Rules_follows 3 = .ok (.invokevirtual 29, 3) := by decide +kernel
theorem d_Rules_follows_6 : decode b_Rules_follows 6 = .ok (.ifCond .ne 5, 3) := by decide +kernel
theorem d_Rules_follows_9 : decode b_Rules_follows 9 = .ok (.iconst 0, 1) := by decide +kernel
theorem d_Rules_follows_10 : decode b_Rules_follows 10 = .ok (.ireturn, 1) := by decide +kernel
theorem d_Rules_follows_11 : decode b_Rules_follows 11 = .ok (.iload_n 1, 1) := by decide +kernel
theorem d_Rules_follows_12 : decode b_Rules_follows 12 = .ok (.iconst 3, 1) := by decide +kernel
theorem d_Rules_follows_13 : decode b_Rules_follows 13 = .ok (.irem, 1) := by decide +kernel
theorem d_Rules_follows_14 : decode b_Rules_follows 14 = .ok (.istore 5, 2) := by decide +kernel
theorem d_Rules_follows_16 : decode b_Rules_follows 16 = .ok (.iload 5, 2) := by decide +kernel
theorem d_Rules_follows_18 : decode b_Rules_follows 18 = .ok (.iconst 2, 1) := by decide +kernel
theorem d_Rules_follows_19 : decode b_Rules_follows 19 = .ok (.if_icmp .ne 49, 3) := by decide +kernel
theorem d_Rules_follows_22 : decode b_Rules_follows 22 = .ok (.iload_n 3, 1) := by decide +kernel
theorem d_Rules_follows_23 : decode b_Rules_follows 23 = .ok (.iconst 2, 1) := by decide +kernel
theorem d_Rules_follows_24 : decode b_Rules_follows 24 = .ok (.if_icmp .lt 19, 3) := by decide +kernel
theorem d_Rules_follows_27 : decode b_Rules_follows 27 = .ok (.aload_n 0, 1) := by decide +kernel
theorem d_Rules_follows_28 : decode b_Rules_follows 28 = .ok (.aload_n 0, 1) := by decide +kernel
theorem d_Rules_follows_29 : decode b_Rules_follows 29 = .ok (.aload 4, 2) := by decide +kernel
theorem d_Rules_follows_31 : decode b_Rules_follows 31 = .ok (.iload_n 3, 1) := by decide +kernel
theorem d_Rules_follows_32 : decode b_Rules_follows 32 = .ok (.iconst 2, 1) := by decide +kernel
theorem d_Rules_follows_33 : decode b_Rules_follows 33 = .ok (.isub, 1) := by decide +kernel
theorem d_Rules_follows_34 : decode b_Rules_follows 34 = .ok (.invokevirtual 33, 3) := by decide +kernel
theorem d_Rules_follows_37 : decode b_Rules_follows 37 = .ok (.invokevirtual 37, 3) := by decide +kernel
theorem d_Rules_follows_40 : decode b_Rules_follows 40 = .ok (.goto 27, 3) := by decide +kernel
theorem d_Rules_follows_43 : decode b_Rules_follows 43 = .ok (.aload 4, 2) := by decide +kernel
theorem d_Rules_follows_45 : decode b_Rules_follows 45 = .ok (.iload_n 2, 1) := by decide +kernel
theorem d_Rules_follows_46 : decode b_Rules_follows 46 = .ok (.iload_n 3, 1) := by decide +kernel
theorem d_Rules_follows_47 : decode b_Rules_follows 47 = .ok (.invokevirtual 41, 3) := by decide +kernel
theorem d_Rules_follows_50 : decode b_Rules_follows 50 = .ok (.ifCond .eq 16, 3) := by decide +kernel
theorem d_Rules_follows_53 : decode b_Rules_follows 53 = .ok (.aload_n 0, 1) := by decide +kernel
theorem d_Rules_follows_54 : decode b_Rules_follows 54 = .ok (.aload 4, 2) := by decide +kernel
theorem d_Rules_follows_56 : decode b_Rules_follows 56 = .ok (.invokevirtual 45, 3) := by decide +kernel
theorem d_Rules_follows_59 : decode b_Rules_follows 59 = .ok (.ifCond .eq 7, 3) := by decide +kernel
theorem d_Rules_follows_62 : decode b_Rules_follows 62 = .ok (.iconst 1, 1) := by decide +kernel
theorem d_Rules_follows_63 : decode b_Rules_follows 63 = .ok (.goto 4, 3) := by decide +kernel
theorem d_Rules_follows_66 : decode b_Rules_follows 66 = .ok (.iconst 0, 1) := by decide +kernel
theorem d_Rules_follows_67 : decode b_Rules_follows 67 = .ok (.ireturn, 1) := by decide +kernel
theorem d_Rules_follows_68 : decode b_Rules_follows 68 = .ok (.iload_n 3, 1) := by decide +kernel
theorem d_Rules_follows_69 : decode b_Rules_follows 69 = .ok (.invokestatic 48, 3) := by decide +kernel
theorem d_Rules_follows_72 : decode b_Rules_follows 72 = .ok (.ifCond .ne 5, 3) := by decide +kernel
theorem d_Rules_follows_75 : decode b_Rules_follows 75 = .ok (.iconst 0, 1) := by decide +kernel
theorem d_Rules_follows_76 : decode b_Rules_follows 76 = .ok (.ireturn, 1) := by decide +kernel
theorem d_Rules_follows_77 : decode b_Rules_follows 77 = .ok (.iload 5, 2) := by decide +kernel
theorem d_Rules_follows_79 : decode b_Rules_follows 79 = .ok (.iconst 1, 1) := by decide +kernel
theorem d_Rules_follows_80 : decode b_Rules_follows 80 = .ok (.if_icmp .ne 13, 3) := by decide +kernel
theorem d_Rules_follows_83 : decode b_Rules_follows 83 = .ok (.aload_n 0, 1) := by decide +kernel
theorem d_Rules_follows_84 : decode b_Rules_follows 84 = .ok (.aload 4, 2) := by decide +kernel
theorem d_Rules_follows_86 : decode b_Rules_follows 86 = .ok (.iload_n 3, 1) := by decide +kernel
theorem d_Rules_follows_87 : decode b_Rules_follows 87 = .ok (.invokevirtual 51, 3) := by decide +kernel
theorem d_Rules_follows_90 : decode b_Rules_follows 90 = .ok (.goto 33, 3) := by decide +kernel
theorem d_Rules_follows_93 : decode b_Rules_follows 93 = .ok (.aload_n 0, 1) := by decide +kernel
theorem d_Rules_follows_94 : decode b_Rules_follows 94 = .ok (.aload 4, 2) := by decide +kernel
theorem d_Rules_follows_96 : decode b_Rules_follows 96 = .ok (.iload_n 3, 1) := by decide +kernel
theorem d_Rules_follows_97 : decode b_Rules_follows 97 = .ok (.iconst 2, 1) := by decide +kernel
theorem d_Rules_follows_98 : decode b_Rules_follows 98 = .ok (.iadd, 1) := by decide +kernel
theorem d_Rules_follows_99 : decode b_Rules_follows 99 = .ok (.invokevirtual 33, 3) := by decide +kernel
theorem d_Rules_follows_102 : decode b_Rules_follows 102 = .ok (.aload_n 0, 1) := by decide +kernel
theorem d_Rules_follows_103 : decode b_Rules_follows 103 = .ok (.getfield 15, 3) := by decide +kernel
theorem d_Rules_follows_106 : decode b_Rules_follows 106 = .ok (.if_icmp .gt 12, 3) := by decide +kernel
theorem d_Rules_follows_109 : decode b_Rules_follows 109 = .ok (.aload_n 0, 1) := by decide +kernel
theorem d_Rules_follows_110 : decode b_Rules_follows 110 = .ok (.aload 4, 2) := by decide +kernel
theorem d_Rules_follows_112 : decode b_Rules_follows 112 = .ok (.invokevirtual 55, 3) := by decide +kernel
theorem d_Rules_follows_115 : decode b_Rules_follows 115 = .ok (.ifCond .eq 7, 3) := by decide +kernel
theorem d_Rules_follows_118 : decode b_Rules_follows 118 = .ok (.iconst 1, 1) := by decide +kernel
theorem d_Rules_follows_119 : decode b_Rules_follows 119 = .ok (.goto 4, 3) := by decide +kernel
theorem d_Rules_follows_122 : decode b_Rules_follows 122 = .ok (.iconst 0, 1) := by decide +kernel
theorem d_Rules_follows_123 : decode b_Rules_follows 123 = .ok (.ireturn, 1) := by decide +kernel
