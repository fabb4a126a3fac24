theorem d_Node_init_0 : decode b_Node_init 0 = .ok (.aload_n 0, 1) := by decide +kernel
theorem d_Node_init_1 : decode b_Node_init 1 = .ok (.invokespecial 3, 3) := by decide +kernel
theorem d_Node_init_4 : decode b_Node_init 4 = .ok (.aload_n 0, 1) := by decide +kernel
theorem d_Node_init_5 : decode b_Node_init 5 = .ok (.new 9, 3) := by decide +kernel
theorem d_Node_init_8 : decode b_Node_init 8 = .ok (.dup, 1) := by decide +kernel
theorem d_Node_init_9 : decode b_Node_init 9 = .ok (.invokespecial 11, 3) := by decide +kernel
theorem d_Node_init_12 : decode b_Node_init 12 = .ok (.putfield 12, 3) := by decide +kernel
theorem d_Node_init_15 : decode b_Node_init 15 = .ok (.aload_n 0, 1) := by decide +kernel
theorem d_Node_init_16 : decode b_Node_init 16 = .ok (.new 18, 3) := by decide +kernel
theorem d_Node_init_19 : decode b_Node_init 19 = .ok (.dup, 1) := by decide +kernel
theorem d_Node_init_20 : decode b_Node_init 20 = .ok (.invokespecial 20, 3) := by decide +kernel
theorem d_Node_init_23 : decode b_Node_init 23 = .ok (.putfield 21, 3) := by decide +kernel
theorem d_Node_init_26 : decode b_Node_init 26 = .ok (.aload_n 0, 1) := by decide +kernel
theorem d_Node_init_27 : decode b_Node_init 27 = .ok (.bipush 7, 2) := by decide +kernel
theorem d_Node_init_29 : decode b_Node_init 29 = .ok (.newarray .int, 2) := by decide +kernel
theorem d_Node_init_31 : decode b_Node_init 31 = .ok (.putfield 25, 3) := by decide +kernel
theorem d_Node_init_34 : decode b_Node_init 34 = .ok (.aload_n 0, 1) := by decide +kernel
theorem d_Node_init_35 : decode b_Node_init 35 = .ok (.bipush 63, 2) := by decide +kernel
theorem d_Node_init_37 : decode b_Node_init 37 = .ok (.newarray .boolean, 2) := by decide +kernel
theorem d_Node_init_39 : decode b_Node_init 39 = .ok (.putfield 29, 3) := by decide +kernel
theorem d_Node_init_42 : decode b_Node_init 42 = .ok (.aload_n 0, 1) := by decide +kernel
theorem d_Node_init_43 : decode b_Node_init 43 = .ok (.bipush 63, 2) := by decide +kernel
theorem d_Node_init_45 : decode b_Node_init 45 = .ok (.newarray .int, 2) := by decide +kernel
theorem d_Node_init_47 : decode b_Node_init 47 = .ok (.putfield 33, 3) := by decide +kernel
theorem d_Node_init_50 : decode b_Node_init 50 = .ok (.aload_n 0, 1) := by decide +kernel
theorem d_Node_init_51 : decode b_Node_init 51 = .ok (.bipush 9, 2) := by decide +kernel
theorem d_Node_init_53 : decode b_Node_init 53 = .ok (.anewarray 36, 3) := by decide +kernel
theorem d_Node_init_56 : decode b_Node_init 56 = .ok (.putfield 38, 3) := by decide +kernel
theorem d_Node_init_59 : decode b_Node_init 59 = .ok (.aload_n 0, 1) := by decide +kernel
theorem d_Node_init_60 : decode b_Node_init 60 = .ok (.iconst 1, 1) := by decide +kernel
theorem d_Node_init_61 : decode b_Node_init 61 = .ok (.putfield 42, 3) := by decide +kernel
theorem d_Node_init_64 : decode b_Node_init 64 = .ok (.aload_n 0, 1) := by decide +kernel
theorem d_Node_init_65 : decode b_Node_init 65 = .ok (.iconst 0, 1) := by decide +kernel
theorem d_Node_init_66 : decode b_Node_init 66 = .ok (.putfield 46, 3) := by decide +kernel
theorem d_Node_init_69 : decode b_Node_init 69 = .ok (.aload_n 0, 1) := by decide +kernel
theorem d_Node_init_70 : decode b_Node_init 70 = .ok (.iconst (-1), 1) := by decide +kernel
theorem d_Node_init_71 : decode b_Node_init 71 = .ok (.putfield 50, 3) := by decide +kernel
theorem d_Node_init_74 : decode b_Node_init 74 = .ok (.aload_n 0, 1) := by decide +kernel
theorem d_Node_init_75 : decode b_Node_init 75 = .ok (.iconst (-1), 1) := by decide +kernel
theorem d_Node_init_76 : decode b_Node_init 76 = .ok (.putfield 53, 3) := by decide +kernel
theorem d_Node_init_79 : decode b_Node_init 79 = .ok (.aload_n 0, 1) := by decide +kernel
theorem d_Node_init_80 : decode b_Node_init 80 = .ok (.iconst (-1), 1) := by decide +kernel
theorem d_Node_init_81 : decode b_Node_init 81 = .ok (.putfield 56, 3) := by decide +kernel
theorem d_Node_init_84 : decode b_Node_init 84 = .ok (.aload_n 0, 1) := by decide +kernel
theorem d_Node_init_85 : decode b_Node_init 85 = .ok (.iload_n 1, 1) := by decide +kernel
theorem d_Node_init_86 : decode b_Node_init 86 = .ok (.putfield 59, 3) := by decide +kernel
theorem d_Node_init_89 : decode b_Node_init 89 = .ok (.aload_n 0, 1) := by decide +kernel
theorem d_Node_init_90 : decode b_Node_init 90 = .ok (.aload_n 2, 1) := by decide +kernel
theorem d_Node_init_91 : decode b_Node_init 91 = .ok (.putfield 62, 3) := by decide +kernel
theorem d_Node_init_94 : decode b_Node_init 94 = .ok (.iconst 0, 1) := by decide +kernel
theorem d_Node_init_95 : decode b_Node_init 95 = .ok (.istore_n 3, 1) := by decide +kernel
theorem d_Node_init_96 : decode b_Node_init 96 = .ok (.iload_n 3, 1) := by decide +kernel
theorem d_Node_init_97 : decode b_Node_init 97 = .ok (.bipush 63, 2) := by decide +kernel
theorem d_Node_init_99 : decode b_Node_init 99 = .ok (.if_icmp .ge 16, 3) := by decide +kernel
theorem d_Node_init_102 : decode b_Node_init 102 = .ok (.aload_n 0, 1) := by decide +kernel
theorem d_Node_init_103 : decode b_Node_init 103 = .ok (.getfield 33, 3) := by decide +kernel
theorem d_Node_init_106 : decode b_Node_init 106 = .ok (.iload_n 3, 1) := by decide +kernel
theorem d_Node_init_107 : decode b_Node_init 107 = .ok (.iconst (-1), 1) := by decide +kernel
theorem d_Node_init_108 : decode b_Node_init 108 = .ok (.iastore, 1) := by decide +kernel
theorem d_Node_init_109 : decode b_Node_init 109 = .ok (.iinc 3 1, 3) := by decide +kernel
theorem d_Node_init_112 : decode b_Node_init 112 = .ok (.goto (-16), 3) := by decide +kernel
theorem d_Node_init_115 : decode b_Node_init 115 = .ok (.iconst 0, 1) := by decide +kernel
theorem d_Node_init_116 : decode b_Node_init 116 = .ok (.istore_n 3, 1) := by decide +kernel
theorem d_Node_init_117 : decode b_Node_init 117 = .ok (.iload_n 3, 1) := by decide +kernel
theorem d_Node_init_118 : decode b_Node_init 118 = .ok (.bipush 9, 2) := by decide +kernel
theorem d_Node_init_120 : decode b_Node_init 120 = .ok (.if_icmp .ge 22, 3) := by decide +kernel
theorem d_Node_init_123 : decode b_Node_init 123 = .ok (.aload_n 0, 1) := by decide +kernel
theorem d_Node_init_124 : decode b_Node_init 124 = .ok (.getfield 38, 3) := by decide +kernel
theorem d_Node_init_127 : decode b_Node_init 127 = .ok (.iload_n 3, 1) := by decide +kernel
theorem d_Node_init_128 : decode b_Node_init 128 = .ok (.new 36, 3) := by decide +kernel
theorem d_Node_init_131 : decode b_Node_init 131 = .ok (.dup, 1) := by decide +kernel
theorem d_Node_init_132 : decode b_Node_init 132 = .ok (.invokespecial 66, 3) := by decide +kernel
theorem d_Node_init_135 : decode b_Node_init 135 = .ok (.aastore, 1) := by decide +kernel
theorem d_Node_init_136 : decode b_Node_init 136 = .ok (.iinc 3 1, 3) := by decide +kernel
theorem d_Node_init_139 : decode b_Node_init 139 = .ok (.goto (-22), 3) := by decide +kernel
theorem d_Node_init_142 : decode b_Node_init 142 = .ok (.return_, 1) := by decide +kernel
theorem d_Node_enter_0 : decode b_Node_enter 0 = .ok (.aload_n 0, 1) := by decide +kernel
theorem d_Node_enter_1 : decode b_Node_enter 1 = .ok (.iload_n 1, 1) := by decide +kernel
theorem d_Node_enter_2 : decode b_Node_enter 2 = .ok (.putfield 50, 3) := by decide +kernel
theorem d_Node_enter_5 : decode b_Node_enter 5 = .ok (.aload_n 0, 1) := by decide +kernel
theorem d_Node_enter_6 : decode b_Node_enter 6 = .ok (.iload_n 2, 1) := by decide +kernel
theorem d_Node_enter_7 : decode b_Node_enter 7 = .ok (.putfield 53, 3) := by decide +kernel
theorem d_Node_enter_10 : decode b_Node_enter 10 = .ok (.iload_n 1, 1) := by decide +kernel
theorem d_Node_enter_11 : decode b_Node_enter 11 = .ok (.bipush 9, 2) := by decide +kernel
theorem d_Node_enter_13 : decode b_Node_enter 13 = .ok (.if_icmp .ge 20, 3) := by decide +kernel
theorem d_Node_enter_16 : decode b_Node_enter 16 = .ok (.aload_n 0, 1) := by decide +kernel
theorem d_Node_enter_17 : decode b_Node_enter 17 = .ok (.getfield 12, 3) := by decide +kernel
theorem d_Node_enter_20 : decode b_Node_enter 20 = .ok (.iconst 0, 1) := by decide +kernel
theorem d_Node_enter_21 : decode b_Node_enter 21 = .ok (.iload_n 1, 1) := by decide +kernel
theorem d_Node_enter_22 : decode b_Node_enter 22 = .ok (.aload_n 0, 1) := by decide +kernel
theorem d_Node_enter_23 : decode b_Node_enter 23 = .ok (.getfield 59, 3) := by decide +kernel
theorem d_Node_enter_26 : decode b_Node_enter 26 = .ok (.iload_n 2, 1) := by decide +kernel
theorem d_Node_enter_27 : decode b_Node_enter 27 = .ok (.invokestatic 67, 3) := by decide +kernel
theorem d_Node_enter_30 : decode b_Node_enter 30 = .ok (.invokevirtual 71, 3) := by decide +kernel
theorem d_Node_enter_33 : decode b_Node_enter 33 = .ok (.return_, 1) := by decide +kernel
theorem d_Node_sendReadyOnce_0 : decode b_Node_sendReadyOnce 0 = .ok (.iload_n 1, 1) := by decide +kernel
theorem d_Node_sendReadyOnce_1 : decode b_Node_sendReadyOnce 1 = .ok (.iload_n 2, 1) := by decide +kernel
theorem d_Node_sendReadyOnce_2 : decode b_Node_sendReadyOnce 2 = .ok (.invokestatic 83, 3) := by decide +kernel
theorem d_Node_sendReadyOnce_5 : decode b_Node_sendReadyOnce 5 = .ok (.istore 4, 2) := by decide +kernel
theorem d_Node_sendReadyOnce_7 : decode b_Node_sendReadyOnce 7 = .ok (.aload_n 0, 1) := by decide +kernel
theorem d_Node_sendReadyOnce_8 : decode b_Node_sendReadyOnce 8 = .ok (.getfield 29, 3) := by decide +kernel
theorem d_Node_sendReadyOnce_11 : decode b_Node_sendReadyOnce 11 = .ok (.iload 4, 2) := by decide +kernel
theorem d_Node_sendReadyOnce_13 : decode b_Node_sendReadyOnce 13 = .ok (.baload, 1) := by decide +kernel
theorem d_Node_sendReadyOnce_14 : decode b_Node_sendReadyOnce 14 = .ok (.ifCond .ne 25, 3) := by decide +kernel
theorem d_Node_sendReadyOnce_17 : decode b_Node_sendReadyOnce 17 = .ok (.aload_n 0, 1) := by decide +kernel
theorem d_Node_sendReadyOnce_18 : decode b_Node_sendReadyOnce 18 = .ok (.getfield 29, 3) := by decide +kernel
theorem d_Node_sendReadyOnce_21 : decode b_Node_sendReadyOnce 21 = .ok (.iload 4, 2) := by decide +kernel
theorem d_Node_sendReadyOnce_23 : decode b_Node_sendReadyOnce 23 = .ok (.iconst 1, 1) := by decide +kernel
theorem d_Node_sendReadyOnce_24 : decode b_Node_sendReadyOnce 24 = .ok (.bastore, 1) := by decide +kernel
theorem d_Node_sendReadyOnce_25 : decode b_Node_sendReadyOnce 25 = .ok (.aload_n 0, 1) := by decide +kernel
theorem d_Node_sendReadyOnce_26 : decode b_Node_sendReadyOnce 26 = .ok (.getfield 12, 3) := by decide +kernel
theorem d_Node_sendReadyOnce_29 : decode b_Node_sendReadyOnce 29 = .ok (.iconst 2, 1) := by decide +kernel
theorem d_Node_sendReadyOnce_30 : decode b_Node_sendReadyOnce 30 = .ok (.iload_n 1, 1) := by decide +kernel
theorem d_Node_sendReadyOnce_31 : decode b_Node_sendReadyOnce 31 = .ok (.iload_n 2, 1) := by decide +kernel
theorem d_Node_sendReadyOnce_32 : decode b_Node_sendReadyOnce 32 = .ok (.iload_n 3, 1) := by decide +kernel
theorem d_Node_sendReadyOnce_33 : decode b_Node_sendReadyOnce 33 = .ok (.invokestatic 67, 3) := by decide +kernel
theorem d_Node_sendReadyOnce_36 : decode b_Node_sendReadyOnce 36 = .ok (.invokevirtual 71, 3) := by decide +kernel
theorem d_Node_sendReadyOnce_39 : decode b_Node_sendReadyOnce 39 = .ok (.return_, 1) := by decide +kernel
theorem d_Node_hearEcho_0 : decode b_Node_hearEcho 0 = .ok (.aload_n 0, 1) := by decide +kernel
theorem d_Node_hearEcho_1 : decode b_Node_hearEcho 1 = .ok (.getfield 21, 3) := by decide +kernel
theorem d_Node_hearEcho_4 : decode b_Node_hearEcho 4 = .ok (.iconst 1, 1) := by decide +kernel
theorem d_Node_hearEcho_5 : decode b_Node_hearEcho 5 = .ok (.iload_n 1, 1) := by decide +kernel
theorem d_Node_hearEcho_6 : decode b_Node_hearEcho 6 = .ok (.iload_n 2, 1) := by decide +kernel
theorem d_Node_hearEcho_7 : decode b_Node_hearEcho 7 = .ok (.invokestatic 83, 3) := by decide +kernel
theorem d_Node_hearEcho_10 : decode b_Node_hearEcho 10 = .ok (.iload_n 3, 1) := by decide +kernel
theorem d_Node_hearEcho_11 : decode b_Node_hearEcho 11 = .ok (.invokevirtual 98, 3) := by decide +kernel
theorem d_Node_hearEcho_14 : decode b_Node_hearEcho 14 = .ok (.aload_n 0, 1) := by decide +kernel
theorem d_Node_hearEcho_15 : decode b_Node_hearEcho 15 = .ok (.getfield 62, 3) := by decide +kernel
theorem d_Node_hearEcho_18 : decode b_Node_hearEcho 18 = .ok (.getfield 102, 3) := by decide +kernel
theorem d_Node_hearEcho_21 : decode b_Node_hearEcho 21 = .ok (.if_icmp .lt 10, 3) := by decide +kernel
theorem d_Node_hearEcho_24 : decode b_Node_hearEcho 24 = .ok (.aload_n 0, 1) := by decide +kernel
theorem d_Node_hearEcho_25 : decode b_Node_hearEcho 25 = .ok (.iload_n 1, 1) := by decide +kernel
theorem d_Node_hearEcho_26 : decode b_Node_hearEcho 26 = .ok (.iload_n 2, 1) := by decide +kernel
theorem d_Node_hearEcho_27 : decode b_Node_hearEcho 27 = .ok (.iload_n 3, 1) := by decide +kernel
theorem d_Node_hearEcho_28 : decode b_Node_hearEcho 28 = .ok (.invokevirtual 107, 3) := by decide +kernel
theorem d_Node_hearEcho_31 : decode b_Node_hearEcho 31 = .ok (.return_, 1) := by decide +kernel
theorem d_Node_hearReady_0 : decode b_Node_hearReady 0 = .ok (.iload_n 1, 1) := by decide +kernel
theorem d_Node_hearReady_1 : decode b_Node_hearReady 1 = .ok (.iload_n 2, 1) := by decide +kernel
theorem d_Node_hearReady_2 : decode b_Node_hearReady 2 = .ok (.invokestatic 83, 3) := by decide +kernel
theorem d_Node_hearReady_5 : decode b_Node_hearReady 5 = .ok (.istore 4, 2) := by decide +kernel
theorem d_Node_hearReady_7 : decode b_Node_hearReady 7 = .ok (.aload_n 0, 1) := by decide +kernel
theorem d_Node_hearReady_8 : decode b_Node_hearReady 8 = .ok (.getfield 21, 3) := by decide +kernel
theorem d_Node_hearReady_11 : decode b_Node_hearReady 11 = .ok (.iconst 2, 1) := by decide +kernel
theorem d_Node_hearReady_12 : decode b_Node_hearReady 12 = .ok (.iload 4, 2) := by decide +kernel
theorem d_Node_hearReady_14 : decode b_Node_hearReady 14 = .ok (.iload_n 3, 1) := by decide +kernel
theorem d_Node_hearReady_15 : decode b_Node_hearReady 15 = .ok (.invokevirtual 98, 3) := by decide +kernel
theorem d_Node_hearReady_18 : decode b_Node_hearReady 18 = .ok (.istore 5, 2) := by decide +kernel
theorem d_Node_hearReady_20 : decode b_Node_hearReady 20 = .ok (.iload 5, 2) := by decide +kernel
theorem d_Node_hearReady_22 : decode b_Node_hearReady 22 = .ok (.aload_n 0, 1) := by decide +kernel
theorem d_Node_hearReady_23 : decode b_Node_hearReady 23 = .ok (.getfield 62, 3) := by decide +kernel
theorem d_Node_hearReady_26 : decode b_Node_hearReady 26 = .ok (.getfield 110, 3) := by decide +kernel
theorem d_Node_hearReady_29 : decode b_Node_hearReady 29 = .ok (.iconst 1, 1) := by decide +kernel
theorem d_Node_hearReady_30 : decode b_Node_hearReady 30 = .ok (.iadd, 1) := by decide +kernel
theorem d_Node_hearReady_31 : decode b_Node_hearReady 31 = .ok (.if_icmp .lt 10, 3) := by decide +kernel
theorem d_Node_hearReady_34 : decode b_Node_hearReady 34 = .ok (.aload_n 0, 1) := by decide +kernel
theorem d_Node_hearReady_35 : decode b_Node_hearReady 35 = .ok (.iload_n 1, 1) := by decide +kernel
theorem d_Node_hearReady_36 : decode b_Node_hearReady 36 = .ok (.iload_n 2, 1) := by decide +kernel
theorem d_Node_hearReady_37 : decode b_Node_hearReady 37 = .ok (.iload_n 3, 1) := by decide +kernel
theorem d_Node_hearReady_38 : decode b_Node_hearReady 38 = .ok (.invokevirtual 107, 3) := by decide +kernel
theorem d_Node_hearReady_41 : decode b_Node_hearReady 41 = .ok (.iload 5, 2) := by decide +kernel
theorem d_Node_hearReady_43 : decode b_Node_hearReady 43 = .ok (.iconst 2, 1) := by decide +kernel
theorem d_Node_hearReady_44 : decode b_Node_hearReady 44 = .ok (.aload_n 0, 1) := by decide +kernel
theorem d_Node_hearReady_45 : decode b_Node_hearReady 45 = .ok (.getfield 62, 3) := by decide +kernel
theorem d_Node_hearReady_48 : decode b_Node_hearReady 48 = .ok (.getfield 110, 3) := by decide +kernel
theorem d_Node_hearReady_51 : decode b_Node_hearReady 51 = .ok (.imul, 1) := by decide +kernel
theorem d_Node_hearReady_52 : decode b_Node_hearReady 52 = .ok (.iconst 1, 1) := by decide +kernel
theorem d_Node_hearReady_53 : decode b_Node_hearReady 53 = .ok (.iadd, 1) := by decide +kernel
theorem d_Node_hearReady_54 : decode b_Node_hearReady 54 = .ok (.if_icmp .lt 22, 3) := by decide +kernel
theorem d_Node_hearReady_57 : decode b_Node_hearReady 57 = .ok (.aload_n 0, 1) := by decide +kernel
theorem d_Node_hearReady_58 : decode b_Node_hearReady 58 = .ok (.getfield 33, 3) := by decide +kernel
theorem d_Node_hearReady_61 : decode b_Node_hearReady 61 = .ok (.iload 4, 2) := by decide +kernel
theorem d_Node_hearReady_63 : decode b_Node_hearReady 63 = .ok (.iaload, 1) := by decide +kernel
theorem d_Node_hearReady_64 : decode b_Node_hearReady 64 = .ok (.iconst (-1), 1) := by decide +kernel
theorem d_Node_hearReady_65 : decode b_Node_hearReady 65 = .ok (.if_icmp .ne 11, 3) := by decide +kernel
theorem d_Node_hearReady_68 : decode b_Node_hearReady 68 = .ok (.aload_n 0, 1) := by decide +kernel
theorem d_Node_hearReady_69 : decode b_Node_hearReady 69 = .ok (.getfield 33, 3) := by decide +kernel
theorem d_Node_hearReady_72 : decode b_Node_hearReady 72 = .ok (.iload 4, 2) := by decide +kernel
theorem d_Node_hearReady_74 : decode b_Node_hearReady 74 = .ok (.iload_n 3, 1) := by decide +kernel
theorem d_Node_hearReady_75 : decode b_Node_hearReady 75 = .ok (.iastore, 1) := by decide +kernel
theorem d_Node_hearReady_76 : decode b_Node_hearReady 76 = .ok (.return_, 1) := by decide +kernel
theorem d_Node_endRound_0 : decode b_Node_endRound 0 = .ok (.aload_n 0, 1) := by decide +kernel
theorem d_Node_endRound_1 : decode b_Node_endRound 1 = .ok (.getfield 62, 3) := by decide +kernel
theorem d_Node_endRound_4 : decode b_Node_endRound 4 = .ok (.aload_n 2, 1) := by decide +kernel
theorem d_Node_endRound_5 : decode b_Node_endRound 5 = .ok (.iconst 2, 1) := by decide +kernel
theorem d_Node_endRound_6 : decode b_Node_endRound 6 = .ok (.aload_n 0, 1) := by decide +kernel
theorem d_Node_endRound_7 : decode b_Node_endRound 7 = .ok (.getfield 62, 3) := by decide +kernel
theorem d_Node_endRound_10 : decode b_Node_endRound 10 = .ok (.getfield 110, 3) := by decide +kernel
theorem d_Node_endRound_13 : decode b_Node_endRound 13 = .ok (.imul, 1) := by decide +kernel
theorem d_Node_endRound_14 : decode b_Node_endRound 14 = .ok (.iconst 1, 1) := by decide +kernel
theorem d_Node_endRound_15 : decode b_Node_endRound 15 = .ok (.iadd, 1) := by decide +kernel
theorem d_Node_endRound_16 : decode b_Node_endRound 16 = .ok (.invokevirtual 168, 3) := by decide +kernel
theorem d_Node_endRound_19 : decode b_Node_endRound 19 = .ok (.istore_n 3, 1) := by decide +kernel
theorem d_Node_endRound_20 : decode b_Node_endRound 20 = .ok (.iload_n 3, 1) := by decide +kernel
theorem d_Node_endRound_21 : decode b_Node_endRound 21 = .ok (.iconst (-1), 1) := by decide +kernel
theorem d_Node_endRound_22 : decode b_Node_endRound 22 = .ok (.if_icmp .eq 18, 3) := by decide +kernel
theorem d_Node_endRound_25 : decode b_Node_endRound 25 = .ok (.aload_n 0, 1) := by decide +kernel
theorem d_Node_endRound_26 : decode b_Node_endRound 26 = .ok (.getfield 56, 3) := by decide +kernel
theorem d_Node_endRound_29 : decode b_Node_endRound 29 = .ok (.iconst (-1), 1) := by decide +kernel
theorem d_Node_endRound_30 : decode b_Node_endRound 30 = .ok (.if_icmp .ne 8, 3) := by decide +kernel
theorem d_Node_endRound_33 : decode b_Node_endRound 33 = .ok (.aload_n 0, 1) := by decide +kernel
theorem d_Node_endRound_34 : decode b_Node_endRound 34 = .ok (.iload_n 3, 1) := by decide +kernel
theorem d_Node_endRound_35 : decode b_Node_endRound 35 = .ok (.putfield 56, 3) := by decide +kernel
theorem d_Node_endRound_38 : decode b_Node_endRound 38 = .ok (.iload_n 3, 1) := by decide +kernel
theorem d_Node_endRound_39 : decode b_Node_endRound 39 = .ok (.ireturn, 1) := by decide +kernel
theorem d_Node_endRound_40 : decode b_Node_endRound 40 = .ok (.aload_n 0, 1) := by decide +kernel
theorem d_Node_endRound_41 : decode b_Node_endRound 41 = .ok (.getfield 62, 3) := by decide +kernel
theorem d_Node_endRound_44 : decode b_Node_endRound 44 = .ok (.aload_n 2, 1) := by decide +kernel
theorem d_Node_endRound_45 : decode b_Node_endRound 45 = .ok (.aload_n 0, 1) := by decide +kernel
theorem d_Node_endRound_46 : decode b_Node_endRound 46 = .ok (.getfield 62, 3) := by decide +kernel
theorem d_Node_endRound_49 : decode b_Node_endRound 49 = .ok (.getfield 110, 3) := by decide +kernel
theorem d_Node_endRound_52 : decode b_Node_endRound 52 = .ok (.iconst 1, 1) := by decide +kernel
theorem d_Node_endRound_53 : decode b_Node_endRound 53 = .ok (.iadd, 1) := by decide +kernel
theorem d_Node_endRound_54 : decode b_Node_endRound 54 = .ok (.invokevirtual 168, 3) := by decide +kernel
theorem d_Node_endRound_57 : decode b_Node_endRound 57 = .ok (.istore 4, 2) := by decide +kernel
theorem d_Node_endRound_59 : decode b_Node_endRound 59 = .ok (.iload 4, 2) := by decide +kernel
theorem d_Node_endRound_61 : decode b_Node_endRound 61 = .ok (.iconst (-1), 1) := by decide +kernel
theorem d_Node_endRound_62 : decode b_Node_endRound 62 = .ok (.if_icmp .eq 8, 3) := by decide +kernel
theorem d_Node_endRound_65 : decode b_Node_endRound 65 = .ok (.iload 4, 2) := by decide +kernel
theorem d_Node_endRound_67 : decode b_Node_endRound 67 = .ok (.goto 11, 3) := by decide +kernel
theorem d_Node_endRound_70 : decode b_Node_endRound 70 = .ok (.aload_n 0, 1) := by decide +kernel
theorem d_Node_endRound_71 : decode b_Node_endRound 71 = .ok (.getfield 46, 3) := by decide +kernel
theorem d_Node_endRound_74 : decode b_Node_endRound 74 = .ok (.iload_n 1, 1) := by decide +kernel
theorem d_Node_endRound_75 : decode b_Node_endRound 75 = .ok (.ishr, 1) := by decide +kernel
theorem d_Node_endRound_76 : decode b_Node_endRound 76 = .ok (.iconst 1, 1) := by decide +kernel
theorem d_Node_endRound_77 : decode b_Node_endRound 77 = .ok (.iand, 1) := by decide +kernel
theorem d_Node_endRound_78 : decode b_Node_endRound 78 = .ok (.ireturn, 1) := by decide +kernel
theorem d_Node_hear_0 : decode b_Node_hear 0 = .ok (.iload_n 2, 1) := by decide +kernel
theorem d_Node_hear_1 : decode b_Node_hear 1 = .ok (.sipush 1000, 3) := by decide +kernel
theorem d_Node_hear_4 : decode b_Node_hear 4 = .ok (.idiv, 1) := by decide +kernel
theorem d_Node_hear_5 : decode b_Node_hear 5 = .ok (.istore_n 3, 1) := by decide +kernel
theorem d_Node_hear_6 : decode b_Node_hear 6 = .ok (.iload_n 2, 1) := by decide +kernel
theorem d_Node_hear_7 : decode b_Node_hear 7 = .ok (.bipush 100, 2) := by decide +kernel
theorem d_Node_hear_9 : decode b_Node_hear 9 = .ok (.idiv, 1) := by decide +kernel
theorem d_Node_hear_10 : decode b_Node_hear 10 = .ok (.bipush 10, 2) := by decide +kernel
theorem d_Node_hear_12 : decode b_Node_hear 12 = .ok (.irem, 1) := by decide +kernel
theorem d_Node_hear_13 : decode b_Node_hear 13 = .ok (.istore 4, 2) := by decide +kernel
theorem d_Node_hear_15 : decode b_Node_hear 15 = .ok (.iload_n 2, 1) := by decide +kernel
theorem d_Node_hear_16 : decode b_Node_hear 16 = .ok (.bipush 10, 2) := by decide +kernel
theorem d_Node_hear_18 : decode b_Node_hear 18 = .ok (.idiv, 1) := by decide +kernel
theorem d_Node_hear_19 : decode b_Node_hear 19 = .ok (.bipush 10, 2) := by decide +kernel
theorem d_Node_hear_21 : decode b_Node_hear 21 = .ok (.irem, 1) := by decide +kernel
theorem d_Node_hear_22 : decode b_Node_hear 22 = .ok (.istore 5, 2) := by decide +kernel
theorem d_Node_hear_24 : decode b_Node_hear 24 = .ok (.iload_n 2, 1) := by decide +kernel
theorem d_Node_hear_25 : decode b_Node_hear 25 = .ok (.bipush 10, 2) := by decide +kernel
theorem d_Node_hear_27 : decode b_Node_hear 27 = .ok (.irem, 1) := by decide +kernel
theorem d_Node_hear_28 : decode b_Node_hear 28 = .ok (.istore 6, 2) := by decide +kernel
theorem d_Node_hear_30 : decode b_Node_hear 30 = .ok (.iload 5, 2) := by decide +kernel
theorem d_Node_hear_32 : decode b_Node_hear 32 = .ok (.ifCond .ne 11, 3) := by decide +kernel
theorem d_Node_hear_35 : decode b_Node_hear 35 = .ok (.iload 4, 2) := by decide +kernel
theorem d_Node_hear_37 : decode b_Node_hear 37 = .ok (.iload_n 1, 1) := by decide +kernel
theorem d_Node_hear_38 : decode b_Node_hear 38 = .ok (.if_icmp .eq 5, 3) := by decide +kernel
theorem d_Node_hear_41 : decode b_Node_hear 41 = .ok (.iconst 0, 1) := by decide +kernel
theorem d_Node_hear_42 : decode b_Node_hear 42 = .ok (.ireturn, 1) := by decide +kernel
theorem d_Node_hear_43 : decode b_Node_hear 43 = .ok (.aload_n 0, 1) := by decide +kernel
theorem d_Node_hear_44 : decode b_Node_hear 44 = .ok (.getfield 21, 3) := by decide +kernel
theorem d_Node_hear_47 : decode b_Node_hear 47 = .ok (.iload_n 1, 1) := by decide +kernel
theorem d_Node_hear_48 : decode b_Node_hear 48 = .ok (.iload 5, 2) := by decide +kernel
theorem d_Node_hear_50 : decode b_Node_hear 50 = .ok (.iload_n 3, 1) := by decide +kernel
theorem d_Node_hear_51 : decode b_Node_hear 51 = .ok (.iload 4, 2) := by decide +kernel
theorem d_Node_hear_53 : decode b_Node_hear 53 = .ok (.invokestatic 83, 3) := by decide +kernel
theorem d_Node_hear_56 : decode b_Node_hear 56 = .ok (.iload 6, 2) := by decide +kernel
theorem d_Node_hear_58 : decode b_Node_hear 58 = .ok (.invokevirtual 87, 3) := by decide +kernel
theorem d_Node_hear_61 : decode b_Node_hear 61 = .ok (.ifCond .ne 5, 3) := by decide +kernel
theorem d_Node_hear_64 : decode b_Node_hear 64 = .ok (.iconst 0, 1) := by decide +kernel
theorem d_Node_hear_65 : decode b_Node_hear 65 = .ok (.ireturn, 1) := by decide +kernel
theorem d_Node_hear_66 : decode b_Node_hear 66 = .ok (.iload 5, 2) := by decide +kernel
theorem d_Node_hear_68 : decode b_Node_hear 68 = .ok (.ifCond .ne 22, 3) := by decide +kernel
theorem d_Node_hear_71 : decode b_Node_hear 71 = .ok (.aload_n 0, 1) := by decide +kernel
theorem d_Node_hear_72 : decode b_Node_hear 72 = .ok (.getfield 12, 3) := by decide +kernel
theorem d_Node_hear_75 : decode b_Node_hear 75 = .ok (.iconst 1, 1) := by decide +kernel
theorem d_Node_hear_76 : decode b_Node_hear 76 = .ok (.iload_n 3, 1) := by decide +kernel
theorem d_Node_hear_77 : decode b_Node_hear 77 = .ok (.iload 4, 2) := by decide +kernel
theorem d_Node_hear_79 : decode b_Node_hear 79 = .ok (.iload 6, 2) := by decide +kernel
theorem d_Node_hear_81 : decode b_Node_hear 81 = .ok (.invokestatic 67, 3) := by decide +kernel
theorem d_Node_hear_84 : decode b_Node_hear 84 = .ok (.invokevirtual 71, 3) := by decide +kernel
theorem d_Node_hear_87 : decode b_Node_hear 87 = .ok (.goto 30, 3) := by decide +kernel
theorem d_Node_hear_90 : decode b_Node_hear 90 = .ok (.iload 5, 2) := by decide +kernel
theorem d_Node_hear_92 : decode b_Node_hear 92 = .ok (.iconst 1, 1) := by decide +kernel
theorem d_Node_hear_93 : decode b_Node_hear 93 = .ok (.if_icmp .ne 15, 3) := by decide +kernel
theorem d_Node_hear_96 : decode b_Node_hear 96 = .ok (.aload_n 0, 1) := by decide +kernel
theorem d_Node_hear_97 : decode b_Node_hear 97 = .ok (.iload_n 3, 1) := by decide +kernel
theorem d_Node_hear_98 : decode b_Node_hear 98 = .ok (.iload 4, 2) := by decide +kernel
theorem d_Node_hear_100 : decode b_Node_hear 100 = .ok (.iload 6, 2) := by decide +kernel
theorem d_Node_hear_102 : decode b_Node_hear 102 = .ok (.invokevirtual 91, 3) := by decide +kernel
theorem d_Node_hear_105 : decode b_Node_hear 105 = .ok (.goto 12, 3) := by decide +kernel
theorem d_Node_hear_108 : decode b_Node_hear 108 = .ok (.aload_n 0, 1) := by decide +kernel
theorem d_Node_hear_109 : decode b_Node_hear 109 = .ok (.iload_n 3, 1) := by decide +kernel
theorem d_Node_hear_110 : decode b_Node_hear 110 = .ok (.iload 4, 2) := by decide +kernel
theorem d_Node_hear_112 : decode b_Node_hear 112 = .ok (.iload 6, 2) := by decide +kernel
theorem d_Node_hear_114 : decode b_Node_hear 114 = .ok (.invokevirtual 95, 3) := by decide +kernel
theorem d_Node_hear_117 : decode b_Node_hear 117 = .ok (.iconst 1, 1) := by decide +kernel
theorem d_Node_hear_118 : decode b_Node_hear 118 = .ok (.ireturn, 1) := by decide +kernel
theorem d_Node_canBecomeValid_0 : decode b_Node_canBecomeValid 0 = .ok (.aload_n 0, 1) := by decide +kernel
theorem d_Node_canBecomeValid_1 : decode b_Node_canBecomeValid 1 = .ok (.getfield 33, 3) := by decide +kernel
theorem d_Node_canBecomeValid_4 : decode b_Node_canBecomeValid 4 = .ok (.iload_n 1, 1) := by decide +kernel
theorem d_Node_canBecomeValid_5 : decode b_Node_canBecomeValid 5 = .ok (.iload_n 2, 1) := by decide +kernel
theorem d_Node_canBecomeValid_6 : decode b_Node_canBecomeValid 6 = .ok (.invokestatic 83, 3) := by decide +kernel
theorem d_Node_canBecomeValid_9 : decode b_Node_canBecomeValid 9 = .ok (.iaload, 1) := by decide +kernel
theorem d_Node_canBecomeValid_10 : decode b_Node_canBecomeValid 10 = .ok (.istore_n 3, 1) := by decide +kernel
theorem d_Node_canBecomeValid_11 : decode b_Node_canBecomeValid 11 = .ok (.iload_n 3, 1) := by decide +kernel
theorem d_Node_canBecomeValid_12 : decode b_Node_canBecomeValid 12 = .ok (.iconst (-1), 1) := by decide +kernel
theorem d_Node_canBecomeValid_13 : decode b_Node_canBecomeValid 13 = .ok (.if_icmp .eq 16, 3) := by decide +kernel
theorem d_Node_canBecomeValid_16 : decode b_Node_canBecomeValid 16 = .ok (.aload_n 0, 1) := by decide +kernel
theorem d_Node_canBecomeValid_17 : decode b_Node_canBecomeValid 17 = .ok (.getfield 38, 3) := by decide +kernel
theorem d_Node_canBecomeValid_20 : decode b_Node_canBecomeValid 20 = .ok (.iload_n 1, 1) := by decide +kernel
theorem d_Node_canBecomeValid_21 : decode b_Node_canBecomeValid 21 = .ok (.aaload, 1) := by decide +kernel
theorem d_Node_canBecomeValid_22 : decode b_Node_canBecomeValid 22 = .ok (.iload_n 2, 1) := by decide +kernel
theorem d_Node_canBecomeValid_23 : decode b_Node_canBecomeValid 23 = .ok (.invokevirtual 132, 3) := by decide +kernel
theorem d_Node_canBecomeValid_26 : decode b_Node_canBecomeValid 26 = .ok (.ifCond .eq 5, 3) := by decide +kernel
theorem d_Node_canBecomeValid_29 : decode b_Node_canBecomeValid 29 = .ok (.iconst 0, 1) := by decide +kernel
theorem d_Node_canBecomeValid_30 : decode b_Node_canBecomeValid 30 = .ok (.ireturn, 1) := by decide +kernel
theorem d_Node_canBecomeValid_31 : decode b_Node_canBecomeValid 31 = .ok (.iload_n 1, 1) := by decide +kernel
theorem d_Node_canBecomeValid_32 : decode b_Node_canBecomeValid 32 = .ok (.ifCond .ne 10, 3) := by decide +kernel
theorem d_Node_canBecomeValid_35 : decode b_Node_canBecomeValid 35 = .ok (.iload_n 3, 1) := by decide +kernel
theorem d_Node_canBecomeValid_36 : decode b_Node_canBecomeValid 36 = .ok (.invokestatic 136, 3) := by decide +kernel
theorem d_Node_canBecomeValid_39 : decode b_Node_canBecomeValid 39 = .ok (.goto 21, 3) := by decide +kernel
theorem d_Node_canBecomeValid_42 : decode b_Node_canBecomeValid 42 = .ok (.aload_n 0, 1) := by decide +kernel
theorem d_Node_canBecomeValid_43 : decode b_Node_canBecomeValid 43 = .ok (.getfield 62, 3) := by decide +kernel
theorem d_Node_canBecomeValid_46 : decode b_Node_canBecomeValid 46 = .ok (.iload_n 1, 1) := by decide +kernel
theorem d_Node_canBecomeValid_47 : decode b_Node_canBecomeValid 47 = .ok (.iload_n 2, 1) := by decide +kernel
theorem d_Node_canBecomeValid_48 : decode b_Node_canBecomeValid 48 = .ok (.iload_n 3, 1) := by decide +kernel
theorem d_Node_canBecomeValid_49 : decode b_Node_canBecomeValid 49 = .ok (.aload_n 0, 1) := by decide +kernel
theorem d_Node_canBecomeValid_50 : decode b_Node_canBecomeValid 50 = .ok (.getfield 38, 3) := by decide +kernel
theorem d_Node_canBecomeValid_53 : decode b_Node_canBecomeValid 53 = .ok (.iload_n 1, 1) := by decide +kernel
theorem d_Node_canBecomeValid_54 : decode b_Node_canBecomeValid 54 = .ok (.iconst 1, 1) := by decide +kernel
theorem d_Node_canBecomeValid_55 : decode b_Node_canBecomeValid 55 = .ok (.isub, 1) := by decide +kernel
theorem d_Node_canBecomeValid_56 : decode b_Node_canBecomeValid 56 = .ok (.aaload, 1) := by decide +kernel
theorem d_Node_canBecomeValid_57 : decode b_Node_canBecomeValid 57 = .ok (.invokevirtual 139, 3) := by decide +kernel
theorem d_Node_canBecomeValid_60 : decode b_Node_canBecomeValid 60 = .ok (.ireturn, 1) := by decide +kernel
theorem d_Node_valueAfter_0 : decode b_Node_valueAfter 0 = .ok (.aload_n 0, 1) := by decide +kernel
theorem d_Node_valueAfter_1 : decode b_Node_valueAfter 1 = .ok (.getfield 38, 3) := by decide +kernel
theorem d_Node_valueAfter_4 : decode b_Node_valueAfter 4 = .ok (.iload_n 1, 1) := by decide +kernel
theorem d_Node_valueAfter_5 : decode b_Node_valueAfter 5 = .ok (.aaload, 1) := by decide +kernel
theorem d_Node_valueAfter_6 : decode b_Node_valueAfter 6 = .ok (.astore_n 2, 1) := by decide +kernel
theorem d_Node_valueAfter_7 : decode b_Node_valueAfter 7 = .ok (.iload_n 1, 1) := by decide +kernel
theorem d_Node_valueAfter_8 : decode b_Node_valueAfter 8 = .ok (.iconst 3, 1) := by decide +kernel
theorem d_Node_valueAfter_9 : decode b_Node_valueAfter 9 = .ok (.irem, 1) := by decide +kernel
theorem d_Node_valueAfter_10 : decode b_Node_valueAfter 10 = .ok (.istore_n 3, 1) := by decide +kernel
theorem d_Node_valueAfter_11 : decode b_Node_valueAfter 11 = .ok (.iload_n 3, 1) := by decide +kernel
theorem d_Node_valueAfter_12 : decode b_Node_valueAfter 12 = .ok (.ifCond .ne 12, 3) := by decide +kernel
theorem d_Node_valueAfter_15 : decode b_Node_valueAfter 15 = .ok (.aload_n 0, 1) := by decide +kernel
theorem d_Node_valueAfter_16 : decode b_Node_valueAfter 16 = .ok (.getfield 62, 3) := by decide +kernel
theorem d_Node_valueAfter_19 : decode b_Node_valueAfter 19 = .ok (.aload_n 2, 1) := by decide +kernel
theorem d_Node_valueAfter_20 : decode b_Node_valueAfter 20 = .ok (.invokevirtual 156, 3) := by decide +kernel
theorem d_Node_valueAfter_23 : decode b_Node_valueAfter 23 = .ok (.ireturn, 1) := by decide +kernel
theorem d_Node_valueAfter_24 : decode b_Node_valueAfter 24 = .ok (.iload_n 3, 1) := by decide +kernel
theorem d_Node_valueAfter_25 : decode b_Node_valueAfter 25 = .ok (.iconst 1, 1) := by decide +kernel
theorem d_Node_valueAfter_26 : decode b_Node_valueAfter 26 = .ok (.if_icmp .ne 18, 3) := by decide +kernel
theorem d_Node_valueAfter_29 : decode b_Node_valueAfter 29 = .ok (.aload_n 0, 1) := by decide +kernel
theorem d_Node_valueAfter_30 : decode b_Node_valueAfter 30 = .ok (.getfield 62, 3) := by decide +kernel
theorem d_Node_valueAfter_33 : decode b_Node_valueAfter 33 = .ok (.aload_n 2, 1) := by decide +kernel
theorem d_Node_valueAfter_34 : decode b_Node_valueAfter 34 = .ok (.aload_n 0, 1) := by decide +kernel
theorem d_Node_valueAfter_35 : decode b_Node_valueAfter 35 = .ok (.getfield 53, 3) := by decide +kernel
theorem d_Node_valueAfter_38 : decode b_Node_valueAfter 38 = .ok (.invokevirtual 160, 3) := by decide +kernel
theorem d_Node_valueAfter_41 : decode b_Node_valueAfter 41 = .ok (.goto 11, 3) := by decide +kernel
theorem d_Node_valueAfter_44 : decode b_Node_valueAfter 44 = .ok (.aload_n 0, 1) := by decide +kernel
theorem d_Node_valueAfter_45 : decode b_Node_valueAfter 45 = .ok (.iload_n 1, 1) := by decide +kernel
theorem d_Node_valueAfter_46 : decode b_Node_valueAfter 46 = .ok (.iconst 3, 1) := by decide +kernel
theorem d_Node_valueAfter_47 : decode b_Node_valueAfter 47 = .ok (.idiv, 1) := by decide +kernel
theorem d_Node_valueAfter_48 : decode b_Node_valueAfter 48 = .ok (.aload_n 2, 1) := by decide +kernel
theorem d_Node_valueAfter_49 : decode b_Node_valueAfter 49 = .ok (.invokevirtual 164, 3) := by decide +kernel
theorem d_Node_valueAfter_52 : decode b_Node_valueAfter 52 = .ok (.ireturn, 1) := by decide +kernel
theorem d_Node_hearNextOf_0 : decode b_Node_hearNextOf 0 = .ok (.aload_n 2, 1) := by decide +kernel
theorem d_Node_hearNextOf_1 : decode b_Node_hearNextOf 1 = .ok (.aload_n 0, 1) := by decide +kernel
theorem d_Node_hearNextOf_2 : decode b_Node_hearNextOf 2 = .ok (.getfield 25, 3) := by decide +kernel
theorem d_Node_hearNextOf_5 : decode b_Node_hearNextOf 5 = .ok (.iload_n 1, 1) := by decide +kernel
theorem d_Node_hearNextOf_6 : decode b_Node_hearNextOf 6 = .ok (.iaload, 1) := by decide +kernel
theorem d_Node_hearNextOf_7 : decode b_Node_hearNextOf 7 = .ok (.invokevirtual 75, 3) := by decide +kernel
theorem d_Node_hearNextOf_10 : decode b_Node_hearNextOf 10 = .ok (.istore_n 3, 1) := by decide +kernel
theorem d_Node_hearNextOf_11 : decode b_Node_hearNextOf 11 = .ok (.iload_n 3, 1) := by decide +kernel
theorem d_Node_hearNextOf_12 : decode b_Node_hearNextOf 12 = .ok (.iconst (-1), 1) := by decide +kernel
theorem d_Node_hearNextOf_13 : decode b_Node_hearNextOf 13 = .ok (.if_icmp .ne 5, 3) := by decide +kernel
theorem d_Node_hearNextOf_16 : decode b_Node_hearNextOf 16 = .ok (.iconst 0, 1) := by decide +kernel
theorem d_Node_hearNextOf_17 : decode b_Node_hearNextOf 17 = .ok (.ireturn, 1) := by decide +kernel
theorem d_Node_hearNextOf_18 : decode b_Node_hearNextOf 18 = .ok (.aload_n 0, 1) := by decide +kernel
theorem d_Node_hearNextOf_19 : decode b_Node_hearNextOf 19 = .ok (.getfield 25, 3) := by decide +kernel
theorem d_Node_hearNextOf_22 : decode b_Node_hearNextOf 22 = .ok (.iload_n 1, 1) := by decide +kernel
theorem d_Node_hearNextOf_23 : decode b_Node_hearNextOf 23 = .ok (.dup2, 1) := by decide +kernel
theorem d_Node_hearNextOf_24 : decode b_Node_hearNextOf 24 = .ok (.iaload, 1) := by decide +kernel
theorem d_Node_hearNextOf_25 : decode b_Node_hearNextOf 25 = .ok (.iconst 1, 1) := by decide +kernel
theorem d_Node_hearNextOf_26 : decode b_Node_hearNextOf 26 = .ok (.iadd, 1) := by decide +kernel
theorem d_Node_hearNextOf_27 : decode b_Node_hearNextOf 27 = .ok (.iastore, 1) := by decide +kernel
theorem d_Node_hearNextOf_28 : decode b_Node_hearNextOf 28 = .ok (.aload_n 0, 1) := by decide +kernel
theorem d_Node_hearNextOf_29 : decode b_Node_hearNextOf 29 = .ok (.iload_n 1, 1) := by decide +kernel
theorem d_Node_hearNextOf_30 : decode b_Node_hearNextOf 30 = .ok (.iload_n 3, 1) := by decide +kernel
theorem d_Node_hearNextOf_31 : decode b_Node_hearNextOf 31 = .ok (.invokevirtual 79, 3) := by decide +kernel
theorem d_Node_hearNextOf_34 : decode b_Node_hearNextOf 34 = .ok (.pop, 1) := by decide +kernel
theorem d_Node_hearNextOf_35 : decode b_Node_hearNextOf 35 = .ok (.iconst 1, 1) := by decide +kernel
theorem d_Node_hearNextOf_36 : decode b_Node_hearNextOf 36 = .ok (.ireturn, 1) := by decide +kernel
theorem d_Node_makeOneValid_0 : decode b_Node_makeOneValid 0 = .ok (.iconst 0, 1) := by decide +kernel
theorem d_Node_makeOneValid_1 : decode b_Node_makeOneValid 1 = .ok (.istore_n 1, 1) := by decide +kernel
theorem d_Node_makeOneValid_2 : decode b_Node_makeOneValid 2 = .ok (.iload_n 1, 1) := by decide +kernel
theorem d_Node_makeOneValid_3 : decode b_Node_makeOneValid 3 = .ok (.bipush 9, 2) := by decide +kernel
theorem d_Node_makeOneValid_5 : decode b_Node_makeOneValid 5 = .ok (.if_icmp .ge 59, 3) := by decide +kernel
theorem d_Node_makeOneValid_8 : decode b_Node_makeOneValid 8 = .ok (.iconst 0, 1) := by decide +kernel
theorem d_Node_makeOneValid_9 : decode b_Node_makeOneValid 9 = .ok (.istore_n 2, 1) := by decide +kernel
theorem d_Node_makeOneValid_10 : decode b_Node_makeOneValid 10 = .ok (.iload_n 2, 1) := by decide +kernel
theorem d_Node_makeOneValid_11 : decode b_Node_makeOneValid 11 = .ok (.aload_n 0, 1) := by decide +kernel
theorem d_Node_makeOneValid_12 : decode b_Node_makeOneValid 12 = .ok (.getfield 62, 3) := by decide +kernel
theorem d_Node_makeOneValid_15 : decode b_Node_makeOneValid 15 = .ok (.getfield 124, 3) := by decide +kernel
theorem d_Node_makeOneValid_18 : decode b_Node_makeOneValid 18 = .ok (.if_icmp .ge 40, 3) := by decide +kernel
theorem d_Node_makeOneValid_21 : decode b_Node_makeOneValid 21 = .ok (.aload_n 0, 1) := by decide +kernel
theorem d_Node_makeOneValid_22 : decode b_Node_makeOneValid 22 = .ok (.iload_n 1, 1) := by decide +kernel
theorem d_Node_makeOneValid_23 : decode b_Node_makeOneValid 23 = .ok (.iload_n 2, 1) := by decide +kernel
theorem d_Node_makeOneValid_24 : decode b_Node_makeOneValid 24 = .ok (.invokevirtual 126, 3) := by decide +kernel
theorem d_Node_makeOneValid_27 : decode b_Node_makeOneValid 27 = .ok (.ifCond .eq 25, 3) := by decide +kernel
theorem d_Node_makeOneValid_30 : decode b_Node_makeOneValid 30 = .ok (.aload_n 0, 1) := by decide +kernel
theorem d_Node_makeOneValid_31 : decode b_Node_makeOneValid 31 = .ok (.getfield 38, 3) := by decide +kernel
theorem d_Node_makeOneValid_34 : decode b_Node_makeOneValid 34 = .ok (.iload_n 1, 1) := by decide +kernel
theorem d_Node_makeOneValid_35 : decode b_Node_makeOneValid 35 = .ok (.aaload, 1) := by decide +kernel
theorem d_Node_makeOneValid_36 : decode b_Node_makeOneValid 36 = .ok (.iload_n 2, 1) := by decide +kernel
theorem d_Node_makeOneValid_37 : decode b_Node_makeOneValid 37 = .ok (.aload_n 0, 1) := by decide +kernel
theorem d_Node_makeOneValid_38 : decode b_Node_makeOneValid 38 = .ok (.getfield 33, 3) := by decide +kernel
theorem d_Node_makeOneValid_41 : decode b_Node_makeOneValid 41 = .ok (.iload_n 1, 1) := by decide +kernel
theorem d_Node_makeOneValid_42 : decode b_Node_makeOneValid 42 = .ok (.iload_n 2, 1) := by decide +kernel
theorem d_Node_makeOneValid_43 : decode b_Node_makeOneValid 43 = .ok (.invokestatic 83, 3) := by decide +kernel
theorem d_Node_makeOneValid_46 : decode b_Node_makeOneValid 46 = .ok (.iaload, 1) := by decide +kernel
theorem d_Node_makeOneValid_47 : decode b_Node_makeOneValid 47 = .ok (.invokevirtual 129, 3) := by decide +kernel
theorem d_Node_makeOneValid_50 : decode b_Node_makeOneValid 50 = .ok (.iconst 1, 1) := by decide +kernel
theorem d_Node_makeOneValid_51 : decode b_Node_makeOneValid 51 = .ok (.ireturn, 1) := by decide +kernel
theorem d_Node_makeOneValid_52 : decode b_Node_makeOneValid 52 = .ok (.iinc 2 1, 3) := by decide +kernel
theorem d_Node_makeOneValid_55 : decode b_Node_makeOneValid 55 = .ok (.goto (-45), 3) := by decide +kernel
theorem d_Node_makeOneValid_58 : decode b_Node_makeOneValid 58 = .ok (.iinc 1 1, 3) := by decide +kernel
theorem d_Node_makeOneValid_61 : decode b_Node_makeOneValid 61 = .ok (.goto (-59), 3) := by decide +kernel
theorem d_Node_makeOneValid_64 : decode b_Node_makeOneValid 64 = .ok (.iconst 0, 1) := by decide +kernel
theorem d_Node_makeOneValid_65 : decode b_Node_makeOneValid 65 = .ok (.ireturn, 1) := by decide +kernel
theorem d_Node_goOn_0 : decode b_Node_goOn 0 = .ok (.aload_n 0, 1) := by decide +kernel
theorem d_Node_goOn_1 : decode b_Node_goOn 1 = .ok (.getfield 50, 3) := by decide +kernel
theorem d_Node_goOn_4 : decode b_Node_goOn 4 = .ok (.invokestatic 143, 3) := by decide +kernel
theorem d_Node_goOn_7 : decode b_Node_goOn 7 = .ok (.ifCond .eq 22, 3) := by decide +kernel
theorem d_Node_goOn_10 : decode b_Node_goOn 10 = .ok (.aload_n 0, 1) := by decide +kernel
theorem d_Node_goOn_11 : decode b_Node_goOn 11 = .ok (.getfield 62, 3) := by decide +kernel
theorem d_Node_goOn_14 : decode b_Node_goOn 14 = .ok (.aload_n 0, 1) := by decide +kernel
theorem d_Node_goOn_15 : decode b_Node_goOn 15 = .ok (.getfield 38, 3) := by decide +kernel
theorem d_Node_goOn_18 : decode b_Node_goOn 18 = .ok (.aload_n 0, 1) := by decide +kernel
theorem d_Node_goOn_19 : decode b_Node_goOn 19 = .ok (.getfield 50, 3) := by decide +kernel
theorem d_Node_goOn_22 : decode b_Node_goOn 22 = .ok (.aaload, 1) := by decide +kernel
theorem d_Node_goOn_23 : decode b_Node_goOn 23 = .ok (.invokevirtual 146, 3) := by decide +kernel
theorem d_Node_goOn_26 : decode b_Node_goOn 26 = .ok (.ifCond .ne 5, 3) := by decide +kernel
theorem d_Node_goOn_29 : decode b_Node_goOn 29 = .ok (.iconst 0, 1) := by decide +kernel
theorem d_Node_goOn_30 : decode b_Node_goOn 30 = .ok (.ireturn, 1) := by decide +kernel
theorem d_Node_goOn_31 : decode b_Node_goOn 31 = .ok (.aload_n 0, 1) := by decide +kernel
theorem d_Node_goOn_32 : decode b_Node_goOn 32 = .ok (.aload_n 0, 1) := by decide +kernel
theorem d_Node_goOn_33 : decode b_Node_goOn 33 = .ok (.getfield 50, 3) := by decide +kernel
theorem d_Node_goOn_36 : decode b_Node_goOn 36 = .ok (.iconst 1, 1) := by decide +kernel
theorem d_Node_goOn_37 : decode b_Node_goOn 37 = .ok (.iadd, 1) := by decide +kernel
theorem d_Node_goOn_38 : decode b_Node_goOn 38 = .ok (.aload_n 0, 1) := by decide +kernel
theorem d_Node_goOn_39 : decode b_Node_goOn 39 = .ok (.aload_n 0, 1) := by decide +kernel
theorem d_Node_goOn_40 : decode b_Node_goOn 40 = .ok (.getfield 50, 3) := by decide +kernel
theorem d_Node_goOn_43 : decode b_Node_goOn 43 = .ok (.invokevirtual 150, 3) := by decide +kernel
theorem d_Node_goOn_46 : decode b_Node_goOn 46 = .ok (.invokevirtual 153, 3) := by decide +kernel
theorem d_Node_goOn_49 : decode b_Node_goOn 49 = .ok (.iconst 1, 1) := by decide +kernel
theorem d_Node_goOn_50 : decode b_Node_goOn 50 = .ok (.ireturn, 1) := by decide +kernel
theorem d_Node_settle_0 : decode b_Node_settle 0 = .ok (.iconst 0, 1) := by decide +kernel
theorem d_Node_settle_1 : decode b_Node_settle 1 = .ok (.istore_n 1, 1) := by decide +kernel
theorem d_Node_settle_2 : decode b_Node_settle 2 = .ok (.iload_n 1, 1) := by decide +kernel
theorem d_Node_settle_3 : decode b_Node_settle 3 = .ok (.sipush 1000, 3) := by decide +kernel
theorem d_Node_settle_6 : decode b_Node_settle 6 = .ok (.if_icmp .ge 39, 3) := by decide +kernel
theorem d_Node_settle_9 : decode b_Node_settle 9 = .ok (.aload_n 0, 1) := by decide +kernel
theorem d_Node_settle_10 : decode b_Node_settle 10 = .ok (.aload_n 0, 1) := by decide +kernel
theorem d_Node_settle_11 : decode b_Node_settle 11 = .ok (.getfield 59, 3) := by decide +kernel
theorem d_Node_settle_14 : decode b_Node_settle 14 = .ok (.aload_n 0, 1) := by decide +kernel
theorem d_Node_settle_15 : decode b_Node_settle 15 = .ok (.getfield 12, 3) := by decide +kernel
theorem d_Node_settle_18 : decode b_Node_settle 18 = .ok (.invokevirtual 113, 3) := by decide +kernel
theorem d_Node_settle_21 : decode b_Node_settle 21 = .ok (.ifCond .ne 18, 3) := by decide +kernel
theorem d_Node_settle_24 : decode b_Node_settle 24 = .ok (.aload_n 0, 1) := by decide +kernel
theorem d_Node_settle_25 : decode b_Node_settle 25 = .ok (.invokevirtual 117, 3) := by decide +kernel
theorem d_Node_settle_28 : decode b_Node_settle 28 = .ok (.ifCond .ne 11, 3) := by decide +kernel
theorem d_Node_settle_31 : decode b_Node_settle 31 = .ok (.aload_n 0, 1) := by decide +kernel
theorem d_Node_settle_32 : decode b_Node_settle 32 = .ok (.invokevirtual 121, 3) := by decide +kernel
theorem d_Node_settle_35 : decode b_Node_settle 35 = .ok (.ifCond .ne 4, 3) := by decide +kernel
theorem d_Node_settle_38 : decode b_Node_settle 38 = .ok (.return_, 1) := by decide +kernel
theorem d_Node_settle_39 : decode b_Node_settle 39 = .ok (.iinc 1 1, 3) := by decide +kernel
theorem d_Node_settle_42 : decode b_Node_settle 42 = .ok (.goto (-40), 3) := by decide +kernel
theorem d_Node_settle_45 : decode b_Node_settle 45 = .ok (.return_, 1) := by decide +kernel
