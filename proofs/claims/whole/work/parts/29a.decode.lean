theorem d_Mo_init_0 : decode b_Mo_init 0 = .ok (.aload_n 0, 1) := by decide +kernel
theorem d_Mo_init_1 : decode b_Mo_init 1 = .ok (.invokespecial 1, 3) := by decide +kernel
theorem d_Mo_init_4 : decode b_Mo_init 4 = .ok (.aload_n 0, 1) := by decide +kernel
theorem d_Mo_init_5 : decode b_Mo_init 5 = .ok (.bipush 7, 2) := by decide +kernel
theorem d_Mo_init_7 : decode b_Mo_init 7 = .ok (.newarray .boolean, 2) := by decide +kernel
theorem d_Mo_init_9 : decode b_Mo_init 9 = .ok (.putfield 7, 3) := by decide +kernel
theorem d_Mo_init_12 : decode b_Mo_init 12 = .ok (.aload_n 0, 1) := by decide +kernel
theorem d_Mo_init_13 : decode b_Mo_init 13 = .ok (.sipush 980, 3) := by decide +kernel
theorem d_Mo_init_16 : decode b_Mo_init 16 = .ok (.newarray .int, 2) := by decide +kernel
theorem d_Mo_init_18 : decode b_Mo_init 18 = .ok (.putfield 13, 3) := by decide +kernel
theorem d_Mo_init_21 : decode b_Mo_init 21 = .ok (.aload_n 0, 1) := by decide +kernel
theorem d_Mo_init_22 : decode b_Mo_init 22 = .ok (.bipush 7, 2) := by decide +kernel
theorem d_Mo_init_24 : decode b_Mo_init 24 = .ok (.newarray .int, 2) := by decide +kernel
theorem d_Mo_init_26 : decode b_Mo_init 26 = .ok (.putfield 17, 3) := by decide +kernel
theorem d_Mo_init_29 : decode b_Mo_init 29 = .ok (.aload_n 0, 1) := by decide +kernel
theorem d_Mo_init_30 : decode b_Mo_init 30 = .ok (.bipush 49, 2) := by decide +kernel
theorem d_Mo_init_32 : decode b_Mo_init 32 = .ok (.newarray .int, 2) := by decide +kernel
theorem d_Mo_init_34 : decode b_Mo_init 34 = .ok (.putfield 20, 3) := by decide +kernel
theorem d_Mo_init_37 : decode b_Mo_init 37 = .ok (.aload_n 0, 1) := by decide +kernel
theorem d_Mo_init_38 : decode b_Mo_init 38 = .ok (.sipush 441, 3) := by decide +kernel
theorem d_Mo_init_41 : decode b_Mo_init 41 = .ok (.newarray .boolean, 2) := by decide +kernel
theorem d_Mo_init_43 : decode b_Mo_init 43 = .ok (.putfield 23, 3) := by decide +kernel
theorem d_Mo_init_46 : decode b_Mo_init 46 = .ok (.aload_n 0, 1) := by decide +kernel
theorem d_Mo_init_47 : decode b_Mo_init 47 = .ok (.sipush 441, 3) := by decide +kernel
theorem d_Mo_init_50 : decode b_Mo_init 50 = .ok (.newarray .boolean, 2) := by decide +kernel
theorem d_Mo_init_52 : decode b_Mo_init 52 = .ok (.putfield 26, 3) := by decide +kernel
theorem d_Mo_init_55 : decode b_Mo_init 55 = .ok (.aload_n 0, 1) := by decide +kernel
theorem d_Mo_init_56 : decode b_Mo_init 56 = .ok (.sipush 441, 3) := by decide +kernel
theorem d_Mo_init_59 : decode b_Mo_init 59 = .ok (.newarray .int, 2) := by decide +kernel
theorem d_Mo_init_61 : decode b_Mo_init 61 = .ok (.putfield 29, 3) := by decide +kernel
theorem d_Mo_init_64 : decode b_Mo_init 64 = .ok (.aload_n 0, 1) := by decide +kernel
theorem d_Mo_init_65 : decode b_Mo_init 65 = .ok (.sipush 441, 3) := by decide +kernel
theorem d_Mo_init_68 : decode b_Mo_init 68 = .ok (.newarray .boolean, 2) := by decide +kernel
theorem d_Mo_init_70 : decode b_Mo_init 70 = .ok (.putfield 32, 3) := by decide +kernel
theorem d_Mo_init_73 : decode b_Mo_init 73 = .ok (.aload_n 0, 1) := by decide +kernel
theorem d_Mo_init_74 : decode b_Mo_init 74 = .ok (.sipush 441, 3) := by decide +kernel
theorem d_Mo_init_77 : decode b_Mo_init 77 = .ok (.newarray .int, 2) := by decide +kernel
theorem d_Mo_init_79 : decode b_Mo_init 79 = .ok (.putfield 35, 3) := by decide +kernel
theorem d_Mo_init_82 : decode b_Mo_init 82 = .ok (.aload_n 0, 1) := by decide +kernel
theorem d_Mo_init_83 : decode b_Mo_init 83 = .ok (.bipush 63, 2) := by decide +kernel
theorem d_Mo_init_85 : decode b_Mo_init 85 = .ok (.newarray .int, 2) := by decide +kernel
theorem d_Mo_init_87 : decode b_Mo_init 87 = .ok (.putfield 38, 3) := by decide +kernel
theorem d_Mo_init_90 : decode b_Mo_init 90 = .ok (.aload_n 0, 1) := by decide +kernel
theorem d_Mo_init_91 : decode b_Mo_init 91 = .ok (.sipush 6174, 3) := by decide +kernel
theorem d_Mo_init_94 : decode b_Mo_init 94 = .ok (.newarray .int, 2) := by decide +kernel
theorem d_Mo_init_96 : decode b_Mo_init 96 = .ok (.putfield 41, 3) := by decide +kernel
theorem d_Mo_init_99 : decode b_Mo_init 99 = .ok (.aload_n 0, 1) := by decide +kernel
theorem d_Mo_init_100 : decode b_Mo_init 100 = .ok (.bipush 7, 2) := by decide +kernel
theorem d_Mo_init_102 : decode b_Mo_init 102 = .ok (.newarray .int, 2) := by decide +kernel
theorem d_Mo_init_104 : decode b_Mo_init 104 = .ok (.putfield 44, 3) := by decide +kernel
theorem d_Mo_init_107 : decode b_Mo_init 107 = .ok (.aload_n 0, 1) := by decide +kernel
theorem d_Mo_init_108 : decode b_Mo_init 108 = .ok (.bipush 7, 2) := by decide +kernel
theorem d_Mo_init_110 : decode b_Mo_init 110 = .ok (.newarray .int, 2) := by decide +kernel
theorem d_Mo_init_112 : decode b_Mo_init 112 = .ok (.putfield 47, 3) := by decide +kernel
theorem d_Mo_init_115 : decode b_Mo_init 115 = .ok (.aload_n 0, 1) := by decide +kernel
theorem d_Mo_init_116 : decode b_Mo_init 116 = .ok (.bipush 7, 2) := by decide +kernel
theorem d_Mo_init_118 : decode b_Mo_init 118 = .ok (.newarray .int, 2) := by decide +kernel
theorem d_Mo_init_120 : decode b_Mo_init 120 = .ok (.putfield 50, 3) := by decide +kernel
theorem d_Mo_init_123 : decode b_Mo_init 123 = .ok (.aload_n 0, 1) := by decide +kernel
theorem d_Mo_init_124 : decode b_Mo_init 124 = .ok (.bipush 7, 2) := by decide +kernel
theorem d_Mo_init_126 : decode b_Mo_init 126 = .ok (.newarray .int, 2) := by decide +kernel
theorem d_Mo_init_128 : decode b_Mo_init 128 = .ok (.putfield 53, 3) := by decide +kernel
theorem d_Mo_init_131 : decode b_Mo_init 131 = .ok (.aload_n 0, 1) := by decide +kernel
theorem d_Mo_init_132 : decode b_Mo_init 132 = .ok (.iconst 4, 1) := by decide +kernel
theorem d_Mo_init_133 : decode b_Mo_init 133 = .ok (.newarray .int, 2) := by decide +kernel
theorem d_Mo_init_135 : decode b_Mo_init 135 = .ok (.putfield 56, 3) := by decide +kernel
theorem d_Mo_init_138 : decode b_Mo_init 138 = .ok (.aload_n 0, 1) := by decide +kernel
theorem d_Mo_init_139 : decode b_Mo_init 139 = .ok (.iload_n 1, 1) := by decide +kernel
theorem d_Mo_init_140 : decode b_Mo_init 140 = .ok (.iconst 4, 1) := by decide +kernel
theorem d_Mo_init_141 : decode b_Mo_init 141 = .ok (.if_icmp .ge 7, 3) := by decide +kernel
theorem d_Mo_init_144 : decode b_Mo_init 144 = .ok (.iconst 4, 1) := by decide +kernel
theorem d_Mo_init_145 : decode b_Mo_init 145 = .ok (.goto 15, 3) := by decide +kernel
theorem d_Mo_init_148 : decode b_Mo_init 148 = .ok (.iload_n 1, 1) := by decide +kernel
theorem d_Mo_init_149 : decode b_Mo_init 149 = .ok (.bipush 7, 2) := by decide +kernel
theorem d_Mo_init_151 : decode b_Mo_init 151 = .ok (.if_icmp .le 8, 3) := by decide +kernel
theorem d_Mo_init_154 : decode b_Mo_init 154 = .ok (.bipush 7, 2) := by decide +kernel
theorem d_Mo_init_156 : decode b_Mo_init 156 = .ok (.goto 4, 3) := by decide +kernel
theorem d_Mo_init_159 : decode b_Mo_init 159 = .ok (.iload_n 1, 1) := by decide +kernel
theorem d_Mo_init_160 : decode b_Mo_init 160 = .ok (.putfield 59, 3) := by decide +kernel
theorem d_Mo_init_163 : decode b_Mo_init 163 = .ok (.aload_n 0, 1) := by decide +kernel
theorem d_Mo_init_164 : decode b_Mo_init 164 = .ok (.aload_n 0, 1) := by decide +kernel
theorem d_Mo_init_165 : decode b_Mo_init 165 = .ok (.getfield 59, 3) := by decide +kernel
theorem d_Mo_init_168 : decode b_Mo_init 168 = .ok (.iconst 1, 1) := by decide +kernel
theorem d_Mo_init_169 : decode b_Mo_init 169 = .ok (.isub, 1) := by decide +kernel
theorem d_Mo_init_170 : decode b_Mo_init 170 = .ok (.iconst 3, 1) := by decide +kernel
theorem d_Mo_init_171 : decode b_Mo_init 171 = .ok (.idiv, 1) := by decide +kernel
theorem d_Mo_init_172 : decode b_Mo_init 172 = .ok (.putfield 63, 3) := by decide +kernel
theorem d_Mo_init_175 : decode b_Mo_init 175 = .ok (.iconst 0, 1) := by decide +kernel
theorem d_Mo_init_176 : decode b_Mo_init 176 = .ok (.istore_n 2, 1) := by decide +kernel
theorem d_Mo_init_177 : decode b_Mo_init 177 = .ok (.iload_n 2, 1) := by decide +kernel
theorem d_Mo_init_178 : decode b_Mo_init 178 = .ok (.bipush 7, 2) := by decide +kernel
theorem d_Mo_init_180 : decode b_Mo_init 180 = .ok (.if_icmp .ge 23, 3) := by decide +kernel
theorem d_Mo_init_183 : decode b_Mo_init 183 = .ok (.aload_n 0, 1) := by decide +kernel
theorem d_Mo_init_184 : decode b_Mo_init 184 = .ok (.getfield 44, 3) := by decide +kernel
theorem d_Mo_init_187 : decode b_Mo_init 187 = .ok (.iload_n 2, 1) := by decide +kernel
theorem d_Mo_init_188 : decode b_Mo_init 188 = .ok (.iconst (-1), 1) := by decide +kernel
theorem d_Mo_init_189 : decode b_Mo_init 189 = .ok (.iastore, 1) := by decide +kernel
theorem d_Mo_init_190 : decode b_Mo_init 190 = .ok (.aload_n 0, 1) := by decide +kernel
theorem d_Mo_init_191 : decode b_Mo_init 191 = .ok (.getfield 50, 3) := by decide +kernel
theorem d_Mo_init_194 : decode b_Mo_init 194 = .ok (.iload_n 2, 1) := by decide +kernel
theorem d_Mo_init_195 : decode b_Mo_init 195 = .ok (.iconst (-1), 1) := by decide +kernel
theorem d_Mo_init_196 : decode b_Mo_init 196 = .ok (.iastore, 1) := by decide +kernel
theorem d_Mo_init_197 : decode b_Mo_init 197 = .ok (.iinc 2 1, 3) := by decide +kernel
theorem d_Mo_init_200 : decode b_Mo_init 200 = .ok (.goto (-23), 3) := by decide +kernel
theorem d_Mo_init_203 : decode b_Mo_init 203 = .ok (.return_, 1) := by decide +kernel
theorem d_Mo_isNode_0 : decode b_Mo_isNode 0 = .ok (.iload_n 1, 1) := by decide +kernel
theorem d_Mo_isNode_1 : decode b_Mo_isNode 1 = .ok (.ifCond .lt 15, 3) := by decide +kernel
theorem d_Mo_isNode_4 : decode b_Mo_isNode 4 = .ok (.iload_n 1, 1) := by decide +kernel
theorem d_Mo_isNode_5 : decode b_Mo_isNode 5 = .ok (.aload_n 0, 1) := by decide +kernel
theorem d_Mo_isNode_6 : decode b_Mo_isNode 6 = .ok (.getfield 59, 3) := by decide +kernel
theorem d_Mo_isNode_9 : decode b_Mo_isNode 9 = .ok (.if_icmp .ge 7, 3) := by decide +kernel
theorem d_Mo_isNode_12 : decode b_Mo_isNode 12 = .ok (.iconst 1, 1) := by decide +kernel
theorem d_Mo_isNode_13 : decode b_Mo_isNode 13 = .ok (.goto 4, 3) := by decide +kernel
theorem d_Mo_isNode_16 : decode b_Mo_isNode 16 = .ok (.iconst 0, 1) := by decide +kernel
theorem d_Mo_isNode_17 : decode b_Mo_isNode 17 = .ok (.ireturn, 1) := by decide +kernel
theorem d_Mo_at_0 : decode b_Mo_at 0 = .ok (.bipush 63, 2) := by decide +kernel
theorem d_Mo_at_2 : decode b_Mo_at 2 = .ok (.iload_n 0, 1) := by decide +kernel
theorem d_Mo_at_3 : decode b_Mo_at 3 = .ok (.imul, 1) := by decide +kernel
theorem d_Mo_at_4 : decode b_Mo_at 4 = .ok (.bipush 7, 2) := by decide +kernel
theorem d_Mo_at_6 : decode b_Mo_at 6 = .ok (.iload_n 1, 1) := by decide +kernel
theorem d_Mo_at_7 : decode b_Mo_at 7 = .ok (.imul, 1) := by decide +kernel
theorem d_Mo_at_8 : decode b_Mo_at 8 = .ok (.iadd, 1) := by decide +kernel
theorem d_Mo_at_9 : decode b_Mo_at 9 = .ok (.iload_n 2, 1) := by decide +kernel
theorem d_Mo_at_10 : decode b_Mo_at 10 = .ok (.iadd, 1) := by decide +kernel
theorem d_Mo_at_11 : decode b_Mo_at 11 = .ok (.ireturn, 1) := by decide +kernel
theorem d_Mo_count_0 : decode b_Mo_count 0 = .ok (.iconst 0, 1) := by decide +kernel
theorem d_Mo_count_1 : decode b_Mo_count 1 = .ok (.istore 6, 2) := by decide +kernel
theorem d_Mo_count_3 : decode b_Mo_count 3 = .ok (.iconst 0, 1) := by decide +kernel
theorem d_Mo_count_4 : decode b_Mo_count 4 = .ok (.istore 7, 2) := by decide +kernel
theorem d_Mo_count_6 : decode b_Mo_count 6 = .ok (.iload 7, 2) := by decide +kernel
theorem d_Mo_count_8 : decode b_Mo_count 8 = .ok (.aload_n 0, 1) := by decide +kernel
theorem d_Mo_count_9 : decode b_Mo_count 9 = .ok (.getfield 59, 3) := by decide +kernel
theorem d_Mo_count_12 : decode b_Mo_count 12 = .ok (.if_icmp .ge 57, 3) := by decide +kernel
theorem d_Mo_count_15 : decode b_Mo_count 15 = .ok (.aload_n 0, 1) := by decide +kernel
theorem d_Mo_count_16 : decode b_Mo_count 16 = .ok (.getfield 41, 3) := by decide +kernel
theorem d_Mo_count_19 : decode b_Mo_count 19 = .ok (.bipush 126, 2) := by decide +kernel
theorem d_Mo_count_21 : decode b_Mo_count 21 = .ok (.bipush 7, 2) := by decide +kernel
theorem d_Mo_count_23 : decode b_Mo_count 23 = .ok (.iload_n 1, 1) := by decide +kernel
theorem d_Mo_count_24 : decode b_Mo_count 24 = .ok (.imul, 1) := by decide +kernel
theorem d_Mo_count_25 : decode b_Mo_count 25 = .ok (.iload 7, 2) := by decide +kernel
theorem d_Mo_count_27 : decode b_Mo_count 27 = .ok (.iadd, 1) := by decide +kernel
theorem d_Mo_count_28 : decode b_Mo_count 28 = .ok (.imul, 1) := by decide +kernel
theorem d_Mo_count_29 : decode b_Mo_count 29 = .ok (.bipush 63, 2) := by decide +kernel
theorem d_Mo_count_31 : decode b_Mo_count 31 = .ok (.iload_n 2, 1) := by decide +kernel
theorem d_Mo_count_32 : decode b_Mo_count 32 = .ok (.iconst 1, 1) := by decide +kernel
theorem d_Mo_count_33 : decode b_Mo_count 33 = .ok (.isub, 1) := by decide +kernel
theorem d_Mo_count_34 : decode b_Mo_count 34 = .ok (.imul, 1) := by decide +kernel
theorem d_Mo_count_35 : decode b_Mo_count 35 = .ok (.iadd, 1) := by decide +kernel
theorem d_Mo_count_36 : decode b_Mo_count 36 = .ok (.bipush 7, 2) := by decide +kernel
theorem d_Mo_count_38 : decode b_Mo_count 38 = .ok (.iload_n 3, 1) := by decide +kernel
theorem d_Mo_count_39 : decode b_Mo_count 39 = .ok (.imul, 1) := by decide +kernel
theorem d_Mo_count_40 : decode b_Mo_count 40 = .ok (.iadd, 1) := by decide +kernel
theorem d_Mo_count_41 : decode b_Mo_count 41 = .ok (.iload 4, 2) := by decide +kernel
theorem d_Mo_count_43 : decode b_Mo_count 43 = .ok (.iadd, 1) := by decide +kernel
theorem d_Mo_count_44 : decode b_Mo_count 44 = .ok (.iaload, 1) := by decide +kernel
theorem d_Mo_count_45 : decode b_Mo_count 45 = .ok (.iload 5, 2) := by decide +kernel
theorem d_Mo_count_47 : decode b_Mo_count 47 = .ok (.iconst 1, 1) := by decide +kernel
theorem d_Mo_count_48 : decode b_Mo_count 48 = .ok (.iadd, 1) := by decide +kernel
theorem d_Mo_count_49 : decode b_Mo_count 49 = .ok (.if_icmp .ne 10, 3) := by decide +kernel
theorem d_Mo_count_52 : decode b_Mo_count 52 = .ok (.iload 6, 2) := by decide +kernel
theorem d_Mo_count_54 : decode b_Mo_count 54 = .ok (.iconst 1, 1) := by decide +kernel
theorem d_Mo_count_55 : decode b_Mo_count 55 = .ok (.iadd, 1) := by decide +kernel
theorem d_Mo_count_56 : decode b_Mo_count 56 = .ok (.goto 5, 3) := by decide +kernel
theorem d_Mo_count_59 : decode b_Mo_count 59 = .ok (.iload 6, 2) := by decide +kernel
theorem d_Mo_count_61 : decode b_Mo_count 61 = .ok (.istore 6, 2) := by decide +kernel
theorem d_Mo_count_63 : decode b_Mo_count 63 = .ok (.iinc 7 1, 3) := by decide +kernel
theorem d_Mo_count_66 : decode b_Mo_count 66 = .ok (.goto (-60), 3) := by decide +kernel
theorem d_Mo_count_69 : decode b_Mo_count 69 = .ok (.iload 6, 2) := by decide +kernel
theorem d_Mo_count_71 : decode b_Mo_count 71 = .ok (.ireturn, 1) := by decide +kernel
theorem d_Mo_firmValue_0 : decode b_Mo_firmValue 0 = .ok (.aload_n 0, 1) := by decide +kernel
theorem d_Mo_firmValue_1 : decode b_Mo_firmValue 1 = .ok (.getfield 56, 3) := by decide +kernel
theorem d_Mo_firmValue_4 : decode b_Mo_firmValue 4 = .ok (.iconst 2, 1) := by decide +kernel
theorem d_Mo_firmValue_5 : decode b_Mo_firmValue 5 = .ok (.iaload, 1) := by decide +kernel
theorem d_Mo_firmValue_6 : decode b_Mo_firmValue 6 = .ok (.iload_n 1, 1) := by decide +kernel
theorem d_Mo_firmValue_7 : decode b_Mo_firmValue 7 = .ok (.if_icmp .lt 7, 3) := by decide +kernel
theorem d_Mo_firmValue_10 : decode b_Mo_firmValue 10 = .ok (.iconst 0, 1) := by decide +kernel
theorem d_Mo_firmValue_11 : decode b_Mo_firmValue 11 = .ok (.goto 18, 3) := by decide +kernel
theorem d_Mo_firmValue_14 : decode b_Mo_firmValue 14 = .ok (.aload_n 0, 1) := by decide +kernel
theorem d_Mo_firmValue_15 : decode b_Mo_firmValue 15 = .ok (.getfield 56, 3) := by decide +kernel
theorem d_Mo_firmValue_18 : decode b_Mo_firmValue 18 = .ok (.iconst 3, 1) := by decide +kernel
theorem d_Mo_firmValue_19 : decode b_Mo_firmValue 19 = .ok (.iaload, 1) := by decide +kernel
theorem d_Mo_firmValue_20 : decode b_Mo_firmValue 20 = .ok (.iload_n 1, 1) := by decide +kernel
theorem d_Mo_firmValue_21 : decode b_Mo_firmValue 21 = .ok (.if_icmp .lt 7, 3) := by decide +kernel
theorem d_Mo_firmValue_24 : decode b_Mo_firmValue 24 = .ok (.iconst 1, 1) := by decide +kernel
theorem d_Mo_firmValue_25 : decode b_Mo_firmValue 25 = .ok (.goto 4, 3) := by decide +kernel
theorem d_Mo_firmValue_28 : decode b_Mo_firmValue 28 = .ok (.iconst (-1), 1) := by decide +kernel
theorem d_Mo_firmValue_29 : decode b_Mo_firmValue 29 = .ok (.ireturn, 1) := by decide +kernel
theorem d_Mo_isSlot_0 : decode b_Mo_isSlot 0 = .ok (.iload_n 0, 1) := by decide +kernel
theorem d_Mo_isSlot_1 : decode b_Mo_isSlot 1 = .ok (.ifCond .lt 13, 3) := by decide +kernel
theorem d_Mo_isSlot_4 : decode b_Mo_isSlot 4 = .ok (.iload_n 0, 1) := by decide +kernel
theorem d_Mo_isSlot_5 : decode b_Mo_isSlot 5 = .ok (.bipush 8, 2) := by decide +kernel
theorem d_Mo_isSlot_7 : decode b_Mo_isSlot 7 = .ok (.if_icmp .gt 7, 3) := by decide +kernel
theorem d_Mo_isSlot_10 : decode b_Mo_isSlot 10 = .ok (.iconst 1, 1) := by decide +kernel
theorem d_Mo_isSlot_11 : decode b_Mo_isSlot 11 = .ok (.goto 4, 3) := by decide +kernel
theorem d_Mo_isSlot_14 : decode b_Mo_isSlot 14 = .ok (.iconst 0, 1) := by decide +kernel
theorem d_Mo_isSlot_15 : decode b_Mo_isSlot 15 = .ok (.ireturn, 1) := by decide +kernel
theorem d_Mo_well_0 : decode b_Mo_well 0 = .ok (.aload_n 0, 1) := by decide +kernel
theorem d_Mo_well_1 : decode b_Mo_well 1 = .ok (.iload_n 1, 1) := by decide +kernel
theorem d_Mo_well_2 : decode b_Mo_well 2 = .ok (.invokevirtual 66, 3) := by decide +kernel
theorem d_Mo_well_5 : decode b_Mo_well 5 = .ok (.ifCond .eq 16, 3) := by decide +kernel
theorem d_Mo_well_8 : decode b_Mo_well 8 = .ok (.aload_n 0, 1) := by decide +kernel
theorem d_Mo_well_9 : decode b_Mo_well 9 = .ok (.getfield 7, 3) := by decide +kernel
theorem d_Mo_well_12 : decode b_Mo_well 12 = .ok (.iload_n 1, 1) := by decide +kernel
theorem d_Mo_well_13 : decode b_Mo_well 13 = .ok (.baload, 1) := by decide +kernel
theorem d_Mo_well_14 : decode b_Mo_well 14 = .ok (.ifCond .ne 7, 3) := by decide +kernel
theorem d_Mo_well_17 : decode b_Mo_well 17 = .ok (.iconst 1, 1) := by decide +kernel
theorem d_Mo_well_18 : decode b_Mo_well 18 = .ok (.goto 4, 3) := by decide +kernel
theorem d_Mo_well_21 : decode b_Mo_well 21 = .ok (.iconst 0, 1) := by decide +kernel
theorem d_Mo_well_22 : decode b_Mo_well 22 = .ok (.ireturn, 1) := by decide +kernel
theorem d_Mo_send_0 : decode b_Mo_send 0 = .ok (.aload_n 0, 1) := by decide +kernel
theorem d_Mo_send_1 : decode b_Mo_send 1 = .ok (.getfield 13, 3) := by decide +kernel
theorem d_Mo_send_4 : decode b_Mo_send 4 = .ok (.sipush 140, 3) := by decide +kernel
theorem d_Mo_send_7 : decode b_Mo_send 7 = .ok (.iload_n 1, 1) := by decide +kernel
theorem d_Mo_send_8 : decode b_Mo_send 8 = .ok (.imul, 1) := by decide +kernel
theorem d_Mo_send_9 : decode b_Mo_send 9 = .ok (.aload_n 0, 1) := by decide +kernel
theorem d_Mo_send_10 : decode b_Mo_send 10 = .ok (.getfield 17, 3) := by decide +kernel
theorem d_Mo_send_13 : decode b_Mo_send 13 = .ok (.iload_n 1, 1) := by decide +kernel
theorem d_Mo_send_14 : decode b_Mo_send 14 = .ok (.iaload, 1) := by decide +kernel
theorem d_Mo_send_15 : decode b_Mo_send 15 = .ok (.iadd, 1) := by decide +kernel
theorem d_Mo_send_16 : decode b_Mo_send 16 = .ok (.sipush 1000, 3) := by decide +kernel
theorem d_Mo_send_19 : decode b_Mo_send 19 = .ok (.iload_n 3, 1) := by decide +kernel
theorem d_Mo_send_20 : decode b_Mo_send 20 = .ok (.imul, 1) := by decide +kernel
theorem d_Mo_send_21 : decode b_Mo_send 21 = .ok (.bipush 100, 2) := by decide +kernel
theorem d_Mo_send_23 : decode b_Mo_send 23 = .ok (.iload 4, 2) := by decide +kernel
theorem d_Mo_send_25 : decode b_Mo_send 25 = .ok (.imul, 1) := by decide +kernel
theorem d_Mo_send_26 : decode b_Mo_send 26 = .ok (.iadd, 1) := by decide +kernel
theorem d_Mo_send_27 : decode b_Mo_send 27 = .ok (.bipush 10, 2) := by decide +kernel
theorem d_Mo_send_29 : decode b_Mo_send 29 = .ok (.iload_n 2, 1) := by decide +kernel
theorem d_Mo_send_30 : decode b_Mo_send 30 = .ok (.imul, 1) := by decide +kernel
theorem d_Mo_send_31 : decode b_Mo_send 31 = .ok (.iadd, 1) := by decide +kernel
theorem d_Mo_send_32 : decode b_Mo_send 32 = .ok (.iload 5, 2) := by decide +kernel
theorem d_Mo_send_34 : decode b_Mo_send 34 = .ok (.iadd, 1) := by decide +kernel
theorem d_Mo_send_35 : decode b_Mo_send 35 = .ok (.iastore, 1) := by decide +kernel
theorem d_Mo_send_36 : decode b_Mo_send 36 = .ok (.aload_n 0, 1) := by decide +kernel
theorem d_Mo_send_37 : decode b_Mo_send 37 = .ok (.getfield 17, 3) := by decide +kernel
theorem d_Mo_send_40 : decode b_Mo_send 40 = .ok (.iload_n 1, 1) := by decide +kernel
theorem d_Mo_send_41 : decode b_Mo_send 41 = .ok (.aload_n 0, 1) := by decide +kernel
theorem d_Mo_send_42 : decode b_Mo_send 42 = .ok (.getfield 17, 3) := by decide +kernel
theorem d_Mo_send_45 : decode b_Mo_send 45 = .ok (.iload_n 1, 1) := by decide +kernel
theorem d_Mo_send_46 : decode b_Mo_send 46 = .ok (.iaload, 1) := by decide +kernel
theorem d_Mo_send_47 : decode b_Mo_send 47 = .ok (.iconst 1, 1) := by decide +kernel
theorem d_Mo_send_48 : decode b_Mo_send 48 = .ok (.iadd, 1) := by decide +kernel
theorem d_Mo_send_49 : decode b_Mo_send 49 = .ok (.iastore, 1) := by decide +kernel
theorem d_Mo_send_50 : decode b_Mo_send 50 = .ok (.iload_n 2, 1) := by decide +kernel
theorem d_Mo_send_51 : decode b_Mo_send 51 = .ok (.iconst 2, 1) := by decide +kernel
theorem d_Mo_send_52 : decode b_Mo_send 52 = .ok (.if_icmp .ne 16, 3) := by decide +kernel
theorem d_Mo_send_55 : decode b_Mo_send 55 = .ok (.aload_n 0, 1) := by decide +kernel
theorem d_Mo_send_56 : decode b_Mo_send 56 = .ok (.getfield 26, 3) := by decide +kernel
theorem d_Mo_send_59 : decode b_Mo_send 59 = .ok (.iload_n 1, 1) := by decide +kernel
theorem d_Mo_send_60 : decode b_Mo_send 60 = .ok (.iload_n 3, 1) := by decide +kernel
theorem d_Mo_send_61 : decode b_Mo_send 61 = .ok (.iload 4, 2) := by decide +kernel
theorem d_Mo_send_63 : decode b_Mo_send 63 = .ok (.invokestatic 70, 3) := by decide +kernel
theorem d_Mo_send_66 : decode b_Mo_send 66 = .ok (.iconst 1, 1) := by decide +kernel
theorem d_Mo_send_67 : decode b_Mo_send 67 = .ok (.bastore, 1) := by decide +kernel
theorem d_Mo_send_68 : decode b_Mo_send 68 = .ok (.return_, 1) := by decide +kernel
theorem d_Mo_setDoes_0 : decode b_Mo_setDoes 0 = .ok (.iconst 0, 1) := by decide +kernel
theorem d_Mo_setDoes_1 : decode b_Mo_setDoes 1 = .ok (.istore 5, 2) := by decide +kernel
theorem d_Mo_setDoes_3 : decode b_Mo_setDoes 3 = .ok (.iload 5, 2) := by decide +kernel
theorem d_Mo_setDoes_5 : decode b_Mo_setDoes 5 = .ok (.iconst 4, 1) := by decide +kernel
theorem d_Mo_setDoes_6 : decode b_Mo_setDoes 6 = .ok (.if_icmp .ge 17, 3) := by decide +kernel
theorem d_Mo_setDoes_9 : decode b_Mo_setDoes 9 = .ok (.aload_n 0, 1) := by decide +kernel
theorem d_Mo_setDoes_10 : decode b_Mo_setDoes 10 = .ok (.getfield 56, 3) := by decide +kernel
theorem d_Mo_setDoes_13 : decode b_Mo_setDoes 13 = .ok (.iload 5, 2) := by decide +kernel
theorem d_Mo_setDoes_15 : decode b_Mo_setDoes 15 = .ok (.iconst 0, 1) := by decide +kernel
theorem d_Mo_setDoes_16 : decode b_Mo_setDoes 16 = .ok (.iastore, 1) := by decide +kernel
theorem d_Mo_setDoes_17 : decode b_Mo_setDoes 17 = .ok (.iinc 5 1, 3) := by decide +kernel
theorem d_Mo_setDoes_20 : decode b_Mo_setDoes 20 = .ok (.goto (-17), 3) := by decide +kernel
theorem d_Mo_setDoes_23 : decode b_Mo_setDoes 23 = .ok (.iconst 0, 1) := by decide +kernel
theorem d_Mo_setDoes_24 : decode b_Mo_setDoes 24 = .ok (.istore 5, 2) := by decide +kernel
theorem d_Mo_setDoes_26 : decode b_Mo_setDoes 26 = .ok (.iconst 0, 1) := by decide +kernel
theorem d_Mo_setDoes_27 : decode b_Mo_setDoes 27 = .ok (.istore 6, 2) := by decide +kernel
theorem d_Mo_setDoes_29 : decode b_Mo_setDoes 29 = .ok (.iload 6, 2) := by decide +kernel
theorem d_Mo_setDoes_31 : decode b_Mo_setDoes 31 = .ok (.aload_n 0, 1) := by decide +kernel
theorem d_Mo_setDoes_32 : decode b_Mo_setDoes 32 = .ok (.getfield 38, 3) := by decide +kernel
theorem d_Mo_setDoes_35 : decode b_Mo_setDoes 35 = .ok (.bipush 9, 2) := by decide +kernel
theorem d_Mo_setDoes_37 : decode b_Mo_setDoes 37 = .ok (.iload_n 1, 1) := by decide +kernel
theorem d_Mo_setDoes_38 : decode b_Mo_setDoes 38 = .ok (.imul, 1) := by decide +kernel
theorem d_Mo_setDoes_39 : decode b_Mo_setDoes 39 = .ok (.iload_n 2, 1) := by decide +kernel
theorem d_Mo_setDoes_40 : decode b_Mo_setDoes 40 = .ok (.iadd, 1) := by decide +kernel
theorem d_Mo_setDoes_41 : decode b_Mo_setDoes 41 = .ok (.iaload, 1) := by decide +kernel
theorem d_Mo_setDoes_42 : decode b_Mo_setDoes 42 = .ok (.if_icmp .ge 67, 3) := by decide +kernel
theorem d_Mo_setDoes_45 : decode b_Mo_setDoes 45 = .ok (.iload_n 3, 1) := by decide +kernel
theorem d_Mo_setDoes_46 : decode b_Mo_setDoes 46 = .ok (.iload 6, 2) := by decide +kernel
theorem d_Mo_setDoes_48 : decode b_Mo_setDoes 48 = .ok (.ishr, 1) := by decide +kernel
theorem d_Mo_setDoes_49 : decode b_Mo_setDoes 49 = .ok (.iconst 1, 1) := by decide +kernel
theorem d_Mo_setDoes_50 : decode b_Mo_setDoes 50 = .ok (.iand, 1) := by decide +kernel
theorem d_Mo_setDoes_51 : decode b_Mo_setDoes 51 = .ok (.iconst 1, 1) := by decide +kernel
theorem d_Mo_setDoes_52 : decode b_Mo_setDoes 52 = .ok (.if_icmp .ne 51, 3) := by decide +kernel
theorem d_Mo_setDoes_55 : decode b_Mo_setDoes 55 = .ok (.aload_n 0, 1) := by decide +kernel
theorem d_Mo_setDoes_56 : decode b_Mo_setDoes 56 = .ok (.getfield 29, 3) := by decide +kernel
theorem d_Mo_setDoes_59 : decode b_Mo_setDoes 59 = .ok (.iload_n 1, 1) := by decide +kernel
theorem d_Mo_setDoes_60 : decode b_Mo_setDoes 60 = .ok (.iload_n 2, 1) := by decide +kernel
theorem d_Mo_setDoes_61 : decode b_Mo_setDoes 61 = .ok (.aload_n 0, 1) := by decide +kernel
theorem d_Mo_setDoes_62 : decode b_Mo_setDoes 62 = .ok (.getfield 35, 3) := by decide +kernel
theorem d_Mo_setDoes_65 : decode b_Mo_setDoes 65 = .ok (.iload_n 1, 1) := by decide +kernel
theorem d_Mo_setDoes_66 : decode b_Mo_setDoes 66 = .ok (.iload_n 2, 1) := by decide +kernel
theorem d_Mo_setDoes_67 : decode b_Mo_setDoes 67 = .ok (.iload 6, 2) := by decide +kernel
theorem d_Mo_setDoes_69 : decode b_Mo_setDoes 69 = .ok (.invokestatic 70, 3) := by decide +kernel
theorem d_Mo_setDoes_72 : decode b_Mo_setDoes 72 = .ok (.iaload, 1) := by decide +kernel
theorem d_Mo_setDoes_73 : decode b_Mo_setDoes 73 = .ok (.invokestatic 70, 3) := by decide +kernel
theorem d_Mo_setDoes_76 : decode b_Mo_setDoes 76 = .ok (.iaload, 1) := by decide +kernel
theorem d_Mo_setDoes_77 : decode b_Mo_setDoes 77 = .ok (.iconst 1, 1) := by decide +kernel
theorem d_Mo_setDoes_78 : decode b_Mo_setDoes 78 = .ok (.isub, 1) := by decide +kernel
theorem d_Mo_setDoes_79 : decode b_Mo_setDoes 79 = .ok (.istore 7, 2) := by decide +kernel
theorem d_Mo_setDoes_81 : decode b_Mo_setDoes 81 = .ok (.aload_n 0, 1) := by decide +kernel
theorem d_Mo_setDoes_82 : decode b_Mo_setDoes 82 = .ok (.getfield 56, 3) := by decide +kernel
theorem d_Mo_setDoes_85 : decode b_Mo_setDoes 85 = .ok (.iload 7, 2) := by decide +kernel
theorem d_Mo_setDoes_87 : decode b_Mo_setDoes 87 = .ok (.aload_n 0, 1) := by decide +kernel
theorem d_Mo_setDoes_88 : decode b_Mo_setDoes 88 = .ok (.getfield 56, 3) := by decide +kernel
theorem d_Mo_setDoes_91 : decode b_Mo_setDoes 91 = .ok (.iload 7, 2) := by decide +kernel
theorem d_Mo_setDoes_93 : decode b_Mo_setDoes 93 = .ok (.iaload, 1) := by decide +kernel
theorem d_Mo_setDoes_94 : decode b_Mo_setDoes 94 = .ok (.iconst 1, 1) := by decide +kernel
theorem d_Mo_setDoes_95 : decode b_Mo_setDoes 95 = .ok (.iadd, 1) := by decide +kernel
theorem d_Mo_setDoes_96 : decode b_Mo_setDoes 96 = .ok (.iastore, 1) := by decide +kernel
theorem d_Mo_setDoes_97 : decode b_Mo_setDoes 97 = .ok (.iload 5, 2) := by decide +kernel
theorem d_Mo_setDoes_99 : decode b_Mo_setDoes 99 = .ok (.iconst 1, 1) := by decide +kernel
theorem d_Mo_setDoes_100 : decode b_Mo_setDoes 100 = .ok (.iadd, 1) := by decide +kernel
theorem d_Mo_setDoes_101 : decode b_Mo_setDoes 101 = .ok (.istore 5, 2) := by decide +kernel
theorem d_Mo_setDoes_103 : decode b_Mo_setDoes 103 = .ok (.iinc 6 1, 3) := by decide +kernel
theorem d_Mo_setDoes_106 : decode b_Mo_setDoes 106 = .ok (.goto (-77), 3) := by decide +kernel
theorem d_Mo_setDoes_109 : decode b_Mo_setDoes 109 = .ok (.iload 5, 2) := by decide +kernel
theorem d_Mo_setDoes_111 : decode b_Mo_setDoes 111 = .ok (.aload_n 0, 1) := by decide +kernel
theorem d_Mo_setDoes_112 : decode b_Mo_setDoes 112 = .ok (.getfield 59, 3) := by decide +kernel
theorem d_Mo_setDoes_115 : decode b_Mo_setDoes 115 = .ok (.aload_n 0, 1) := by decide +kernel
theorem d_Mo_setDoes_116 : decode b_Mo_setDoes 116 = .ok (.getfield 63, 3) := by decide +kernel
theorem d_Mo_setDoes_119 : decode b_Mo_setDoes 119 = .ok (.isub, 1) := by decide +kernel
theorem d_Mo_setDoes_120 : decode b_Mo_setDoes 120 = .ok (.if_icmp .eq 5, 3) := by decide +kernel
theorem d_Mo_setDoes_123 : decode b_Mo_setDoes 123 = .ok (.iconst 0, 1) := by decide +kernel
theorem d_Mo_setDoes_124 : decode b_Mo_setDoes 124 = .ok (.ireturn, 1) := by decide +kernel
theorem d_Mo_setDoes_125 : decode b_Mo_setDoes 125 = .ok (.iload_n 2, 1) := by decide +kernel
theorem d_Mo_setDoes_126 : decode b_Mo_setDoes 126 = .ok (.iconst 1, 1) := by decide +kernel
theorem d_Mo_setDoes_127 : decode b_Mo_setDoes 127 = .ok (.iadd, 1) := by decide +kernel
theorem d_Mo_setDoes_128 : decode b_Mo_setDoes 128 = .ok (.iconst 3, 1) := by decide +kernel
theorem d_Mo_setDoes_129 : decode b_Mo_setDoes 129 = .ok (.irem, 1) := by decide +kernel
theorem d_Mo_setDoes_130 : decode b_Mo_setDoes 130 = .ok (.istore 6, 2) := by decide +kernel
theorem d_Mo_setDoes_132 : decode b_Mo_setDoes 132 = .ok (.iload 6, 2) := by decide +kernel
theorem d_Mo_setDoes_134 : decode b_Mo_setDoes 134 = .ok (.iconst 1, 1) := by decide +kernel
theorem d_Mo_setDoes_135 : decode b_Mo_setDoes 135 = .ok (.if_icmp .ne 41, 3) := by decide +kernel
theorem d_Mo_setDoes_138 : decode b_Mo_setDoes 138 = .ok (.iconst 2, 1) := by decide +kernel
theorem d_Mo_setDoes_139 : decode b_Mo_setDoes 139 = .ok (.aload_n 0, 1) := by decide +kernel
theorem d_Mo_setDoes_140 : decode b_Mo_setDoes 140 = .ok (.getfield 56, 3) := by decide +kernel
theorem d_Mo_setDoes_143 : decode b_Mo_setDoes 143 = .ok (.iload 4, 2) := by decide +kernel
theorem d_Mo_setDoes_145 : decode b_Mo_setDoes 145 = .ok (.iaload, 1) := by decide +kernel
theorem d_Mo_setDoes_146 : decode b_Mo_setDoes 146 = .ok (.imul, 1) := by decide +kernel
theorem d_Mo_setDoes_147 : decode b_Mo_setDoes 147 = .ok (.iload 5, 2) := by decide +kernel
theorem d_Mo_setDoes_149 : decode b_Mo_setDoes 149 = .ok (.if_icmp .gt 21, 3) := by decide +kernel
theorem d_Mo_setDoes_152 : decode b_Mo_setDoes 152 = .ok (.iload 4, 2) := by decide +kernel
theorem d_Mo_setDoes_154 : decode b_Mo_setDoes 154 = .ok (.ifCond .ne 20, 3) := by decide +kernel
theorem d_Mo_setDoes_157 : decode b_Mo_setDoes 157 = .ok (.iconst 2, 1) := by decide +kernel
theorem d_Mo_setDoes_158 : decode b_Mo_setDoes 158 = .ok (.aload_n 0, 1) := by decide +kernel
theorem d_Mo_setDoes_159 : decode b_Mo_setDoes 159 = .ok (.getfield 56, 3) := by decide +kernel
theorem d_Mo_setDoes_162 : decode b_Mo_setDoes 162 = .ok (.iconst 0, 1) := by decide +kernel
theorem d_Mo_setDoes_163 : decode b_Mo_setDoes 163 = .ok (.iaload, 1) := by decide +kernel
theorem d_Mo_setDoes_164 : decode b_Mo_setDoes 164 = .ok (.imul, 1) := by decide +kernel
theorem d_Mo_setDoes_165 : decode b_Mo_setDoes 165 = .ok (.iload 5, 2) := by decide +kernel
theorem d_Mo_setDoes_167 : decode b_Mo_setDoes 167 = .ok (.if_icmp .ne 7, 3) := by decide +kernel
theorem d_Mo_setDoes_170 : decode b_Mo_setDoes 170 = .ok (.iconst 1, 1) := by decide +kernel
theorem d_Mo_setDoes_171 : decode b_Mo_setDoes 171 = .ok (.goto 4, 3) := by decide +kernel
theorem d_Mo_setDoes_174 : decode b_Mo_setDoes 174 = .ok (.iconst 0, 1) := by decide +kernel
theorem d_Mo_setDoes_175 : decode b_Mo_setDoes 175 = .ok (.ireturn, 1) := by decide +kernel
theorem d_Mo_setDoes_176 : decode b_Mo_setDoes 176 = .ok (.iload 6, 2) := by decide +kernel
theorem d_Mo_setDoes_178 : decode b_Mo_setDoes 178 = .ok (.iconst 2, 1) := by decide +kernel
theorem d_Mo_setDoes_179 : decode b_Mo_setDoes 179 = .ok (.if_icmp .ne 71, 3) := by decide +kernel
theorem d_Mo_setDoes_182 : decode b_Mo_setDoes 182 = .ok (.iload 4, 2) := by decide +kernel
theorem d_Mo_setDoes_184 : decode b_Mo_setDoes 184 = .ok (.iconst 1, 1) := by decide +kernel
theorem d_Mo_setDoes_185 : decode b_Mo_setDoes 185 = .ok (.if_icmp .le 29, 3) := by decide +kernel
theorem d_Mo_setDoes_188 : decode b_Mo_setDoes 188 = .ok (.iconst 2, 1) := by decide +kernel
theorem d_Mo_setDoes_189 : decode b_Mo_setDoes 189 = .ok (.aload_n 0, 1) := by decide +kernel
theorem d_Mo_setDoes_190 : decode b_Mo_setDoes 190 = .ok (.getfield 56, 3) := by decide +kernel
theorem d_Mo_setDoes_193 : decode b_Mo_setDoes 193 = .ok (.iload 4, 2) := by decide +kernel
theorem d_Mo_setDoes_195 : decode b_Mo_setDoes 195 = .ok (.iconst 2, 1) := by decide +kernel
theorem d_Mo_setDoes_196 : decode b_Mo_setDoes 196 = .ok (.isub, 1) := by decide +kernel
theorem d_Mo_setDoes_197 : decode b_Mo_setDoes 197 = .ok (.iaload, 1) := by decide +kernel
theorem d_Mo_setDoes_198 : decode b_Mo_setDoes 198 = .ok (.imul, 1) := by decide +kernel
theorem d_Mo_setDoes_199 : decode b_Mo_setDoes 199 = .ok (.aload_n 0, 1) := by decide +kernel
theorem d_Mo_setDoes_200 : decode b_Mo_setDoes 200 = .ok (.getfield 59, 3) := by decide +kernel
theorem d_Mo_setDoes_203 : decode b_Mo_setDoes 203 = .ok (.if_icmp .le 7, 3) := by decide +kernel
theorem d_Mo_setDoes_206 : decode b_Mo_setDoes 206 = .ok (.iconst 1, 1) := by decide +kernel
theorem d_Mo_setDoes_207 : decode b_Mo_setDoes 207 = .ok (.goto 42, 3) := by decide +kernel
theorem d_Mo_setDoes_210 : decode b_Mo_setDoes 210 = .ok (.iconst 0, 1) := by decide +kernel
theorem d_Mo_setDoes_211 : decode b_Mo_setDoes 211 = .ok (.goto 38, 3) := by decide +kernel
theorem d_Mo_setDoes_214 : decode b_Mo_setDoes 214 = .ok (.iconst 2, 1) := by decide +kernel
theorem d_Mo_setDoes_215 : decode b_Mo_setDoes 215 = .ok (.aload_n 0, 1) := by decide +kernel
theorem d_Mo_setDoes_216 : decode b_Mo_setDoes 216 = .ok (.getfield 56, 3) := by decide +kernel
theorem d_Mo_setDoes_219 : decode b_Mo_setDoes 219 = .ok (.iconst 0, 1) := by decide +kernel
theorem d_Mo_setDoes_220 : decode b_Mo_setDoes 220 = .ok (.iaload, 1) := by decide +kernel
theorem d_Mo_setDoes_221 : decode b_Mo_setDoes 221 = .ok (.imul, 1) := by decide +kernel
theorem d_Mo_setDoes_222 : decode b_Mo_setDoes 222 = .ok (.aload_n 0, 1) := by decide +kernel
theorem d_Mo_setDoes_223 : decode b_Mo_setDoes 223 = .ok (.getfield 59, 3) := by decide +kernel
theorem d_Mo_setDoes_226 : decode b_Mo_setDoes 226 = .ok (.if_icmp .gt 22, 3) := by decide +kernel
theorem d_Mo_setDoes_229 : decode b_Mo_setDoes 229 = .ok (.iconst 2, 1) := by decide +kernel
theorem d_Mo_setDoes_230 : decode b_Mo_setDoes 230 = .ok (.aload_n 0, 1) := by decide +kernel
theorem d_Mo_setDoes_231 : decode b_Mo_setDoes 231 = .ok (.getfield 56, 3) := by decide +kernel
theorem d_Mo_setDoes_234 : decode b_Mo_setDoes 234 = .ok (.iconst 1, 1) := by decide +kernel
theorem d_Mo_setDoes_235 : decode b_Mo_setDoes 235 = .ok (.iaload, 1) := by decide +kernel
theorem d_Mo_setDoes_236 : decode b_Mo_setDoes 236 = .ok (.imul, 1) := by decide +kernel
theorem d_Mo_setDoes_237 : decode b_Mo_setDoes 237 = .ok (.aload_n 0, 1) := by decide +kernel
theorem d_Mo_setDoes_238 : decode b_Mo_setDoes 238 = .ok (.getfield 59, 3) := by decide +kernel
theorem d_Mo_setDoes_241 : decode b_Mo_setDoes 241 = .ok (.if_icmp .gt 7, 3) := by decide +kernel
theorem d_Mo_setDoes_244 : decode b_Mo_setDoes 244 = .ok (.iconst 1, 1) := by decide +kernel
theorem d_Mo_setDoes_245 : decode b_Mo_setDoes 245 = .ok (.goto 4, 3) := by decide +kernel
theorem d_Mo_setDoes_248 : decode b_Mo_setDoes 248 = .ok (.iconst 0, 1) := by decide +kernel
theorem d_Mo_setDoes_249 : decode b_Mo_setDoes 249 = .ok (.ireturn, 1) := by decide +kernel
theorem d_Mo_setDoes_250 : decode b_Mo_setDoes 250 = .ok (.aload_n 0, 1) := by decide +kernel
theorem d_Mo_setDoes_251 : decode b_Mo_setDoes 251 = .ok (.getfield 56, 3) := by decide +kernel
theorem d_Mo_setDoes_254 : decode b_Mo_setDoes 254 = .ok (.iload 4, 2) := by decide +kernel
theorem d_Mo_setDoes_256 : decode b_Mo_setDoes 256 = .ok (.iconst 2, 1) := by decide +kernel
theorem d_Mo_setDoes_257 : decode b_Mo_setDoes 257 = .ok (.iadd, 1) := by decide +kernel
theorem d_Mo_setDoes_258 : decode b_Mo_setDoes 258 = .ok (.iaload, 1) := by decide +kernel
theorem d_Mo_setDoes_259 : decode b_Mo_setDoes 259 = .ok (.aload_n 0, 1) := by decide +kernel
theorem d_Mo_setDoes_260 : decode b_Mo_setDoes 260 = .ok (.getfield 63, 3) := by decide +kernel
theorem d_Mo_setDoes_263 : decode b_Mo_setDoes 263 = .ok (.if_icmp .gt 29, 3) := by decide +kernel
theorem d_Mo_setDoes_266 : decode b_Mo_setDoes 266 = .ok (.aload_n 0, 1) := by decide +kernel
theorem d_Mo_setDoes_267 : decode b_Mo_setDoes 267 = .ok (.getfield 56, 3) := by decide +kernel
theorem d_Mo_setDoes_270 : decode b_Mo_setDoes 270 = .ok (.iconst 2, 1) := by decide +kernel
theorem d_Mo_setDoes_271 : decode b_Mo_setDoes 271 = .ok (.iaload, 1) := by decide +kernel
theorem d_Mo_setDoes_272 : decode b_Mo_setDoes 272 = .ok (.aload_n 0, 1) := by decide +kernel
theorem d_Mo_setDoes_273 : decode b_Mo_setDoes 273 = .ok (.getfield 63, 3) := by decide +kernel
theorem d_Mo_setDoes_276 : decode b_Mo_setDoes 276 = .ok (.if_icmp .gt 20, 3) := by decide +kernel
theorem d_Mo_setDoes_279 : decode b_Mo_setDoes 279 = .ok (.aload_n 0, 1) := by decide +kernel
theorem d_Mo_setDoes_280 : decode b_Mo_setDoes 280 = .ok (.getfield 56, 3) := by decide +kernel
theorem d_Mo_setDoes_283 : decode b_Mo_setDoes 283 = .ok (.iconst 3, 1) := by decide +kernel
theorem d_Mo_setDoes_284 : decode b_Mo_setDoes 284 = .ok (.iaload, 1) := by decide +kernel
theorem d_Mo_setDoes_285 : decode b_Mo_setDoes 285 = .ok (.aload_n 0, 1) := by decide +kernel
theorem d_Mo_setDoes_286 : decode b_Mo_setDoes 286 = .ok (.getfield 63, 3) := by decide +kernel
theorem d_Mo_setDoes_289 : decode b_Mo_setDoes 289 = .ok (.if_icmp .gt 7, 3) := by decide +kernel
theorem d_Mo_setDoes_292 : decode b_Mo_setDoes 292 = .ok (.iconst 1, 1) := by decide +kernel
theorem d_Mo_setDoes_293 : decode b_Mo_setDoes 293 = .ok (.goto 4, 3) := by decide +kernel
theorem d_Mo_setDoes_296 : decode b_Mo_setDoes 296 = .ok (.iconst 0, 1) := by decide +kernel
theorem d_Mo_setDoes_297 : decode b_Mo_setDoes 297 = .ok (.ireturn, 1) := by decide +kernel
theorem d_Mo_afterFirm_0 : decode b_Mo_afterFirm 0 = .ok (.aload_n 0, 1) := by decide +kernel
theorem d_Mo_afterFirm_1 : decode b_Mo_afterFirm 1 = .ok (.iconst 2, 1) := by decide +kernel
theorem d_Mo_afterFirm_2 : decode b_Mo_afterFirm 2 = .ok (.aload_n 0, 1) := by decide +kernel
theorem d_Mo_afterFirm_3 : decode b_Mo_afterFirm 3 = .ok (.getfield 63, 3) := by decide +kernel
theorem d_Mo_afterFirm_6 : decode b_Mo_afterFirm 6 = .ok (.imul, 1) := by decide +kernel
theorem d_Mo_afterFirm_7 : decode b_Mo_afterFirm 7 = .ok (.iconst 1, 1) := by decide +kernel
theorem d_Mo_afterFirm_8 : decode b_Mo_afterFirm 8 = .ok (.iadd, 1) := by decide +kernel
theorem d_Mo_afterFirm_9 : decode b_Mo_afterFirm 9 = .ok (.invokevirtual 97, 3) := by decide +kernel
theorem d_Mo_afterFirm_12 : decode b_Mo_afterFirm 12 = .ok (.istore_n 3, 1) := by decide +kernel
theorem d_Mo_afterFirm_13 : decode b_Mo_afterFirm 13 = .ok (.iload_n 3, 1) := by decide +kernel
theorem d_Mo_afterFirm_14 : decode b_Mo_afterFirm 14 = .ok (.ifCond .lt 31, 3) := by decide +kernel
theorem d_Mo_afterFirm_17 : decode b_Mo_afterFirm 17 = .ok (.aload_n 0, 1) := by decide +kernel
theorem d_Mo_afterFirm_18 : decode b_Mo_afterFirm 18 = .ok (.getfield 50, 3) := by decide +kernel
theorem d_Mo_afterFirm_21 : decode b_Mo_afterFirm 21 = .ok (.iload_n 1, 1) := by decide +kernel
theorem d_Mo_afterFirm_22 : decode b_Mo_afterFirm 22 = .ok (.aload_n 0, 1) := by decide +kernel
theorem d_Mo_afterFirm_23 : decode b_Mo_afterFirm 23 = .ok (.getfield 50, 3) := by decide +kernel
theorem d_Mo_afterFirm_26 : decode b_Mo_afterFirm 26 = .ok (.iload_n 1, 1) := by decide +kernel
theorem d_Mo_afterFirm_27 : decode b_Mo_afterFirm 27 = .ok (.iaload, 1) := by decide +kernel
theorem d_Mo_afterFirm_28 : decode b_Mo_afterFirm 28 = .ok (.iconst (-1), 1) := by decide +kernel
theorem d_Mo_afterFirm_29 : decode b_Mo_afterFirm 29 = .ok (.if_icmp .ne 7, 3) := by decide +kernel
theorem d_Mo_afterFirm_32 : decode b_Mo_afterFirm 32 = .ok (.iload_n 3, 1) := by decide +kernel
theorem d_Mo_afterFirm_33 : decode b_Mo_afterFirm 33 = .ok (.goto 9, 3) := by decide +kernel
theorem d_Mo_afterFirm_36 : decode b_Mo_afterFirm 36 = .ok (.aload_n 0, 1) := by decide +kernel
theorem d_Mo_afterFirm_37 : decode b_Mo_afterFirm 37 = .ok (.getfield 50, 3) := by decide +kernel
theorem d_Mo_afterFirm_40 : decode b_Mo_afterFirm 40 = .ok (.iload_n 1, 1) := by decide +kernel
theorem d_Mo_afterFirm_41 : decode b_Mo_afterFirm 41 = .ok (.iaload, 1) := by decide +kernel
theorem d_Mo_afterFirm_42 : decode b_Mo_afterFirm 42 = .ok (.iastore, 1) := by decide +kernel
theorem d_Mo_afterFirm_43 : decode b_Mo_afterFirm 43 = .ok (.iload_n 3, 1) := by decide +kernel
theorem d_Mo_afterFirm_44 : decode b_Mo_afterFirm 44 = .ok (.ireturn, 1) := by decide +kernel
theorem d_Mo_afterFirm_45 : decode b_Mo_afterFirm 45 = .ok (.aload_n 0, 1) := by decide +kernel
theorem d_Mo_afterFirm_46 : decode b_Mo_afterFirm 46 = .ok (.aload_n 0, 1) := by decide +kernel
theorem d_Mo_afterFirm_47 : decode b_Mo_afterFirm 47 = .ok (.getfield 63, 3) := by decide +kernel
theorem d_Mo_afterFirm_50 : decode b_Mo_afterFirm 50 = .ok (.iconst 1, 1) := by decide +kernel
theorem d_Mo_afterFirm_51 : decode b_Mo_afterFirm 51 = .ok (.iadd, 1) := by decide +kernel
theorem d_Mo_afterFirm_52 : decode b_Mo_afterFirm 52 = .ok (.invokevirtual 97, 3) := by decide +kernel
theorem d_Mo_afterFirm_55 : decode b_Mo_afterFirm 55 = .ok (.istore 4, 2) := by decide +kernel
theorem d_Mo_afterFirm_57 : decode b_Mo_afterFirm 57 = .ok (.iload 4, 2) := by decide +kernel
theorem d_Mo_afterFirm_59 : decode b_Mo_afterFirm 59 = .ok (.ifCond .lt 8, 3) := by decide +kernel
theorem d_Mo_afterFirm_62 : decode b_Mo_afterFirm 62 = .ok (.iload 4, 2) := by decide +kernel
theorem d_Mo_afterFirm_64 : decode b_Mo_afterFirm 64 = .ok (.goto 15, 3) := by decide +kernel
theorem d_Mo_afterFirm_67 : decode b_Mo_afterFirm 67 = .ok (.aload_n 0, 1) := by decide +kernel
theorem d_Mo_afterFirm_68 : decode b_Mo_afterFirm 68 = .ok (.getfield 53, 3) := by decide +kernel
theorem d_Mo_afterFirm_71 : decode b_Mo_afterFirm 71 = .ok (.iload_n 1, 1) := by decide +kernel
theorem d_Mo_afterFirm_72 : decode b_Mo_afterFirm 72 = .ok (.iaload, 1) := by decide +kernel
theorem d_Mo_afterFirm_73 : decode b_Mo_afterFirm 73 = .ok (.iload_n 2, 1) := by decide +kernel
theorem d_Mo_afterFirm_74 : decode b_Mo_afterFirm 74 = .ok (.iconst 3, 1) := by decide +kernel
theorem d_Mo_afterFirm_75 : decode b_Mo_afterFirm 75 = .ok (.idiv, 1) := by decide +kernel
theorem d_Mo_afterFirm_76 : decode b_Mo_afterFirm 76 = .ok (.ishr, 1) := by decide +kernel
theorem d_Mo_afterFirm_77 : decode b_Mo_afterFirm 77 = .ok (.iconst 1, 1) := by decide +kernel
theorem d_Mo_afterFirm_78 : decode b_Mo_afterFirm 78 = .ok (.iand, 1) := by decide +kernel
theorem d_Mo_afterFirm_79 : decode b_Mo_afterFirm 79 = .ok (.ireturn, 1) := by decide +kernel
theorem d_Mo_sent_0 : decode b_Mo_sent 0 = .ok (.aload_n 0, 1) := by decide +kernel
theorem d_Mo_sent_1 : decode b_Mo_sent 1 = .ok (.iload_n 1, 1) := by decide +kernel
theorem d_Mo_sent_2 : decode b_Mo_sent 2 = .ok (.invokevirtual 66, 3) := by decide +kernel
theorem d_Mo_sent_5 : decode b_Mo_sent 5 = .ok (.ifCond .eq 12, 3) := by decide +kernel
theorem d_Mo_sent_8 : decode b_Mo_sent 8 = .ok (.aload_n 0, 1) := by decide +kernel
theorem d_Mo_sent_9 : decode b_Mo_sent 9 = .ok (.getfield 17, 3) := by decide +kernel
theorem d_Mo_sent_12 : decode b_Mo_sent 12 = .ok (.iload_n 1, 1) := by decide +kernel
theorem d_Mo_sent_13 : decode b_Mo_sent 13 = .ok (.iaload, 1) := by decide +kernel
theorem d_Mo_sent_14 : decode b_Mo_sent 14 = .ok (.goto 4, 3) := by decide +kernel
theorem d_Mo_sent_17 : decode b_Mo_sent 17 = .ok (.iconst (-1), 1) := by decide +kernel
theorem d_Mo_sent_18 : decode b_Mo_sent 18 = .ok (.ireturn, 1) := by decide +kernel
theorem d_Mo_message_0 : decode b_Mo_message 0 = .ok (.aload_n 0, 1) := by decide +kernel
theorem d_Mo_message_1 : decode b_Mo_message 1 = .ok (.iload_n 1, 1) := by decide +kernel
theorem d_Mo_message_2 : decode b_Mo_message 2 = .ok (.invokevirtual 66, 3) := by decide +kernel
theorem d_Mo_message_5 : decode b_Mo_message 5 = .ok (.ifCond .eq 32, 3) := by decide +kernel
theorem d_Mo_message_8 : decode b_Mo_message 8 = .ok (.iload_n 2, 1) := by decide +kernel
theorem d_Mo_message_9 : decode b_Mo_message 9 = .ok (.ifCond .lt 28, 3) := by decide +kernel
theorem d_Mo_message_12 : decode b_Mo_message 12 = .ok (.iload_n 2, 1) := by decide +kernel
theorem d_Mo_message_13 : decode b_Mo_message 13 = .ok (.aload_n 0, 1) := by decide +kernel
theorem d_Mo_message_14 : decode b_Mo_message 14 = .ok (.getfield 17, 3) := by decide +kernel
theorem d_Mo_message_17 : decode b_Mo_message 17 = .ok (.iload_n 1, 1) := by decide +kernel
theorem d_Mo_message_18 : decode b_Mo_message 18 = .ok (.iaload, 1) := by decide +kernel
theorem d_Mo_message_19 : decode b_Mo_message 19 = .ok (.if_icmp .ge 18, 3) := by decide +kernel
theorem d_Mo_message_22 : decode b_Mo_message 22 = .ok (.aload_n 0, 1) := by decide +kernel
theorem d_Mo_message_23 : decode b_Mo_message 23 = .ok (.getfield 13, 3) := by decide +kernel
theorem d_Mo_message_26 : decode b_Mo_message 26 = .ok (.sipush 140, 3) := by decide +kernel
theorem d_Mo_message_29 : decode b_Mo_message 29 = .ok (.iload_n 1, 1) := by decide +kernel
theorem d_Mo_message_30 : decode b_Mo_message 30 = .ok (.imul, 1) := by decide +kernel
theorem d_Mo_message_31 : decode b_Mo_message 31 = .ok (.iload_n 2, 1) := by decide +kernel
theorem d_Mo_message_32 : decode b_Mo_message 32 = .ok (.iadd, 1) := by decide +kernel
theorem d_Mo_message_33 : decode b_Mo_message 33 = .ok (.iaload, 1) := by decide +kernel
theorem d_Mo_message_34 : decode b_Mo_message 34 = .ok (.goto 4, 3) := by decide +kernel
theorem d_Mo_message_37 : decode b_Mo_message 37 = .ok (.iconst (-1), 1) := by decide +kernel
theorem d_Mo_message_38 : decode b_Mo_message 38 = .ok (.ireturn, 1) := by decide +kernel
theorem d_Mo_waiting_0 : decode b_Mo_waiting 0 = .ok (.aload_n 0, 1) := by decide +kernel
theorem d_Mo_waiting_1 : decode b_Mo_waiting 1 = .ok (.iload_n 1, 1) := by decide +kernel
theorem d_Mo_waiting_2 : decode b_Mo_waiting 2 = .ok (.invokevirtual 66, 3) := by decide +kernel
theorem d_Mo_waiting_5 : decode b_Mo_waiting 5 = .ok (.ifCond .eq 32, 3) := by decide +kernel
theorem d_Mo_waiting_8 : decode b_Mo_waiting 8 = .ok (.aload_n 0, 1) := by decide +kernel
theorem d_Mo_waiting_9 : decode b_Mo_waiting 9 = .ok (.iload_n 2, 1) := by decide +kernel
theorem d_Mo_waiting_10 : decode b_Mo_waiting 10 = .ok (.invokevirtual 66, 3) := by decide +kernel
theorem d_Mo_waiting_13 : decode b_Mo_waiting 13 = .ok (.ifCond .eq 24, 3) := by decide +kernel
theorem d_Mo_waiting_16 : decode b_Mo_waiting 16 = .ok (.aload_n 0, 1) := by decide +kernel
theorem d_Mo_waiting_17 : decode b_Mo_waiting 17 = .ok (.getfield 17, 3) := by decide +kernel
theorem d_Mo_waiting_20 : decode b_Mo_waiting 20 = .ok (.iload_n 1, 1) := by decide +kernel
theorem d_Mo_waiting_21 : decode b_Mo_waiting 21 = .ok (.iaload, 1) := by decide +kernel
theorem d_Mo_waiting_22 : decode b_Mo_waiting 22 = .ok (.aload_n 0, 1) := by decide +kernel
theorem d_Mo_waiting_23 : decode b_Mo_waiting 23 = .ok (.getfield 20, 3) := by decide +kernel
theorem d_Mo_waiting_26 : decode b_Mo_waiting 26 = .ok (.bipush 7, 2) := by decide +kernel
theorem d_Mo_waiting_28 : decode b_Mo_waiting 28 = .ok (.iload_n 2, 1) := by decide +kernel
theorem d_Mo_waiting_29 : decode b_Mo_waiting 29 = .ok (.imul, 1) := by decide +kernel
theorem d_Mo_waiting_30 : decode b_Mo_waiting 30 = .ok (.iload_n 1, 1) := by decide +kernel
theorem d_Mo_waiting_31 : decode b_Mo_waiting 31 = .ok (.iadd, 1) := by decide +kernel
theorem d_Mo_waiting_32 : decode b_Mo_waiting 32 = .ok (.iaload, 1) := by decide +kernel
theorem d_Mo_waiting_33 : decode b_Mo_waiting 33 = .ok (.isub, 1) := by decide +kernel
theorem d_Mo_waiting_34 : decode b_Mo_waiting 34 = .ok (.goto 4, 3) := by decide +kernel
theorem d_Mo_waiting_37 : decode b_Mo_waiting 37 = .ok (.iconst (-1), 1) := by decide +kernel
theorem d_Mo_waiting_38 : decode b_Mo_waiting 38 = .ok (.ireturn, 1) := by decide +kernel
theorem d_Mo_votes_0 : decode b_Mo_votes 0 = .ok (.aload_n 0, 1) := by decide +kernel
theorem d_Mo_votes_1 : decode b_Mo_votes 1 = .ok (.iload_n 1, 1) := by decide +kernel
theorem d_Mo_votes_2 : decode b_Mo_votes 2 = .ok (.invokevirtual 66, 3) := by decide +kernel
theorem d_Mo_votes_5 : decode b_Mo_votes 5 = .ok (.ifCond .eq 51, 3) := by decide +kernel
theorem d_Mo_votes_8 : decode b_Mo_votes 8 = .ok (.aload_n 0, 1) := by decide +kernel
theorem d_Mo_votes_9 : decode b_Mo_votes 9 = .ok (.iload_n 3, 1) := by decide +kernel
theorem d_Mo_votes_10 : decode b_Mo_votes 10 = .ok (.invokevirtual 66, 3) := by decide +kernel
theorem d_Mo_votes_13 : decode b_Mo_votes 13 = .ok (.ifCond .eq 43, 3) := by decide +kernel
theorem d_Mo_votes_16 : decode b_Mo_votes 16 = .ok (.iload_n 2, 1) := by decide +kernel
theorem d_Mo_votes_17 : decode b_Mo_votes 17 = .ok (.invokestatic 122, 3) := by decide +kernel
theorem d_Mo_votes_20 : decode b_Mo_votes 20 = .ok (.ifCond .eq 36, 3) := by decide +kernel
theorem d_Mo_votes_23 : decode b_Mo_votes 23 = .ok (.iload 4, 2) := by decide +kernel
theorem d_Mo_votes_25 : decode b_Mo_votes 25 = .ok (.ifCond .lt 31, 3) := by decide +kernel
theorem d_Mo_votes_28 : decode b_Mo_votes 28 = .ok (.iload 4, 2) := by decide +kernel
theorem d_Mo_votes_30 : decode b_Mo_votes 30 = .ok (.iconst 3, 1) := by decide +kernel
theorem d_Mo_votes_31 : decode b_Mo_votes 31 = .ok (.if_icmp .gt 25, 3) := by decide +kernel
theorem d_Mo_votes_34 : decode b_Mo_votes 34 = .ok (.aload_n 0, 1) := by decide +kernel
theorem d_Mo_votes_35 : decode b_Mo_votes 35 = .ok (.iload_n 1, 1) := by decide +kernel
theorem d_Mo_votes_36 : decode b_Mo_votes 36 = .ok (.iload 5, 2) := by decide +kernel
theorem d_Mo_votes_38 : decode b_Mo_votes 38 = .ok (.ifCond .eq 7, 3) := by decide +kernel
theorem d_Mo_votes_41 : decode b_Mo_votes 41 = .ok (.iconst 2, 1) := by decide +kernel
theorem d_Mo_votes_42 : decode b_Mo_votes 42 = .ok (.goto 4, 3) := by decide +kernel
theorem d_Mo_votes_45 : decode b_Mo_votes 45 = .ok (.iconst 1, 1) := by decide +kernel
theorem d_Mo_votes_46 : decode b_Mo_votes 46 = .ok (.iload_n 2, 1) := by decide +kernel
theorem d_Mo_votes_47 : decode b_Mo_votes 47 = .ok (.iload_n 3, 1) := by decide +kernel
theorem d_Mo_votes_48 : decode b_Mo_votes 48 = .ok (.iload 4, 2) := by decide +kernel
theorem d_Mo_votes_50 : decode b_Mo_votes 50 = .ok (.invokevirtual 78, 3) := by decide +kernel
theorem d_Mo_votes_53 : decode b_Mo_votes 53 = .ok (.goto 4, 3) := by decide +kernel
theorem d_Mo_votes_56 : decode b_Mo_votes 56 = .ok (.iconst 0, 1) := by decide +kernel
theorem d_Mo_votes_57 : decode b_Mo_votes 57 = .ok (.ireturn, 1) := by decide +kernel
theorem d_Mo_accepted_0 : decode b_Mo_accepted 0 = .ok (.aload_n 0, 1) := by decide +kernel
theorem d_Mo_accepted_1 : decode b_Mo_accepted 1 = .ok (.iload_n 1, 1) := by decide +kernel
theorem d_Mo_accepted_2 : decode b_Mo_accepted 2 = .ok (.invokevirtual 66, 3) := by decide +kernel
theorem d_Mo_accepted_5 : decode b_Mo_accepted 5 = .ok (.ifCond .eq 34, 3) := by decide +kernel
theorem d_Mo_accepted_8 : decode b_Mo_accepted 8 = .ok (.aload_n 0, 1) := by decide +kernel
theorem d_Mo_accepted_9 : decode b_Mo_accepted 9 = .ok (.iload_n 3, 1) := by decide +kernel
theorem d_Mo_accepted_10 : decode b_Mo_accepted 10 = .ok (.invokevirtual 66, 3) := by decide +kernel
theorem d_Mo_accepted_13 : decode b_Mo_accepted 13 = .ok (.ifCond .eq 26, 3) := by decide +kernel
theorem d_Mo_accepted_16 : decode b_Mo_accepted 16 = .ok (.iload_n 2, 1) := by decide +kernel
theorem d_Mo_accepted_17 : decode b_Mo_accepted 17 = .ok (.invokestatic 122, 3) := by decide +kernel
theorem d_Mo_accepted_20 : decode b_Mo_accepted 20 = .ok (.ifCond .eq 19, 3) := by decide +kernel
theorem d_Mo_accepted_23 : decode b_Mo_accepted 23 = .ok (.aload_n 0, 1) := by decide +kernel
theorem d_Mo_accepted_24 : decode b_Mo_accepted 24 = .ok (.getfield 29, 3) := by decide +kernel
theorem d_Mo_accepted_27 : decode b_Mo_accepted 27 = .ok (.iload_n 1, 1) := by decide +kernel
theorem d_Mo_accepted_28 : decode b_Mo_accepted 28 = .ok (.iload_n 2, 1) := by decide +kernel
theorem d_Mo_accepted_29 : decode b_Mo_accepted 29 = .ok (.iload_n 3, 1) := by decide +kernel
theorem d_Mo_accepted_30 : decode b_Mo_accepted 30 = .ok (.invokestatic 70, 3) := by decide +kernel
theorem d_Mo_accepted_33 : decode b_Mo_accepted 33 = .ok (.iaload, 1) := by decide +kernel
theorem d_Mo_accepted_34 : decode b_Mo_accepted 34 = .ok (.iconst 1, 1) := by decide +kernel
theorem d_Mo_accepted_35 : decode b_Mo_accepted 35 = .ok (.isub, 1) := by decide +kernel
theorem d_Mo_accepted_36 : decode b_Mo_accepted 36 = .ok (.goto 4, 3) := by decide +kernel
theorem d_Mo_accepted_39 : decode b_Mo_accepted 39 = .ok (.iconst (-1), 1) := by decide +kernel
theorem d_Mo_accepted_40 : decode b_Mo_accepted 40 = .ok (.ireturn, 1) := by decide +kernel
theorem d_Mo_rowAt_0 : decode b_Mo_rowAt 0 = .ok (.aload_n 0, 1) := by decide +kernel
theorem d_Mo_rowAt_1 : decode b_Mo_rowAt 1 = .ok (.iload_n 1, 1) := by decide +kernel
theorem d_Mo_rowAt_2 : decode b_Mo_rowAt 2 = .ok (.invokevirtual 66, 3) := by decide +kernel
theorem d_Mo_rowAt_5 : decode b_Mo_rowAt 5 = .ok (.ifCond .eq 43, 3) := by decide +kernel
theorem d_Mo_rowAt_8 : decode b_Mo_rowAt 8 = .ok (.iload_n 2, 1) := by decide +kernel
theorem d_Mo_rowAt_9 : decode b_Mo_rowAt 9 = .ok (.invokestatic 122, 3) := by decide +kernel
theorem d_Mo_rowAt_12 : decode b_Mo_rowAt 12 = .ok (.ifCond .eq 36, 3) := by decide +kernel
theorem d_Mo_rowAt_15 : decode b_Mo_rowAt 15 = .ok (.iload_n 3, 1) := by decide +kernel
theorem d_Mo_rowAt_16 : decode b_Mo_rowAt 16 = .ok (.ifCond .lt 32, 3) := by decide +kernel
theorem d_Mo_rowAt_19 : decode b_Mo_rowAt 19 = .ok (.iload_n 3, 1) := by decide +kernel
theorem d_Mo_rowAt_20 : decode b_Mo_rowAt 20 = .ok (.aload_n 0, 1) := by decide +kernel
theorem d_Mo_rowAt_21 : decode b_Mo_rowAt 21 = .ok (.getfield 38, 3) := by decide +kernel
theorem d_Mo_rowAt_24 : decode b_Mo_rowAt 24 = .ok (.bipush 9, 2) := by decide +kernel
theorem d_Mo_rowAt_26 : decode b_Mo_rowAt 26 = .ok (.iload_n 1, 1) := by decide +kernel
theorem d_Mo_rowAt_27 : decode b_Mo_rowAt 27 = .ok (.imul, 1) := by decide +kernel
theorem d_Mo_rowAt_28 : decode b_Mo_rowAt 28 = .ok (.iload_n 2, 1) := by decide +kernel
theorem d_Mo_rowAt_29 : decode b_Mo_rowAt 29 = .ok (.iadd, 1) := by decide +kernel
theorem d_Mo_rowAt_30 : decode b_Mo_rowAt 30 = .ok (.iaload, 1) := by decide +kernel
theorem d_Mo_rowAt_31 : decode b_Mo_rowAt 31 = .ok (.if_icmp .ge 17, 3) := by decide +kernel
theorem d_Mo_rowAt_34 : decode b_Mo_rowAt 34 = .ok (.aload_n 0, 1) := by decide +kernel
theorem d_Mo_rowAt_35 : decode b_Mo_rowAt 35 = .ok (.getfield 35, 3) := by decide +kernel
theorem d_Mo_rowAt_38 : decode b_Mo_rowAt 38 = .ok (.iload_n 1, 1) := by decide +kernel
theorem d_Mo_rowAt_39 : decode b_Mo_rowAt 39 = .ok (.iload_n 2, 1) := by decide +kernel
theorem d_Mo_rowAt_40 : decode b_Mo_rowAt 40 = .ok (.iload_n 3, 1) := by decide +kernel
theorem d_Mo_rowAt_41 : decode b_Mo_rowAt 41 = .ok (.invokestatic 70, 3) := by decide +kernel
theorem d_Mo_rowAt_44 : decode b_Mo_rowAt 44 = .ok (.iaload, 1) := by decide +kernel
theorem d_Mo_rowAt_45 : decode b_Mo_rowAt 45 = .ok (.goto 4, 3) := by decide +kernel
theorem d_Mo_rowAt_48 : decode b_Mo_rowAt 48 = .ok (.iconst (-1), 1) := by decide +kernel
theorem d_Mo_rowAt_49 : decode b_Mo_rowAt 49 = .ok (.ireturn, 1) := by decide +kernel
theorem d_Mo_slot_0 : decode b_Mo_slot 0 = .ok (.aload_n 0, 1) := by decide +kernel
theorem d_Mo_slot_1 : decode b_Mo_slot 1 = .ok (.iload_n 1, 1) := by decide +kernel
theorem d_Mo_slot_2 : decode b_Mo_slot 2 = .ok (.invokevirtual 66, 3) := by decide +kernel
theorem d_Mo_slot_5 : decode b_Mo_slot 5 = .ok (.ifCond .eq 12, 3) := by decide +kernel
theorem d_Mo_slot_8 : decode b_Mo_slot 8 = .ok (.aload_n 0, 1) := by decide +kernel
theorem d_Mo_slot_9 : decode b_Mo_slot 9 = .ok (.getfield 44, 3) := by decide +kernel
theorem d_Mo_slot_12 : decode b_Mo_slot 12 = .ok (.iload_n 1, 1) := by decide +kernel
theorem d_Mo_slot_13 : decode b_Mo_slot 13 = .ok (.iaload, 1) := by decide +kernel
theorem d_Mo_slot_14 : decode b_Mo_slot 14 = .ok (.goto 4, 3) := by decide +kernel
theorem d_Mo_slot_17 : decode b_Mo_slot 17 = .ok (.iconst (-1), 1) := by decide +kernel
theorem d_Mo_slot_18 : decode b_Mo_slot 18 = .ok (.ireturn, 1) := by decide +kernel
theorem d_Mo_value_0 : decode b_Mo_value 0 = .ok (.aload_n 0, 1) := by decide +kernel
theorem d_Mo_value_1 : decode b_Mo_value 1 = .ok (.iload_n 1, 1) := by decide +kernel
theorem d_Mo_value_2 : decode b_Mo_value 2 = .ok (.invokevirtual 66, 3) := by decide +kernel
theorem d_Mo_value_5 : decode b_Mo_value 5 = .ok (.ifCond .eq 21, 3) := by decide +kernel
theorem d_Mo_value_8 : decode b_Mo_value 8 = .ok (.aload_n 0, 1) := by decide +kernel
theorem d_Mo_value_9 : decode b_Mo_value 9 = .ok (.getfield 44, 3) := by decide +kernel
theorem d_Mo_value_12 : decode b_Mo_value 12 = .ok (.iload_n 1, 1) := by decide +kernel
theorem d_Mo_value_13 : decode b_Mo_value 13 = .ok (.iaload, 1) := by decide +kernel
theorem d_Mo_value_14 : decode b_Mo_value 14 = .ok (.ifCond .lt 12, 3) := by decide +kernel
theorem d_Mo_value_17 : decode b_Mo_value 17 = .ok (.aload_n 0, 1) := by decide +kernel
theorem d_Mo_value_18 : decode b_Mo_value 18 = .ok (.getfield 47, 3) := by decide +kernel
theorem d_Mo_value_21 : decode b_Mo_value 21 = .ok (.iload_n 1, 1) := by decide +kernel
theorem d_Mo_value_22 : decode b_Mo_value 22 = .ok (.iaload, 1) := by decide +kernel
theorem d_Mo_value_23 : decode b_Mo_value 23 = .ok (.goto 4, 3) := by decide +kernel
theorem d_Mo_value_26 : decode b_Mo_value 26 = .ok (.iconst (-1), 1) := by decide +kernel
theorem d_Mo_value_27 : decode b_Mo_value 27 = .ok (.ireturn, 1) := by decide +kernel
theorem d_Mo_decided_0 : decode b_Mo_decided 0 = .ok (.aload_n 0, 1) := by decide +kernel
theorem d_Mo_decided_1 : decode b_Mo_decided 1 = .ok (.iload_n 1, 1) := by decide +kernel
theorem d_Mo_decided_2 : decode b_Mo_decided 2 = .ok (.invokevirtual 66, 3) := by decide +kernel
theorem d_Mo_decided_5 : decode b_Mo_decided 5 = .ok (.ifCond .eq 12, 3) := by decide +kernel
theorem d_Mo_decided_8 : decode b_Mo_decided 8 = .ok (.aload_n 0, 1) := by decide +kernel
theorem d_Mo_decided_9 : decode b_Mo_decided 9 = .ok (.getfield 50, 3) := by decide +kernel
theorem d_Mo_decided_12 : decode b_Mo_decided 12 = .ok (.iload_n 1, 1) := by decide +kernel
theorem d_Mo_decided_13 : decode b_Mo_decided 13 = .ok (.iaload, 1) := by decide +kernel
theorem d_Mo_decided_14 : decode b_Mo_decided 14 = .ok (.goto 4, 3) := by decide +kernel
theorem d_Mo_decided_17 : decode b_Mo_decided 17 = .ok (.iconst (-1), 1) := by decide +kernel
theorem d_Mo_decided_18 : decode b_Mo_decided 18 = .ok (.ireturn, 1) := by decide +kernel
theorem d_Mo_corrupt_0 : decode b_Mo_corrupt 0 = .ok (.aload_n 0, 1) := by decide +kernel
theorem d_Mo_corrupt_1 : decode b_Mo_corrupt 1 = .ok (.iload_n 1, 1) := by decide +kernel
theorem d_Mo_corrupt_2 : decode b_Mo_corrupt 2 = .ok (.invokevirtual 115, 3) := by decide +kernel
theorem d_Mo_corrupt_5 : decode b_Mo_corrupt 5 = .ok (.ifCond .ne 5, 3) := by decide +kernel
theorem d_Mo_corrupt_8 : decode b_Mo_corrupt 8 = .ok (.iconst 0, 1) := by decide +kernel
theorem d_Mo_corrupt_9 : decode b_Mo_corrupt 9 = .ok (.ireturn, 1) := by decide +kernel
theorem d_Mo_corrupt_10 : decode b_Mo_corrupt 10 = .ok (.aload_n 0, 1) := by decide +kernel
theorem d_Mo_corrupt_11 : decode b_Mo_corrupt 11 = .ok (.getfield 7, 3) := by decide +kernel
theorem d_Mo_corrupt_14 : decode b_Mo_corrupt 14 = .ok (.iload_n 1, 1) := by decide +kernel
theorem d_Mo_corrupt_15 : decode b_Mo_corrupt 15 = .ok (.iconst 1, 1) := by decide +kernel
theorem d_Mo_corrupt_16 : decode b_Mo_corrupt 16 = .ok (.bastore, 1) := by decide +kernel
theorem d_Mo_corrupt_17 : decode b_Mo_corrupt 17 = .ok (.iconst 1, 1) := by decide +kernel
theorem d_Mo_corrupt_18 : decode b_Mo_corrupt 18 = .ok (.ireturn, 1) := by decide +kernel
theorem d_Mo_tosses_0 : decode b_Mo_tosses 0 = .ok (.aload_n 0, 1) := by decide +kernel
theorem d_Mo_tosses_1 : decode b_Mo_tosses 1 = .ok (.iload_n 1, 1) := by decide +kernel
theorem d_Mo_tosses_2 : decode b_Mo_tosses 2 = .ok (.invokevirtual 115, 3) := by decide +kernel
theorem d_Mo_tosses_5 : decode b_Mo_tosses 5 = .ok (.ifCond .ne 5, 3) := by decide +kernel
theorem d_Mo_tosses_8 : decode b_Mo_tosses 8 = .ok (.iconst 0, 1) := by decide +kernel
theorem d_Mo_tosses_9 : decode b_Mo_tosses 9 = .ok (.ireturn, 1) := by decide +kernel
theorem d_Mo_tosses_10 : decode b_Mo_tosses 10 = .ok (.aload_n 0, 1) := by decide +kernel
theorem d_Mo_tosses_11 : decode b_Mo_tosses 11 = .ok (.getfield 53, 3) := by decide +kernel
theorem d_Mo_tosses_14 : decode b_Mo_tosses 14 = .ok (.iload_n 1, 1) := by decide +kernel
theorem d_Mo_tosses_15 : decode b_Mo_tosses 15 = .ok (.iload_n 2, 1) := by decide +kernel
theorem d_Mo_tosses_16 : decode b_Mo_tosses 16 = .ok (.bipush 7, 2) := by decide +kernel
theorem d_Mo_tosses_18 : decode b_Mo_tosses 18 = .ok (.iand, 1) := by decide +kernel
theorem d_Mo_tosses_19 : decode b_Mo_tosses 19 = .ok (.iastore, 1) := by decide +kernel
theorem d_Mo_tosses_20 : decode b_Mo_tosses 20 = .ok (.iconst 1, 1) := by decide +kernel
theorem d_Mo_tosses_21 : decode b_Mo_tosses 21 = .ok (.ireturn, 1) := by decide +kernel
theorem d_Mo_receive_0 : decode b_Mo_receive 0 = .ok (.iload_n 1, 1) := by decide +kernel
theorem d_Mo_receive_1 : decode b_Mo_receive 1 = .ok (.iload 4, 2) := by decide +kernel
theorem d_Mo_receive_3 : decode b_Mo_receive 3 = .ok (.iload 5, 2) := by decide +kernel
theorem d_Mo_receive_5 : decode b_Mo_receive 5 = .ok (.invokestatic 70, 3) := by decide +kernel
theorem d_Mo_receive_8 : decode b_Mo_receive 8 = .ok (.istore 7, 2) := by decide +kernel
theorem d_Mo_receive_10 : decode b_Mo_receive 10 = .ok (.iload_n 3, 1) := by decide +kernel
theorem d_Mo_receive_11 : decode b_Mo_receive 11 = .ok (.ifCond .ne 43, 3) := by decide +kernel
theorem d_Mo_receive_14 : decode b_Mo_receive 14 = .ok (.iload_n 2, 1) := by decide +kernel
theorem d_Mo_receive_15 : decode b_Mo_receive 15 = .ok (.iload 5, 2) := by decide +kernel
theorem d_Mo_receive_17 : decode b_Mo_receive 17 = .ok (.if_icmp .ne 13, 3) := by decide +kernel
theorem d_Mo_receive_20 : decode b_Mo_receive 20 = .ok (.aload_n 0, 1) := by decide +kernel
theorem d_Mo_receive_21 : decode b_Mo_receive 21 = .ok (.getfield 23, 3) := by decide +kernel
theorem d_Mo_receive_24 : decode b_Mo_receive 24 = .ok (.iload 7, 2) := by decide +kernel
