theorem d_Mo_receive_26 : decode b_Mo_receive 26 = .ok (.baload, 1) := by decide +kernel
theorem d_Mo_receive_27 : decode b_Mo_receive 27 = .ok (.ifCond .eq 5, 3) := by decide +kernel
theorem d_Mo_receive_30 : decode b_Mo_receive 30 = .ok (.iconst 0, 1) := by decide +kernel
theorem d_Mo_receive_31 : decode b_Mo_receive 31 = .ok (.ireturn, 1) := by decide +kernel
theorem d_Mo_receive_32 : decode b_Mo_receive 32 = .ok (.aload_n 0, 1) := by decide +kernel
theorem d_Mo_receive_33 : decode b_Mo_receive 33 = .ok (.getfield 23, 3) := by decide +kernel
theorem d_Mo_receive_36 : decode b_Mo_receive 36 = .ok (.iload 7, 2) := by decide +kernel
theorem d_Mo_receive_38 : decode b_Mo_receive 38 = .ok (.iconst 1, 1) := by decide +kernel
theorem d_Mo_receive_39 : decode b_Mo_receive 39 = .ok (.bastore, 1) := by decide +kernel
theorem d_Mo_receive_40 : decode b_Mo_receive 40 = .ok (.aload_n 0, 1) := by decide +kernel
theorem d_Mo_receive_41 : decode b_Mo_receive 41 = .ok (.iload_n 1, 1) := by decide +kernel
theorem d_Mo_receive_42 : decode b_Mo_receive 42 = .ok (.iconst 1, 1) := by decide +kernel
theorem d_Mo_receive_43 : decode b_Mo_receive 43 = .ok (.iload 4, 2) := by decide +kernel
theorem d_Mo_receive_45 : decode b_Mo_receive 45 = .ok (.iload 5, 2) := by decide +kernel
theorem d_Mo_receive_47 : decode b_Mo_receive 47 = .ok (.iload 6, 2) := by decide +kernel
theorem d_Mo_receive_49 : decode b_Mo_receive 49 = .ok (.invokevirtual 74, 3) := by decide +kernel
theorem d_Mo_receive_52 : decode b_Mo_receive 52 = .ok (.iconst 1, 1) := by decide +kernel
theorem d_Mo_receive_53 : decode b_Mo_receive 53 = .ok (.ireturn, 1) := by decide +kernel
theorem d_Mo_receive_54 : decode b_Mo_receive 54 = .ok (.bipush 126, 2) := by decide +kernel
theorem d_Mo_receive_56 : decode b_Mo_receive 56 = .ok (.bipush 7, 2) := by decide +kernel
theorem d_Mo_receive_58 : decode b_Mo_receive 58 = .ok (.iload_n 1, 1) := by decide +kernel
theorem d_Mo_receive_59 : decode b_Mo_receive 59 = .ok (.imul, 1) := by decide +kernel
theorem d_Mo_receive_60 : decode b_Mo_receive 60 = .ok (.iload_n 2, 1) := by decide +kernel
theorem d_Mo_receive_61 : decode b_Mo_receive 61 = .ok (.iadd, 1) := by decide +kernel
theorem d_Mo_receive_62 : decode b_Mo_receive 62 = .ok (.imul, 1) := by decide +kernel
theorem d_Mo_receive_63 : decode b_Mo_receive 63 = .ok (.bipush 63, 2) := by decide +kernel
theorem d_Mo_receive_65 : decode b_Mo_receive 65 = .ok (.iload_n 3, 1) := by decide +kernel
theorem d_Mo_receive_66 : decode b_Mo_receive 66 = .ok (.iconst 1, 1) := by decide +kernel
theorem d_Mo_receive_67 : decode b_Mo_receive 67 = .ok (.isub, 1) := by decide +kernel
theorem d_Mo_receive_68 : decode b_Mo_receive 68 = .ok (.imul, 1) := by decide +kernel
theorem d_Mo_receive_69 : decode b_Mo_receive 69 = .ok (.iadd, 1) := by decide +kernel
theorem d_Mo_receive_70 : decode b_Mo_receive 70 = .ok (.bipush 7, 2) := by decide +kernel
theorem d_Mo_receive_72 : decode b_Mo_receive 72 = .ok (.iload 4, 2) := by decide +kernel
theorem d_Mo_receive_74 : decode b_Mo_receive 74 = .ok (.imul, 1) := by decide +kernel
theorem d_Mo_receive_75 : decode b_Mo_receive 75 = .ok (.iadd, 1) := by decide +kernel
theorem d_Mo_receive_76 : decode b_Mo_receive 76 = .ok (.iload 5, 2) := by decide +kernel
theorem d_Mo_receive_78 : decode b_Mo_receive 78 = .ok (.iadd, 1) := by decide +kernel
theorem d_Mo_receive_79 : decode b_Mo_receive 79 = .ok (.istore 8, 2) := by decide +kernel
theorem d_Mo_receive_81 : decode b_Mo_receive 81 = .ok (.aload_n 0, 1) := by decide +kernel
theorem d_Mo_receive_82 : decode b_Mo_receive 82 = .ok (.getfield 41, 3) := by decide +kernel
theorem d_Mo_receive_85 : decode b_Mo_receive 85 = .ok (.iload 8, 2) := by decide +kernel
theorem d_Mo_receive_87 : decode b_Mo_receive 87 = .ok (.iaload, 1) := by decide +kernel
theorem d_Mo_receive_88 : decode b_Mo_receive 88 = .ok (.ifCond .eq 5, 3) := by decide +kernel
theorem d_Mo_receive_91 : decode b_Mo_receive 91 = .ok (.iconst 0, 1) := by decide +kernel
theorem d_Mo_receive_92 : decode b_Mo_receive 92 = .ok (.ireturn, 1) := by decide +kernel
theorem d_Mo_receive_93 : decode b_Mo_receive 93 = .ok (.aload_n 0, 1) := by decide +kernel
theorem d_Mo_receive_94 : decode b_Mo_receive 94 = .ok (.getfield 41, 3) := by decide +kernel
theorem d_Mo_receive_97 : decode b_Mo_receive 97 = .ok (.iload 8, 2) := by decide +kernel
theorem d_Mo_receive_99 : decode b_Mo_receive 99 = .ok (.iload 6, 2) := by decide +kernel
theorem d_Mo_receive_101 : decode b_Mo_receive 101 = .ok (.iconst 1, 1) := by decide +kernel
theorem d_Mo_receive_102 : decode b_Mo_receive 102 = .ok (.iadd, 1) := by decide +kernel
theorem d_Mo_receive_103 : decode b_Mo_receive 103 = .ok (.iastore, 1) := by decide +kernel
theorem d_Mo_receive_104 : decode b_Mo_receive 104 = .ok (.aload_n 0, 1) := by decide +kernel
theorem d_Mo_receive_105 : decode b_Mo_receive 105 = .ok (.iload_n 1, 1) := by decide +kernel
theorem d_Mo_receive_106 : decode b_Mo_receive 106 = .ok (.iload_n 3, 1) := by decide +kernel
theorem d_Mo_receive_107 : decode b_Mo_receive 107 = .ok (.iload 4, 2) := by decide +kernel
theorem d_Mo_receive_109 : decode b_Mo_receive 109 = .ok (.iload 5, 2) := by decide +kernel
theorem d_Mo_receive_111 : decode b_Mo_receive 111 = .ok (.iload 6, 2) := by decide +kernel
theorem d_Mo_receive_113 : decode b_Mo_receive 113 = .ok (.invokevirtual 78, 3) := by decide +kernel
theorem d_Mo_receive_116 : decode b_Mo_receive 116 = .ok (.istore 9, 2) := by decide +kernel
theorem d_Mo_receive_118 : decode b_Mo_receive 118 = .ok (.iload_n 3, 1) := by decide +kernel
theorem d_Mo_receive_119 : decode b_Mo_receive 119 = .ok (.iconst 1, 1) := by decide +kernel
theorem d_Mo_receive_120 : decode b_Mo_receive 120 = .ok (.if_icmp .ne 19, 3) := by decide +kernel
theorem d_Mo_receive_123 : decode b_Mo_receive 123 = .ok (.aload_n 0, 1) := by decide +kernel
theorem d_Mo_receive_124 : decode b_Mo_receive 124 = .ok (.getfield 59, 3) := by decide +kernel
theorem d_Mo_receive_127 : decode b_Mo_receive 127 = .ok (.aload_n 0, 1) := by decide +kernel
theorem d_Mo_receive_128 : decode b_Mo_receive 128 = .ok (.getfield 63, 3) := by decide +kernel
theorem d_Mo_receive_131 : decode b_Mo_receive 131 = .ok (.iadd, 1) := by decide +kernel
theorem d_Mo_receive_132 : decode b_Mo_receive 132 = .ok (.iconst 2, 1) := by decide +kernel
theorem d_Mo_receive_133 : decode b_Mo_receive 133 = .ok (.idiv, 1) := by decide +kernel
theorem d_Mo_receive_134 : decode b_Mo_receive 134 = .ok (.iconst 1, 1) := by decide +kernel
theorem d_Mo_receive_135 : decode b_Mo_receive 135 = .ok (.iadd, 1) := by decide +kernel
theorem d_Mo_receive_136 : decode b_Mo_receive 136 = .ok (.goto 9, 3) := by decide +kernel
theorem d_Mo_receive_139 : decode b_Mo_receive 139 = .ok (.aload_n 0, 1) := by decide +kernel
theorem d_Mo_receive_140 : decode b_Mo_receive 140 = .ok (.getfield 63, 3) := by decide +kernel
theorem d_Mo_receive_143 : decode b_Mo_receive 143 = .ok (.iconst 1, 1) := by decide +kernel
theorem d_Mo_receive_144 : decode b_Mo_receive 144 = .ok (.iadd, 1) := by decide +kernel
theorem d_Mo_receive_145 : decode b_Mo_receive 145 = .ok (.istore 10, 2) := by decide +kernel
theorem d_Mo_receive_147 : decode b_Mo_receive 147 = .ok (.iload 9, 2) := by decide +kernel
theorem d_Mo_receive_149 : decode b_Mo_receive 149 = .ok (.iload 10, 2) := by decide +kernel
theorem d_Mo_receive_151 : decode b_Mo_receive 151 = .ok (.if_icmp .lt 25, 3) := by decide +kernel
theorem d_Mo_receive_154 : decode b_Mo_receive 154 = .ok (.aload_n 0, 1) := by decide +kernel
theorem d_Mo_receive_155 : decode b_Mo_receive 155 = .ok (.getfield 26, 3) := by decide +kernel
theorem d_Mo_receive_158 : decode b_Mo_receive 158 = .ok (.iload 7, 2) := by decide +kernel
theorem d_Mo_receive_160 : decode b_Mo_receive 160 = .ok (.baload, 1) := by decide +kernel
theorem d_Mo_receive_161 : decode b_Mo_receive 161 = .ok (.ifCond .ne 15, 3) := by decide +kernel
theorem d_Mo_receive_164 : decode b_Mo_receive 164 = .ok (.aload_n 0, 1) := by decide +kernel
theorem d_Mo_receive_165 : decode b_Mo_receive 165 = .ok (.iload_n 1, 1) := by decide +kernel
theorem d_Mo_receive_166 : decode b_Mo_receive 166 = .ok (.iconst 2, 1) := by decide +kernel
theorem d_Mo_receive_167 : decode b_Mo_receive 167 = .ok (.iload 4, 2) := by decide +kernel
theorem d_Mo_receive_169 : decode b_Mo_receive 169 = .ok (.iload 5, 2) := by decide +kernel
theorem d_Mo_receive_171 : decode b_Mo_receive 171 = .ok (.iload 6, 2) := by decide +kernel
theorem d_Mo_receive_173 : decode b_Mo_receive 173 = .ok (.invokevirtual 74, 3) := by decide +kernel
theorem d_Mo_receive_176 : decode b_Mo_receive 176 = .ok (.iload_n 3, 1) := by decide +kernel
theorem d_Mo_receive_177 : decode b_Mo_receive 177 = .ok (.iconst 2, 1) := by decide +kernel
theorem d_Mo_receive_178 : decode b_Mo_receive 178 = .ok (.if_icmp .ne 37, 3) := by decide +kernel
theorem d_Mo_receive_181 : decode b_Mo_receive 181 = .ok (.iload 9, 2) := by decide +kernel
theorem d_Mo_receive_183 : decode b_Mo_receive 183 = .ok (.iconst 2, 1) := by decide +kernel
theorem d_Mo_receive_184 : decode b_Mo_receive 184 = .ok (.aload_n 0, 1) := by decide +kernel
theorem d_Mo_receive_185 : decode b_Mo_receive 185 = .ok (.getfield 63, 3) := by decide +kernel
theorem d_Mo_receive_188 : decode b_Mo_receive 188 = .ok (.imul, 1) := by decide +kernel
theorem d_Mo_receive_189 : decode b_Mo_receive 189 = .ok (.iconst 1, 1) := by decide +kernel
theorem d_Mo_receive_190 : decode b_Mo_receive 190 = .ok (.iadd, 1) := by decide +kernel
theorem d_Mo_receive_191 : decode b_Mo_receive 191 = .ok (.if_icmp .lt 24, 3) := by decide +kernel
theorem d_Mo_receive_194 : decode b_Mo_receive 194 = .ok (.aload_n 0, 1) := by decide +kernel
theorem d_Mo_receive_195 : decode b_Mo_receive 195 = .ok (.getfield 29, 3) := by decide +kernel
theorem d_Mo_receive_198 : decode b_Mo_receive 198 = .ok (.iload 7, 2) := by decide +kernel
theorem d_Mo_receive_200 : decode b_Mo_receive 200 = .ok (.iaload, 1) := by decide +kernel
theorem d_Mo_receive_201 : decode b_Mo_receive 201 = .ok (.ifCond .ne 14, 3) := by decide +kernel
theorem d_Mo_receive_204 : decode b_Mo_receive 204 = .ok (.aload_n 0, 1) := by decide +kernel
theorem d_Mo_receive_205 : decode b_Mo_receive 205 = .ok (.getfield 29, 3) := by decide +kernel
theorem d_Mo_receive_208 : decode b_Mo_receive 208 = .ok (.iload 7, 2) := by decide +kernel
theorem d_Mo_receive_210 : decode b_Mo_receive 210 = .ok (.iload 6, 2) := by decide +kernel
theorem d_Mo_receive_212 : decode b_Mo_receive 212 = .ok (.iconst 1, 1) := by decide +kernel
theorem d_Mo_receive_213 : decode b_Mo_receive 213 = .ok (.iadd, 1) := by decide +kernel
theorem d_Mo_receive_214 : decode b_Mo_receive 214 = .ok (.iastore, 1) := by decide +kernel
theorem d_Mo_receive_215 : decode b_Mo_receive 215 = .ok (.iconst 1, 1) := by decide +kernel
theorem d_Mo_receive_216 : decode b_Mo_receive 216 = .ok (.ireturn, 1) := by decide +kernel
theorem d_Mo_some_0 : decode b_Mo_some 0 = .ok (.iconst 0, 1) := by decide +kernel
theorem d_Mo_some_1 : decode b_Mo_some 1 = .ok (.istore 4, 2) := by decide +kernel
theorem d_Mo_some_3 : decode b_Mo_some 3 = .ok (.iconst 0, 1) := by decide +kernel
theorem d_Mo_some_4 : decode b_Mo_some 4 = .ok (.istore 5, 2) := by decide +kernel
theorem d_Mo_some_6 : decode b_Mo_some 6 = .ok (.iload 5, 2) := by decide +kernel
theorem d_Mo_some_8 : decode b_Mo_some 8 = .ok (.iconst 1, 1) := by decide +kernel
theorem d_Mo_some_9 : decode b_Mo_some 9 = .ok (.aload_n 0, 1) := by decide +kernel
theorem d_Mo_some_10 : decode b_Mo_some 10 = .ok (.getfield 38, 3) := by decide +kernel
theorem d_Mo_some_13 : decode b_Mo_some 13 = .ok (.bipush 9, 2) := by decide +kernel
theorem d_Mo_some_15 : decode b_Mo_some 15 = .ok (.iload_n 1, 1) := by decide +kernel
theorem d_Mo_some_16 : decode b_Mo_some 16 = .ok (.imul, 1) := by decide +kernel
theorem d_Mo_some_17 : decode b_Mo_some 17 = .ok (.iload_n 2, 1) := by decide +kernel
theorem d_Mo_some_18 : decode b_Mo_some 18 = .ok (.iadd, 1) := by decide +kernel
theorem d_Mo_some_19 : decode b_Mo_some 19 = .ok (.iaload, 1) := by decide +kernel
theorem d_Mo_some_20 : decode b_Mo_some 20 = .ok (.ishl, 1) := by decide +kernel
theorem d_Mo_some_21 : decode b_Mo_some 21 = .ok (.if_icmp .ge 33, 3) := by decide +kernel
theorem d_Mo_some_24 : decode b_Mo_some 24 = .ok (.iload 4, 2) := by decide +kernel
theorem d_Mo_some_26 : decode b_Mo_some 26 = .ok (.ifCond .ne 15, 3) := by decide +kernel
theorem d_Mo_some_29 : decode b_Mo_some 29 = .ok (.aload_n 0, 1) := by decide +kernel
theorem d_Mo_some_30 : decode b_Mo_some 30 = .ok (.iload_n 1, 1) := by decide +kernel
theorem d_Mo_some_31 : decode b_Mo_some 31 = .ok (.iload_n 2, 1) := by decide +kernel
theorem d_Mo_some_32 : decode b_Mo_some 32 = .ok (.iload 5, 2) := by decide +kernel
theorem d_Mo_some_34 : decode b_Mo_some 34 = .ok (.iload_n 3, 1) := by decide +kernel
theorem d_Mo_some_35 : decode b_Mo_some 35 = .ok (.invokevirtual 86, 3) := by decide +kernel
theorem d_Mo_some_38 : decode b_Mo_some 38 = .ok (.ifCond .eq 7, 3) := by decide +kernel
theorem d_Mo_some_41 : decode b_Mo_some 41 = .ok (.iconst 1, 1) := by decide +kernel
theorem d_Mo_some_42 : decode b_Mo_some 42 = .ok (.goto 4, 3) := by decide +kernel
theorem d_Mo_some_45 : decode b_Mo_some 45 = .ok (.iconst 0, 1) := by decide +kernel
theorem d_Mo_some_46 : decode b_Mo_some 46 = .ok (.istore 4, 2) := by decide +kernel
theorem d_Mo_some_48 : decode b_Mo_some 48 = .ok (.iinc 5 1, 3) := by decide +kernel
theorem d_Mo_some_51 : decode b_Mo_some 51 = .ok (.goto (-45), 3) := by decide +kernel
theorem d_Mo_some_54 : decode b_Mo_some 54 = .ok (.iload 4, 2) := by decide +kernel
theorem d_Mo_some_56 : decode b_Mo_some 56 = .ok (.ireturn, 1) := by decide +kernel
theorem d_Mo_goOn_0 : decode b_Mo_goOn 0 = .ok (.aload_n 0, 1) := by decide +kernel
theorem d_Mo_goOn_1 : decode b_Mo_goOn 1 = .ok (.getfield 44, 3) := by decide +kernel
theorem d_Mo_goOn_4 : decode b_Mo_goOn 4 = .ok (.iload_n 1, 1) := by decide +kernel
theorem d_Mo_goOn_5 : decode b_Mo_goOn 5 = .ok (.iaload, 1) := by decide +kernel
theorem d_Mo_goOn_6 : decode b_Mo_goOn 6 = .ok (.istore_n 2, 1) := by decide +kernel
theorem d_Mo_goOn_7 : decode b_Mo_goOn 7 = .ok (.aload_n 0, 1) := by decide +kernel
theorem d_Mo_goOn_8 : decode b_Mo_goOn 8 = .ok (.getfield 59, 3) := by decide +kernel
theorem d_Mo_goOn_11 : decode b_Mo_goOn 11 = .ok (.aload_n 0, 1) := by decide +kernel
theorem d_Mo_goOn_12 : decode b_Mo_goOn 12 = .ok (.getfield 63, 3) := by decide +kernel
theorem d_Mo_goOn_15 : decode b_Mo_goOn 15 = .ok (.isub, 1) := by decide +kernel
theorem d_Mo_goOn_16 : decode b_Mo_goOn 16 = .ok (.istore_n 3, 1) := by decide +kernel
theorem d_Mo_goOn_17 : decode b_Mo_goOn 17 = .ok (.iload_n 2, 1) := by decide +kernel
theorem d_Mo_goOn_18 : decode b_Mo_goOn 18 = .ok (.ifCond .lt 24, 3) := by decide +kernel
theorem d_Mo_goOn_21 : decode b_Mo_goOn 21 = .ok (.iload_n 2, 1) := by decide +kernel
theorem d_Mo_goOn_22 : decode b_Mo_goOn 22 = .ok (.bipush 8, 2) := by decide +kernel
theorem d_Mo_goOn_24 : decode b_Mo_goOn 24 = .ok (.if_icmp .gt 18, 3) := by decide +kernel
theorem d_Mo_goOn_27 : decode b_Mo_goOn 27 = .ok (.aload_n 0, 1) := by decide +kernel
theorem d_Mo_goOn_28 : decode b_Mo_goOn 28 = .ok (.getfield 38, 3) := by decide +kernel
theorem d_Mo_goOn_31 : decode b_Mo_goOn 31 = .ok (.bipush 9, 2) := by decide +kernel
theorem d_Mo_goOn_33 : decode b_Mo_goOn 33 = .ok (.iload_n 1, 1) := by decide +kernel
theorem d_Mo_goOn_34 : decode b_Mo_goOn 34 = .ok (.imul, 1) := by decide +kernel
theorem d_Mo_goOn_35 : decode b_Mo_goOn 35 = .ok (.iload_n 2, 1) := by decide +kernel
theorem d_Mo_goOn_36 : decode b_Mo_goOn 36 = .ok (.iadd, 1) := by decide +kernel
theorem d_Mo_goOn_37 : decode b_Mo_goOn 37 = .ok (.iaload, 1) := by decide +kernel
theorem d_Mo_goOn_38 : decode b_Mo_goOn 38 = .ok (.iload_n 3, 1) := by decide +kernel
theorem d_Mo_goOn_39 : decode b_Mo_goOn 39 = .ok (.if_icmp .ge 5, 3) := by decide +kernel
theorem d_Mo_goOn_42 : decode b_Mo_goOn 42 = .ok (.iconst 0, 1) := by decide +kernel
theorem d_Mo_goOn_43 : decode b_Mo_goOn 43 = .ok (.ireturn, 1) := by decide +kernel
theorem d_Mo_goOn_44 : decode b_Mo_goOn 44 = .ok (.iconst 0, 1) := by decide +kernel
theorem d_Mo_goOn_45 : decode b_Mo_goOn 45 = .ok (.istore 4, 2) := by decide +kernel
theorem d_Mo_goOn_47 : decode b_Mo_goOn 47 = .ok (.iload 4, 2) := by decide +kernel
theorem d_Mo_goOn_49 : decode b_Mo_goOn 49 = .ok (.iconst 4, 1) := by decide +kernel
theorem d_Mo_goOn_50 : decode b_Mo_goOn 50 = .ok (.if_icmp .ge 17, 3) := by decide +kernel
theorem d_Mo_goOn_53 : decode b_Mo_goOn 53 = .ok (.aload_n 0, 1) := by decide +kernel
theorem d_Mo_goOn_54 : decode b_Mo_goOn 54 = .ok (.getfield 56, 3) := by decide +kernel
theorem d_Mo_goOn_57 : decode b_Mo_goOn 57 = .ok (.iload 4, 2) := by decide +kernel
theorem d_Mo_goOn_59 : decode b_Mo_goOn 59 = .ok (.iconst 0, 1) := by decide +kernel
theorem d_Mo_goOn_60 : decode b_Mo_goOn 60 = .ok (.iastore, 1) := by decide +kernel
theorem d_Mo_goOn_61 : decode b_Mo_goOn 61 = .ok (.iinc 4 1, 3) := by decide +kernel
theorem d_Mo_goOn_64 : decode b_Mo_goOn 64 = .ok (.goto (-17), 3) := by decide +kernel
theorem d_Mo_goOn_67 : decode b_Mo_goOn 67 = .ok (.iconst 0, 1) := by decide +kernel
theorem d_Mo_goOn_68 : decode b_Mo_goOn 68 = .ok (.istore 4, 2) := by decide +kernel
theorem d_Mo_goOn_70 : decode b_Mo_goOn 70 = .ok (.iload 4, 2) := by decide +kernel
theorem d_Mo_goOn_72 : decode b_Mo_goOn 72 = .ok (.iload_n 3, 1) := by decide +kernel
theorem d_Mo_goOn_73 : decode b_Mo_goOn 73 = .ok (.if_icmp .ge 51, 3) := by decide +kernel
theorem d_Mo_goOn_76 : decode b_Mo_goOn 76 = .ok (.aload_n 0, 1) := by decide +kernel
theorem d_Mo_goOn_77 : decode b_Mo_goOn 77 = .ok (.getfield 29, 3) := by decide +kernel
theorem d_Mo_goOn_80 : decode b_Mo_goOn 80 = .ok (.iload_n 1, 1) := by decide +kernel
theorem d_Mo_goOn_81 : decode b_Mo_goOn 81 = .ok (.iload_n 2, 1) := by decide +kernel
theorem d_Mo_goOn_82 : decode b_Mo_goOn 82 = .ok (.aload_n 0, 1) := by decide +kernel
theorem d_Mo_goOn_83 : decode b_Mo_goOn 83 = .ok (.getfield 35, 3) := by decide +kernel
theorem d_Mo_goOn_86 : decode b_Mo_goOn 86 = .ok (.iload_n 1, 1) := by decide +kernel
theorem d_Mo_goOn_87 : decode b_Mo_goOn 87 = .ok (.iload_n 2, 1) := by decide +kernel
theorem d_Mo_goOn_88 : decode b_Mo_goOn 88 = .ok (.iload 4, 2) := by decide +kernel
theorem d_Mo_goOn_90 : decode b_Mo_goOn 90 = .ok (.invokestatic 70, 3) := by decide +kernel
theorem d_Mo_goOn_93 : decode b_Mo_goOn 93 = .ok (.iaload, 1) := by decide +kernel
theorem d_Mo_goOn_94 : decode b_Mo_goOn 94 = .ok (.invokestatic 70, 3) := by decide +kernel
theorem d_Mo_goOn_97 : decode b_Mo_goOn 97 = .ok (.iaload, 1) := by decide +kernel
theorem d_Mo_goOn_98 : decode b_Mo_goOn 98 = .ok (.iconst 1, 1) := by decide +kernel
theorem d_Mo_goOn_99 : decode b_Mo_goOn 99 = .ok (.isub, 1) := by decide +kernel
theorem d_Mo_goOn_100 : decode b_Mo_goOn 100 = .ok (.istore 5, 2) := by decide +kernel
theorem d_Mo_goOn_102 : decode b_Mo_goOn 102 = .ok (.aload_n 0, 1) := by decide +kernel
theorem d_Mo_goOn_103 : decode b_Mo_goOn 103 = .ok (.getfield 56, 3) := by decide +kernel
theorem d_Mo_goOn_106 : decode b_Mo_goOn 106 = .ok (.iload 5, 2) := by decide +kernel
theorem d_Mo_goOn_108 : decode b_Mo_goOn 108 = .ok (.aload_n 0, 1) := by decide +kernel
theorem d_Mo_goOn_109 : decode b_Mo_goOn 109 = .ok (.getfield 56, 3) := by decide +kernel
theorem d_Mo_goOn_112 : decode b_Mo_goOn 112 = .ok (.iload 5, 2) := by decide +kernel
theorem d_Mo_goOn_114 : decode b_Mo_goOn 114 = .ok (.iaload, 1) := by decide +kernel
theorem d_Mo_goOn_115 : decode b_Mo_goOn 115 = .ok (.iconst 1, 1) := by decide +kernel
theorem d_Mo_goOn_116 : decode b_Mo_goOn 116 = .ok (.iadd, 1) := by decide +kernel
theorem d_Mo_goOn_117 : decode b_Mo_goOn 117 = .ok (.iastore, 1) := by decide +kernel
theorem d_Mo_goOn_118 : decode b_Mo_goOn 118 = .ok (.iinc 4 1, 3) := by decide +kernel
theorem d_Mo_goOn_121 : decode b_Mo_goOn 121 = .ok (.goto (-51), 3) := by decide +kernel
theorem d_Mo_goOn_124 : decode b_Mo_goOn 124 = .ok (.iload_n 2, 1) := by decide +kernel
theorem d_Mo_goOn_125 : decode b_Mo_goOn 125 = .ok (.iconst 3, 1) := by decide +kernel
theorem d_Mo_goOn_126 : decode b_Mo_goOn 126 = .ok (.irem, 1) := by decide +kernel
theorem d_Mo_goOn_127 : decode b_Mo_goOn 127 = .ok (.ifCond .ne 32, 3) := by decide +kernel
theorem d_Mo_goOn_130 : decode b_Mo_goOn 130 = .ok (.aload_n 0, 1) := by decide +kernel
theorem d_Mo_goOn_131 : decode b_Mo_goOn 131 = .ok (.getfield 47, 3) := by decide +kernel
theorem d_Mo_goOn_134 : decode b_Mo_goOn 134 = .ok (.iload_n 1, 1) := by decide +kernel
theorem d_Mo_goOn_135 : decode b_Mo_goOn 135 = .ok (.aload_n 0, 1) := by decide +kernel
theorem d_Mo_goOn_136 : decode b_Mo_goOn 136 = .ok (.getfield 56, 3) := by decide +kernel
theorem d_Mo_goOn_139 : decode b_Mo_goOn 139 = .ok (.iconst 1, 1) := by decide +kernel
theorem d_Mo_goOn_140 : decode b_Mo_goOn 140 = .ok (.iaload, 1) := by decide +kernel
theorem d_Mo_goOn_141 : decode b_Mo_goOn 141 = .ok (.aload_n 0, 1) := by decide +kernel
theorem d_Mo_goOn_142 : decode b_Mo_goOn 142 = .ok (.getfield 56, 3) := by decide +kernel
theorem d_Mo_goOn_145 : decode b_Mo_goOn 145 = .ok (.iconst 0, 1) := by decide +kernel
theorem d_Mo_goOn_146 : decode b_Mo_goOn 146 = .ok (.iaload, 1) := by decide +kernel
theorem d_Mo_goOn_147 : decode b_Mo_goOn 147 = .ok (.if_icmp .le 7, 3) := by decide +kernel
theorem d_Mo_goOn_150 : decode b_Mo_goOn 150 = .ok (.iconst 1, 1) := by decide +kernel
theorem d_Mo_goOn_151 : decode b_Mo_goOn 151 = .ok (.goto 4, 3) := by decide +kernel
theorem d_Mo_goOn_154 : decode b_Mo_goOn 154 = .ok (.iconst 0, 1) := by decide +kernel
theorem d_Mo_goOn_155 : decode b_Mo_goOn 155 = .ok (.iastore, 1) := by decide +kernel
theorem d_Mo_goOn_156 : decode b_Mo_goOn 156 = .ok (.goto 75, 3) := by decide +kernel
theorem d_Mo_goOn_159 : decode b_Mo_goOn 159 = .ok (.iload_n 2, 1) := by decide +kernel
theorem d_Mo_goOn_160 : decode b_Mo_goOn 160 = .ok (.iconst 3, 1) := by decide +kernel
theorem d_Mo_goOn_161 : decode b_Mo_goOn 161 = .ok (.irem, 1) := by decide +kernel
theorem d_Mo_goOn_162 : decode b_Mo_goOn 162 = .ok (.iconst 1, 1) := by decide +kernel
theorem d_Mo_goOn_163 : decode b_Mo_goOn 163 = .ok (.if_icmp .ne 56, 3) := by decide +kernel
theorem d_Mo_goOn_166 : decode b_Mo_goOn 166 = .ok (.aload_n 0, 1) := by decide +kernel
theorem d_Mo_goOn_167 : decode b_Mo_goOn 167 = .ok (.getfield 47, 3) := by decide +kernel
theorem d_Mo_goOn_170 : decode b_Mo_goOn 170 = .ok (.iload_n 1, 1) := by decide +kernel
theorem d_Mo_goOn_171 : decode b_Mo_goOn 171 = .ok (.iconst 2, 1) := by decide +kernel
theorem d_Mo_goOn_172 : decode b_Mo_goOn 172 = .ok (.aload_n 0, 1) := by decide +kernel
theorem d_Mo_goOn_173 : decode b_Mo_goOn 173 = .ok (.getfield 56, 3) := by decide +kernel
theorem d_Mo_goOn_176 : decode b_Mo_goOn 176 = .ok (.iconst 0, 1) := by decide +kernel
theorem d_Mo_goOn_177 : decode b_Mo_goOn 177 = .ok (.iaload, 1) := by decide +kernel
theorem d_Mo_goOn_178 : decode b_Mo_goOn 178 = .ok (.imul, 1) := by decide +kernel
theorem d_Mo_goOn_179 : decode b_Mo_goOn 179 = .ok (.aload_n 0, 1) := by decide +kernel
theorem d_Mo_goOn_180 : decode b_Mo_goOn 180 = .ok (.getfield 59, 3) := by decide +kernel
theorem d_Mo_goOn_183 : decode b_Mo_goOn 183 = .ok (.if_icmp .le 7, 3) := by decide +kernel
theorem d_Mo_goOn_186 : decode b_Mo_goOn 186 = .ok (.iconst 2, 1) := by decide +kernel
theorem d_Mo_goOn_187 : decode b_Mo_goOn 187 = .ok (.goto 28, 3) := by decide +kernel
theorem d_Mo_goOn_190 : decode b_Mo_goOn 190 = .ok (.iconst 2, 1) := by decide +kernel
theorem d_Mo_goOn_191 : decode b_Mo_goOn 191 = .ok (.aload_n 0, 1) := by decide +kernel
theorem d_Mo_goOn_192 : decode b_Mo_goOn 192 = .ok (.getfield 56, 3) := by decide +kernel
theorem d_Mo_goOn_195 : decode b_Mo_goOn 195 = .ok (.iconst 1, 1) := by decide +kernel
theorem d_Mo_goOn_196 : decode b_Mo_goOn 196 = .ok (.iaload, 1) := by decide +kernel
theorem d_Mo_goOn_197 : decode b_Mo_goOn 197 = .ok (.imul, 1) := by decide +kernel
theorem d_Mo_goOn_198 : decode b_Mo_goOn 198 = .ok (.aload_n 0, 1) := by decide +kernel
theorem d_Mo_goOn_199 : decode b_Mo_goOn 199 = .ok (.getfield 59, 3) := by decide +kernel
theorem d_Mo_goOn_202 : decode b_Mo_goOn 202 = .ok (.if_icmp .le 7, 3) := by decide +kernel
theorem d_Mo_goOn_205 : decode b_Mo_goOn 205 = .ok (.iconst 3, 1) := by decide +kernel
theorem d_Mo_goOn_206 : decode b_Mo_goOn 206 = .ok (.goto 9, 3) := by decide +kernel
theorem d_Mo_goOn_209 : decode b_Mo_goOn 209 = .ok (.aload_n 0, 1) := by decide +kernel
theorem d_Mo_goOn_210 : decode b_Mo_goOn 210 = .ok (.getfield 47, 3) := by decide +kernel
theorem d_Mo_goOn_213 : decode b_Mo_goOn 213 = .ok (.iload_n 1, 1) := by decide +kernel
theorem d_Mo_goOn_214 : decode b_Mo_goOn 214 = .ok (.iaload, 1) := by decide +kernel
theorem d_Mo_goOn_215 : decode b_Mo_goOn 215 = .ok (.iastore, 1) := by decide +kernel
theorem d_Mo_goOn_216 : decode b_Mo_goOn 216 = .ok (.goto 15, 3) := by decide +kernel
theorem d_Mo_goOn_219 : decode b_Mo_goOn 219 = .ok (.aload_n 0, 1) := by decide +kernel
theorem d_Mo_goOn_220 : decode b_Mo_goOn 220 = .ok (.getfield 47, 3) := by decide +kernel
theorem d_Mo_goOn_223 : decode b_Mo_goOn 223 = .ok (.iload_n 1, 1) := by decide +kernel
theorem d_Mo_goOn_224 : decode b_Mo_goOn 224 = .ok (.aload_n 0, 1) := by decide +kernel
theorem d_Mo_goOn_225 : decode b_Mo_goOn 225 = .ok (.iload_n 1, 1) := by decide +kernel
theorem d_Mo_goOn_226 : decode b_Mo_goOn 226 = .ok (.iload_n 2, 1) := by decide +kernel
theorem d_Mo_goOn_227 : decode b_Mo_goOn 227 = .ok (.invokevirtual 101, 3) := by decide +kernel
theorem d_Mo_goOn_230 : decode b_Mo_goOn 230 = .ok (.iastore, 1) := by decide +kernel
theorem d_Mo_goOn_231 : decode b_Mo_goOn 231 = .ok (.aload_n 0, 1) := by decide +kernel
theorem d_Mo_goOn_232 : decode b_Mo_goOn 232 = .ok (.getfield 44, 3) := by decide +kernel
theorem d_Mo_goOn_235 : decode b_Mo_goOn 235 = .ok (.iload_n 1, 1) := by decide +kernel
theorem d_Mo_goOn_236 : decode b_Mo_goOn 236 = .ok (.iload_n 2, 1) := by decide +kernel
theorem d_Mo_goOn_237 : decode b_Mo_goOn 237 = .ok (.iconst 1, 1) := by decide +kernel
theorem d_Mo_goOn_238 : decode b_Mo_goOn 238 = .ok (.iadd, 1) := by decide +kernel
theorem d_Mo_goOn_239 : decode b_Mo_goOn 239 = .ok (.iastore, 1) := by decide +kernel
theorem d_Mo_goOn_240 : decode b_Mo_goOn 240 = .ok (.iload_n 2, 1) := by decide +kernel
theorem d_Mo_goOn_241 : decode b_Mo_goOn 241 = .ok (.bipush 8, 2) := by decide +kernel
theorem d_Mo_goOn_243 : decode b_Mo_goOn 243 = .ok (.if_icmp .ge 19, 3) := by decide +kernel
theorem d_Mo_goOn_246 : decode b_Mo_goOn 246 = .ok (.aload_n 0, 1) := by decide +kernel
theorem d_Mo_goOn_247 : decode b_Mo_goOn 247 = .ok (.iload_n 1, 1) := by decide +kernel
theorem d_Mo_goOn_248 : decode b_Mo_goOn 248 = .ok (.iconst 0, 1) := by decide +kernel
theorem d_Mo_goOn_249 : decode b_Mo_goOn 249 = .ok (.iload_n 2, 1) := by decide +kernel
theorem d_Mo_goOn_250 : decode b_Mo_goOn 250 = .ok (.iconst 1, 1) := by decide +kernel
theorem d_Mo_goOn_251 : decode b_Mo_goOn 251 = .ok (.iadd, 1) := by decide +kernel
theorem d_Mo_goOn_252 : decode b_Mo_goOn 252 = .ok (.iload_n 1, 1) := by decide +kernel
theorem d_Mo_goOn_253 : decode b_Mo_goOn 253 = .ok (.aload_n 0, 1) := by decide +kernel
theorem d_Mo_goOn_254 : decode b_Mo_goOn 254 = .ok (.getfield 47, 3) := by decide +kernel
theorem d_Mo_goOn_257 : decode b_Mo_goOn 257 = .ok (.iload_n 1, 1) := by decide +kernel
theorem d_Mo_goOn_258 : decode b_Mo_goOn 258 = .ok (.iaload, 1) := by decide +kernel
theorem d_Mo_goOn_259 : decode b_Mo_goOn 259 = .ok (.invokevirtual 74, 3) := by decide +kernel
theorem d_Mo_goOn_262 : decode b_Mo_goOn 262 = .ok (.iconst 1, 1) := by decide +kernel
theorem d_Mo_goOn_263 : decode b_Mo_goOn 263 = .ok (.ireturn, 1) := by decide +kernel
theorem d_Mo_receiveFromLog_0 : decode b_Mo_receiveFromLog 0 = .ok (.aload_n 0, 1) := by decide +kernel
theorem d_Mo_receiveFromLog_1 : decode b_Mo_receiveFromLog 1 = .ok (.getfield 13, 3) := by decide +kernel
theorem d_Mo_receiveFromLog_4 : decode b_Mo_receiveFromLog 4 = .ok (.sipush 140, 3) := by decide +kernel
theorem d_Mo_receiveFromLog_7 : decode b_Mo_receiveFromLog 7 = .ok (.iload_n 2, 1) := by decide +kernel
theorem d_Mo_receiveFromLog_8 : decode b_Mo_receiveFromLog 8 = .ok (.imul, 1) := by decide +kernel
theorem d_Mo_receiveFromLog_9 : decode b_Mo_receiveFromLog 9 = .ok (.aload_n 0, 1) := by decide +kernel
theorem d_Mo_receiveFromLog_10 : decode b_Mo_receiveFromLog 10 = .ok (.getfield 20, 3) := by decide +kernel
theorem d_Mo_receiveFromLog_13 : decode b_Mo_receiveFromLog 13 = .ok (.bipush 7, 2) := by decide +kernel
theorem d_Mo_receiveFromLog_15 : decode b_Mo_receiveFromLog 15 = .ok (.iload_n 1, 1) := by decide +kernel
theorem d_Mo_receiveFromLog_16 : decode b_Mo_receiveFromLog 16 = .ok (.imul, 1) := by decide +kernel
theorem d_Mo_receiveFromLog_17 : decode b_Mo_receiveFromLog 17 = .ok (.iload_n 2, 1) := by decide +kernel
theorem d_Mo_receiveFromLog_18 : decode b_Mo_receiveFromLog 18 = .ok (.iadd, 1) := by decide +kernel
theorem d_Mo_receiveFromLog_19 : decode b_Mo_receiveFromLog 19 = .ok (.iaload, 1) := by decide +kernel
theorem d_Mo_receiveFromLog_20 : decode b_Mo_receiveFromLog 20 = .ok (.iadd, 1) := by decide +kernel
theorem d_Mo_receiveFromLog_21 : decode b_Mo_receiveFromLog 21 = .ok (.iaload, 1) := by decide +kernel
theorem d_Mo_receiveFromLog_22 : decode b_Mo_receiveFromLog 22 = .ok (.istore_n 3, 1) := by decide +kernel
theorem d_Mo_receiveFromLog_23 : decode b_Mo_receiveFromLog 23 = .ok (.aload_n 0, 1) := by decide +kernel
theorem d_Mo_receiveFromLog_24 : decode b_Mo_receiveFromLog 24 = .ok (.getfield 20, 3) := by decide +kernel
theorem d_Mo_receiveFromLog_27 : decode b_Mo_receiveFromLog 27 = .ok (.bipush 7, 2) := by decide +kernel
theorem d_Mo_receiveFromLog_29 : decode b_Mo_receiveFromLog 29 = .ok (.iload_n 1, 1) := by decide +kernel
theorem d_Mo_receiveFromLog_30 : decode b_Mo_receiveFromLog 30 = .ok (.imul, 1) := by decide +kernel
theorem d_Mo_receiveFromLog_31 : decode b_Mo_receiveFromLog 31 = .ok (.iload_n 2, 1) := by decide +kernel
theorem d_Mo_receiveFromLog_32 : decode b_Mo_receiveFromLog 32 = .ok (.iadd, 1) := by decide +kernel
theorem d_Mo_receiveFromLog_33 : decode b_Mo_receiveFromLog 33 = .ok (.aload_n 0, 1) := by decide +kernel
theorem d_Mo_receiveFromLog_34 : decode b_Mo_receiveFromLog 34 = .ok (.getfield 20, 3) := by decide +kernel
theorem d_Mo_receiveFromLog_37 : decode b_Mo_receiveFromLog 37 = .ok (.bipush 7, 2) := by decide +kernel
theorem d_Mo_receiveFromLog_39 : decode b_Mo_receiveFromLog 39 = .ok (.iload_n 1, 1) := by decide +kernel
theorem d_Mo_receiveFromLog_40 : decode b_Mo_receiveFromLog 40 = .ok (.imul, 1) := by decide +kernel
theorem d_Mo_receiveFromLog_41 : decode b_Mo_receiveFromLog 41 = .ok (.iload_n 2, 1) := by decide +kernel
theorem d_Mo_receiveFromLog_42 : decode b_Mo_receiveFromLog 42 = .ok (.iadd, 1) := by decide +kernel
theorem d_Mo_receiveFromLog_43 : decode b_Mo_receiveFromLog 43 = .ok (.iaload, 1) := by decide +kernel
theorem d_Mo_receiveFromLog_44 : decode b_Mo_receiveFromLog 44 = .ok (.iconst 1, 1) := by decide +kernel
theorem d_Mo_receiveFromLog_45 : decode b_Mo_receiveFromLog 45 = .ok (.iadd, 1) := by decide +kernel
theorem d_Mo_receiveFromLog_46 : decode b_Mo_receiveFromLog 46 = .ok (.iastore, 1) := by decide +kernel
theorem d_Mo_receiveFromLog_47 : decode b_Mo_receiveFromLog 47 = .ok (.aload_n 0, 1) := by decide +kernel
theorem d_Mo_receiveFromLog_48 : decode b_Mo_receiveFromLog 48 = .ok (.iload_n 1, 1) := by decide +kernel
theorem d_Mo_receiveFromLog_49 : decode b_Mo_receiveFromLog 49 = .ok (.iload_n 2, 1) := by decide +kernel
theorem d_Mo_receiveFromLog_50 : decode b_Mo_receiveFromLog 50 = .ok (.iload_n 3, 1) := by decide +kernel
theorem d_Mo_receiveFromLog_51 : decode b_Mo_receiveFromLog 51 = .ok (.bipush 10, 2) := by decide +kernel
theorem d_Mo_receiveFromLog_53 : decode b_Mo_receiveFromLog 53 = .ok (.idiv, 1) := by decide +kernel
theorem d_Mo_receiveFromLog_54 : decode b_Mo_receiveFromLog 54 = .ok (.bipush 10, 2) := by decide +kernel
theorem d_Mo_receiveFromLog_56 : decode b_Mo_receiveFromLog 56 = .ok (.irem, 1) := by decide +kernel
theorem d_Mo_receiveFromLog_57 : decode b_Mo_receiveFromLog 57 = .ok (.iload_n 3, 1) := by decide +kernel
theorem d_Mo_receiveFromLog_58 : decode b_Mo_receiveFromLog 58 = .ok (.sipush 1000, 3) := by decide +kernel
theorem d_Mo_receiveFromLog_61 : decode b_Mo_receiveFromLog 61 = .ok (.idiv, 1) := by decide +kernel
theorem d_Mo_receiveFromLog_62 : decode b_Mo_receiveFromLog 62 = .ok (.iload_n 3, 1) := by decide +kernel
theorem d_Mo_receiveFromLog_63 : decode b_Mo_receiveFromLog 63 = .ok (.bipush 100, 2) := by decide +kernel
theorem d_Mo_receiveFromLog_65 : decode b_Mo_receiveFromLog 65 = .ok (.idiv, 1) := by decide +kernel
theorem d_Mo_receiveFromLog_66 : decode b_Mo_receiveFromLog 66 = .ok (.bipush 10, 2) := by decide +kernel
theorem d_Mo_receiveFromLog_68 : decode b_Mo_receiveFromLog 68 = .ok (.irem, 1) := by decide +kernel
theorem d_Mo_receiveFromLog_69 : decode b_Mo_receiveFromLog 69 = .ok (.iload_n 3, 1) := by decide +kernel
theorem d_Mo_receiveFromLog_70 : decode b_Mo_receiveFromLog 70 = .ok (.bipush 10, 2) := by decide +kernel
theorem d_Mo_receiveFromLog_72 : decode b_Mo_receiveFromLog 72 = .ok (.irem, 1) := by decide +kernel
theorem d_Mo_receiveFromLog_73 : decode b_Mo_receiveFromLog 73 = .ok (.invokevirtual 82, 3) := by decide +kernel
theorem d_Mo_receiveFromLog_76 : decode b_Mo_receiveFromLog 76 = .ok (.pop, 1) := by decide +kernel
theorem d_Mo_receiveFromLog_77 : decode b_Mo_receiveFromLog 77 = .ok (.return_, 1) := by decide +kernel
theorem d_Mo_can_0 : decode b_Mo_can 0 = .ok (.aload_n 0, 1) := by decide +kernel
theorem d_Mo_can_1 : decode b_Mo_can 1 = .ok (.getfield 29, 3) := by decide +kernel
theorem d_Mo_can_4 : decode b_Mo_can 4 = .ok (.iload_n 1, 1) := by decide +kernel
theorem d_Mo_can_5 : decode b_Mo_can 5 = .ok (.iload_n 2, 1) := by decide +kernel
theorem d_Mo_can_6 : decode b_Mo_can 6 = .ok (.iload_n 3, 1) := by decide +kernel
theorem d_Mo_can_7 : decode b_Mo_can 7 = .ok (.invokestatic 70, 3) := by decide +kernel
theorem d_Mo_can_10 : decode b_Mo_can 10 = .ok (.iaload, 1) := by decide +kernel
theorem d_Mo_can_11 : decode b_Mo_can 11 = .ok (.iconst 1, 1) := by decide +kernel
theorem d_Mo_can_12 : decode b_Mo_can 12 = .ok (.isub, 1) := by decide +kernel
theorem d_Mo_can_13 : decode b_Mo_can 13 = .ok (.istore 4, 2) := by decide +kernel
theorem d_Mo_can_15 : decode b_Mo_can 15 = .ok (.iload_n 2, 1) := by decide +kernel
theorem d_Mo_can_16 : decode b_Mo_can 16 = .ok (.ifCond .ne 15, 3) := by decide +kernel
theorem d_Mo_can_19 : decode b_Mo_can 19 = .ok (.iload 4, 2) := by decide +kernel
theorem d_Mo_can_21 : decode b_Mo_can 21 = .ok (.iconst 2, 1) := by decide +kernel
theorem d_Mo_can_22 : decode b_Mo_can 22 = .ok (.if_icmp .ge 7, 3) := by decide +kernel
theorem d_Mo_can_25 : decode b_Mo_can 25 = .ok (.iconst 1, 1) := by decide +kernel
theorem d_Mo_can_26 : decode b_Mo_can 26 = .ok (.goto 4, 3) := by decide +kernel
theorem d_Mo_can_29 : decode b_Mo_can 29 = .ok (.iconst 0, 1) := by decide +kernel
theorem d_Mo_can_30 : decode b_Mo_can 30 = .ok (.ireturn, 1) := by decide +kernel
theorem d_Mo_can_31 : decode b_Mo_can 31 = .ok (.iload_n 2, 1) := by decide +kernel
theorem d_Mo_can_32 : decode b_Mo_can 32 = .ok (.iconst 3, 1) := by decide +kernel
theorem d_Mo_can_33 : decode b_Mo_can 33 = .ok (.irem, 1) := by decide +kernel
theorem d_Mo_can_34 : decode b_Mo_can 34 = .ok (.iconst 2, 1) := by decide +kernel
theorem d_Mo_can_35 : decode b_Mo_can 35 = .ok (.if_icmp .eq 28, 3) := by decide +kernel
theorem d_Mo_can_38 : decode b_Mo_can 38 = .ok (.iload 4, 2) := by decide +kernel
theorem d_Mo_can_40 : decode b_Mo_can 40 = .ok (.iconst 2, 1) := by decide +kernel
theorem d_Mo_can_41 : decode b_Mo_can 41 = .ok (.if_icmp .ge 20, 3) := by decide +kernel
theorem d_Mo_can_44 : decode b_Mo_can 44 = .ok (.aload_n 0, 1) := by decide +kernel
theorem d_Mo_can_45 : decode b_Mo_can 45 = .ok (.iload_n 1, 1) := by decide +kernel
theorem d_Mo_can_46 : decode b_Mo_can 46 = .ok (.iload_n 2, 1) := by decide +kernel
theorem d_Mo_can_47 : decode b_Mo_can 47 = .ok (.iconst 1, 1) := by decide +kernel
theorem d_Mo_can_48 : decode b_Mo_can 48 = .ok (.isub, 1) := by decide +kernel
theorem d_Mo_can_49 : decode b_Mo_can 49 = .ok (.iload 4, 2) := by decide +kernel
theorem d_Mo_can_51 : decode b_Mo_can 51 = .ok (.invokevirtual 90, 3) := by decide +kernel
theorem d_Mo_can_54 : decode b_Mo_can 54 = .ok (.ifCond .eq 7, 3) := by decide +kernel
theorem d_Mo_can_57 : decode b_Mo_can 57 = .ok (.iconst 1, 1) := by decide +kernel
theorem d_Mo_can_58 : decode b_Mo_can 58 = .ok (.goto 4, 3) := by decide +kernel
theorem d_Mo_can_61 : decode b_Mo_can 61 = .ok (.iconst 0, 1) := by decide +kernel
theorem d_Mo_can_62 : decode b_Mo_can 62 = .ok (.ireturn, 1) := by decide +kernel
theorem d_Mo_can_63 : decode b_Mo_can 63 = .ok (.iload 4, 2) := by decide +kernel
theorem d_Mo_can_65 : decode b_Mo_can 65 = .ok (.iconst 1, 1) := by decide +kernel
theorem d_Mo_can_66 : decode b_Mo_can 66 = .ok (.if_icmp .gt 39, 3) := by decide +kernel
theorem d_Mo_can_69 : decode b_Mo_can 69 = .ok (.aload_n 0, 1) := by decide +kernel
theorem d_Mo_can_70 : decode b_Mo_can 70 = .ok (.getfield 32, 3) := by decide +kernel
theorem d_Mo_can_73 : decode b_Mo_can 73 = .ok (.iload_n 1, 1) := by decide +kernel
theorem d_Mo_can_74 : decode b_Mo_can 74 = .ok (.iload_n 2, 1) := by decide +kernel
theorem d_Mo_can_75 : decode b_Mo_can 75 = .ok (.iconst 1, 1) := by decide +kernel
theorem d_Mo_can_76 : decode b_Mo_can 76 = .ok (.isub, 1) := by decide +kernel
theorem d_Mo_can_77 : decode b_Mo_can 77 = .ok (.iload_n 3, 1) := by decide +kernel
theorem d_Mo_can_78 : decode b_Mo_can 78 = .ok (.invokestatic 70, 3) := by decide +kernel
theorem d_Mo_can_81 : decode b_Mo_can 81 = .ok (.baload, 1) := by decide +kernel
theorem d_Mo_can_82 : decode b_Mo_can 82 = .ok (.ifCond .eq 27, 3) := by decide +kernel
theorem d_Mo_can_85 : decode b_Mo_can 85 = .ok (.aload_n 0, 1) := by decide +kernel
theorem d_Mo_can_86 : decode b_Mo_can 86 = .ok (.getfield 29, 3) := by decide +kernel
theorem d_Mo_can_89 : decode b_Mo_can 89 = .ok (.iload_n 1, 1) := by decide +kernel
theorem d_Mo_can_90 : decode b_Mo_can 90 = .ok (.iload_n 2, 1) := by decide +kernel
theorem d_Mo_can_91 : decode b_Mo_can 91 = .ok (.iconst 1, 1) := by decide +kernel
theorem d_Mo_can_92 : decode b_Mo_can 92 = .ok (.isub, 1) := by decide +kernel
theorem d_Mo_can_93 : decode b_Mo_can 93 = .ok (.iload_n 3, 1) := by decide +kernel
theorem d_Mo_can_94 : decode b_Mo_can 94 = .ok (.invokestatic 70, 3) := by decide +kernel
theorem d_Mo_can_97 : decode b_Mo_can 97 = .ok (.iaload, 1) := by decide +kernel
theorem d_Mo_can_98 : decode b_Mo_can 98 = .ok (.iload 4, 2) := by decide +kernel
theorem d_Mo_can_100 : decode b_Mo_can 100 = .ok (.iconst 1, 1) := by decide +kernel
theorem d_Mo_can_101 : decode b_Mo_can 101 = .ok (.iadd, 1) := by decide +kernel
theorem d_Mo_can_102 : decode b_Mo_can 102 = .ok (.if_icmp .ne 7, 3) := by decide +kernel
theorem d_Mo_can_105 : decode b_Mo_can 105 = .ok (.iconst 1, 1) := by decide +kernel
theorem d_Mo_can_106 : decode b_Mo_can 106 = .ok (.goto 4, 3) := by decide +kernel
theorem d_Mo_can_109 : decode b_Mo_can 109 = .ok (.iconst 0, 1) := by decide +kernel
theorem d_Mo_can_110 : decode b_Mo_can 110 = .ok (.istore 5, 2) := by decide +kernel
theorem d_Mo_can_112 : decode b_Mo_can 112 = .ok (.iload 5, 2) := by decide +kernel
theorem d_Mo_can_114 : decode b_Mo_can 114 = .ok (.ifCond .eq 20, 3) := by decide +kernel
theorem d_Mo_can_117 : decode b_Mo_can 117 = .ok (.aload_n 0, 1) := by decide +kernel
theorem d_Mo_can_118 : decode b_Mo_can 118 = .ok (.iload_n 1, 1) := by decide +kernel
theorem d_Mo_can_119 : decode b_Mo_can 119 = .ok (.iload_n 2, 1) := by decide +kernel
theorem d_Mo_can_120 : decode b_Mo_can 120 = .ok (.iconst 1, 1) := by decide +kernel
theorem d_Mo_can_121 : decode b_Mo_can 121 = .ok (.isub, 1) := by decide +kernel
theorem d_Mo_can_122 : decode b_Mo_can 122 = .ok (.iload 4, 2) := by decide +kernel
theorem d_Mo_can_124 : decode b_Mo_can 124 = .ok (.invokevirtual 90, 3) := by decide +kernel
theorem d_Mo_can_127 : decode b_Mo_can 127 = .ok (.ifCond .eq 7, 3) := by decide +kernel
theorem d_Mo_can_130 : decode b_Mo_can 130 = .ok (.iconst 1, 1) := by decide +kernel
theorem d_Mo_can_131 : decode b_Mo_can 131 = .ok (.goto 4, 3) := by decide +kernel
theorem d_Mo_can_134 : decode b_Mo_can 134 = .ok (.iconst 0, 1) := by decide +kernel
theorem d_Mo_can_135 : decode b_Mo_can 135 = .ok (.ireturn, 1) := by decide +kernel
theorem d_Mo_validate_0 : decode b_Mo_validate 0 = .ok (.iconst 0, 1) := by decide +kernel
theorem d_Mo_validate_1 : decode b_Mo_validate 1 = .ok (.istore_n 2, 1) := by decide +kernel
theorem d_Mo_validate_2 : decode b_Mo_validate 2 = .ok (.iload_n 2, 1) := by decide +kernel
theorem d_Mo_validate_3 : decode b_Mo_validate 3 = .ok (.bipush 9, 2) := by decide +kernel
theorem d_Mo_validate_5 : decode b_Mo_validate 5 = .ok (.if_icmp .ge 123, 3) := by decide +kernel
theorem d_Mo_validate_8 : decode b_Mo_validate 8 = .ok (.iconst 0, 1) := by decide +kernel
theorem d_Mo_validate_9 : decode b_Mo_validate 9 = .ok (.istore_n 3, 1) := by decide +kernel
theorem d_Mo_validate_10 : decode b_Mo_validate 10 = .ok (.iload_n 3, 1) := by decide +kernel
theorem d_Mo_validate_11 : decode b_Mo_validate 11 = .ok (.aload_n 0, 1) := by decide +kernel
theorem d_Mo_validate_12 : decode b_Mo_validate 12 = .ok (.getfield 59, 3) := by decide +kernel
theorem d_Mo_validate_15 : decode b_Mo_validate 15 = .ok (.if_icmp .ge 107, 3) := by decide +kernel
theorem d_Mo_validate_18 : decode b_Mo_validate 18 = .ok (.aload_n 0, 1) := by decide +kernel
theorem d_Mo_validate_19 : decode b_Mo_validate 19 = .ok (.getfield 29, 3) := by decide +kernel
theorem d_Mo_validate_22 : decode b_Mo_validate 22 = .ok (.iload_n 1, 1) := by decide +kernel
theorem d_Mo_validate_23 : decode b_Mo_validate 23 = .ok (.iload_n 2, 1) := by decide +kernel
theorem d_Mo_validate_24 : decode b_Mo_validate 24 = .ok (.iload_n 3, 1) := by decide +kernel
theorem d_Mo_validate_25 : decode b_Mo_validate 25 = .ok (.invokestatic 70, 3) := by decide +kernel
theorem d_Mo_validate_28 : decode b_Mo_validate 28 = .ok (.iaload, 1) := by decide +kernel
theorem d_Mo_validate_29 : decode b_Mo_validate 29 = .ok (.ifCond .le 87, 3) := by decide +kernel
theorem d_Mo_validate_32 : decode b_Mo_validate 32 = .ok (.aload_n 0, 1) := by decide +kernel
theorem d_Mo_validate_33 : decode b_Mo_validate 33 = .ok (.getfield 32, 3) := by decide +kernel
theorem d_Mo_validate_36 : decode b_Mo_validate 36 = .ok (.iload_n 1, 1) := by decide +kernel
theorem d_Mo_validate_37 : decode b_Mo_validate 37 = .ok (.iload_n 2, 1) := by decide +kernel
theorem d_Mo_validate_38 : decode b_Mo_validate 38 = .ok (.iload_n 3, 1) := by decide +kernel
theorem d_Mo_validate_39 : decode b_Mo_validate 39 = .ok (.invokestatic 70, 3) := by decide +kernel
theorem d_Mo_validate_42 : decode b_Mo_validate 42 = .ok (.baload, 1) := by decide +kernel
theorem d_Mo_validate_43 : decode b_Mo_validate 43 = .ok (.ifCond .ne 73, 3) := by decide +kernel
theorem d_Mo_validate_46 : decode b_Mo_validate 46 = .ok (.aload_n 0, 1) := by decide +kernel
theorem d_Mo_validate_47 : decode b_Mo_validate 47 = .ok (.iload_n 1, 1) := by decide +kernel
theorem d_Mo_validate_48 : decode b_Mo_validate 48 = .ok (.iload_n 2, 1) := by decide +kernel
theorem d_Mo_validate_49 : decode b_Mo_validate 49 = .ok (.iload_n 3, 1) := by decide +kernel
theorem d_Mo_validate_50 : decode b_Mo_validate 50 = .ok (.invokevirtual 94, 3) := by decide +kernel
theorem d_Mo_validate_53 : decode b_Mo_validate 53 = .ok (.ifCond .eq 63, 3) := by decide +kernel
theorem d_Mo_validate_56 : decode b_Mo_validate 56 = .ok (.aload_n 0, 1) := by decide +kernel
theorem d_Mo_validate_57 : decode b_Mo_validate 57 = .ok (.getfield 32, 3) := by decide +kernel
theorem d_Mo_validate_60 : decode b_Mo_validate 60 = .ok (.iload_n 1, 1) := by decide +kernel
theorem d_Mo_validate_61 : decode b_Mo_validate 61 = .ok (.iload_n 2, 1) := by decide +kernel
theorem d_Mo_validate_62 : decode b_Mo_validate 62 = .ok (.iload_n 3, 1) := by decide +kernel
theorem d_Mo_validate_63 : decode b_Mo_validate 63 = .ok (.invokestatic 70, 3) := by decide +kernel
theorem d_Mo_validate_66 : decode b_Mo_validate 66 = .ok (.iconst 1, 1) := by decide +kernel
theorem d_Mo_validate_67 : decode b_Mo_validate 67 = .ok (.bastore, 1) := by decide +kernel
theorem d_Mo_validate_68 : decode b_Mo_validate 68 = .ok (.aload_n 0, 1) := by decide +kernel
theorem d_Mo_validate_69 : decode b_Mo_validate 69 = .ok (.getfield 35, 3) := by decide +kernel
theorem d_Mo_validate_72 : decode b_Mo_validate 72 = .ok (.iload_n 1, 1) := by decide +kernel
theorem d_Mo_validate_73 : decode b_Mo_validate 73 = .ok (.iload_n 2, 1) := by decide +kernel
theorem d_Mo_validate_74 : decode b_Mo_validate 74 = .ok (.aload_n 0, 1) := by decide +kernel
theorem d_Mo_validate_75 : decode b_Mo_validate 75 = .ok (.getfield 38, 3) := by decide +kernel
theorem d_Mo_validate_78 : decode b_Mo_validate 78 = .ok (.bipush 9, 2) := by decide +kernel
theorem d_Mo_validate_80 : decode b_Mo_validate 80 = .ok (.iload_n 1, 1) := by decide +kernel
theorem d_Mo_validate_81 : decode b_Mo_validate 81 = .ok (.imul, 1) := by decide +kernel
theorem d_Mo_validate_82 : decode b_Mo_validate 82 = .ok (.iload_n 2, 1) := by decide +kernel
theorem d_Mo_validate_83 : decode b_Mo_validate 83 = .ok (.iadd, 1) := by decide +kernel
theorem d_Mo_validate_84 : decode b_Mo_validate 84 = .ok (.iaload, 1) := by decide +kernel
theorem d_Mo_validate_85 : decode b_Mo_validate 85 = .ok (.invokestatic 70, 3) := by decide +kernel
theorem d_Mo_validate_88 : decode b_Mo_validate 88 = .ok (.iload_n 3, 1) := by decide +kernel
theorem d_Mo_validate_89 : decode b_Mo_validate 89 = .ok (.iastore, 1) := by decide +kernel
theorem d_Mo_validate_90 : decode b_Mo_validate 90 = .ok (.aload_n 0, 1) := by decide +kernel
theorem d_Mo_validate_91 : decode b_Mo_validate 91 = .ok (.getfield 38, 3) := by decide +kernel
theorem d_Mo_validate_94 : decode b_Mo_validate 94 = .ok (.bipush 9, 2) := by decide +kernel
theorem d_Mo_validate_96 : decode b_Mo_validate 96 = .ok (.iload_n 1, 1) := by decide +kernel
theorem d_Mo_validate_97 : decode b_Mo_validate 97 = .ok (.imul, 1) := by decide +kernel
theorem d_Mo_validate_98 : decode b_Mo_validate 98 = .ok (.iload_n 2, 1) := by decide +kernel
theorem d_Mo_validate_99 : decode b_Mo_validate 99 = .ok (.iadd, 1) := by decide +kernel
theorem d_Mo_validate_100 : decode b_Mo_validate 100 = .ok (.aload_n 0, 1) := by decide +kernel
theorem d_Mo_validate_101 : decode b_Mo_validate 101 = .ok (.getfield 38, 3) := by decide +kernel
theorem d_Mo_validate_104 : decode b_Mo_validate 104 = .ok (.bipush 9, 2) := by decide +kernel
theorem d_Mo_validate_106 : decode b_Mo_validate 106 = .ok (.iload_n 1, 1) := by decide +kernel
theorem d_Mo_validate_107 : decode b_Mo_validate 107 = .ok (.imul, 1) := by decide +kernel
theorem d_Mo_validate_108 : decode b_Mo_validate 108 = .ok (.iload_n 2, 1) := by decide +kernel
theorem d_Mo_validate_109 : decode b_Mo_validate 109 = .ok (.iadd, 1) := by decide +kernel
theorem d_Mo_validate_110 : decode b_Mo_validate 110 = .ok (.iaload, 1) := by decide +kernel
theorem d_Mo_validate_111 : decode b_Mo_validate 111 = .ok (.iconst 1, 1) := by decide +kernel
theorem d_Mo_validate_112 : decode b_Mo_validate 112 = .ok (.iadd, 1) := by decide +kernel
theorem d_Mo_validate_113 : decode b_Mo_validate 113 = .ok (.iastore, 1) := by decide +kernel
theorem d_Mo_validate_114 : decode b_Mo_validate 114 = .ok (.iconst 1, 1) := by decide +kernel
theorem d_Mo_validate_115 : decode b_Mo_validate 115 = .ok (.ireturn, 1) := by decide +kernel
theorem d_Mo_validate_116 : decode b_Mo_validate 116 = .ok (.iinc 3 1, 3) := by decide +kernel
theorem d_Mo_validate_119 : decode b_Mo_validate 119 = .ok (.goto (-109), 3) := by decide +kernel
theorem d_Mo_validate_122 : decode b_Mo_validate 122 = .ok (.iinc 2 1, 3) := by decide +kernel
theorem d_Mo_validate_125 : decode b_Mo_validate 125 = .ok (.goto (-123), 3) := by decide +kernel
theorem d_Mo_validate_128 : decode b_Mo_validate 128 = .ok (.iconst 0, 1) := by decide +kernel
theorem d_Mo_validate_129 : decode b_Mo_validate 129 = .ok (.ireturn, 1) := by decide +kernel
theorem d_Mo_settle_0 : decode b_Mo_settle 0 = .ok (.iconst 1, 1) := by decide +kernel
theorem d_Mo_settle_1 : decode b_Mo_settle 1 = .ok (.istore_n 2, 1) := by decide +kernel
theorem d_Mo_settle_2 : decode b_Mo_settle 2 = .ok (.iconst 0, 1) := by decide +kernel
theorem d_Mo_settle_3 : decode b_Mo_settle 3 = .ok (.istore_n 3, 1) := by decide +kernel
theorem d_Mo_settle_4 : decode b_Mo_settle 4 = .ok (.iload_n 3, 1) := by decide +kernel
theorem d_Mo_settle_5 : decode b_Mo_settle 5 = .ok (.sipush 2000, 3) := by decide +kernel
theorem d_Mo_settle_8 : decode b_Mo_settle 8 = .ok (.if_icmp .ge 62, 3) := by decide +kernel
theorem d_Mo_settle_11 : decode b_Mo_settle 11 = .ok (.iload_n 2, 1) := by decide +kernel
theorem d_Mo_settle_12 : decode b_Mo_settle 12 = .ok (.ifCond .eq 58, 3) := by decide +kernel
theorem d_Mo_settle_15 : decode b_Mo_settle 15 = .ok (.aload_n 0, 1) := by decide +kernel
theorem d_Mo_settle_16 : decode b_Mo_settle 16 = .ok (.getfield 20, 3) := by decide +kernel
theorem d_Mo_settle_19 : decode b_Mo_settle 19 = .ok (.bipush 8, 2) := by decide +kernel
theorem d_Mo_settle_21 : decode b_Mo_settle 21 = .ok (.iload_n 1, 1) := by decide +kernel
theorem d_Mo_settle_22 : decode b_Mo_settle 22 = .ok (.imul, 1) := by decide +kernel
theorem d_Mo_settle_23 : decode b_Mo_settle 23 = .ok (.iaload, 1) := by decide +kernel
theorem d_Mo_settle_24 : decode b_Mo_settle 24 = .ok (.aload_n 0, 1) := by decide +kernel
theorem d_Mo_settle_25 : decode b_Mo_settle 25 = .ok (.getfield 17, 3) := by decide +kernel
theorem d_Mo_settle_28 : decode b_Mo_settle 28 = .ok (.iload_n 1, 1) := by decide +kernel
theorem d_Mo_settle_29 : decode b_Mo_settle 29 = .ok (.iaload, 1) := by decide +kernel
theorem d_Mo_settle_30 : decode b_Mo_settle 30 = .ok (.if_icmp .ge 12, 3) := by decide +kernel
theorem d_Mo_settle_33 : decode b_Mo_settle 33 = .ok (.aload_n 0, 1) := by decide +kernel
theorem d_Mo_settle_34 : decode b_Mo_settle 34 = .ok (.iload_n 1, 1) := by decide +kernel
theorem d_Mo_settle_35 : decode b_Mo_settle 35 = .ok (.iload_n 1, 1) := by decide +kernel
theorem d_Mo_settle_36 : decode b_Mo_settle 36 = .ok (.invokevirtual 105, 3) := by decide +kernel
theorem d_Mo_settle_39 : decode b_Mo_settle 39 = .ok (.goto 25, 3) := by decide +kernel
theorem d_Mo_settle_42 : decode b_Mo_settle 42 = .ok (.aload_n 0, 1) := by decide +kernel
theorem d_Mo_settle_43 : decode b_Mo_settle 43 = .ok (.iload_n 1, 1) := by decide +kernel
theorem d_Mo_settle_44 : decode b_Mo_settle 44 = .ok (.invokevirtual 109, 3) := by decide +kernel
theorem d_Mo_settle_47 : decode b_Mo_settle 47 = .ok (.ifCond .ne 11, 3) := by decide +kernel
theorem d_Mo_settle_50 : decode b_Mo_settle 50 = .ok (.aload_n 0, 1) := by decide +kernel
theorem d_Mo_settle_51 : decode b_Mo_settle 51 = .ok (.iload_n 1, 1) := by decide +kernel
theorem d_Mo_settle_52 : decode b_Mo_settle 52 = .ok (.invokevirtual 112, 3) := by decide +kernel
theorem d_Mo_settle_55 : decode b_Mo_settle 55 = .ok (.ifCond .eq 7, 3) := by decide +kernel
theorem d_Mo_settle_58 : decode b_Mo_settle 58 = .ok (.iconst 1, 1) := by decide +kernel
theorem d_Mo_settle_59 : decode b_Mo_settle 59 = .ok (.goto 4, 3) := by decide +kernel
theorem d_Mo_settle_62 : decode b_Mo_settle 62 = .ok (.iconst 0, 1) := by decide +kernel
theorem d_Mo_settle_63 : decode b_Mo_settle 63 = .ok (.istore_n 2, 1) := by decide +kernel
theorem d_Mo_settle_64 : decode b_Mo_settle 64 = .ok (.iinc 3 1, 3) := by decide +kernel
theorem d_Mo_settle_67 : decode b_Mo_settle 67 = .ok (.goto (-63), 3) := by decide +kernel
theorem d_Mo_settle_70 : decode b_Mo_settle 70 = .ok (.return_, 1) := by decide +kernel
theorem d_Mo_start_0 : decode b_Mo_start 0 = .ok (.aload_n 0, 1) := by decide +kernel
theorem d_Mo_start_1 : decode b_Mo_start 1 = .ok (.iload_n 1, 1) := by decide +kernel
theorem d_Mo_start_2 : decode b_Mo_start 2 = .ok (.invokevirtual 115, 3) := by decide +kernel
theorem d_Mo_start_5 : decode b_Mo_start 5 = .ok (.ifCond .eq 21, 3) := by decide +kernel
theorem d_Mo_start_8 : decode b_Mo_start 8 = .ok (.aload_n 0, 1) := by decide +kernel
theorem d_Mo_start_9 : decode b_Mo_start 9 = .ok (.getfield 44, 3) := by decide +kernel
theorem d_Mo_start_12 : decode b_Mo_start 12 = .ok (.iload_n 1, 1) := by decide +kernel
theorem d_Mo_start_13 : decode b_Mo_start 13 = .ok (.iaload, 1) := by decide +kernel
theorem d_Mo_start_14 : decode b_Mo_start 14 = .ok (.ifCond .ge 12, 3) := by decide +kernel
theorem d_Mo_start_17 : decode b_Mo_start 17 = .ok (.iload_n 2, 1) := by decide +kernel
theorem d_Mo_start_18 : decode b_Mo_start 18 = .ok (.ifCond .lt 8, 3) := by decide +kernel
theorem d_Mo_start_21 : decode b_Mo_start 21 = .ok (.iload_n 2, 1) := by decide +kernel
theorem d_Mo_start_22 : decode b_Mo_start 22 = .ok (.iconst 1, 1) := by decide +kernel
theorem d_Mo_start_23 : decode b_Mo_start 23 = .ok (.if_icmp .le 5, 3) := by decide +kernel
theorem d_Mo_start_26 : decode b_Mo_start 26 = .ok (.iconst 0, 1) := by decide +kernel
theorem d_Mo_start_27 : decode b_Mo_start 27 = .ok (.ireturn, 1) := by decide +kernel
theorem d_Mo_start_28 : decode b_Mo_start 28 = .ok (.aload_n 0, 1) := by decide +kernel
theorem d_Mo_start_29 : decode b_Mo_start 29 = .ok (.getfield 44, 3) := by decide +kernel
theorem d_Mo_start_32 : decode b_Mo_start 32 = .ok (.iload_n 1, 1) := by decide +kernel
theorem d_Mo_start_33 : decode b_Mo_start 33 = .ok (.iconst 0, 1) := by decide +kernel
theorem d_Mo_start_34 : decode b_Mo_start 34 = .ok (.iastore, 1) := by decide +kernel
theorem d_Mo_start_35 : decode b_Mo_start 35 = .ok (.aload_n 0, 1) := by decide +kernel
theorem d_Mo_start_36 : decode b_Mo_start 36 = .ok (.getfield 47, 3) := by decide +kernel
theorem d_Mo_start_39 : decode b_Mo_start 39 = .ok (.iload_n 1, 1) := by decide +kernel
theorem d_Mo_start_40 : decode b_Mo_start 40 = .ok (.iload_n 2, 1) := by decide +kernel
theorem d_Mo_start_41 : decode b_Mo_start 41 = .ok (.iastore, 1) := by decide +kernel
theorem d_Mo_start_42 : decode b_Mo_start 42 = .ok (.aload_n 0, 1) := by decide +kernel
theorem d_Mo_start_43 : decode b_Mo_start 43 = .ok (.iload_n 1, 1) := by decide +kernel
theorem d_Mo_start_44 : decode b_Mo_start 44 = .ok (.iconst 0, 1) := by decide +kernel
theorem d_Mo_start_45 : decode b_Mo_start 45 = .ok (.iconst 0, 1) := by decide +kernel
theorem d_Mo_start_46 : decode b_Mo_start 46 = .ok (.iload_n 1, 1) := by decide +kernel
theorem d_Mo_start_47 : decode b_Mo_start 47 = .ok (.iload_n 2, 1) := by decide +kernel
theorem d_Mo_start_48 : decode b_Mo_start 48 = .ok (.invokevirtual 74, 3) := by decide +kernel
theorem d_Mo_start_51 : decode b_Mo_start 51 = .ok (.aload_n 0, 1) := by decide +kernel
theorem d_Mo_start_52 : decode b_Mo_start 52 = .ok (.iload_n 1, 1) := by decide +kernel
theorem d_Mo_start_53 : decode b_Mo_start 53 = .ok (.invokevirtual 118, 3) := by decide +kernel
theorem d_Mo_start_56 : decode b_Mo_start 56 = .ok (.iconst 1, 1) := by decide +kernel
theorem d_Mo_start_57 : decode b_Mo_start 57 = .ok (.ireturn, 1) := by decide +kernel
theorem d_Mo_pass_0 : decode b_Mo_pass 0 = .ok (.aload_n 0, 1) := by decide +kernel
theorem d_Mo_pass_1 : decode b_Mo_pass 1 = .ok (.iload_n 1, 1) := by decide +kernel
theorem d_Mo_pass_2 : decode b_Mo_pass 2 = .ok (.invokevirtual 66, 3) := by decide +kernel
theorem d_Mo_pass_5 : decode b_Mo_pass 5 = .ok (.ifCond .eq 27, 3) := by decide +kernel
theorem d_Mo_pass_8 : decode b_Mo_pass 8 = .ok (.aload_n 0, 1) := by decide +kernel
theorem d_Mo_pass_9 : decode b_Mo_pass 9 = .ok (.iload_n 2, 1) := by decide +kernel
theorem d_Mo_pass_10 : decode b_Mo_pass 10 = .ok (.invokevirtual 115, 3) := by decide +kernel
theorem d_Mo_pass_13 : decode b_Mo_pass 13 = .ok (.ifCond .eq 19, 3) := by decide +kernel
theorem d_Mo_pass_16 : decode b_Mo_pass 16 = .ok (.iload_n 1, 1) := by decide +kernel
theorem d_Mo_pass_17 : decode b_Mo_pass 17 = .ok (.iload_n 2, 1) := by decide +kernel
theorem d_Mo_pass_18 : decode b_Mo_pass 18 = .ok (.if_icmp .eq 14, 3) := by decide +kernel
theorem d_Mo_pass_21 : decode b_Mo_pass 21 = .ok (.iload_n 3, 1) := by decide +kernel
theorem d_Mo_pass_22 : decode b_Mo_pass 22 = .ok (.iconst 1, 1) := by decide +kernel
theorem d_Mo_pass_23 : decode b_Mo_pass 23 = .ok (.if_icmp .lt 9, 3) := by decide +kernel
theorem d_Mo_pass_26 : decode b_Mo_pass 26 = .ok (.iload_n 3, 1) := by decide +kernel
theorem d_Mo_pass_27 : decode b_Mo_pass 27 = .ok (.bipush 100, 2) := by decide +kernel
theorem d_Mo_pass_29 : decode b_Mo_pass 29 = .ok (.if_icmp .le 5, 3) := by decide +kernel
theorem d_Mo_pass_32 : decode b_Mo_pass 32 = .ok (.iconst (-1), 1) := by decide +kernel
theorem d_Mo_pass_33 : decode b_Mo_pass 33 = .ok (.ireturn, 1) := by decide +kernel
theorem d_Mo_pass_34 : decode b_Mo_pass 34 = .ok (.iconst 0, 1) := by decide +kernel
theorem d_Mo_pass_35 : decode b_Mo_pass 35 = .ok (.istore 4, 2) := by decide +kernel
theorem d_Mo_pass_37 : decode b_Mo_pass 37 = .ok (.iload 4, 2) := by decide +kernel
theorem d_Mo_pass_39 : decode b_Mo_pass 39 = .ok (.iload_n 3, 1) := by decide +kernel
theorem d_Mo_pass_40 : decode b_Mo_pass 40 = .ok (.if_icmp .ge 43, 3) := by decide +kernel
theorem d_Mo_pass_43 : decode b_Mo_pass 43 = .ok (.aload_n 0, 1) := by decide +kernel
theorem d_Mo_pass_44 : decode b_Mo_pass 44 = .ok (.getfield 20, 3) := by decide +kernel
theorem d_Mo_pass_47 : decode b_Mo_pass 47 = .ok (.bipush 7, 2) := by decide +kernel
theorem d_Mo_pass_49 : decode b_Mo_pass 49 = .ok (.iload_n 2, 1) := by decide +kernel
theorem d_Mo_pass_50 : decode b_Mo_pass 50 = .ok (.imul, 1) := by decide +kernel
theorem d_Mo_pass_51 : decode b_Mo_pass 51 = .ok (.iload_n 1, 1) := by decide +kernel
theorem d_Mo_pass_52 : decode b_Mo_pass 52 = .ok (.iadd, 1) := by decide +kernel
theorem d_Mo_pass_53 : decode b_Mo_pass 53 = .ok (.iaload, 1) := by decide +kernel
theorem d_Mo_pass_54 : decode b_Mo_pass 54 = .ok (.aload_n 0, 1) := by decide +kernel
theorem d_Mo_pass_55 : decode b_Mo_pass 55 = .ok (.getfield 17, 3) := by decide +kernel
theorem d_Mo_pass_58 : decode b_Mo_pass 58 = .ok (.iload_n 1, 1) := by decide +kernel
theorem d_Mo_pass_59 : decode b_Mo_pass 59 = .ok (.iaload, 1) := by decide +kernel
theorem d_Mo_pass_60 : decode b_Mo_pass 60 = .ok (.if_icmp .ge 23, 3) := by decide +kernel
theorem d_Mo_pass_63 : decode b_Mo_pass 63 = .ok (.aload_n 0, 1) := by decide +kernel
theorem d_Mo_pass_64 : decode b_Mo_pass 64 = .ok (.iload_n 2, 1) := by decide +kernel
theorem d_Mo_pass_65 : decode b_Mo_pass 65 = .ok (.iload_n 1, 1) := by decide +kernel
theorem d_Mo_pass_66 : decode b_Mo_pass 66 = .ok (.invokevirtual 105, 3) := by decide +kernel
theorem d_Mo_pass_69 : decode b_Mo_pass 69 = .ok (.aload_n 0, 1) := by decide +kernel
theorem d_Mo_pass_70 : decode b_Mo_pass 70 = .ok (.iload_n 2, 1) := by decide +kernel
theorem d_Mo_pass_71 : decode b_Mo_pass 71 = .ok (.invokevirtual 118, 3) := by decide +kernel
theorem d_Mo_pass_74 : decode b_Mo_pass 74 = .ok (.iload 4, 2) := by decide +kernel
theorem d_Mo_pass_76 : decode b_Mo_pass 76 = .ok (.iconst 1, 1) := by decide +kernel
theorem d_Mo_pass_77 : decode b_Mo_pass 77 = .ok (.iadd, 1) := by decide +kernel
theorem d_Mo_pass_78 : decode b_Mo_pass 78 = .ok (.istore 4, 2) := by decide +kernel
theorem d_Mo_pass_80 : decode b_Mo_pass 80 = .ok (.goto (-43), 3) := by decide +kernel
theorem d_Mo_pass_83 : decode b_Mo_pass 83 = .ok (.iload 4, 2) := by decide +kernel
theorem d_Mo_pass_85 : decode b_Mo_pass 85 = .ok (.ireturn, 1) := by decide +kernel
theorem d_Mo_forge_0 : decode b_Mo_forge 0 = .ok (.aload_n 0, 1) := by decide +kernel
theorem d_Mo_forge_1 : decode b_Mo_forge 1 = .ok (.iload_n 1, 1) := by decide +kernel
theorem d_Mo_forge_2 : decode b_Mo_forge 2 = .ok (.invokevirtual 66, 3) := by decide +kernel
theorem d_Mo_forge_5 : decode b_Mo_forge 5 = .ok (.ifCond .eq 51, 3) := by decide +kernel
theorem d_Mo_forge_8 : decode b_Mo_forge 8 = .ok (.aload_n 0, 1) := by decide +kernel
theorem d_Mo_forge_9 : decode b_Mo_forge 9 = .ok (.getfield 7, 3) := by decide +kernel
theorem d_Mo_forge_12 : decode b_Mo_forge 12 = .ok (.iload_n 1, 1) := by decide +kernel
theorem d_Mo_forge_13 : decode b_Mo_forge 13 = .ok (.baload, 1) := by decide +kernel
theorem d_Mo_forge_14 : decode b_Mo_forge 14 = .ok (.ifCond .eq 42, 3) := by decide +kernel
theorem d_Mo_forge_17 : decode b_Mo_forge 17 = .ok (.aload_n 0, 1) := by decide +kernel
theorem d_Mo_forge_18 : decode b_Mo_forge 18 = .ok (.iload_n 2, 1) := by decide +kernel
theorem d_Mo_forge_19 : decode b_Mo_forge 19 = .ok (.invokevirtual 115, 3) := by decide +kernel
theorem d_Mo_forge_22 : decode b_Mo_forge 22 = .ok (.ifCond .eq 34, 3) := by decide +kernel
theorem d_Mo_forge_25 : decode b_Mo_forge 25 = .ok (.iload_n 3, 1) := by decide +kernel
theorem d_Mo_forge_26 : decode b_Mo_forge 26 = .ok (.ifCond .lt 30, 3) := by decide +kernel
theorem d_Mo_forge_29 : decode b_Mo_forge 29 = .ok (.iload_n 3, 1) := by decide +kernel
theorem d_Mo_forge_30 : decode b_Mo_forge 30 = .ok (.bipush 8, 2) := by decide +kernel
theorem d_Mo_forge_32 : decode b_Mo_forge 32 = .ok (.if_icmp .gt 24, 3) := by decide +kernel
theorem d_Mo_forge_35 : decode b_Mo_forge 35 = .ok (.aload_n 0, 1) := by decide +kernel
theorem d_Mo_forge_36 : decode b_Mo_forge 36 = .ok (.iload 4, 2) := by decide +kernel
theorem d_Mo_forge_38 : decode b_Mo_forge 38 = .ok (.invokevirtual 66, 3) := by decide +kernel
theorem d_Mo_forge_41 : decode b_Mo_forge 41 = .ok (.ifCond .eq 15, 3) := by decide +kernel
theorem d_Mo_forge_44 : decode b_Mo_forge 44 = .ok (.iload 5, 2) := by decide +kernel
theorem d_Mo_forge_46 : decode b_Mo_forge 46 = .ok (.ifCond .lt 10, 3) := by decide +kernel
theorem d_Mo_forge_49 : decode b_Mo_forge 49 = .ok (.iload 5, 2) := by decide +kernel
theorem d_Mo_forge_51 : decode b_Mo_forge 51 = .ok (.bipush 11, 2) := by decide +kernel
theorem d_Mo_forge_53 : decode b_Mo_forge 53 = .ok (.if_icmp .le 5, 3) := by decide +kernel
theorem d_Mo_forge_56 : decode b_Mo_forge 56 = .ok (.iconst 0, 1) := by decide +kernel
theorem d_Mo_forge_57 : decode b_Mo_forge 57 = .ok (.ireturn, 1) := by decide +kernel
theorem d_Mo_forge_58 : decode b_Mo_forge 58 = .ok (.aload_n 0, 1) := by decide +kernel
theorem d_Mo_forge_59 : decode b_Mo_forge 59 = .ok (.iload_n 2, 1) := by decide +kernel
theorem d_Mo_forge_60 : decode b_Mo_forge 60 = .ok (.iload_n 1, 1) := by decide +kernel
theorem d_Mo_forge_61 : decode b_Mo_forge 61 = .ok (.iload 5, 2) := by decide +kernel
theorem d_Mo_forge_63 : decode b_Mo_forge 63 = .ok (.iconst 4, 1) := by decide +kernel
theorem d_Mo_forge_64 : decode b_Mo_forge 64 = .ok (.idiv, 1) := by decide +kernel
theorem d_Mo_forge_65 : decode b_Mo_forge 65 = .ok (.iload_n 3, 1) := by decide +kernel
theorem d_Mo_forge_66 : decode b_Mo_forge 66 = .ok (.iload 4, 2) := by decide +kernel
