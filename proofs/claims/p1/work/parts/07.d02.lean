theorem dX12_round_16 : decode cX12_round 16 = .ok (.iload_n 3, 1) := by decide +kernel
theorem dX12_round_17 : decode cX12_round 17 = .ok (.iconst 0, 1) := by decide +kernel
theorem dX12_round_18 : decode cX12_round 18 = .ok (.iconst 1, 1) := by decide +kernel
theorem dX12_round_19 : decode cX12_round 19 = .ok (.invokestatic 54, 3) := by decide +kernel
theorem dX12_round_22 : decode cX12_round 22 = .ok (.ifCond .ne 9, 3) := by decide +kernel
theorem dX12_round_25 : decode cX12_round 25 = .ok (.aload_n 0, 1) := by decide +kernel
theorem dX12_round_26 : decode cX12_round 26 = .ok (.iconst 1, 1) := by decide +kernel
theorem dX12_round_27 : decode cX12_round 27 = .ok (.invokevirtual 66, 3) := by decide +kernel
theorem dX12_round_30 : decode cX12_round 30 = .ok (.ireturn, 1) := by decide +kernel
theorem dX12_round_31 : decode cX12_round 31 = .ok (.aload_n 0, 1) := by decide +kernel
theorem dX12_round_32 : decode cX12_round 32 = .ok (.iload_n 1, 1) := by decide +kernel
theorem dX12_round_33 : decode cX12_round 33 = .ok (.invokevirtual 62, 3) := by decide +kernel
theorem dX12_round_36 : decode cX12_round 36 = .ok (.ifCond .ne 9, 3) := by decide +kernel
theorem dX12_round_39 : decode cX12_round 39 = .ok (.aload_n 0, 1) := by decide +kernel
theorem dX12_round_40 : decode cX12_round 40 = .ok (.iconst 3, 1) := by decide +kernel
theorem dX12_round_41 : decode cX12_round 41 = .ok (.invokevirtual 66, 3) := by decide +kernel
theorem dX12_round_44 : decode cX12_round 44 = .ok (.ireturn, 1) := by decide +kernel
theorem dX12_round_45 : decode cX12_round 45 = .ok (.iload_n 2, 1) := by decide +kernel
theorem dX12_round_46 : decode cX12_round 46 = .ok (.iconst 1, 1) := by decide +kernel
theorem dX12_round_47 : decode cX12_round 47 = .ok (.if_icmp .ne 8, 3) := by decide +kernel
theorem dX12_round_50 : decode cX12_round 50 = .ok (.bipush 9, 2) := by decide +kernel
theorem dX12_round_52 : decode cX12_round 52 = .ok (.goto 16, 3) := by decide +kernel
theorem dX12_round_55 : decode cX12_round 55 = .ok (.iload_n 2, 1) := by decide +kernel
theorem dX12_round_56 : decode cX12_round 56 = .ok (.iconst 2, 1) := by decide +kernel
theorem dX12_round_57 : decode cX12_round 57 = .ok (.if_icmp .ne 8, 3) := by decide +kernel
theorem dX12_round_60 : decode cX12_round 60 = .ok (.bipush 81, 2) := by decide +kernel
theorem dX12_round_62 : decode cX12_round 62 = .ok (.goto 6, 3) := by decide +kernel
theorem dX12_round_65 : decode cX12_round 65 = .ok (.sipush 729, 3) := by decide +kernel
theorem dX12_round_68 : decode cX12_round 68 = .ok (.istore 4, 2) := by decide +kernel
theorem dX12_round_70 : decode cX12_round 70 = .ok (.iconst (-1), 1) := by decide +kernel
theorem dX12_round_71 : decode cX12_round 71 = .ok (.istore 5, 2) := by decide +kernel
theorem dX12_round_73 : decode cX12_round 73 = .ok (.iconst 0, 1) := by decide +kernel
theorem dX12_round_74 : decode cX12_round 74 = .ok (.istore 6, 2) := by decide +kernel
theorem dX12_round_76 : decode cX12_round 76 = .ok (.aload_n 0, 1) := by decide +kernel
theorem dX12_round_77 : decode cX12_round 77 = .ok (.iconst 0, 1) := by decide +kernel
theorem dX12_round_78 : decode cX12_round 78 = .ok (.invokevirtual 185, 3) := by decide +kernel
theorem dX12_round_81 : decode cX12_round 81 = .ok (.iconst 0, 1) := by decide +kernel
theorem dX12_round_82 : decode cX12_round 82 = .ok (.istore 7, 2) := by decide +kernel
theorem dX12_round_84 : decode cX12_round 84 = .ok (.iload 7, 2) := by decide +kernel
theorem dX12_round_86 : decode cX12_round 86 = .ok (.iload 4, 2) := by decide +kernel
theorem dX12_round_88 : decode cX12_round 88 = .ok (.if_icmp .ge 89, 3) := by decide +kernel
theorem dX12_round_91 : decode cX12_round 91 = .ok (.iconst 0, 1) := by decide +kernel
theorem dX12_round_92 : decode cX12_round 92 = .ok (.istore 8, 2) := by decide +kernel
theorem dX12_round_94 : decode cX12_round 94 = .ok (.iload 4, 2) := by decide +kernel
theorem dX12_round_96 : decode cX12_round 96 = .ok (.bipush 9, 2) := by decide +kernel
theorem dX12_round_98 : decode cX12_round 98 = .ok (.idiv, 1) := by decide +kernel
theorem dX12_round_99 : decode cX12_round 99 = .ok (.istore 9, 2) := by decide +kernel
theorem dX12_round_101 : decode cX12_round 101 = .ok (.iload 9, 2) := by decide +kernel
theorem dX12_round_103 : decode cX12_round 103 = .ok (.ifCond .le 30, 3) := by decide +kernel
theorem dX12_round_106 : decode cX12_round 106 = .ok (.iload 8, 2) := by decide +kernel
theorem dX12_round_108 : decode cX12_round 108 = .ok (.aload_n 0, 1) := by decide +kernel
theorem dX12_round_109 : decode cX12_round 109 = .ok (.iload 7, 2) := by decide +kernel
theorem dX12_round_111 : decode cX12_round 111 = .ok (.iload 9, 2) := by decide +kernel
theorem dX12_round_113 : decode cX12_round 113 = .ok (.idiv, 1) := by decide +kernel
theorem dX12_round_114 : decode cX12_round 114 = .ok (.bipush 9, 2) := by decide +kernel
theorem dX12_round_116 : decode cX12_round 116 = .ok (.irem, 1) := by decide +kernel
theorem dX12_round_117 : decode cX12_round 117 = .ok (.invokevirtual 175, 3) := by decide +kernel
theorem dX12_round_120 : decode cX12_round 120 = .ok (.iadd, 1) := by decide +kernel
theorem dX12_round_121 : decode cX12_round 121 = .ok (.istore 8, 2) := by decide +kernel
theorem dX12_round_123 : decode cX12_round 123 = .ok (.iload 9, 2) := by decide +kernel
theorem dX12_round_125 : decode cX12_round 125 = .ok (.bipush 9, 2) := by decide +kernel
theorem dX12_round_127 : decode cX12_round 127 = .ok (.idiv, 1) := by decide +kernel
theorem dX12_round_128 : decode cX12_round 128 = .ok (.istore 9, 2) := by decide +kernel
theorem dX12_round_130 : decode cX12_round 130 = .ok (.goto (-29), 3) := by decide +kernel
theorem dX12_round_133 : decode cX12_round 133 = .ok (.aload_n 0, 1) := by decide +kernel
theorem dX12_round_134 : decode cX12_round 134 = .ok (.iload_n 1, 1) := by decide +kernel
theorem dX12_round_135 : decode cX12_round 135 = .ok (.invokevirtual 62, 3) := by decide +kernel
theorem dX12_round_138 : decode cX12_round 138 = .ok (.ifCond .ne 28, 3) := by decide +kernel
theorem dX12_round_141 : decode cX12_round 141 = .ok (.iload 5, 2) := by decide +kernel
theorem dX12_round_143 : decode cX12_round 143 = .ok (.iconst (-1), 1) := by decide +kernel
theorem dX12_round_144 : decode cX12_round 144 = .ok (.if_icmp .eq 12, 3) := by decide +kernel
theorem dX12_round_147 : decode cX12_round 147 = .ok (.iload 8, 2) := by decide +kernel
theorem dX12_round_149 : decode cX12_round 149 = .ok (.iconst 1, 1) := by decide +kernel
theorem dX12_round_150 : decode cX12_round 150 = .ok (.isub, 1) := by decide +kernel
theorem dX12_round_151 : decode cX12_round 151 = .ok (.iload 5, 2) := by decide +kernel
theorem dX12_round_153 : decode cX12_round 153 = .ok (.if_icmp .ge 13, 3) := by decide +kernel
theorem dX12_round_156 : decode cX12_round 156 = .ok (.iload 8, 2) := by decide +kernel
theorem dX12_round_158 : decode cX12_round 158 = .ok (.iconst 1, 1) := by decide +kernel
theorem dX12_round_159 : decode cX12_round 159 = .ok (.isub, 1) := by decide +kernel
theorem dX12_round_160 : decode cX12_round 160 = .ok (.istore 5, 2) := by decide +kernel
theorem dX12_round_162 : decode cX12_round 162 = .ok (.iload 7, 2) := by decide +kernel
theorem dX12_round_164 : decode cX12_round 164 = .ok (.istore 6, 2) := by decide +kernel
theorem dX12_round_166 : decode cX12_round 166 = .ok (.aload_n 0, 1) := by decide +kernel
theorem dX12_round_167 : decode cX12_round 167 = .ok (.iconst 0, 1) := by decide +kernel
theorem dX12_round_168 : decode cX12_round 168 = .ok (.invokevirtual 188, 3) := by decide +kernel
theorem dX12_round_171 : decode cX12_round 171 = .ok (.iinc 7 1, 3) := by decide +kernel
theorem dX12_round_174 : decode cX12_round 174 = .ok (.goto (-90), 3) := by decide +kernel
theorem dX12_round_177 : decode cX12_round 177 = .ok (.iload 5, 2) := by decide +kernel
theorem dX12_round_179 : decode cX12_round 179 = .ok (.iconst (-1), 1) := by decide +kernel
theorem dX12_round_180 : decode cX12_round 180 = .ok (.if_icmp .ne 9, 3) := by decide +kernel
theorem dX12_round_183 : decode cX12_round 183 = .ok (.aload_n 0, 1) := by decide +kernel
theorem dX12_round_184 : decode cX12_round 184 = .ok (.iconst 2, 1) := by decide +kernel
theorem dX12_round_185 : decode cX12_round 185 = .ok (.invokevirtual 66, 3) := by decide +kernel
theorem dX12_round_188 : decode cX12_round 188 = .ok (.ireturn, 1) := by decide +kernel
theorem dX12_round_189 : decode cX12_round 189 = .ok (.iconst 0, 1) := by decide +kernel
theorem dX12_round_190 : decode cX12_round 190 = .ok (.istore 7, 2) := by decide +kernel
theorem dX12_round_192 : decode cX12_round 192 = .ok (.iload 4, 2) := by decide +kernel
theorem dX12_round_194 : decode cX12_round 194 = .ok (.bipush 9, 2) := by decide +kernel
theorem dX12_round_196 : decode cX12_round 196 = .ok (.idiv, 1) := by decide +kernel
theorem dX12_round_197 : decode cX12_round 197 = .ok (.istore 8, 2) := by decide +kernel
theorem dX12_round_199 : decode cX12_round 199 = .ok (.iload 8, 2) := by decide +kernel
theorem dX12_round_201 : decode cX12_round 201 = .ok (.ifCond .le 31, 3) := by decide +kernel
theorem dX12_round_204 : decode cX12_round 204 = .ok (.bipush 10, 2) := by decide +kernel
theorem dX12_round_206 : decode cX12_round 206 = .ok (.iload 7, 2) := by decide +kernel
theorem dX12_round_208 : decode cX12_round 208 = .ok (.imul, 1) := by decide +kernel
theorem dX12_round_209 : decode cX12_round 209 = .ok (.iload 6, 2) := by decide +kernel
theorem dX12_round_211 : decode cX12_round 211 = .ok (.iload 8, 2) := by decide +kernel
theorem dX12_round_213 : decode cX12_round 213 = .ok (.idiv, 1) := by decide +kernel
theorem dX12_round_214 : decode cX12_round 214 = .ok (.bipush 9, 2) := by decide +kernel
theorem dX12_round_216 : decode cX12_round 216 = .ok (.irem, 1) := by decide +kernel
theorem dX12_round_217 : decode cX12_round 217 = .ok (.iadd, 1) := by decide +kernel
theorem dX12_round_218 : decode cX12_round 218 = .ok (.iconst 1, 1) := by decide +kernel
theorem dX12_round_219 : decode cX12_round 219 = .ok (.iadd, 1) := by decide +kernel
theorem dX12_round_220 : decode cX12_round 220 = .ok (.istore 7, 2) := by decide +kernel
theorem dX12_round_222 : decode cX12_round 222 = .ok (.iload 8, 2) := by decide +kernel
theorem dX12_round_224 : decode cX12_round 224 = .ok (.bipush 9, 2) := by decide +kernel
theorem dX12_round_226 : decode cX12_round 226 = .ok (.idiv, 1) := by decide +kernel
theorem dX12_round_227 : decode cX12_round 227 = .ok (.istore 8, 2) := by decide +kernel
theorem dX12_round_229 : decode cX12_round 229 = .ok (.goto (-30), 3) := by decide +kernel
theorem dX12_round_232 : decode cX12_round 232 = .ok (.iload_n 3, 1) := by decide +kernel
theorem dX12_round_233 : decode cX12_round 233 = .ok (.ifCond .ne 8, 3) := by decide +kernel
theorem dX12_round_236 : decode cX12_round 236 = .ok (.iload 5, 2) := by decide +kernel
theorem dX12_round_238 : decode cX12_round 238 = .ok (.goto 5, 3) := by decide +kernel
theorem dX12_round_241 : decode cX12_round 241 = .ok (.iload 7, 2) := by decide +kernel
theorem dX12_round_243 : decode cX12_round 243 = .ok (.ireturn, 1) := by decide +kernel
theorem dX12_change_0 : decode cX12_change 0 = .ok (.iload_n 1, 1) := by decide +kernel
theorem dX12_change_1 : decode cX12_change 1 = .ok (.invokestatic 159, 3) := by decide +kernel
theorem dX12_change_4 : decode cX12_change 4 = .ok (.ifCond .eq 12, 3) := by decide +kernel
theorem dX12_change_7 : decode cX12_change 7 = .ok (.iload_n 2, 1) := by decide +kernel
theorem dX12_change_8 : decode cX12_change 8 = .ok (.iconst 0, 1) := by decide +kernel
theorem dX12_change_9 : decode cX12_change 9 = .ok (.iconst 1, 1) := by decide +kernel
theorem dX12_change_10 : decode cX12_change 10 = .ok (.invokestatic 54, 3) := by decide +kernel
theorem dX12_change_13 : decode cX12_change 13 = .ok (.ifCond .ne 9, 3) := by decide +kernel
theorem dX12_change_16 : decode cX12_change 16 = .ok (.aload_n 0, 1) := by decide +kernel
theorem dX12_change_17 : decode cX12_change 17 = .ok (.iconst 1, 1) := by decide +kernel
theorem dX12_change_18 : decode cX12_change 18 = .ok (.invokevirtual 66, 3) := by decide +kernel
theorem dX12_change_21 : decode cX12_change 21 = .ok (.ireturn, 1) := by decide +kernel
theorem dX12_change_22 : decode cX12_change 22 = .ok (.aload_n 0, 1) := by decide +kernel
theorem dX12_change_23 : decode cX12_change 23 = .ok (.iload_n 1, 1) := by decide +kernel
theorem dX12_change_24 : decode cX12_change 24 = .ok (.invokevirtual 62, 3) := by decide +kernel
theorem dX12_change_27 : decode cX12_change 27 = .ok (.ifCond .ne 9, 3) := by decide +kernel
theorem dX12_change_30 : decode cX12_change 30 = .ok (.aload_n 0, 1) := by decide +kernel
theorem dX12_change_31 : decode cX12_change 31 = .ok (.iconst 3, 1) := by decide +kernel
theorem dX12_change_32 : decode cX12_change 32 = .ok (.invokevirtual 66, 3) := by decide +kernel
theorem dX12_change_35 : decode cX12_change 35 = .ok (.ireturn, 1) := by decide +kernel
theorem dX12_change_36 : decode cX12_change 36 = .ok (.iconst (-1), 1) := by decide +kernel
theorem dX12_change_37 : decode cX12_change 37 = .ok (.istore_n 3, 1) := by decide +kernel
theorem dX12_change_38 : decode cX12_change 38 = .ok (.iconst 0, 1) := by decide +kernel
theorem dX12_change_39 : decode cX12_change 39 = .ok (.istore 4, 2) := by decide +kernel
theorem dX12_change_41 : decode cX12_change 41 = .ok (.iconst 0, 1) := by decide +kernel
theorem dX12_change_42 : decode cX12_change 42 = .ok (.istore 5, 2) := by decide +kernel
theorem dX12_change_44 : decode cX12_change 44 = .ok (.iload 5, 2) := by decide +kernel
theorem dX12_change_46 : decode cX12_change 46 = .ok (.bipush 9, 2) := by decide +kernel
theorem dX12_change_48 : decode cX12_change 48 = .ok (.if_icmp .ge 63, 3) := by decide +kernel
theorem dX12_change_51 : decode cX12_change 51 = .ok (.aload_n 0, 1) := by decide +kernel
theorem dX12_change_52 : decode cX12_change 52 = .ok (.iload 5, 2) := by decide +kernel
theorem dX12_change_54 : decode cX12_change 54 = .ok (.invokevirtual 62, 3) := by decide +kernel
theorem dX12_change_57 : decode cX12_change 57 = .ok (.ifCond .eq 48, 3) := by decide +kernel
theorem dX12_change_60 : decode cX12_change 60 = .ok (.aload_n 0, 1) := by decide +kernel
theorem dX12_change_61 : decode cX12_change 61 = .ok (.iload_n 1, 1) := by decide +kernel
theorem dX12_change_62 : decode cX12_change 62 = .ok (.iload 5, 2) := by decide +kernel
theorem dX12_change_64 : decode cX12_change 64 = .ok (.invokevirtual 166, 3) := by decide +kernel
theorem dX12_change_67 : decode cX12_change 67 = .ok (.aload_n 0, 1) := by decide +kernel
theorem dX12_change_68 : decode cX12_change 68 = .ok (.invokevirtual 194, 3) := by decide +kernel
theorem dX12_change_71 : decode cX12_change 71 = .ok (.aload_n 0, 1) := by decide +kernel
theorem dX12_change_72 : decode cX12_change 72 = .ok (.iload_n 1, 1) := by decide +kernel
theorem dX12_change_73 : decode cX12_change 73 = .ok (.iload 5, 2) := by decide +kernel
theorem dX12_change_75 : decode cX12_change 75 = .ok (.invokevirtual 166, 3) := by decide +kernel
theorem dX12_change_78 : decode cX12_change 78 = .ok (.iload_n 3, 1) := by decide +kernel
theorem dX12_change_79 : decode cX12_change 79 = .ok (.iconst (-1), 1) := by decide +kernel
theorem dX12_change_80 : decode cX12_change 80 = .ok (.if_icmp .eq 14, 3) := by decide +kernel
theorem dX12_change_83 : decode cX12_change 83 = .ok (.aload_n 0, 1) := by decide +kernel
theorem dX12_change_84 : decode cX12_change 84 = .ok (.getfield 31, 3) := by decide +kernel
theorem dX12_change_87 : decode cX12_change 87 = .ok (.iload_n 1, 1) := by decide +kernel
theorem dX12_change_88 : decode cX12_change 88 = .ok (.iaload, 1) := by decide +kernel
theorem dX12_change_89 : decode cX12_change 89 = .ok (.iload 4, 2) := by decide +kernel
theorem dX12_change_91 : decode cX12_change 91 = .ok (.if_icmp .le 14, 3) := by decide +kernel
theorem dX12_change_94 : decode cX12_change 94 = .ok (.iload 5, 2) := by decide +kernel
theorem dX12_change_96 : decode cX12_change 96 = .ok (.istore_n 3, 1) := by decide +kernel
theorem dX12_change_97 : decode cX12_change 97 = .ok (.aload_n 0, 1) := by decide +kernel
theorem dX12_change_98 : decode cX12_change 98 = .ok (.getfield 31, 3) := by decide +kernel
theorem dX12_change_101 : decode cX12_change 101 = .ok (.iload_n 1, 1) := by decide +kernel
theorem dX12_change_102 : decode cX12_change 102 = .ok (.iaload, 1) := by decide +kernel
theorem dX12_change_103 : decode cX12_change 103 = .ok (.istore 4, 2) := by decide +kernel
theorem dX12_change_105 : decode cX12_change 105 = .ok (.iinc 5 1, 3) := by decide +kernel
theorem dX12_change_108 : decode cX12_change 108 = .ok (.goto (-64), 3) := by decide +kernel
theorem dX12_change_111 : decode cX12_change 111 = .ok (.iload_n 2, 1) := by decide +kernel
theorem dX12_change_112 : decode cX12_change 112 = .ok (.ifCond .ne 7, 3) := by decide +kernel
theorem dX12_change_115 : decode cX12_change 115 = .ok (.iload_n 3, 1) := by decide +kernel
theorem dX12_change_116 : decode cX12_change 116 = .ok (.goto 5, 3) := by decide +kernel
theorem dX12_change_119 : decode cX12_change 119 = .ok (.iload 4, 2) := by decide +kernel
theorem dX12_change_121 : decode cX12_change 121 = .ok (.ireturn, 1) := by decide +kernel
theorem dX12_bitsOf_0 : decode cX12_bitsOf 0 = .ok (.iconst 0, 1) := by decide +kernel
theorem dX12_bitsOf_1 : decode cX12_bitsOf 1 = .ok (.istore_n 1, 1) := by decide +kernel
theorem dX12_bitsOf_2 : decode cX12_bitsOf 2 = .ok (.iload_n 0, 1) := by decide +kernel
theorem dX12_bitsOf_3 : decode cX12_bitsOf 3 = .ok (.istore_n 2, 1) := by decide +kernel
theorem dX12_bitsOf_4 : decode cX12_bitsOf 4 = .ok (.iload_n 2, 1) := by decide +kernel
theorem dX12_bitsOf_5 : decode cX12_bitsOf 5 = .ok (.ifCond .eq 15, 3) := by decide +kernel
theorem dX12_bitsOf_8 : decode cX12_bitsOf 8 = .ok (.iinc 1 1, 3) := by decide +kernel
theorem dX12_bitsOf_11 : decode cX12_bitsOf 11 = .ok (.iload_n 2, 1) := by decide +kernel
theorem dX12_bitsOf_12 : decode cX12_bitsOf 12 = .ok (.iload_n 2, 1) := by decide +kernel
theorem dX12_bitsOf_13 : decode cX12_bitsOf 13 = .ok (.iconst 1, 1) := by decide +kernel
theorem dX12_bitsOf_14 : decode cX12_bitsOf 14 = .ok (.isub, 1) := by decide +kernel
theorem dX12_bitsOf_15 : decode cX12_bitsOf 15 = .ok (.iand, 1) := by decide +kernel
theorem dX12_bitsOf_16 : decode cX12_bitsOf 16 = .ok (.istore_n 2, 1) := by decide +kernel
theorem dX12_bitsOf_17 : decode cX12_bitsOf 17 = .ok (.goto (-13), 3) := by decide +kernel
theorem dX12_bitsOf_20 : decode cX12_bitsOf 20 = .ok (.iload_n 1, 1) := by decide +kernel
theorem dX12_bitsOf_21 : decode cX12_bitsOf 21 = .ok (.ireturn, 1) := by decide +kernel
theorem dX12_standSet_0 : decode cX12_standSet 0 = .ok (.iconst 0, 1) := by decide +kernel
theorem dX12_standSet_1 : decode cX12_standSet 1 = .ok (.istore_n 1, 1) := by decide +kernel
theorem dX12_standSet_2 : decode cX12_standSet 2 = .ok (.iconst 0, 1) := by decide +kernel
theorem dX12_standSet_3 : decode cX12_standSet 3 = .ok (.istore_n 2, 1) := by decide +kernel
theorem dX12_standSet_4 : decode cX12_standSet 4 = .ok (.iload_n 2, 1) := by decide +kernel
theorem dX12_standSet_5 : decode cX12_standSet 5 = .ok (.bipush 9, 2) := by decide +kernel
theorem dX12_standSet_7 : decode cX12_standSet 7 = .ok (.if_icmp .ge 27, 3) := by decide +kernel
theorem dX12_standSet_10 : decode cX12_standSet 10 = .ok (.iload_n 1, 1) := by decide +kernel
theorem dX12_standSet_11 : decode cX12_standSet 11 = .ok (.aload_n 0, 1) := by decide +kernel
theorem dX12_standSet_12 : decode cX12_standSet 12 = .ok (.iload_n 2, 1) := by decide +kernel
theorem dX12_standSet_13 : decode cX12_standSet 13 = .ok (.invokevirtual 62, 3) := by decide +kernel
theorem dX12_standSet_16 : decode cX12_standSet 16 = .ok (.ifCond .eq 9, 3) := by decide +kernel
theorem dX12_standSet_19 : decode cX12_standSet 19 = .ok (.iconst 1, 1) := by decide +kernel
theorem dX12_standSet_20 : decode cX12_standSet 20 = .ok (.iload_n 2, 1) := by decide +kernel
theorem dX12_standSet_21 : decode cX12_standSet 21 = .ok (.ishl, 1) := by decide +kernel
theorem dX12_standSet_22 : decode cX12_standSet 22 = .ok (.goto 4, 3) := by decide +kernel
theorem dX12_standSet_25 : decode cX12_standSet 25 = .ok (.iconst 0, 1) := by decide +kernel
theorem dX12_standSet_26 : decode cX12_standSet 26 = .ok (.ior, 1) := by decide +kernel
theorem dX12_standSet_27 : decode cX12_standSet 27 = .ok (.istore_n 1, 1) := by decide +kernel
theorem dX12_standSet_28 : decode cX12_standSet 28 = .ok (.iinc 2 1, 3) := by decide +kernel
theorem dX12_standSet_31 : decode cX12_standSet 31 = .ok (.goto (-27), 3) := by decide +kernel
theorem dX12_standSet_34 : decode cX12_standSet 34 = .ok (.iload_n 1, 1) := by decide +kernel
theorem dX12_standSet_35 : decode cX12_standSet 35 = .ok (.ireturn, 1) := by decide +kernel
theorem dX12_empties_0 : decode cX12_empties 0 = .ok (.iload_n 1, 1) := by decide +kernel
theorem dX12_empties_1 : decode cX12_empties 1 = .ok (.iconst 0, 1) := by decide +kernel
theorem dX12_empties_2 : decode cX12_empties 2 = .ok (.iconst 1, 1) := by decide +kernel
theorem dX12_empties_3 : decode cX12_empties 3 = .ok (.invokestatic 54, 3) := by decide +kernel
theorem dX12_empties_6 : decode cX12_empties 6 = .ok (.ifCond .ne 9, 3) := by decide +kernel
theorem dX12_empties_9 : decode cX12_empties 9 = .ok (.aload_n 0, 1) := by decide +kernel
theorem dX12_empties_10 : decode cX12_empties 10 = .ok (.iconst 1, 1) := by decide +kernel
theorem dX12_empties_11 : decode cX12_empties 11 = .ok (.invokevirtual 66, 3) := by decide +kernel
theorem dX12_empties_14 : decode cX12_empties 14 = .ok (.ireturn, 1) := by decide +kernel
theorem dX12_empties_15 : decode cX12_empties 15 = .ok (.aload_n 0, 1) := by decide +kernel
theorem dX12_empties_16 : decode cX12_empties 16 = .ok (.invokevirtual 197, 3) := by decide +kernel
theorem dX12_empties_19 : decode cX12_empties 19 = .ok (.istore_n 2, 1) := by decide +kernel
theorem dX12_empties_20 : decode cX12_empties 20 = .ok (.iload_n 2, 1) := by decide +kernel
theorem dX12_empties_21 : decode cX12_empties 21 = .ok (.istore_n 3, 1) := by decide +kernel
theorem dX12_empties_22 : decode cX12_empties 22 = .ok (.aload_n 0, 1) := by decide +kernel
theorem dX12_empties_23 : decode cX12_empties 23 = .ok (.iconst 0, 1) := by decide +kernel
theorem dX12_empties_24 : decode cX12_empties 24 = .ok (.invokevirtual 185, 3) := by decide +kernel
theorem dX12_empties_27 : decode cX12_empties 27 = .ok (.iconst 0, 1) := by decide +kernel
theorem dX12_empties_28 : decode cX12_empties 28 = .ok (.istore 4, 2) := by decide +kernel
theorem dX12_empties_30 : decode cX12_empties 30 = .ok (.iload 4, 2) := by decide +kernel
theorem dX12_empties_32 : decode cX12_empties 32 = .ok (.sipush 511, 3) := by decide +kernel
theorem dX12_empties_35 : decode cX12_empties 35 = .ok (.if_icmp .gt 122, 3) := by decide +kernel
theorem dX12_empties_38 : decode cX12_empties 38 = .ok (.iload 4, 2) := by decide +kernel
theorem dX12_empties_40 : decode cX12_empties 40 = .ok (.iload_n 2, 1) := by decide +kernel
theorem dX12_empties_41 : decode cX12_empties 41 = .ok (.iconst (-1), 1) := by decide +kernel
theorem dX12_empties_42 : decode cX12_empties 42 = .ok (.ixor, 1) := by decide +kernel
theorem dX12_empties_43 : decode cX12_empties 43 = .ok (.iand, 1) := by decide +kernel
theorem dX12_empties_44 : decode cX12_empties 44 = .ok (.ifCond .ne 107, 3) := by decide +kernel
theorem dX12_empties_47 : decode cX12_empties 47 = .ok (.iconst 0, 1) := by decide +kernel
theorem dX12_empties_48 : decode cX12_empties 48 = .ok (.istore 5, 2) := by decide +kernel
theorem dX12_empties_50 : decode cX12_empties 50 = .ok (.iload 5, 2) := by decide +kernel
theorem dX12_empties_52 : decode cX12_empties 52 = .ok (.bipush 9, 2) := by decide +kernel
theorem dX12_empties_54 : decode cX12_empties 54 = .ok (.if_icmp .ge 41, 3) := by decide +kernel
theorem dX12_empties_57 : decode cX12_empties 57 = .ok (.iload 4, 2) := by decide +kernel
theorem dX12_empties_59 : decode cX12_empties 59 = .ok (.iload 5, 2) := by decide +kernel
theorem dX12_empties_61 : decode cX12_empties 61 = .ok (.ishr, 1) := by decide +kernel
theorem dX12_empties_62 : decode cX12_empties 62 = .ok (.iconst 1, 1) := by decide +kernel
theorem dX12_empties_63 : decode cX12_empties 63 = .ok (.iand, 1) := by decide +kernel
theorem dX12_empties_64 : decode cX12_empties 64 = .ok (.iconst 1, 1) := by decide +kernel
theorem dX12_empties_65 : decode cX12_empties 65 = .ok (.if_icmp .ne 21, 3) := by decide +kernel
theorem dX12_empties_68 : decode cX12_empties 68 = .ok (.aload_n 0, 1) := by decide +kernel
theorem dX12_empties_69 : decode cX12_empties 69 = .ok (.iload 5, 2) := by decide +kernel
theorem dX12_empties_71 : decode cX12_empties 71 = .ok (.invokevirtual 62, 3) := by decide +kernel
theorem dX12_empties_74 : decode cX12_empties 74 = .ok (.ifCond .eq 12, 3) := by decide +kernel
theorem dX12_empties_77 : decode cX12_empties 77 = .ok (.aload_n 0, 1) := by decide +kernel
theorem dX12_empties_78 : decode cX12_empties 78 = .ok (.iload 5, 2) := by decide +kernel
theorem dX12_empties_80 : decode cX12_empties 80 = .ok (.invokevirtual 178, 3) := by decide +kernel
theorem dX12_empties_83 : decode cX12_empties 83 = .ok (.goto 4, 3) := by decide +kernel
theorem dX12_empties_86 : decode cX12_empties 86 = .ok (.iconst 0, 1) := by decide +kernel
theorem dX12_empties_87 : decode cX12_empties 87 = .ok (.istore 6, 2) := by decide +kernel
theorem dX12_empties_89 : decode cX12_empties 89 = .ok (.iinc 5 1, 3) := by decide +kernel
theorem dX12_empties_92 : decode cX12_empties 92 = .ok (.goto (-42), 3) := by decide +kernel
theorem dX12_empties_95 : decode cX12_empties 95 = .ok (.aload_n 0, 1) := by decide +kernel
theorem dX12_empties_96 : decode cX12_empties 96 = .ok (.invokevirtual 191, 3) := by decide +kernel
theorem dX12_empties_99 : decode cX12_empties 99 = .ok (.ifCond .ne 15, 3) := by decide +kernel
theorem dX12_empties_102 : decode cX12_empties 102 = .ok (.iload 4, 2) := by decide +kernel
theorem dX12_empties_104 : decode cX12_empties 104 = .ok (.invokestatic 200, 3) := by decide +kernel
theorem dX12_empties_107 : decode cX12_empties 107 = .ok (.iload_n 3, 1) := by decide +kernel
theorem dX12_empties_108 : decode cX12_empties 108 = .ok (.invokestatic 200, 3) := by decide +kernel
theorem dX12_empties_111 : decode cX12_empties 111 = .ok (.if_icmp .lt 28, 3) := by decide +kernel
theorem dX12_empties_114 : decode cX12_empties 114 = .ok (.aload_n 0, 1) := by decide +kernel
theorem dX12_empties_115 : decode cX12_empties 115 = .ok (.invokevirtual 191, 3) := by decide +kernel
theorem dX12_empties_118 : decode cX12_empties 118 = .ok (.ifCond .ne 26, 3) := by decide +kernel
theorem dX12_empties_121 : decode cX12_empties 121 = .ok (.iload 4, 2) := by decide +kernel
theorem dX12_empties_123 : decode cX12_empties 123 = .ok (.invokestatic 200, 3) := by decide +kernel
theorem dX12_empties_126 : decode cX12_empties 126 = .ok (.iload_n 3, 1) := by decide +kernel
theorem dX12_empties_127 : decode cX12_empties 127 = .ok (.invokestatic 200, 3) := by decide +kernel
theorem dX12_empties_130 : decode cX12_empties 130 = .ok (.if_icmp .ne 14, 3) := by decide +kernel
theorem dX12_empties_133 : decode cX12_empties 133 = .ok (.iload 4, 2) := by decide +kernel
theorem dX12_empties_135 : decode cX12_empties 135 = .ok (.iload_n 3, 1) := by decide +kernel
theorem dX12_empties_136 : decode cX12_empties 136 = .ok (.if_icmp .ge 8, 3) := by decide +kernel
theorem dX12_empties_139 : decode cX12_empties 139 = .ok (.iload 4, 2) := by decide +kernel
theorem dX12_empties_141 : decode cX12_empties 141 = .ok (.goto 4, 3) := by decide +kernel
theorem dX12_empties_144 : decode cX12_empties 144 = .ok (.iload_n 3, 1) := by decide +kernel
theorem dX12_empties_145 : decode cX12_empties 145 = .ok (.istore_n 3, 1) := by decide +kernel
theorem dX12_empties_146 : decode cX12_empties 146 = .ok (.aload_n 0, 1) := by decide +kernel
theorem dX12_empties_147 : decode cX12_empties 147 = .ok (.iconst 0, 1) := by decide +kernel
theorem dX12_empties_148 : decode cX12_empties 148 = .ok (.invokevirtual 188, 3) := by decide +kernel
theorem dX12_empties_151 : decode cX12_empties 151 = .ok (.iinc 4 1, 3) := by decide +kernel
theorem dX12_empties_154 : decode cX12_empties 154 = .ok (.goto (-124), 3) := by decide +kernel
theorem dX12_empties_157 : decode cX12_empties 157 = .ok (.iload_n 1, 1) := by decide +kernel
theorem dX12_empties_158 : decode cX12_empties 158 = .ok (.ifCond .ne 10, 3) := by decide +kernel
theorem dX12_empties_161 : decode cX12_empties 161 = .ok (.iload_n 3, 1) := by decide +kernel
theorem dX12_empties_162 : decode cX12_empties 162 = .ok (.invokestatic 200, 3) := by decide +kernel
theorem dX12_empties_165 : decode cX12_empties 165 = .ok (.goto 4, 3) := by decide +kernel
theorem dX12_empties_168 : decode cX12_empties 168 = .ok (.iload_n 3, 1) := by decide +kernel
theorem dX12_empties_169 : decode cX12_empties 169 = .ok (.ireturn, 1) := by decide +kernel
theorem dX12_whose_0 : decode cX12_whose 0 = .ok (.iload_n 1, 1) := by decide +kernel
theorem dX12_whose_1 : decode cX12_whose 1 = .ok (.iconst 0, 1) := by decide +kernel
theorem dX12_whose_2 : decode cX12_whose 2 = .ok (.sipush 511, 3) := by decide +kernel
theorem dX12_whose_5 : decode cX12_whose 5 = .ok (.invokestatic 54, 3) := by decide +kernel
theorem dX12_whose_8 : decode cX12_whose 8 = .ok (.ifCond .ne 9, 3) := by decide +kernel
theorem dX12_whose_11 : decode cX12_whose 11 = .ok (.aload_n 0, 1) := by decide +kernel
theorem dX12_whose_12 : decode cX12_whose 12 = .ok (.iconst 1, 1) := by decide +kernel
theorem dX12_whose_13 : decode cX12_whose 13 = .ok (.invokevirtual 66, 3) := by decide +kernel
theorem dX12_whose_16 : decode cX12_whose 16 = .ok (.ireturn, 1) := by decide +kernel
theorem dX12_whose_17 : decode cX12_whose 17 = .ok (.aload_n 0, 1) := by decide +kernel
theorem dX12_whose_18 : decode cX12_whose 18 = .ok (.invokevirtual 197, 3) := by decide +kernel
theorem dX12_whose_21 : decode cX12_whose 21 = .ok (.istore_n 2, 1) := by decide +kernel
theorem dX12_whose_22 : decode cX12_whose 22 = .ok (.iconst 0, 1) := by decide +kernel
theorem dX12_whose_23 : decode cX12_whose 23 = .ok (.istore_n 3, 1) := by decide +kernel
theorem dX12_whose_24 : decode cX12_whose 24 = .ok (.aload_n 0, 1) := by decide +kernel
theorem dX12_whose_25 : decode cX12_whose 25 = .ok (.iconst 0, 1) := by decide +kernel
theorem dX12_whose_26 : decode cX12_whose 26 = .ok (.invokevirtual 185, 3) := by decide +kernel
theorem dX12_whose_29 : decode cX12_whose 29 = .ok (.iconst 0, 1) := by decide +kernel
theorem dX12_whose_30 : decode cX12_whose 30 = .ok (.istore 4, 2) := by decide +kernel
theorem dX12_whose_32 : decode cX12_whose 32 = .ok (.iload 4, 2) := by decide +kernel
theorem dX12_whose_34 : decode cX12_whose 34 = .ok (.bipush 9, 2) := by decide +kernel
theorem dX12_whose_36 : decode cX12_whose 36 = .ok (.if_icmp .ge 55, 3) := by decide +kernel
theorem dX12_whose_39 : decode cX12_whose 39 = .ok (.iload_n 2, 1) := by decide +kernel
theorem dX12_whose_40 : decode cX12_whose 40 = .ok (.iload 4, 2) := by decide +kernel
theorem dX12_whose_42 : decode cX12_whose 42 = .ok (.ishr, 1) := by decide +kernel
theorem dX12_whose_43 : decode cX12_whose 43 = .ok (.iconst 1, 1) := by decide +kernel
theorem dX12_whose_44 : decode cX12_whose 44 = .ok (.iand, 1) := by decide +kernel
theorem dX12_whose_45 : decode cX12_whose 45 = .ok (.iconst 1, 1) := by decide +kernel
theorem dX12_whose_46 : decode cX12_whose 46 = .ok (.if_icmp .ne 39, 3) := by decide +kernel
theorem dX12_whose_49 : decode cX12_whose 49 = .ok (.aload_n 0, 1) := by decide +kernel
theorem dX12_whose_50 : decode cX12_whose 50 = .ok (.iload 4, 2) := by decide +kernel
theorem dX12_whose_52 : decode cX12_whose 52 = .ok (.invokevirtual 178, 3) := by decide +kernel
theorem dX12_whose_55 : decode cX12_whose 55 = .ok (.istore 5, 2) := by decide +kernel
theorem dX12_whose_57 : decode cX12_whose 57 = .ok (.iload_n 3, 1) := by decide +kernel
theorem dX12_whose_58 : decode cX12_whose 58 = .ok (.iload_n 2, 1) := by decide +kernel
theorem dX12_whose_59 : decode cX12_whose 59 = .ok (.aload_n 0, 1) := by decide +kernel
theorem dX12_whose_60 : decode cX12_whose 60 = .ok (.invokevirtual 197, 3) := by decide +kernel
theorem dX12_whose_63 : decode cX12_whose 63 = .ok (.iconst (-1), 1) := by decide +kernel
theorem dX12_whose_64 : decode cX12_whose 64 = .ok (.ixor, 1) := by decide +kernel
theorem dX12_whose_65 : decode cX12_whose 65 = .ok (.iand, 1) := by decide +kernel
theorem dX12_whose_66 : decode cX12_whose 66 = .ok (.iload_n 1, 1) := by decide +kernel
theorem dX12_whose_67 : decode cX12_whose 67 = .ok (.if_icmp .ne 10, 3) := by decide +kernel
theorem dX12_whose_70 : decode cX12_whose 70 = .ok (.iconst 1, 1) := by decide +kernel
theorem dX12_whose_71 : decode cX12_whose 71 = .ok (.iload 4, 2) := by decide +kernel
theorem dX12_whose_73 : decode cX12_whose 73 = .ok (.ishl, 1) := by decide +kernel
theorem dX12_whose_74 : decode cX12_whose 74 = .ok (.goto 4, 3) := by decide +kernel
theorem dX12_whose_77 : decode cX12_whose 77 = .ok (.iconst 0, 1) := by decide +kernel
theorem dX12_whose_78 : decode cX12_whose 78 = .ok (.ior, 1) := by decide +kernel
theorem dX12_whose_79 : decode cX12_whose 79 = .ok (.istore_n 3, 1) := by decide +kernel
theorem dX12_whose_80 : decode cX12_whose 80 = .ok (.aload_n 0, 1) := by decide +kernel
theorem dX12_whose_81 : decode cX12_whose 81 = .ok (.iconst 0, 1) := by decide +kernel
theorem dX12_whose_82 : decode cX12_whose 82 = .ok (.invokevirtual 188, 3) := by decide +kernel
theorem dX12_whose_85 : decode cX12_whose 85 = .ok (.iinc 4 1, 3) := by decide +kernel
theorem dX12_whose_88 : decode cX12_whose 88 = .ok (.goto (-56), 3) := by decide +kernel
theorem dX12_whose_91 : decode cX12_whose 91 = .ok (.iload_n 3, 1) := by decide +kernel
theorem dX12_whose_92 : decode cX12_whose 92 = .ok (.ireturn, 1) := by decide +kernel
theorem dX12_divisor_0 : decode cX12_divisor 0 = .ok (.lload_n 0, 1) := by decide +kernel
theorem dX12_divisor_1 : decode cX12_divisor 1 = .ok (.lstore 4, 2) := by decide +kernel
theorem dX12_divisor_3 : decode cX12_divisor 3 = .ok (.lload_n 2, 1) := by decide +kernel
theorem dX12_divisor_4 : decode cX12_divisor 4 = .ok (.lstore 6, 2) := by decide +kernel
theorem dX12_divisor_6 : decode cX12_divisor 6 = .ok (.lload 6, 2) := by decide +kernel
theorem dX12_divisor_8 : decode cX12_divisor 8 = .ok (.lconst 0, 1) := by decide +kernel
theorem dX12_divisor_9 : decode cX12_divisor 9 = .ok (.lcmp, 1) := by decide +kernel
theorem dX12_divisor_10 : decode cX12_divisor 10 = .ok (.ifCond .eq 21, 3) := by decide +kernel
theorem dX12_divisor_13 : decode cX12_divisor 13 = .ok (.lload 4, 2) := by decide +kernel
theorem dX12_divisor_15 : decode cX12_divisor 15 = .ok (.lload 6, 2) := by decide +kernel
theorem dX12_divisor_17 : decode cX12_divisor 17 = .ok (.lrem, 1) := by decide +kernel
theorem dX12_divisor_18 : decode cX12_divisor 18 = .ok (.lstore 8, 2) := by decide +kernel
theorem dX12_divisor_20 : decode cX12_divisor 20 = .ok (.lload 6, 2) := by decide +kernel
theorem dX12_divisor_22 : decode cX12_divisor 22 = .ok (.lstore 4, 2) := by decide +kernel
theorem dX12_divisor_24 : decode cX12_divisor 24 = .ok (.lload 8, 2) := by decide +kernel
theorem dX12_divisor_26 : decode cX12_divisor 26 = .ok (.lstore 6, 2) := by decide +kernel
theorem dX12_divisor_28 : decode cX12_divisor 28 = .ok (.goto (-22), 3) := by decide +kernel
theorem dX12_divisor_31 : decode cX12_divisor 31 = .ok (.lload 4, 2) := by decide +kernel
theorem dX12_divisor_33 : decode cX12_divisor 33 = .ok (.lreturn, 1) := by decide +kernel
theorem dX12_slate_0 : decode cX12_slate 0 = .ok (.iload_n 1, 1) := by decide +kernel
theorem dX12_slate_1 : decode cX12_slate 1 = .ok (.invokestatic 203, 3) := by decide +kernel
theorem dX12_slate_4 : decode cX12_slate 4 = .ok (.ifCond .eq 12, 3) := by decide +kernel
theorem dX12_slate_7 : decode cX12_slate 7 = .ok (.iload_n 2, 1) := by decide +kernel
theorem dX12_slate_8 : decode cX12_slate 8 = .ok (.iconst 0, 1) := by decide +kernel
theorem dX12_slate_9 : decode cX12_slate 9 = .ok (.iconst 1, 1) := by decide +kernel
theorem dX12_slate_10 : decode cX12_slate 10 = .ok (.invokestatic 54, 3) := by decide +kernel
theorem dX12_slate_13 : decode cX12_slate 13 = .ok (.ifCond .ne 10, 3) := by decide +kernel
theorem dX12_slate_16 : decode cX12_slate 16 = .ok (.aload_n 0, 1) := by decide +kernel
theorem dX12_slate_17 : decode cX12_slate 17 = .ok (.iconst 1, 1) := by decide +kernel
theorem dX12_slate_18 : decode cX12_slate 18 = .ok (.invokevirtual 66, 3) := by decide +kernel
theorem dX12_slate_21 : decode cX12_slate 21 = .ok (.i2l, 1) := by decide +kernel
theorem dX12_slate_22 : decode cX12_slate 22 = .ok (.lreturn, 1) := by decide +kernel
theorem dX12_slate_23 : decode cX12_slate 23 = .ok (.aload_n 0, 1) := by decide +kernel
theorem dX12_slate_24 : decode cX12_slate 24 = .ok (.getfield 37, 3) := by decide +kernel
theorem dX12_slate_27 : decode cX12_slate 27 = .ok (.iload_n 1, 1) := by decide +kernel
theorem dX12_slate_28 : decode cX12_slate 28 = .ok (.iaload, 1) := by decide +kernel
theorem dX12_slate_29 : decode cX12_slate 29 = .ok (.ifCond .eq 14, 3) := by decide +kernel
theorem dX12_slate_32 : decode cX12_slate 32 = .ok (.aload_n 0, 1) := by decide +kernel
theorem dX12_slate_33 : decode cX12_slate 33 = .ok (.getfield 40, 3) := by decide +kernel
theorem dX12_slate_36 : decode cX12_slate 36 = .ok (.iload_n 1, 1) := by decide +kernel
theorem dX12_slate_37 : decode cX12_slate 37 = .ok (.iaload, 1) := by decide +kernel
theorem dX12_slate_38 : decode cX12_slate 38 = .ok (.bipush 9, 2) := by decide +kernel
theorem dX12_slate_40 : decode cX12_slate 40 = .ok (.if_icmp .ge 10, 3) := by decide +kernel
theorem dX12_slate_43 : decode cX12_slate 43 = .ok (.aload_n 0, 1) := by decide +kernel
theorem dX12_slate_44 : decode cX12_slate 44 = .ok (.iconst 2, 1) := by decide +kernel
theorem dX12_slate_45 : decode cX12_slate 45 = .ok (.invokevirtual 66, 3) := by decide +kernel
theorem dX12_slate_48 : decode cX12_slate 48 = .ok (.i2l, 1) := by decide +kernel
theorem dX12_slate_49 : decode cX12_slate 49 = .ok (.lreturn, 1) := by decide +kernel
theorem dX12_slate_50 : decode cX12_slate 50 = .ok (.lconst 0, 1) := by decide +kernel
theorem dX12_slate_51 : decode cX12_slate 51 = .ok (.lstore_n 3, 1) := by decide +kernel
theorem dX12_slate_52 : decode cX12_slate 52 = .ok (.lconst 1, 1) := by decide +kernel
theorem dX12_slate_53 : decode cX12_slate 53 = .ok (.lstore 5, 2) := by decide +kernel
theorem dX12_slate_55 : decode cX12_slate 55 = .ok (.iconst 0, 1) := by decide +kernel
theorem dX12_slate_56 : decode cX12_slate 56 = .ok (.istore 7, 2) := by decide +kernel
theorem dX12_slate_58 : decode cX12_slate 58 = .ok (.iload 7, 2) := by decide +kernel
theorem dX12_slate_60 : decode cX12_slate 60 = .ok (.bipush 9, 2) := by decide +kernel
theorem dX12_slate_62 : decode cX12_slate 62 = .ok (.if_icmp .ge 79, 3) := by decide +kernel
theorem dX12_slate_65 : decode cX12_slate 65 = .ok (.aload_n 0, 1) := by decide +kernel
theorem dX12_slate_66 : decode cX12_slate 66 = .ok (.getfield 43, 3) := by decide +kernel
theorem dX12_slate_69 : decode cX12_slate 69 = .ok (.bipush 24, 2) := by decide +kernel
theorem dX12_slate_71 : decode cX12_slate 71 = .ok (.iload_n 1, 1) := by decide +kernel
theorem dX12_slate_72 : decode cX12_slate 72 = .ok (.imul, 1) := by decide +kernel
theorem dX12_slate_73 : decode cX12_slate 73 = .ok (.iload 7, 2) := by decide +kernel
theorem dX12_slate_75 : decode cX12_slate 75 = .ok (.iadd, 1) := by decide +kernel
theorem dX12_slate_76 : decode cX12_slate 76 = .ok (.iaload, 1) := by decide +kernel
theorem dX12_slate_77 : decode cX12_slate 77 = .ok (.istore 8, 2) := by decide +kernel
theorem dX12_slate_79 : decode cX12_slate 79 = .ok (.iload 8, 2) := by decide +kernel
theorem dX12_slate_81 : decode cX12_slate 81 = .ok (.iconst 1, 1) := by decide +kernel
theorem dX12_slate_82 : decode cX12_slate 82 = .ok (.bipush 99, 2) := by decide +kernel
theorem dX12_slate_84 : decode cX12_slate 84 = .ok (.invokestatic 54, 3) := by decide +kernel
theorem dX12_slate_87 : decode cX12_slate 87 = .ok (.ifCond .ne 11, 3) := by decide +kernel
theorem dX12_slate_90 : decode cX12_slate 90 = .ok (.aload_n 0, 1) := by decide +kernel
theorem dX12_slate_91 : decode cX12_slate 91 = .ok (.bipush 6, 2) := by decide +kernel
theorem dX12_slate_93 : decode cX12_slate 93 = .ok (.invokevirtual 66, 3) := by decide +kernel
theorem dX12_slate_96 : decode cX12_slate 96 = .ok (.i2l, 1) := by decide +kernel
theorem dX12_slate_97 : decode cX12_slate 97 = .ok (.lreturn, 1) := by decide +kernel
theorem dX12_slate_98 : decode cX12_slate 98 = .ok (.lload_n 3, 1) := by decide +kernel
theorem dX12_slate_99 : decode cX12_slate 99 = .ok (.iload 8, 2) := by decide +kernel
theorem dX12_slate_101 : decode cX12_slate 101 = .ok (.i2l, 1) := by decide +kernel
theorem dX12_slate_102 : decode cX12_slate 102 = .ok (.lmul, 1) := by decide +kernel
theorem dX12_slate_103 : decode cX12_slate 103 = .ok (.lload 5, 2) := by decide +kernel
theorem dX12_slate_105 : decode cX12_slate 105 = .ok (.ladd, 1) := by decide +kernel
theorem dX12_slate_106 : decode cX12_slate 106 = .ok (.lstore_n 3, 1) := by decide +kernel
theorem dX12_slate_107 : decode cX12_slate 107 = .ok (.lload 5, 2) := by decide +kernel
theorem dX12_slate_109 : decode cX12_slate 109 = .ok (.iload 8, 2) := by decide +kernel
theorem dX12_slate_111 : decode cX12_slate 111 = .ok (.i2l, 1) := by decide +kernel
theorem dX12_slate_112 : decode cX12_slate 112 = .ok (.lmul, 1) := by decide +kernel
theorem dX12_slate_113 : decode cX12_slate 113 = .ok (.lstore 5, 2) := by decide +kernel
theorem dX12_slate_115 : decode cX12_slate 115 = .ok (.lload_n 3, 1) := by decide +kernel
theorem dX12_slate_116 : decode cX12_slate 116 = .ok (.lload 5, 2) := by decide +kernel
theorem dX12_slate_118 : decode cX12_slate 118 = .ok (.invokestatic 206, 3) := by decide +kernel
theorem dX12_slate_121 : decode cX12_slate 121 = .ok (.lstore 9, 2) := by decide +kernel
theorem dX12_slate_123 : decode cX12_slate 123 = .ok (.lload_n 3, 1) := by decide +kernel
theorem dX12_slate_124 : decode cX12_slate 124 = .ok (.lload 9, 2) := by decide +kernel
theorem dX12_slate_126 : decode cX12_slate 126 = .ok (.ldiv, 1) := by decide +kernel
theorem dX12_slate_127 : decode cX12_slate 127 = .ok (.lstore_n 3, 1) := by decide +kernel
theorem dX12_slate_128 : decode cX12_slate 128 = .ok (.lload 5, 2) := by decide +kernel
theorem dX12_slate_130 : decode cX12_slate 130 = .ok (.lload 9, 2) := by decide +kernel
theorem dX12_slate_132 : decode cX12_slate 132 = .ok (.ldiv, 1) := by decide +kernel
theorem dX12_slate_133 : decode cX12_slate 133 = .ok (.lstore 5, 2) := by decide +kernel
theorem dX12_slate_135 : decode cX12_slate 135 = .ok (.iinc 7 1, 3) := by decide +kernel
theorem dX12_slate_138 : decode cX12_slate 138 = .ok (.goto (-80), 3) := by decide +kernel
theorem dX12_slate_141 : decode cX12_slate 141 = .ok (.iload_n 2, 1) := by decide +kernel
theorem dX12_slate_142 : decode cX12_slate 142 = .ok (.ifCond .ne 7, 3) := by decide +kernel
theorem dX12_slate_145 : decode cX12_slate 145 = .ok (.lload_n 3, 1) := by decide +kernel
theorem dX12_slate_146 : decode cX12_slate 146 = .ok (.goto 5, 3) := by decide +kernel
theorem dX12_slate_149 : decode cX12_slate 149 = .ok (.lload 5, 2) := by decide +kernel
theorem dX12_slate_151 : decode cX12_slate 151 = .ok (.lreturn, 1) := by decide +kernel
theorem dX12_begins_0 : decode cX12_begins 0 = .ok (.aload_n 0, 1) := by decide +kernel
theorem dX12_begins_1 : decode cX12_begins 1 = .ok (.getfield 210, 3) := by decide +kernel
theorem dX12_begins_4 : decode cX12_begins 4 = .ok (.bipush 30, 2) := by decide +kernel
theorem dX12_begins_6 : decode cX12_begins 6 = .ok (.if_icmp .ge 23, 3) := by decide +kernel
theorem dX12_begins_9 : decode cX12_begins 9 = .ok (.aload_n 0, 1) := by decide +kernel
theorem dX12_begins_10 : decode cX12_begins 10 = .ok (.getfield 34, 3) := by decide +kernel
theorem dX12_begins_13 : decode cX12_begins 13 = .ok (.aload_n 0, 1) := by decide +kernel
theorem dX12_begins_14 : decode cX12_begins 14 = .ok (.getfield 210, 3) := by decide +kernel
theorem dX12_begins_17 : decode cX12_begins 17 = .ok (.iload_n 1, 1) := by decide +kernel
theorem dX12_begins_18 : decode cX12_begins 18 = .ok (.iastore, 1) := by decide +kernel
theorem dX12_begins_19 : decode cX12_begins 19 = .ok (.aload_n 0, 1) := by decide +kernel
theorem dX12_begins_20 : decode cX12_begins 20 = .ok (.dup, 1) := by decide +kernel
theorem dX12_begins_21 : decode cX12_begins 21 = .ok (.getfield 210, 3) := by decide +kernel
theorem dX12_begins_24 : decode cX12_begins 24 = .ok (.iconst 1, 1) := by decide +kernel
theorem dX12_begins_25 : decode cX12_begins 25 = .ok (.iadd, 1) := by decide +kernel
theorem dX12_begins_26 : decode cX12_begins 26 = .ok (.putfield 210, 3) := by decide +kernel
theorem dX12_begins_29 : decode cX12_begins 29 = .ok (.return_, 1) := by decide +kernel
theorem dX12_above_0 : decode cX12_above 0 = .ok (.iload_n 0, 1) := by decide +kernel
theorem dX12_above_1 : decode cX12_above 1 = .ok (.iconst 4, 1) := by decide +kernel
theorem dX12_above_2 : decode cX12_above 2 = .ok (.if_icmp .ne 7, 3) := by decide +kernel
theorem dX12_above_5 : decode cX12_above 5 = .ok (.iconst 1, 1) := by decide +kernel
theorem dX12_above_6 : decode cX12_above 6 = .ok (.goto 13, 3) := by decide +kernel
theorem dX12_above_9 : decode cX12_above 9 = .ok (.iload_n 0, 1) := by decide +kernel
theorem dX12_above_10 : decode cX12_above 10 = .ok (.iconst 5, 1) := by decide +kernel
theorem dX12_above_11 : decode cX12_above 11 = .ok (.if_icmp .ne 7, 3) := by decide +kernel
theorem dX12_above_14 : decode cX12_above 14 = .ok (.iconst 2, 1) := by decide +kernel
theorem dX12_above_15 : decode cX12_above 15 = .ok (.goto 4, 3) := by decide +kernel
theorem dX12_above_18 : decode cX12_above 18 = .ok (.iconst 0, 1) := by decide +kernel
theorem dX12_above_19 : decode cX12_above 19 = .ok (.ireturn, 1) := by decide +kernel
theorem dX12_kindNow_0 : decode cX12_kindNow 0 = .ok (.aload_n 0, 1) := by decide +kernel
theorem dX12_kindNow_1 : decode cX12_kindNow 1 = .ok (.aload_n 0, 1) := by decide +kernel
theorem dX12_kindNow_2 : decode cX12_kindNow 2 = .ok (.getfield 213, 3) := by decide +kernel
theorem dX12_kindNow_5 : decode cX12_kindNow 5 = .ok (.iconst 0, 1) := by decide +kernel
theorem dX12_kindNow_6 : decode cX12_kindNow 6 = .ok (.invokevirtual 58, 3) := by decide +kernel
theorem dX12_kindNow_9 : decode cX12_kindNow 9 = .ok (.ireturn, 1) := by decide +kernel
theorem dX12_mNow_0 : decode cX12_mNow 0 = .ok (.aload_n 0, 1) := by decide +kernel
theorem dX12_mNow_1 : decode cX12_mNow 1 = .ok (.aload_n 0, 1) := by decide +kernel
theorem dX12_mNow_2 : decode cX12_mNow 2 = .ok (.getfield 213, 3) := by decide +kernel
theorem dX12_mNow_5 : decode cX12_mNow 5 = .ok (.iconst 1, 1) := by decide +kernel
theorem dX12_mNow_6 : decode cX12_mNow 6 = .ok (.invokevirtual 58, 3) := by decide +kernel
theorem dX12_mNow_9 : decode cX12_mNow 9 = .ok (.ireturn, 1) := by decide +kernel
theorem dX12_body_0 : decode cX12_body 0 = .ok (.iload_n 1, 1) := by decide +kernel
theorem dX12_body_1 : decode cX12_body 1 = .ok (.iconst 0, 1) := by decide +kernel
theorem dX12_body_2 : decode cX12_body 2 = .ok (.aload_n 0, 1) := by decide +kernel
theorem dX12_body_3 : decode cX12_body 3 = .ok (.getfield 210, 3) := by decide +kernel
theorem dX12_body_6 : decode cX12_body 6 = .ok (.iconst 1, 1) := by decide +kernel
theorem dX12_body_7 : decode cX12_body 7 = .ok (.isub, 1) := by decide +kernel
theorem dX12_body_8 : decode cX12_body 8 = .ok (.invokestatic 54, 3) := by decide +kernel
theorem dX12_body_11 : decode cX12_body 11 = .ok (.ifCond .eq 12, 3) := by decide +kernel
theorem dX12_body_14 : decode cX12_body 14 = .ok (.aload_n 0, 1) := by decide +kernel
theorem dX12_body_15 : decode cX12_body 15 = .ok (.getfield 34, 3) := by decide +kernel
theorem dX12_body_18 : decode cX12_body 18 = .ok (.iload_n 1, 1) := by decide +kernel
theorem dX12_body_19 : decode cX12_body 19 = .ok (.iaload, 1) := by decide +kernel
theorem dX12_body_20 : decode cX12_body 20 = .ok (.goto 8, 3) := by decide +kernel
theorem dX12_body_23 : decode cX12_body 23 = .ok (.aload_n 0, 1) := by decide +kernel
theorem dX12_body_24 : decode cX12_body 24 = .ok (.iconst 2, 1) := by decide +kernel
theorem dX12_body_25 : decode cX12_body 25 = .ok (.invokevirtual 66, 3) := by decide +kernel
theorem dX12_body_28 : decode cX12_body 28 = .ok (.ireturn, 1) := by decide +kernel
theorem dX12_isSheet_0 : decode cX12_isSheet 0 = .ok (.iload_n 0, 1) := by decide +kernel
theorem dX12_isSheet_1 : decode cX12_isSheet 1 = .ok (.iconst 0, 1) := by decide +kernel
theorem dX12_isSheet_2 : decode cX12_isSheet 2 = .ok (.iconst 3, 1) := by decide +kernel
theorem dX12_isSheet_3 : decode cX12_isSheet 3 = .ok (.invokestatic 54, 3) := by decide +kernel
theorem dX12_isSheet_6 : decode cX12_isSheet 6 = .ok (.ireturn, 1) := by decide +kernel
theorem dX12_sheet_0 : decode cX12_sheet 0 = .ok (.iload_n 1, 1) := by decide +kernel
theorem dX12_sheet_1 : decode cX12_sheet 1 = .ok (.invokestatic 203, 3) := by decide +kernel
theorem dX12_sheet_4 : decode cX12_sheet 4 = .ok (.ifCond .eq 25, 3) := by decide +kernel
theorem dX12_sheet_7 : decode cX12_sheet 7 = .ok (.iload_n 2, 1) := by decide +kernel
theorem dX12_sheet_8 : decode cX12_sheet 8 = .ok (.ifCond .eq 27, 3) := by decide +kernel
theorem dX12_sheet_11 : decode cX12_sheet 11 = .ok (.iload_n 2, 1) := by decide +kernel
theorem dX12_sheet_12 : decode cX12_sheet 12 = .ok (.bipush 8, 2) := by decide +kernel
theorem dX12_sheet_14 : decode cX12_sheet 14 = .ok (.if_icmp .eq 21, 3) := by decide +kernel
theorem dX12_sheet_17 : decode cX12_sheet 17 = .ok (.iload_n 2, 1) := by decide +kernel
theorem dX12_sheet_18 : decode cX12_sheet 18 = .ok (.bipush 16, 2) := by decide +kernel
theorem dX12_sheet_20 : decode cX12_sheet 20 = .ok (.if_icmp .eq 15, 3) := by decide +kernel
theorem dX12_sheet_23 : decode cX12_sheet 23 = .ok (.iload_n 2, 1) := by decide +kernel
theorem dX12_sheet_24 : decode cX12_sheet 24 = .ok (.bipush 32, 2) := by decide +kernel
theorem dX12_sheet_26 : decode cX12_sheet 26 = .ok (.if_icmp .eq 9, 3) := by decide +kernel
theorem dX12_sheet_29 : decode cX12_sheet 29 = .ok (.aload_n 0, 1) := by decide +kernel
theorem dX12_sheet_30 : decode cX12_sheet 30 = .ok (.iconst 1, 1) := by decide +kernel
theorem dX12_sheet_31 : decode cX12_sheet 31 = .ok (.invokevirtual 66, 3) := by decide +kernel
theorem dX12_sheet_34 : decode cX12_sheet 34 = .ok (.ireturn, 1) := by decide +kernel
theorem dX12_sheet_35 : decode cX12_sheet 35 = .ok (.iload_n 2, 1) := by decide +kernel
theorem dX12_sheet_36 : decode cX12_sheet 36 = .ok (.ifCond .eq 13, 3) := by decide +kernel
theorem dX12_sheet_39 : decode cX12_sheet 39 = .ok (.iload_n 3, 1) := by decide +kernel
theorem dX12_sheet_40 : decode cX12_sheet 40 = .ok (.ifCond .ge 9, 3) := by decide +kernel
theorem dX12_sheet_43 : decode cX12_sheet 43 = .ok (.aload_n 0, 1) := by decide +kernel
theorem dX12_sheet_44 : decode cX12_sheet 44 = .ok (.iconst 3, 1) := by decide +kernel
theorem dX12_sheet_45 : decode cX12_sheet 45 = .ok (.invokevirtual 66, 3) := by decide +kernel
theorem dX12_sheet_48 : decode cX12_sheet 48 = .ok (.ireturn, 1) := by decide +kernel
theorem dX12_sheet_49 : decode cX12_sheet 49 = .ok (.iload_n 2, 1) := by decide +kernel
theorem dX12_sheet_50 : decode cX12_sheet 50 = .ok (.ifCond .eq 15, 3) := by decide +kernel
theorem dX12_sheet_53 : decode cX12_sheet 53 = .ok (.iload_n 3, 1) := by decide +kernel
theorem dX12_sheet_54 : decode cX12_sheet 54 = .ok (.bipush 24, 2) := by decide +kernel
theorem dX12_sheet_56 : decode cX12_sheet 56 = .ok (.if_icmp .le 9, 3) := by decide +kernel
theorem dX12_sheet_59 : decode cX12_sheet 59 = .ok (.aload_n 0, 1) := by decide +kernel
theorem dX12_sheet_60 : decode cX12_sheet 60 = .ok (.iconst 1, 1) := by decide +kernel
theorem dX12_sheet_61 : decode cX12_sheet 61 = .ok (.invokevirtual 66, 3) := by decide +kernel
theorem dX12_sheet_64 : decode cX12_sheet 64 = .ok (.ireturn, 1) := by decide +kernel
theorem dX12_sheet_65 : decode cX12_sheet 65 = .ok (.aload_n 0, 1) := by decide +kernel
theorem dX12_sheet_66 : decode cX12_sheet 66 = .ok (.getfield 37, 3) := by decide +kernel
theorem dX12_sheet_69 : decode cX12_sheet 69 = .ok (.iload_n 1, 1) := by decide +kernel
theorem dX12_sheet_70 : decode cX12_sheet 70 = .ok (.iload_n 2, 1) := by decide +kernel
theorem dX12_sheet_71 : decode cX12_sheet 71 = .ok (.iastore, 1) := by decide +kernel
theorem dX12_sheet_72 : decode cX12_sheet 72 = .ok (.aload_n 0, 1) := by decide +kernel
theorem dX12_sheet_73 : decode cX12_sheet 73 = .ok (.getfield 40, 3) := by decide +kernel
theorem dX12_sheet_76 : decode cX12_sheet 76 = .ok (.iload_n 1, 1) := by decide +kernel
theorem dX12_sheet_77 : decode cX12_sheet 77 = .ok (.iload_n 2, 1) := by decide +kernel
theorem dX12_sheet_78 : decode cX12_sheet 78 = .ok (.ifCond .ne 7, 3) := by decide +kernel
theorem dX12_sheet_81 : decode cX12_sheet 81 = .ok (.iconst 0, 1) := by decide +kernel
theorem dX12_sheet_82 : decode cX12_sheet 82 = .ok (.goto 4, 3) := by decide +kernel
theorem dX12_sheet_85 : decode cX12_sheet 85 = .ok (.iload_n 3, 1) := by decide +kernel
theorem dX12_sheet_86 : decode cX12_sheet 86 = .ok (.iastore, 1) := by decide +kernel
theorem dX12_sheet_87 : decode cX12_sheet 87 = .ok (.iconst 0, 1) := by decide +kernel
theorem dX12_sheet_88 : decode cX12_sheet 88 = .ok (.istore 4, 2) := by decide +kernel
theorem dX12_sheet_90 : decode cX12_sheet 90 = .ok (.iload 4, 2) := by decide +kernel
theorem dX12_sheet_92 : decode cX12_sheet 92 = .ok (.bipush 24, 2) := by decide +kernel
theorem dX12_sheet_94 : decode cX12_sheet 94 = .ok (.if_icmp .ge 22, 3) := by decide +kernel
theorem dX12_sheet_97 : decode cX12_sheet 97 = .ok (.aload_n 0, 1) := by decide +kernel
theorem dX12_sheet_98 : decode cX12_sheet 98 = .ok (.getfield 43, 3) := by decide +kernel
theorem dX12_sheet_101 : decode cX12_sheet 101 = .ok (.bipush 24, 2) := by decide +kernel
theorem dX12_sheet_103 : decode cX12_sheet 103 = .ok (.iload_n 1, 1) := by decide +kernel
theorem dX12_sheet_104 : decode cX12_sheet 104 = .ok (.imul, 1) := by decide +kernel
theorem dX12_sheet_105 : decode cX12_sheet 105 = .ok (.iload 4, 2) := by decide +kernel
theorem dX12_sheet_107 : decode cX12_sheet 107 = .ok (.iadd, 1) := by decide +kernel
theorem dX12_sheet_108 : decode cX12_sheet 108 = .ok (.iconst 0, 1) := by decide +kernel
theorem dX12_sheet_109 : decode cX12_sheet 109 = .ok (.iastore, 1) := by decide +kernel
theorem dX12_sheet_110 : decode cX12_sheet 110 = .ok (.iinc 4 1, 3) := by decide +kernel
theorem dX12_sheet_113 : decode cX12_sheet 113 = .ok (.goto (-23), 3) := by decide +kernel
theorem dX12_sheet_116 : decode cX12_sheet 116 = .ok (.iconst 1, 1) := by decide +kernel
theorem dX12_sheet_117 : decode cX12_sheet 117 = .ok (.ireturn, 1) := by decide +kernel
theorem dX12_put_0 : decode cX12_put 0 = .ok (.iload_n 1, 1) := by decide +kernel
theorem dX12_put_1 : decode cX12_put 1 = .ok (.invokestatic 203, 3) := by decide +kernel
theorem dX12_put_4 : decode cX12_put 4 = .ok (.ifCond .ne 9, 3) := by decide +kernel
theorem dX12_put_7 : decode cX12_put 7 = .ok (.aload_n 0, 1) := by decide +kernel
theorem dX12_put_8 : decode cX12_put 8 = .ok (.iconst 1, 1) := by decide +kernel
theorem dX12_put_9 : decode cX12_put 9 = .ok (.invokevirtual 66, 3) := by decide +kernel
theorem dX12_put_12 : decode cX12_put 12 = .ok (.ireturn, 1) := by decide +kernel
theorem dX12_put_13 : decode cX12_put 13 = .ok (.aload_n 0, 1) := by decide +kernel
theorem dX12_put_14 : decode cX12_put 14 = .ok (.getfield 37, 3) := by decide +kernel
theorem dX12_put_17 : decode cX12_put 17 = .ok (.iload_n 1, 1) := by decide +kernel
theorem dX12_put_18 : decode cX12_put 18 = .ok (.iaload, 1) := by decide +kernel
theorem dX12_put_19 : decode cX12_put 19 = .ok (.ifCond .ne 9, 3) := by decide +kernel
theorem dX12_put_22 : decode cX12_put 22 = .ok (.aload_n 0, 1) := by decide +kernel
theorem dX12_put_23 : decode cX12_put 23 = .ok (.iconst 2, 1) := by decide +kernel
theorem dX12_put_24 : decode cX12_put 24 = .ok (.invokevirtual 66, 3) := by decide +kernel
theorem dX12_put_27 : decode cX12_put 27 = .ok (.ireturn, 1) := by decide +kernel
theorem dX12_put_28 : decode cX12_put 28 = .ok (.iload_n 2, 1) := by decide +kernel
theorem dX12_put_29 : decode cX12_put 29 = .ok (.iconst 0, 1) := by decide +kernel
theorem dX12_put_30 : decode cX12_put 30 = .ok (.aload_n 0, 1) := by decide +kernel
theorem dX12_put_31 : decode cX12_put 31 = .ok (.getfield 40, 3) := by decide +kernel
theorem dX12_put_34 : decode cX12_put 34 = .ok (.iload_n 1, 1) := by decide +kernel
theorem dX12_put_35 : decode cX12_put 35 = .ok (.iaload, 1) := by decide +kernel
theorem dX12_put_36 : decode cX12_put 36 = .ok (.iconst 1, 1) := by decide +kernel
theorem dX12_put_37 : decode cX12_put 37 = .ok (.isub, 1) := by decide +kernel
theorem dX12_put_38 : decode cX12_put 38 = .ok (.invokestatic 54, 3) := by decide +kernel
theorem dX12_put_41 : decode cX12_put 41 = .ok (.ifCond .ne 9, 3) := by decide +kernel
theorem dX12_put_44 : decode cX12_put 44 = .ok (.aload_n 0, 1) := by decide +kernel
theorem dX12_put_45 : decode cX12_put 45 = .ok (.iconst 1, 1) := by decide +kernel
theorem dX12_put_46 : decode cX12_put 46 = .ok (.invokevirtual 66, 3) := by decide +kernel
theorem dX12_put_49 : decode cX12_put 49 = .ok (.ireturn, 1) := by decide +kernel
theorem dX12_put_50 : decode cX12_put 50 = .ok (.bipush 32, 2) := by decide +kernel
theorem dX12_put_52 : decode cX12_put 52 = .ok (.aload_n 0, 1) := by decide +kernel
theorem dX12_put_53 : decode cX12_put 53 = .ok (.getfield 37, 3) := by decide +kernel
theorem dX12_put_56 : decode cX12_put 56 = .ok (.iload_n 1, 1) := by decide +kernel
theorem dX12_put_57 : decode cX12_put 57 = .ok (.iaload, 1) := by decide +kernel
theorem dX12_put_58 : decode cX12_put 58 = .ok (.isub, 1) := by decide +kernel
theorem dX12_put_59 : decode cX12_put 59 = .ok (.istore 4, 2) := by decide +kernel
theorem dX12_put_61 : decode cX12_put 61 = .ok (.aload_n 0, 1) := by decide +kernel
theorem dX12_put_62 : decode cX12_put 62 = .ok (.getfield 43, 3) := by decide +kernel
theorem dX12_put_65 : decode cX12_put 65 = .ok (.bipush 24, 2) := by decide +kernel
theorem dX12_put_67 : decode cX12_put 67 = .ok (.iload_n 1, 1) := by decide +kernel
theorem dX12_put_68 : decode cX12_put 68 = .ok (.imul, 1) := by decide +kernel
theorem dX12_put_69 : decode cX12_put 69 = .ok (.iload_n 2, 1) := by decide +kernel
theorem dX12_put_70 : decode cX12_put 70 = .ok (.iadd, 1) := by decide +kernel
theorem dX12_put_71 : decode cX12_put 71 = .ok (.iload_n 3, 1) := by decide +kernel
theorem dX12_put_72 : decode cX12_put 72 = .ok (.iload 4, 2) := by decide +kernel
theorem dX12_put_74 : decode cX12_put 74 = .ok (.ishl, 1) := by decide +kernel
theorem dX12_put_75 : decode cX12_put 75 = .ok (.iload 4, 2) := by decide +kernel
theorem dX12_put_77 : decode cX12_put 77 = .ok (.ishr, 1) := by decide +kernel
theorem dX12_put_78 : decode cX12_put 78 = .ok (.iastore, 1) := by decide +kernel
theorem dX12_put_79 : decode cX12_put 79 = .ok (.iconst 1, 1) := by decide +kernel
theorem dX12_put_80 : decode cX12_put 80 = .ok (.ireturn, 1) := by decide +kernel
theorem dX12_move_0 : decode cX12_move 0 = .ok (.iload_n 1, 1) := by decide +kernel
theorem dX12_move_1 : decode cX12_move 1 = .ok (.invokestatic 203, 3) := by decide +kernel
theorem dX12_move_4 : decode cX12_move 4 = .ok (.ifCond .eq 10, 3) := by decide +kernel
theorem dX12_move_7 : decode cX12_move 7 = .ok (.iload_n 3, 1) := by decide +kernel
theorem dX12_move_8 : decode cX12_move 8 = .ok (.invokestatic 203, 3) := by decide +kernel
theorem dX12_move_11 : decode cX12_move 11 = .ok (.ifCond .ne 9, 3) := by decide +kernel
theorem dX12_move_14 : decode cX12_move 14 = .ok (.aload_n 0, 1) := by decide +kernel
theorem dX12_move_15 : decode cX12_move 15 = .ok (.iconst 1, 1) := by decide +kernel
theorem dX12_move_16 : decode cX12_move 16 = .ok (.invokevirtual 66, 3) := by decide +kernel
theorem dX12_move_19 : decode cX12_move 19 = .ok (.ireturn, 1) := by decide +kernel
theorem dX12_move_20 : decode cX12_move 20 = .ok (.aload_n 0, 1) := by decide +kernel
theorem dX12_move_21 : decode cX12_move 21 = .ok (.getfield 37, 3) := by decide +kernel
theorem dX12_move_24 : decode cX12_move 24 = .ok (.iload_n 1, 1) := by decide +kernel
theorem dX12_move_25 : decode cX12_move 25 = .ok (.iaload, 1) := by decide +kernel
theorem dX12_move_26 : decode cX12_move 26 = .ok (.ifCond .eq 12, 3) := by decide +kernel
theorem dX12_move_29 : decode cX12_move 29 = .ok (.aload_n 0, 1) := by decide +kernel
theorem dX12_move_30 : decode cX12_move 30 = .ok (.getfield 37, 3) := by decide +kernel
theorem dX12_move_33 : decode cX12_move 33 = .ok (.iload_n 3, 1) := by decide +kernel
theorem dX12_move_34 : decode cX12_move 34 = .ok (.iaload, 1) := by decide +kernel
theorem dX12_move_35 : decode cX12_move 35 = .ok (.ifCond .ne 9, 3) := by decide +kernel
theorem dX12_move_38 : decode cX12_move 38 = .ok (.aload_n 0, 1) := by decide +kernel
theorem dX12_move_39 : decode cX12_move 39 = .ok (.iconst 2, 1) := by decide +kernel
theorem dX12_move_40 : decode cX12_move 40 = .ok (.invokevirtual 66, 3) := by decide +kernel
theorem dX12_move_43 : decode cX12_move 43 = .ok (.ireturn, 1) := by decide +kernel
theorem dX12_move_44 : decode cX12_move 44 = .ok (.aload_n 0, 1) := by decide +kernel
theorem dX12_move_45 : decode cX12_move 45 = .ok (.getfield 37, 3) := by decide +kernel
theorem dX12_move_48 : decode cX12_move 48 = .ok (.iload_n 1, 1) := by decide +kernel
theorem dX12_move_49 : decode cX12_move 49 = .ok (.iaload, 1) := by decide +kernel
theorem dX12_move_50 : decode cX12_move 50 = .ok (.aload_n 0, 1) := by decide +kernel
theorem dX12_move_51 : decode cX12_move 51 = .ok (.getfield 37, 3) := by decide +kernel
theorem dX12_move_54 : decode cX12_move 54 = .ok (.iload_n 3, 1) := by decide +kernel
theorem dX12_move_55 : decode cX12_move 55 = .ok (.iaload, 1) := by decide +kernel
theorem dX12_move_56 : decode cX12_move 56 = .ok (.if_icmp .eq 9, 3) := by decide +kernel
theorem dX12_move_59 : decode cX12_move 59 = .ok (.aload_n 0, 1) := by decide +kernel
theorem dX12_move_60 : decode cX12_move 60 = .ok (.iconst 5, 1) := by decide +kernel
theorem dX12_move_61 : decode cX12_move 61 = .ok (.invokevirtual 66, 3) := by decide +kernel
