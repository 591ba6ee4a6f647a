theorem dX0_init_0 : decode cX0_init 0 = .ok (.aload_n 0, 1) := by decide +kernel
theorem dX0_init_1 : decode cX0_init 1 = .ok (.invokespecial 1, 3) := by decide +kernel
theorem dX0_init_4 : decode cX0_init 4 = .ok (.return_, 1) := by decide +kernel
theorem dX0_spending_0 : decode cX0_spending 0 = .ok (.iconst 1, 1) := by decide +kernel
theorem dX0_spending_1 : decode cX0_spending 1 = .ok (.ireturn, 1) := by decide +kernel
theorem dX0_biting_0 : decode cX0_biting 0 = .ok (.iconst 0, 1) := by decide +kernel
theorem dX0_biting_1 : decode cX0_biting 1 = .ok (.ireturn, 1) := by decide +kernel
theorem dX0_holds_0 : decode cX0_holds 0 = .ok (.aload_n 1, 1) := by decide +kernel
theorem dX0_holds_1 : decode cX0_holds 1 = .ok (.bipush 20, 2) := by decide +kernel
theorem dX0_holds_3 : decode cX0_holds 3 = .ok (.invokevirtual 7, 3) := by decide +kernel
theorem dX0_holds_6 : decode cX0_holds 6 = .ok (.aload_n 0, 1) := by decide +kernel
theorem dX0_holds_7 : decode cX0_holds 7 = .ok (.aload_n 1, 1) := by decide +kernel
theorem dX0_holds_8 : decode cX0_holds 8 = .ok (.iload_n 2, 1) := by decide +kernel
theorem dX0_holds_9 : decode cX0_holds 9 = .ok (.invokespecial 13, 3) := by decide +kernel
theorem dX0_holds_12 : decode cX0_holds 12 = .ok (.iconst 4, 1) := by decide +kernel
theorem dX0_holds_13 : decode cX0_holds 13 = .ok (.isub, 1) := by decide +kernel
theorem dX0_holds_14 : decode cX0_holds 14 = .ok (.ireturn, 1) := by decide +kernel
theorem dX0_parts_0 : decode cX0_parts 0 = .ok (.aload_n 1, 1) := by decide +kernel
theorem dX0_parts_1 : decode cX0_parts 1 = .ok (.bipush 21, 2) := by decide +kernel
theorem dX0_parts_3 : decode cX0_parts 3 = .ok (.invokevirtual 7, 3) := by decide +kernel
theorem dX0_parts_6 : decode cX0_parts 6 = .ok (.aload_n 0, 1) := by decide +kernel
theorem dX0_parts_7 : decode cX0_parts 7 = .ok (.aload_n 1, 1) := by decide +kernel
theorem dX0_parts_8 : decode cX0_parts 8 = .ok (.iload_n 2, 1) := by decide +kernel
theorem dX0_parts_9 : decode cX0_parts 9 = .ok (.invokespecial 17, 3) := by decide +kernel
theorem dX0_parts_12 : decode cX0_parts 12 = .ok (.istore_n 3, 1) := by decide +kernel
theorem dX0_parts_13 : decode cX0_parts 13 = .ok (.aload_n 1, 1) := by decide +kernel
theorem dX0_parts_14 : decode cX0_parts 14 = .ok (.getfield 20, 3) := by decide +kernel
theorem dX0_parts_17 : decode cX0_parts 17 = .ok (.ifCond .eq 7, 3) := by decide +kernel
theorem dX0_parts_20 : decode cX0_parts 20 = .ok (.iconst 0, 1) := by decide +kernel
theorem dX0_parts_21 : decode cX0_parts 21 = .ok (.goto 11, 3) := by decide +kernel
theorem dX0_parts_24 : decode cX0_parts 24 = .ok (.iload_n 3, 1) := by decide +kernel
theorem dX0_parts_25 : decode cX0_parts 25 = .ok (.aload_n 0, 1) := by decide +kernel
theorem dX0_parts_26 : decode cX0_parts 26 = .ok (.aload_n 1, 1) := by decide +kernel
theorem dX0_parts_27 : decode cX0_parts 27 = .ok (.iconst 1, 1) := by decide +kernel
theorem dX0_parts_28 : decode cX0_parts 28 = .ok (.invokevirtual 24, 3) := by decide +kernel
theorem dX0_parts_31 : decode cX0_parts 31 = .ok (.iadd, 1) := by decide +kernel
theorem dX0_parts_32 : decode cX0_parts 32 = .ok (.ireturn, 1) := by decide +kernel
theorem dX1_init_0 : decode cX1_init 0 = .ok (.aload_n 0, 1) := by decide +kernel
theorem dX1_init_1 : decode cX1_init 1 = .ok (.invokespecial 3, 3) := by decide +kernel
theorem dX1_init_4 : decode cX1_init 4 = .ok (.aload_n 0, 1) := by decide +kernel
theorem dX1_init_5 : decode cX1_init 5 = .ok (.iload_n 1, 1) := by decide +kernel
theorem dX1_init_6 : decode cX1_init 6 = .ok (.putfield 9, 3) := by decide +kernel
theorem dX1_init_9 : decode cX1_init 9 = .ok (.aload_n 0, 1) := by decide +kernel
theorem dX1_init_10 : decode cX1_init 10 = .ok (.bipush 60, 2) := by decide +kernel
theorem dX1_init_12 : decode cX1_init 12 = .ok (.newarray .int, 2) := by decide +kernel
theorem dX1_init_14 : decode cX1_init 14 = .ok (.putfield 15, 3) := by decide +kernel
theorem dX1_init_17 : decode cX1_init 17 = .ok (.aload_n 0, 1) := by decide +kernel
theorem dX1_init_18 : decode cX1_init 18 = .ok (.bipush 60, 2) := by decide +kernel
theorem dX1_init_20 : decode cX1_init 20 = .ok (.newarray .int, 2) := by decide +kernel
theorem dX1_init_22 : decode cX1_init 22 = .ok (.putfield 19, 3) := by decide +kernel
theorem dX1_init_25 : decode cX1_init 25 = .ok (.aload_n 0, 1) := by decide +kernel
theorem dX1_init_26 : decode cX1_init 26 = .ok (.bipush 60, 2) := by decide +kernel
theorem dX1_init_28 : decode cX1_init 28 = .ok (.newarray .int, 2) := by decide +kernel
theorem dX1_init_30 : decode cX1_init 30 = .ok (.putfield 22, 3) := by decide +kernel
theorem dX1_init_33 : decode cX1_init 33 = .ok (.return_, 1) := by decide +kernel
theorem dX1_copyFrom_0 : decode cX1_copyFrom 0 = .ok (.aload_n 1, 1) := by decide +kernel
theorem dX1_copyFrom_1 : decode cX1_copyFrom 1 = .ok (.getfield 19, 3) := by decide +kernel
theorem dX1_copyFrom_4 : decode cX1_copyFrom 4 = .ok (.iconst 0, 1) := by decide +kernel
theorem dX1_copyFrom_5 : decode cX1_copyFrom 5 = .ok (.aload_n 0, 1) := by decide +kernel
theorem dX1_copyFrom_6 : decode cX1_copyFrom 6 = .ok (.getfield 19, 3) := by decide +kernel
theorem dX1_copyFrom_9 : decode cX1_copyFrom 9 = .ok (.iconst 0, 1) := by decide +kernel
theorem dX1_copyFrom_10 : decode cX1_copyFrom 10 = .ok (.bipush 60, 2) := by decide +kernel
theorem dX1_copyFrom_12 : decode cX1_copyFrom 12 = .ok (.invokestatic 25, 3) := by decide +kernel
theorem dX1_copyFrom_15 : decode cX1_copyFrom 15 = .ok (.aload_n 0, 1) := by decide +kernel
theorem dX1_copyFrom_16 : decode cX1_copyFrom 16 = .ok (.aload_n 1, 1) := by decide +kernel
theorem dX1_copyFrom_17 : decode cX1_copyFrom 17 = .ok (.getfield 31, 3) := by decide +kernel
theorem dX1_copyFrom_20 : decode cX1_copyFrom 20 = .ok (.putfield 31, 3) := by decide +kernel
theorem dX1_copyFrom_23 : decode cX1_copyFrom 23 = .ok (.return_, 1) := by decide +kernel
theorem dX1_isMissing_0 : decode cX1_isMissing 0 = .ok (.aload_n 0, 1) := by decide +kernel
theorem dX1_isMissing_1 : decode cX1_isMissing 1 = .ok (.getfield 31, 3) := by decide +kernel
theorem dX1_isMissing_4 : decode cX1_isMissing 4 = .ok (.ifCond .ne 7, 3) := by decide +kernel
theorem dX1_isMissing_7 : decode cX1_isMissing 7 = .ok (.iconst 1, 1) := by decide +kernel
theorem dX1_isMissing_8 : decode cX1_isMissing 8 = .ok (.goto 4, 3) := by decide +kernel
theorem dX1_isMissing_11 : decode cX1_isMissing 11 = .ok (.iconst 0, 1) := by decide +kernel
theorem dX1_isMissing_12 : decode cX1_isMissing 12 = .ok (.ireturn, 1) := by decide +kernel
theorem dX1_forget_0 : decode cX1_forget 0 = .ok (.aload_n 0, 1) := by decide +kernel
theorem dX1_forget_1 : decode cX1_forget 1 = .ok (.iconst 0, 1) := by decide +kernel
theorem dX1_forget_2 : decode cX1_forget 2 = .ok (.putfield 31, 3) := by decide +kernel
theorem dX1_forget_5 : decode cX1_forget 5 = .ok (.return_, 1) := by decide +kernel
theorem dX1_gives_0 : decode cX1_gives 0 = .ok (.iconst 0, 1) := by decide +kernel
theorem dX1_gives_1 : decode cX1_gives 1 = .ok (.istore 4, 2) := by decide +kernel
theorem dX1_gives_3 : decode cX1_gives 3 = .ok (.iconst 0, 1) := by decide +kernel
theorem dX1_gives_4 : decode cX1_gives 4 = .ok (.istore 5, 2) := by decide +kernel
theorem dX1_gives_6 : decode cX1_gives 6 = .ok (.iload 5, 2) := by decide +kernel
theorem dX1_gives_8 : decode cX1_gives 8 = .ok (.aload_n 0, 1) := by decide +kernel
theorem dX1_gives_9 : decode cX1_gives 9 = .ok (.getfield 31, 3) := by decide +kernel
theorem dX1_gives_12 : decode cX1_gives 12 = .ok (.if_icmp .ge 215, 3) := by decide +kernel
theorem dX1_gives_15 : decode cX1_gives 15 = .ok (.iload 4, 2) := by decide +kernel
theorem dX1_gives_17 : decode cX1_gives 17 = .ok (.bipush 60, 2) := by decide +kernel
theorem dX1_gives_19 : decode cX1_gives 19 = .ok (.if_icmp .ge 208, 3) := by decide +kernel
theorem dX1_gives_22 : decode cX1_gives 22 = .ok (.aload_n 0, 1) := by decide +kernel
theorem dX1_gives_23 : decode cX1_gives 23 = .ok (.getfield 19, 3) := by decide +kernel
theorem dX1_gives_26 : decode cX1_gives 26 = .ok (.iload 5, 2) := by decide +kernel
theorem dX1_gives_28 : decode cX1_gives 28 = .ok (.iaload, 1) := by decide +kernel
theorem dX1_gives_29 : decode cX1_gives 29 = .ok (.istore 6, 2) := by decide +kernel
theorem dX1_gives_31 : decode cX1_gives 31 = .ok (.iload 6, 2) := by decide +kernel
theorem dX1_gives_33 : decode cX1_gives 33 = .ok (.ifCond .lt 18, 3) := by decide +kernel
theorem dX1_gives_36 : decode cX1_gives 36 = .ok (.aload_n 0, 1) := by decide +kernel
theorem dX1_gives_37 : decode cX1_gives 37 = .ok (.getfield 15, 3) := by decide +kernel
theorem dX1_gives_40 : decode cX1_gives 40 = .ok (.iload 4, 2) := by decide +kernel
theorem dX1_gives_42 : decode cX1_gives 42 = .ok (.iinc 4 1, 3) := by decide +kernel
theorem dX1_gives_45 : decode cX1_gives 45 = .ok (.iload 6, 2) := by decide +kernel
theorem dX1_gives_47 : decode cX1_gives 47 = .ok (.iastore, 1) := by decide +kernel
theorem dX1_gives_48 : decode cX1_gives 48 = .ok (.goto 173, 3) := by decide +kernel
theorem dX1_gives_51 : decode cX1_gives 51 = .ok (.iload 6, 2) := by decide +kernel
theorem dX1_gives_53 : decode cX1_gives 53 = .ok (.ineg, 1) := by decide +kernel
theorem dX1_gives_54 : decode cX1_gives 54 = .ok (.lookupswitch 127 #[(33, 92), (100, 50), (109, 78), (112, 64), (115, 50)], 50) := by decide +kernel
theorem dX1_gives_104 : decode cX1_gives 104 = .ok (.aload_n 0, 1) := by decide +kernel
theorem dX1_gives_105 : decode cX1_gives 105 = .ok (.getfield 15, 3) := by decide +kernel
theorem dX1_gives_108 : decode cX1_gives 108 = .ok (.iload 4, 2) := by decide +kernel
theorem dX1_gives_110 : decode cX1_gives 110 = .ok (.iinc 4 1, 3) := by decide +kernel
theorem dX1_gives_113 : decode cX1_gives 113 = .ok (.iload_n 1, 1) := by decide +kernel
theorem dX1_gives_114 : decode cX1_gives 114 = .ok (.iastore, 1) := by decide +kernel
theorem dX1_gives_115 : decode cX1_gives 115 = .ok (.goto 106, 3) := by decide +kernel
theorem dX1_gives_118 : decode cX1_gives 118 = .ok (.aload_n 0, 1) := by decide +kernel
theorem dX1_gives_119 : decode cX1_gives 119 = .ok (.getfield 15, 3) := by decide +kernel
theorem dX1_gives_122 : decode cX1_gives 122 = .ok (.iload 4, 2) := by decide +kernel
theorem dX1_gives_124 : decode cX1_gives 124 = .ok (.iinc 4 1, 3) := by decide +kernel
theorem dX1_gives_127 : decode cX1_gives 127 = .ok (.iload_n 2, 1) := by decide +kernel
theorem dX1_gives_128 : decode cX1_gives 128 = .ok (.iastore, 1) := by decide +kernel
theorem dX1_gives_129 : decode cX1_gives 129 = .ok (.goto 92, 3) := by decide +kernel
theorem dX1_gives_132 : decode cX1_gives 132 = .ok (.aload_n 0, 1) := by decide +kernel
theorem dX1_gives_133 : decode cX1_gives 133 = .ok (.getfield 15, 3) := by decide +kernel
theorem dX1_gives_136 : decode cX1_gives 136 = .ok (.iload 4, 2) := by decide +kernel
theorem dX1_gives_138 : decode cX1_gives 138 = .ok (.iinc 4 1, 3) := by decide +kernel
theorem dX1_gives_141 : decode cX1_gives 141 = .ok (.iload_n 3, 1) := by decide +kernel
theorem dX1_gives_142 : decode cX1_gives 142 = .ok (.iastore, 1) := by decide +kernel
theorem dX1_gives_143 : decode cX1_gives 143 = .ok (.goto 78, 3) := by decide +kernel
theorem dX1_gives_146 : decode cX1_gives 146 = .ok (.iload 4, 2) := by decide +kernel
theorem dX1_gives_148 : decode cX1_gives 148 = .ok (.iconst 1, 1) := by decide +kernel
theorem dX1_gives_149 : decode cX1_gives 149 = .ok (.if_icmp .lt 72, 3) := by decide +kernel
theorem dX1_gives_152 : decode cX1_gives 152 = .ok (.aload_n 0, 1) := by decide +kernel
theorem dX1_gives_153 : decode cX1_gives 153 = .ok (.getfield 15, 3) := by decide +kernel
theorem dX1_gives_156 : decode cX1_gives 156 = .ok (.iload 4, 2) := by decide +kernel
theorem dX1_gives_158 : decode cX1_gives 158 = .ok (.iconst 1, 1) := by decide +kernel
theorem dX1_gives_159 : decode cX1_gives 159 = .ok (.isub, 1) := by decide +kernel
theorem dX1_gives_160 : decode cX1_gives 160 = .ok (.aload_n 0, 1) := by decide +kernel
theorem dX1_gives_161 : decode cX1_gives 161 = .ok (.getfield 15, 3) := by decide +kernel
theorem dX1_gives_164 : decode cX1_gives 164 = .ok (.iload 4, 2) := by decide +kernel
theorem dX1_gives_166 : decode cX1_gives 166 = .ok (.iconst 1, 1) := by decide +kernel
theorem dX1_gives_167 : decode cX1_gives 167 = .ok (.isub, 1) := by decide +kernel
theorem dX1_gives_168 : decode cX1_gives 168 = .ok (.iaload, 1) := by decide +kernel
theorem dX1_gives_169 : decode cX1_gives 169 = .ok (.ifCond .ne 7, 3) := by decide +kernel
theorem dX1_gives_172 : decode cX1_gives 172 = .ok (.iconst 1, 1) := by decide +kernel
theorem dX1_gives_173 : decode cX1_gives 173 = .ok (.goto 4, 3) := by decide +kernel
theorem dX1_gives_176 : decode cX1_gives 176 = .ok (.iconst 0, 1) := by decide +kernel
theorem dX1_gives_177 : decode cX1_gives 177 = .ok (.iastore, 1) := by decide +kernel
theorem dX1_gives_178 : decode cX1_gives 178 = .ok (.goto 43, 3) := by decide +kernel
theorem dX1_gives_181 : decode cX1_gives 181 = .ok (.iload 4, 2) := by decide +kernel
theorem dX1_gives_183 : decode cX1_gives 183 = .ok (.iconst 2, 1) := by decide +kernel
theorem dX1_gives_184 : decode cX1_gives 184 = .ok (.if_icmp .lt 37, 3) := by decide +kernel
theorem dX1_gives_187 : decode cX1_gives 187 = .ok (.iinc 4 (-1), 3) := by decide +kernel
theorem dX1_gives_190 : decode cX1_gives 190 = .ok (.aload_n 0, 1) := by decide +kernel
theorem dX1_gives_191 : decode cX1_gives 191 = .ok (.getfield 15, 3) := by decide +kernel
theorem dX1_gives_194 : decode cX1_gives 194 = .ok (.iload 4, 2) := by decide +kernel
theorem dX1_gives_196 : decode cX1_gives 196 = .ok (.iconst 1, 1) := by decide +kernel
theorem dX1_gives_197 : decode cX1_gives 197 = .ok (.isub, 1) := by decide +kernel
theorem dX1_gives_198 : decode cX1_gives 198 = .ok (.iload 6, 2) := by decide +kernel
theorem dX1_gives_200 : decode cX1_gives 200 = .ok (.ineg, 1) := by decide +kernel
theorem dX1_gives_201 : decode cX1_gives 201 = .ok (.aload_n 0, 1) := by decide +kernel
theorem dX1_gives_202 : decode cX1_gives 202 = .ok (.getfield 15, 3) := by decide +kernel
theorem dX1_gives_205 : decode cX1_gives 205 = .ok (.iload 4, 2) := by decide +kernel
theorem dX1_gives_207 : decode cX1_gives 207 = .ok (.iconst 1, 1) := by decide +kernel
theorem dX1_gives_208 : decode cX1_gives 208 = .ok (.isub, 1) := by decide +kernel
theorem dX1_gives_209 : decode cX1_gives 209 = .ok (.iaload, 1) := by decide +kernel
theorem dX1_gives_210 : decode cX1_gives 210 = .ok (.aload_n 0, 1) := by decide +kernel
theorem dX1_gives_211 : decode cX1_gives 211 = .ok (.getfield 15, 3) := by decide +kernel
theorem dX1_gives_214 : decode cX1_gives 214 = .ok (.iload 4, 2) := by decide +kernel
theorem dX1_gives_216 : decode cX1_gives 216 = .ok (.iaload, 1) := by decide +kernel
theorem dX1_gives_217 : decode cX1_gives 217 = .ok (.invokestatic 35, 3) := by decide +kernel
theorem dX1_gives_220 : decode cX1_gives 220 = .ok (.iastore, 1) := by decide +kernel
theorem dX1_gives_221 : decode cX1_gives 221 = .ok (.iinc 5 1, 3) := by decide +kernel
theorem dX1_gives_224 : decode cX1_gives 224 = .ok (.goto (-218), 3) := by decide +kernel
theorem dX1_gives_227 : decode cX1_gives 227 = .ok (.aload_n 0, 1) := by decide +kernel
theorem dX1_gives_228 : decode cX1_gives 228 = .ok (.getfield 15, 3) := by decide +kernel
theorem dX1_gives_231 : decode cX1_gives 231 = .ok (.iconst 0, 1) := by decide +kernel
theorem dX1_gives_232 : decode cX1_gives 232 = .ok (.iaload, 1) := by decide +kernel
theorem dX1_gives_233 : decode cX1_gives 233 = .ok (.ireturn, 1) := by decide +kernel
theorem dX1_joined_0 : decode cX1_joined 0 = .ok (.iload_n 0, 1) := by decide +kernel
theorem dX1_joined_1 : decode cX1_joined 1 = .ok (.tableswitch 202 37 62 #[143, 188, 202, 202, 202, 127, 119, 202, 123, 202, 131, 202, 202, 202, 202, 202, 202, 202, 202, 202, 202, 202, 202, 155, 166, 177], 119) := by decide +kernel
theorem dX1_joined_120 : decode cX1_joined 120 = .ok (.iload_n 1, 1) := by decide +kernel
theorem dX1_joined_121 : decode cX1_joined 121 = .ok (.iload_n 2, 1) := by decide +kernel
theorem dX1_joined_122 : decode cX1_joined 122 = .ok (.iadd, 1) := by decide +kernel
theorem dX1_joined_123 : decode cX1_joined 123 = .ok (.ireturn, 1) := by decide +kernel
theorem dX1_joined_124 : decode cX1_joined 124 = .ok (.iload_n 1, 1) := by decide +kernel
theorem dX1_joined_125 : decode cX1_joined 125 = .ok (.iload_n 2, 1) := by decide +kernel
theorem dX1_joined_126 : decode cX1_joined 126 = .ok (.isub, 1) := by decide +kernel
theorem dX1_joined_127 : decode cX1_joined 127 = .ok (.ireturn, 1) := by decide +kernel
theorem dX1_joined_128 : decode cX1_joined 128 = .ok (.iload_n 1, 1) := by decide +kernel
theorem dX1_joined_129 : decode cX1_joined 129 = .ok (.iload_n 2, 1) := by decide +kernel
theorem dX1_joined_130 : decode cX1_joined 130 = .ok (.imul, 1) := by decide +kernel
theorem dX1_joined_131 : decode cX1_joined 131 = .ok (.ireturn, 1) := by decide +kernel
theorem dX1_joined_132 : decode cX1_joined 132 = .ok (.iload_n 2, 1) := by decide +kernel
theorem dX1_joined_133 : decode cX1_joined 133 = .ok (.ifCond .ne 7, 3) := by decide +kernel
theorem dX1_joined_136 : decode cX1_joined 136 = .ok (.iconst 0, 1) := by decide +kernel
theorem dX1_joined_137 : decode cX1_joined 137 = .ok (.goto 6, 3) := by decide +kernel
theorem dX1_joined_140 : decode cX1_joined 140 = .ok (.iload_n 1, 1) := by decide +kernel
theorem dX1_joined_141 : decode cX1_joined 141 = .ok (.iload_n 2, 1) := by decide +kernel
theorem dX1_joined_142 : decode cX1_joined 142 = .ok (.idiv, 1) := by decide +kernel
theorem dX1_joined_143 : decode cX1_joined 143 = .ok (.ireturn, 1) := by decide +kernel
theorem dX1_joined_144 : decode cX1_joined 144 = .ok (.iload_n 2, 1) := by decide +kernel
theorem dX1_joined_145 : decode cX1_joined 145 = .ok (.ifCond .ne 7, 3) := by decide +kernel
theorem dX1_joined_148 : decode cX1_joined 148 = .ok (.iconst 0, 1) := by decide +kernel
theorem dX1_joined_149 : decode cX1_joined 149 = .ok (.goto 6, 3) := by decide +kernel
theorem dX1_joined_152 : decode cX1_joined 152 = .ok (.iload_n 1, 1) := by decide +kernel
theorem dX1_joined_153 : decode cX1_joined 153 = .ok (.iload_n 2, 1) := by decide +kernel
theorem dX1_joined_154 : decode cX1_joined 154 = .ok (.irem, 1) := by decide +kernel
theorem dX1_joined_155 : decode cX1_joined 155 = .ok (.ireturn, 1) := by decide +kernel
theorem dX1_joined_156 : decode cX1_joined 156 = .ok (.iload_n 1, 1) := by decide +kernel
theorem dX1_joined_157 : decode cX1_joined 157 = .ok (.iload_n 2, 1) := by decide +kernel
theorem dX1_joined_158 : decode cX1_joined 158 = .ok (.if_icmp .ge 7, 3) := by decide +kernel
theorem dX1_joined_161 : decode cX1_joined 161 = .ok (.iconst 1, 1) := by decide +kernel
theorem dX1_joined_162 : decode cX1_joined 162 = .ok (.goto 4, 3) := by decide +kernel
theorem dX1_joined_165 : decode cX1_joined 165 = .ok (.iconst 0, 1) := by decide +kernel
theorem dX1_joined_166 : decode cX1_joined 166 = .ok (.ireturn, 1) := by decide +kernel
theorem dX1_joined_167 : decode cX1_joined 167 = .ok (.iload_n 1, 1) := by decide +kernel
theorem dX1_joined_168 : decode cX1_joined 168 = .ok (.iload_n 2, 1) := by decide +kernel
theorem dX1_joined_169 : decode cX1_joined 169 = .ok (.if_icmp .ne 7, 3) := by decide +kernel
theorem dX1_joined_172 : decode cX1_joined 172 = .ok (.iconst 1, 1) := by decide +kernel
theorem dX1_joined_173 : decode cX1_joined 173 = .ok (.goto 4, 3) := by decide +kernel
theorem dX1_joined_176 : decode cX1_joined 176 = .ok (.iconst 0, 1) := by decide +kernel
theorem dX1_joined_177 : decode cX1_joined 177 = .ok (.ireturn, 1) := by decide +kernel
theorem dX1_joined_178 : decode cX1_joined 178 = .ok (.iload_n 1, 1) := by decide +kernel
theorem dX1_joined_179 : decode cX1_joined 179 = .ok (.iload_n 2, 1) := by decide +kernel
theorem dX1_joined_180 : decode cX1_joined 180 = .ok (.if_icmp .le 7, 3) := by decide +kernel
theorem dX1_joined_183 : decode cX1_joined 183 = .ok (.iconst 1, 1) := by decide +kernel
theorem dX1_joined_184 : decode cX1_joined 184 = .ok (.goto 4, 3) := by decide +kernel
theorem dX1_joined_187 : decode cX1_joined 187 = .ok (.iconst 0, 1) := by decide +kernel
theorem dX1_joined_188 : decode cX1_joined 188 = .ok (.ireturn, 1) := by decide +kernel
theorem dX1_joined_189 : decode cX1_joined 189 = .ok (.iload_n 1, 1) := by decide +kernel
theorem dX1_joined_190 : decode cX1_joined 190 = .ok (.ifCond .eq 11, 3) := by decide +kernel
theorem dX1_joined_193 : decode cX1_joined 193 = .ok (.iload_n 2, 1) := by decide +kernel
theorem dX1_joined_194 : decode cX1_joined 194 = .ok (.ifCond .eq 7, 3) := by decide +kernel
theorem dX1_joined_197 : decode cX1_joined 197 = .ok (.iconst 1, 1) := by decide +kernel
theorem dX1_joined_198 : decode cX1_joined 198 = .ok (.goto 4, 3) := by decide +kernel
theorem dX1_joined_201 : decode cX1_joined 201 = .ok (.iconst 0, 1) := by decide +kernel
theorem dX1_joined_202 : decode cX1_joined 202 = .ok (.ireturn, 1) := by decide +kernel
theorem dX1_joined_203 : decode cX1_joined 203 = .ok (.iload_n 1, 1) := by decide +kernel
theorem dX1_joined_204 : decode cX1_joined 204 = .ok (.ifCond .ne 7, 3) := by decide +kernel
theorem dX1_joined_207 : decode cX1_joined 207 = .ok (.iload_n 2, 1) := by decide +kernel
theorem dX1_joined_208 : decode cX1_joined 208 = .ok (.ifCond .eq 7, 3) := by decide +kernel
theorem dX1_joined_211 : decode cX1_joined 211 = .ok (.iconst 1, 1) := by decide +kernel
theorem dX1_joined_212 : decode cX1_joined 212 = .ok (.goto 4, 3) := by decide +kernel
theorem dX1_joined_215 : decode cX1_joined 215 = .ok (.iconst 0, 1) := by decide +kernel
theorem dX1_joined_216 : decode cX1_joined 216 = .ok (.ireturn, 1) := by decide +kernel
theorem dX1_read_0 : decode cX1_read 0 = .ok (.aload_n 0, 1) := by decide +kernel
theorem dX1_read_1 : decode cX1_read 1 = .ok (.aload_n 1, 1) := by decide +kernel
theorem dX1_read_2 : decode cX1_read 2 = .ok (.putfield 39, 3) := by decide +kernel
theorem dX1_read_5 : decode cX1_read 5 = .ok (.aload_n 0, 1) := by decide +kernel
theorem dX1_read_6 : decode cX1_read 6 = .ok (.iload_n 2, 1) := by decide +kernel
theorem dX1_read_7 : decode cX1_read 7 = .ok (.aload_n 1, 1) := by decide +kernel
theorem dX1_read_8 : decode cX1_read 8 = .ok (.arraylength, 1) := by decide +kernel
theorem dX1_read_9 : decode cX1_read 9 = .ok (.invokestatic 43, 3) := by decide +kernel
theorem dX1_read_12 : decode cX1_read 12 = .ok (.putfield 49, 3) := by decide +kernel
theorem dX1_read_15 : decode cX1_read 15 = .ok (.aload_n 0, 1) := by decide +kernel
theorem dX1_read_16 : decode cX1_read 16 = .ok (.iconst 0, 1) := by decide +kernel
theorem dX1_read_17 : decode cX1_read 17 = .ok (.putfield 52, 3) := by decide +kernel
theorem dX1_read_20 : decode cX1_read 20 = .ok (.aload_n 0, 1) := by decide +kernel
theorem dX1_read_21 : decode cX1_read 21 = .ok (.iconst 0, 1) := by decide +kernel
theorem dX1_read_22 : decode cX1_read 22 = .ok (.putfield 55, 3) := by decide +kernel
theorem dX1_read_25 : decode cX1_read 25 = .ok (.aload_n 0, 1) := by decide +kernel
theorem dX1_read_26 : decode cX1_read 26 = .ok (.iconst 0, 1) := by decide +kernel
theorem dX1_read_27 : decode cX1_read 27 = .ok (.invokevirtual 58, 3) := by decide +kernel
theorem dX1_read_30 : decode cX1_read 30 = .ok (.ifCond .eq 14, 3) := by decide +kernel
theorem dX1_read_33 : decode cX1_read 33 = .ok (.aload_n 0, 1) := by decide +kernel
theorem dX1_read_34 : decode cX1_read 34 = .ok (.getfield 52, 3) := by decide +kernel
theorem dX1_read_37 : decode cX1_read 37 = .ok (.aload_n 0, 1) := by decide +kernel
theorem dX1_read_38 : decode cX1_read 38 = .ok (.getfield 49, 3) := by decide +kernel
theorem dX1_read_41 : decode cX1_read 41 = .ok (.if_icmp .ge 8, 3) := by decide +kernel
theorem dX1_read_44 : decode cX1_read 44 = .ok (.aload_n 0, 1) := by decide +kernel
theorem dX1_read_45 : decode cX1_read 45 = .ok (.getfield 52, 3) := by decide +kernel
theorem dX1_read_48 : decode cX1_read 48 = .ok (.ireturn, 1) := by decide +kernel
theorem dX1_read_49 : decode cX1_read 49 = .ok (.aload_n 0, 1) := by decide +kernel
theorem dX1_read_50 : decode cX1_read 50 = .ok (.getfield 19, 3) := by decide +kernel
theorem dX1_read_53 : decode cX1_read 53 = .ok (.astore_n 3, 1) := by decide +kernel
theorem dX1_read_54 : decode cX1_read 54 = .ok (.aload_n 0, 1) := by decide +kernel
theorem dX1_read_55 : decode cX1_read 55 = .ok (.aload_n 0, 1) := by decide +kernel
theorem dX1_read_56 : decode cX1_read 56 = .ok (.getfield 22, 3) := by decide +kernel
theorem dX1_read_59 : decode cX1_read 59 = .ok (.putfield 19, 3) := by decide +kernel
theorem dX1_read_62 : decode cX1_read 62 = .ok (.aload_n 0, 1) := by decide +kernel
theorem dX1_read_63 : decode cX1_read 63 = .ok (.aload_n 0, 1) := by decide +kernel
theorem dX1_read_64 : decode cX1_read 64 = .ok (.getfield 55, 3) := by decide +kernel
theorem dX1_read_67 : decode cX1_read 67 = .ok (.putfield 31, 3) := by decide +kernel
theorem dX1_read_70 : decode cX1_read 70 = .ok (.aload_n 0, 1) := by decide +kernel
theorem dX1_read_71 : decode cX1_read 71 = .ok (.aload_n 3, 1) := by decide +kernel
theorem dX1_read_72 : decode cX1_read 72 = .ok (.putfield 22, 3) := by decide +kernel
theorem dX1_read_75 : decode cX1_read 75 = .ok (.iconst (-1), 1) := by decide +kernel
theorem dX1_read_76 : decode cX1_read 76 = .ok (.ireturn, 1) := by decide +kernel
theorem dX1_readEither_0 : decode cX1_readEither 0 = .ok (.aload_n 0, 1) := by decide +kernel
theorem dX1_readEither_1 : decode cX1_readEither 1 = .ok (.iload_n 1, 1) := by decide +kernel
theorem dX1_readEither_2 : decode cX1_readEither 2 = .ok (.invokevirtual 62, 3) := by decide +kernel
theorem dX1_readEither_5 : decode cX1_readEither 5 = .ok (.istore_n 2, 1) := by decide +kernel
theorem dX1_readEither_6 : decode cX1_readEither 6 = .ok (.iconst 0, 1) := by decide +kernel
theorem dX1_readEither_7 : decode cX1_readEither 7 = .ok (.istore_n 3, 1) := by decide +kernel
theorem dX1_readEither_8 : decode cX1_readEither 8 = .ok (.iload_n 3, 1) := by decide +kernel
theorem dX1_readEither_9 : decode cX1_readEither 9 = .ok (.bipush 60, 2) := by decide +kernel
theorem dX1_readEither_11 : decode cX1_readEither 11 = .ok (.if_icmp .ge 44, 3) := by decide +kernel
theorem dX1_readEither_14 : decode cX1_readEither 14 = .ok (.iload_n 2, 1) := by decide +kernel
theorem dX1_readEither_15 : decode cX1_readEither 15 = .ok (.ifCond .eq 40, 3) := by decide +kernel
theorem dX1_readEither_18 : decode cX1_readEither 18 = .ok (.aload_n 0, 1) := by decide +kernel
theorem dX1_readEither_19 : decode cX1_readEither 19 = .ok (.bipush 124, 2) := by decide +kernel
theorem dX1_readEither_21 : decode cX1_readEither 21 = .ok (.invokevirtual 65, 3) := by decide +kernel
theorem dX1_readEither_24 : decode cX1_readEither 24 = .ok (.ifCond .eq 31, 3) := by decide +kernel
theorem dX1_readEither_27 : decode cX1_readEither 27 = .ok (.aload_n 0, 1) := by decide +kernel
theorem dX1_readEither_28 : decode cX1_readEither 28 = .ok (.dup, 1) := by decide +kernel
theorem dX1_readEither_29 : decode cX1_readEither 29 = .ok (.getfield 52, 3) := by decide +kernel
theorem dX1_readEither_32 : decode cX1_readEither 32 = .ok (.iconst 1, 1) := by decide +kernel
theorem dX1_readEither_33 : decode cX1_readEither 33 = .ok (.iadd, 1) := by decide +kernel
theorem dX1_readEither_34 : decode cX1_readEither 34 = .ok (.putfield 52, 3) := by decide +kernel
theorem dX1_readEither_37 : decode cX1_readEither 37 = .ok (.aload_n 0, 1) := by decide +kernel
theorem dX1_readEither_38 : decode cX1_readEither 38 = .ok (.iload_n 1, 1) := by decide +kernel
theorem dX1_readEither_39 : decode cX1_readEither 39 = .ok (.invokevirtual 62, 3) := by decide +kernel
theorem dX1_readEither_42 : decode cX1_readEither 42 = .ok (.istore_n 2, 1) := by decide +kernel
theorem dX1_readEither_43 : decode cX1_readEither 43 = .ok (.aload_n 0, 1) := by decide +kernel
theorem dX1_readEither_44 : decode cX1_readEither 44 = .ok (.bipush (-124), 2) := by decide +kernel
theorem dX1_readEither_46 : decode cX1_readEither 46 = .ok (.invokevirtual 69, 3) := by decide +kernel
theorem dX1_readEither_49 : decode cX1_readEither 49 = .ok (.iinc 3 1, 3) := by decide +kernel
theorem dX1_readEither_52 : decode cX1_readEither 52 = .ok (.goto (-44), 3) := by decide +kernel
theorem dX1_readEither_55 : decode cX1_readEither 55 = .ok (.iload_n 2, 1) := by decide +kernel
theorem dX1_readEither_56 : decode cX1_readEither 56 = .ok (.ireturn, 1) := by decide +kernel
theorem dX1_readBoth_0 : decode cX1_readBoth 0 = .ok (.aload_n 0, 1) := by decide +kernel
theorem dX1_readBoth_1 : decode cX1_readBoth 1 = .ok (.iload_n 1, 1) := by decide +kernel
theorem dX1_readBoth_2 : decode cX1_readBoth 2 = .ok (.invokevirtual 73, 3) := by decide +kernel
theorem dX1_readBoth_5 : decode cX1_readBoth 5 = .ok (.istore_n 2, 1) := by decide +kernel
theorem dX1_readBoth_6 : decode cX1_readBoth 6 = .ok (.iconst 0, 1) := by decide +kernel
theorem dX1_readBoth_7 : decode cX1_readBoth 7 = .ok (.istore_n 3, 1) := by decide +kernel
theorem dX1_readBoth_8 : decode cX1_readBoth 8 = .ok (.iload_n 3, 1) := by decide +kernel
theorem dX1_readBoth_9 : decode cX1_readBoth 9 = .ok (.bipush 60, 2) := by decide +kernel
theorem dX1_readBoth_11 : decode cX1_readBoth 11 = .ok (.if_icmp .ge 44, 3) := by decide +kernel
theorem dX1_readBoth_14 : decode cX1_readBoth 14 = .ok (.iload_n 2, 1) := by decide +kernel
theorem dX1_readBoth_15 : decode cX1_readBoth 15 = .ok (.ifCond .eq 40, 3) := by decide +kernel
theorem dX1_readBoth_18 : decode cX1_readBoth 18 = .ok (.aload_n 0, 1) := by decide +kernel
theorem dX1_readBoth_19 : decode cX1_readBoth 19 = .ok (.bipush 38, 2) := by decide +kernel
theorem dX1_readBoth_21 : decode cX1_readBoth 21 = .ok (.invokevirtual 65, 3) := by decide +kernel
theorem dX1_readBoth_24 : decode cX1_readBoth 24 = .ok (.ifCond .eq 31, 3) := by decide +kernel
theorem dX1_readBoth_27 : decode cX1_readBoth 27 = .ok (.aload_n 0, 1) := by decide +kernel
theorem dX1_readBoth_28 : decode cX1_readBoth 28 = .ok (.dup, 1) := by decide +kernel
theorem dX1_readBoth_29 : decode cX1_readBoth 29 = .ok (.getfield 52, 3) := by decide +kernel
theorem dX1_readBoth_32 : decode cX1_readBoth 32 = .ok (.iconst 1, 1) := by decide +kernel
theorem dX1_readBoth_33 : decode cX1_readBoth 33 = .ok (.iadd, 1) := by decide +kernel
theorem dX1_readBoth_34 : decode cX1_readBoth 34 = .ok (.putfield 52, 3) := by decide +kernel
theorem dX1_readBoth_37 : decode cX1_readBoth 37 = .ok (.aload_n 0, 1) := by decide +kernel
theorem dX1_readBoth_38 : decode cX1_readBoth 38 = .ok (.iload_n 1, 1) := by decide +kernel
theorem dX1_readBoth_39 : decode cX1_readBoth 39 = .ok (.invokevirtual 73, 3) := by decide +kernel
theorem dX1_readBoth_42 : decode cX1_readBoth 42 = .ok (.istore_n 2, 1) := by decide +kernel
theorem dX1_readBoth_43 : decode cX1_readBoth 43 = .ok (.aload_n 0, 1) := by decide +kernel
theorem dX1_readBoth_44 : decode cX1_readBoth 44 = .ok (.bipush (-38), 2) := by decide +kernel
theorem dX1_readBoth_46 : decode cX1_readBoth 46 = .ok (.invokevirtual 69, 3) := by decide +kernel
theorem dX1_readBoth_49 : decode cX1_readBoth 49 = .ok (.iinc 3 1, 3) := by decide +kernel
theorem dX1_readBoth_52 : decode cX1_readBoth 52 = .ok (.goto (-44), 3) := by decide +kernel
theorem dX1_readBoth_55 : decode cX1_readBoth 55 = .ok (.iload_n 2, 1) := by decide +kernel
theorem dX1_readBoth_56 : decode cX1_readBoth 56 = .ok (.ireturn, 1) := by decide +kernel
theorem dX1_readCompared_0 : decode cX1_readCompared 0 = .ok (.aload_n 0, 1) := by decide +kernel
theorem dX1_readCompared_1 : decode cX1_readCompared 1 = .ok (.iload_n 1, 1) := by decide +kernel
theorem dX1_readCompared_2 : decode cX1_readCompared 2 = .ok (.invokevirtual 76, 3) := by decide +kernel
theorem dX1_readCompared_5 : decode cX1_readCompared 5 = .ok (.istore_n 2, 1) := by decide +kernel
theorem dX1_readCompared_6 : decode cX1_readCompared 6 = .ok (.iload_n 2, 1) := by decide +kernel
theorem dX1_readCompared_7 : decode cX1_readCompared 7 = .ok (.ifCond .eq 47, 3) := by decide +kernel
theorem dX1_readCompared_10 : decode cX1_readCompared 10 = .ok (.aload_n 0, 1) := by decide +kernel
theorem dX1_readCompared_11 : decode cX1_readCompared 11 = .ok (.bipush 60, 2) := by decide +kernel
theorem dX1_readCompared_13 : decode cX1_readCompared 13 = .ok (.invokevirtual 65, 3) := by decide +kernel
theorem dX1_readCompared_16 : decode cX1_readCompared 16 = .ok (.ifCond .ne 21, 3) := by decide +kernel
theorem dX1_readCompared_19 : decode cX1_readCompared 19 = .ok (.aload_n 0, 1) := by decide +kernel
theorem dX1_readCompared_20 : decode cX1_readCompared 20 = .ok (.bipush 61, 2) := by decide +kernel
theorem dX1_readCompared_22 : decode cX1_readCompared 22 = .ok (.invokevirtual 65, 3) := by decide +kernel
theorem dX1_readCompared_25 : decode cX1_readCompared 25 = .ok (.ifCond .ne 12, 3) := by decide +kernel
theorem dX1_readCompared_28 : decode cX1_readCompared 28 = .ok (.aload_n 0, 1) := by decide +kernel
theorem dX1_readCompared_29 : decode cX1_readCompared 29 = .ok (.bipush 62, 2) := by decide +kernel
theorem dX1_readCompared_31 : decode cX1_readCompared 31 = .ok (.invokevirtual 65, 3) := by decide +kernel
theorem dX1_readCompared_34 : decode cX1_readCompared 34 = .ok (.ifCond .eq 20, 3) := by decide +kernel
theorem dX1_readCompared_37 : decode cX1_readCompared 37 = .ok (.aload_n 0, 1) := by decide +kernel
theorem dX1_readCompared_38 : decode cX1_readCompared 38 = .ok (.invokevirtual 79, 3) := by decide +kernel
theorem dX1_readCompared_41 : decode cX1_readCompared 41 = .ok (.istore_n 3, 1) := by decide +kernel
theorem dX1_readCompared_42 : decode cX1_readCompared 42 = .ok (.aload_n 0, 1) := by decide +kernel
theorem dX1_readCompared_43 : decode cX1_readCompared 43 = .ok (.iload_n 1, 1) := by decide +kernel
theorem dX1_readCompared_44 : decode cX1_readCompared 44 = .ok (.invokevirtual 76, 3) := by decide +kernel
theorem dX1_readCompared_47 : decode cX1_readCompared 47 = .ok (.istore_n 2, 1) := by decide +kernel
theorem dX1_readCompared_48 : decode cX1_readCompared 48 = .ok (.aload_n 0, 1) := by decide +kernel
theorem dX1_readCompared_49 : decode cX1_readCompared 49 = .ok (.iload_n 3, 1) := by decide +kernel
theorem dX1_readCompared_50 : decode cX1_readCompared 50 = .ok (.ineg, 1) := by decide +kernel
theorem dX1_readCompared_51 : decode cX1_readCompared 51 = .ok (.invokevirtual 69, 3) := by decide +kernel
theorem dX1_readCompared_54 : decode cX1_readCompared 54 = .ok (.iload_n 2, 1) := by decide +kernel
theorem dX1_readCompared_55 : decode cX1_readCompared 55 = .ok (.ireturn, 1) := by decide +kernel
theorem dX1_readSum_0 : decode cX1_readSum 0 = .ok (.aload_n 0, 1) := by decide +kernel
theorem dX1_readSum_1 : decode cX1_readSum 1 = .ok (.iload_n 1, 1) := by decide +kernel
theorem dX1_readSum_2 : decode cX1_readSum 2 = .ok (.invokevirtual 83, 3) := by decide +kernel
theorem dX1_readSum_5 : decode cX1_readSum 5 = .ok (.istore_n 2, 1) := by decide +kernel
theorem dX1_readSum_6 : decode cX1_readSum 6 = .ok (.iconst 0, 1) := by decide +kernel
theorem dX1_readSum_7 : decode cX1_readSum 7 = .ok (.istore_n 3, 1) := by decide +kernel
theorem dX1_readSum_8 : decode cX1_readSum 8 = .ok (.iload_n 3, 1) := by decide +kernel
theorem dX1_readSum_9 : decode cX1_readSum 9 = .ok (.bipush 60, 2) := by decide +kernel
theorem dX1_readSum_11 : decode cX1_readSum 11 = .ok (.if_icmp .ge 50, 3) := by decide +kernel
theorem dX1_readSum_14 : decode cX1_readSum 14 = .ok (.iload_n 2, 1) := by decide +kernel
theorem dX1_readSum_15 : decode cX1_readSum 15 = .ok (.ifCond .eq 46, 3) := by decide +kernel
theorem dX1_readSum_18 : decode cX1_readSum 18 = .ok (.aload_n 0, 1) := by decide +kernel
theorem dX1_readSum_19 : decode cX1_readSum 19 = .ok (.bipush 43, 2) := by decide +kernel
theorem dX1_readSum_21 : decode cX1_readSum 21 = .ok (.invokevirtual 65, 3) := by decide +kernel
theorem dX1_readSum_24 : decode cX1_readSum 24 = .ok (.ifCond .ne 12, 3) := by decide +kernel
theorem dX1_readSum_27 : decode cX1_readSum 27 = .ok (.aload_n 0, 1) := by decide +kernel
theorem dX1_readSum_28 : decode cX1_readSum 28 = .ok (.bipush 45, 2) := by decide +kernel
theorem dX1_readSum_30 : decode cX1_readSum 30 = .ok (.invokevirtual 65, 3) := by decide +kernel
theorem dX1_readSum_33 : decode cX1_readSum 33 = .ok (.ifCond .eq 28, 3) := by decide +kernel
theorem dX1_readSum_36 : decode cX1_readSum 36 = .ok (.aload_n 0, 1) := by decide +kernel
theorem dX1_readSum_37 : decode cX1_readSum 37 = .ok (.invokevirtual 79, 3) := by decide +kernel
theorem dX1_readSum_40 : decode cX1_readSum 40 = .ok (.istore 4, 2) := by decide +kernel
theorem dX1_readSum_42 : decode cX1_readSum 42 = .ok (.aload_n 0, 1) := by decide +kernel
theorem dX1_readSum_43 : decode cX1_readSum 43 = .ok (.iload_n 1, 1) := by decide +kernel
theorem dX1_readSum_44 : decode cX1_readSum 44 = .ok (.invokevirtual 83, 3) := by decide +kernel
theorem dX1_readSum_47 : decode cX1_readSum 47 = .ok (.istore_n 2, 1) := by decide +kernel
theorem dX1_readSum_48 : decode cX1_readSum 48 = .ok (.aload_n 0, 1) := by decide +kernel
theorem dX1_readSum_49 : decode cX1_readSum 49 = .ok (.iload 4, 2) := by decide +kernel
theorem dX1_readSum_51 : decode cX1_readSum 51 = .ok (.ineg, 1) := by decide +kernel
theorem dX1_readSum_52 : decode cX1_readSum 52 = .ok (.invokevirtual 69, 3) := by decide +kernel
theorem dX1_readSum_55 : decode cX1_readSum 55 = .ok (.iinc 3 1, 3) := by decide +kernel
theorem dX1_readSum_58 : decode cX1_readSum 58 = .ok (.goto (-50), 3) := by decide +kernel
theorem dX1_readSum_61 : decode cX1_readSum 61 = .ok (.iload_n 2, 1) := by decide +kernel
theorem dX1_readSum_62 : decode cX1_readSum 62 = .ok (.ireturn, 1) := by decide +kernel
theorem dX1_readProduct_0 : decode cX1_readProduct 0 = .ok (.aload_n 0, 1) := by decide +kernel
theorem dX1_readProduct_1 : decode cX1_readProduct 1 = .ok (.iload_n 1, 1) := by decide +kernel
theorem dX1_readProduct_2 : decode cX1_readProduct 2 = .ok (.invokevirtual 86, 3) := by decide +kernel
theorem dX1_readProduct_5 : decode cX1_readProduct 5 = .ok (.istore_n 2, 1) := by decide +kernel
theorem dX1_readProduct_6 : decode cX1_readProduct 6 = .ok (.iconst 0, 1) := by decide +kernel
theorem dX1_readProduct_7 : decode cX1_readProduct 7 = .ok (.istore_n 3, 1) := by decide +kernel
theorem dX1_readProduct_8 : decode cX1_readProduct 8 = .ok (.iload_n 3, 1) := by decide +kernel
theorem dX1_readProduct_9 : decode cX1_readProduct 9 = .ok (.bipush 60, 2) := by decide +kernel
theorem dX1_readProduct_11 : decode cX1_readProduct 11 = .ok (.if_icmp .ge 59, 3) := by decide +kernel
theorem dX1_readProduct_14 : decode cX1_readProduct 14 = .ok (.iload_n 2, 1) := by decide +kernel
theorem dX1_readProduct_15 : decode cX1_readProduct 15 = .ok (.ifCond .eq 55, 3) := by decide +kernel
theorem dX1_readProduct_18 : decode cX1_readProduct 18 = .ok (.aload_n 0, 1) := by decide +kernel
theorem dX1_readProduct_19 : decode cX1_readProduct 19 = .ok (.bipush 42, 2) := by decide +kernel
theorem dX1_readProduct_21 : decode cX1_readProduct 21 = .ok (.invokevirtual 65, 3) := by decide +kernel
theorem dX1_readProduct_24 : decode cX1_readProduct 24 = .ok (.ifCond .ne 21, 3) := by decide +kernel
theorem dX1_readProduct_27 : decode cX1_readProduct 27 = .ok (.aload_n 0, 1) := by decide +kernel
theorem dX1_readProduct_28 : decode cX1_readProduct 28 = .ok (.bipush 47, 2) := by decide +kernel
theorem dX1_readProduct_30 : decode cX1_readProduct 30 = .ok (.invokevirtual 65, 3) := by decide +kernel
theorem dX1_readProduct_33 : decode cX1_readProduct 33 = .ok (.ifCond .ne 12, 3) := by decide +kernel
theorem dX1_readProduct_36 : decode cX1_readProduct 36 = .ok (.aload_n 0, 1) := by decide +kernel
theorem dX1_readProduct_37 : decode cX1_readProduct 37 = .ok (.bipush 37, 2) := by decide +kernel
theorem dX1_readProduct_39 : decode cX1_readProduct 39 = .ok (.invokevirtual 65, 3) := by decide +kernel
theorem dX1_readProduct_42 : decode cX1_readProduct 42 = .ok (.ifCond .eq 28, 3) := by decide +kernel
theorem dX1_readProduct_45 : decode cX1_readProduct 45 = .ok (.aload_n 0, 1) := by decide +kernel
theorem dX1_readProduct_46 : decode cX1_readProduct 46 = .ok (.invokevirtual 79, 3) := by decide +kernel
theorem dX1_readProduct_49 : decode cX1_readProduct 49 = .ok (.istore 4, 2) := by decide +kernel
theorem dX1_readProduct_51 : decode cX1_readProduct 51 = .ok (.aload_n 0, 1) := by decide +kernel
theorem dX1_readProduct_52 : decode cX1_readProduct 52 = .ok (.iload_n 1, 1) := by decide +kernel
theorem dX1_readProduct_53 : decode cX1_readProduct 53 = .ok (.invokevirtual 86, 3) := by decide +kernel
theorem dX1_readProduct_56 : decode cX1_readProduct 56 = .ok (.istore_n 2, 1) := by decide +kernel
theorem dX1_readProduct_57 : decode cX1_readProduct 57 = .ok (.aload_n 0, 1) := by decide +kernel
theorem dX1_readProduct_58 : decode cX1_readProduct 58 = .ok (.iload 4, 2) := by decide +kernel
theorem dX1_readProduct_60 : decode cX1_readProduct 60 = .ok (.ineg, 1) := by decide +kernel
theorem dX1_readProduct_61 : decode cX1_readProduct 61 = .ok (.invokevirtual 69, 3) := by decide +kernel
theorem dX1_readProduct_64 : decode cX1_readProduct 64 = .ok (.iinc 3 1, 3) := by decide +kernel
theorem dX1_readProduct_67 : decode cX1_readProduct 67 = .ok (.goto (-59), 3) := by decide +kernel
theorem dX1_readProduct_70 : decode cX1_readProduct 70 = .ok (.iload_n 2, 1) := by decide +kernel
theorem dX1_readProduct_71 : decode cX1_readProduct 71 = .ok (.ireturn, 1) := by decide +kernel
theorem dX1_readUnit_0 : decode cX1_readUnit 0 = .ok (.aload_n 0, 1) := by decide +kernel
theorem dX1_readUnit_1 : decode cX1_readUnit 1 = .ok (.invokevirtual 89, 3) := by decide +kernel
theorem dX1_readUnit_4 : decode cX1_readUnit 4 = .ok (.ifCond .eq 9, 3) := by decide +kernel
theorem dX1_readUnit_7 : decode cX1_readUnit 7 = .ok (.aload_n 0, 1) := by decide +kernel
theorem dX1_readUnit_8 : decode cX1_readUnit 8 = .ok (.invokevirtual 93, 3) := by decide +kernel
theorem dX1_readUnit_11 : decode cX1_readUnit 11 = .ok (.iconst 1, 1) := by decide +kernel
theorem dX1_readUnit_12 : decode cX1_readUnit 12 = .ok (.ireturn, 1) := by decide +kernel
theorem dX1_readUnit_13 : decode cX1_readUnit 13 = .ok (.aload_n 0, 1) := by decide +kernel
theorem dX1_readUnit_14 : decode cX1_readUnit 14 = .ok (.aload_n 0, 1) := by decide +kernel
theorem dX1_readUnit_15 : decode cX1_readUnit 15 = .ok (.getfield 9, 3) := by decide +kernel
theorem dX1_readUnit_18 : decode cX1_readUnit 18 = .ok (.invokevirtual 65, 3) := by decide +kernel
theorem dX1_readUnit_21 : decode cX1_readUnit 21 = .ok (.ifCond .ne 21, 3) := by decide +kernel
theorem dX1_readUnit_24 : decode cX1_readUnit 24 = .ok (.aload_n 0, 1) := by decide +kernel
theorem dX1_readUnit_25 : decode cX1_readUnit 25 = .ok (.bipush 112, 2) := by decide +kernel
theorem dX1_readUnit_27 : decode cX1_readUnit 27 = .ok (.invokevirtual 65, 3) := by decide +kernel
theorem dX1_readUnit_30 : decode cX1_readUnit 30 = .ok (.ifCond .ne 12, 3) := by decide +kernel
theorem dX1_readUnit_33 : decode cX1_readUnit 33 = .ok (.aload_n 0, 1) := by decide +kernel
theorem dX1_readUnit_34 : decode cX1_readUnit 34 = .ok (.bipush 109, 2) := by decide +kernel
theorem dX1_readUnit_36 : decode cX1_readUnit 36 = .ok (.invokevirtual 65, 3) := by decide +kernel
theorem dX1_readUnit_39 : decode cX1_readUnit 39 = .ok (.ifCond .eq 14, 3) := by decide +kernel
theorem dX1_readUnit_42 : decode cX1_readUnit 42 = .ok (.aload_n 0, 1) := by decide +kernel
theorem dX1_readUnit_43 : decode cX1_readUnit 43 = .ok (.aload_n 0, 1) := by decide +kernel
theorem dX1_readUnit_44 : decode cX1_readUnit 44 = .ok (.invokevirtual 79, 3) := by decide +kernel
theorem dX1_readUnit_47 : decode cX1_readUnit 47 = .ok (.ineg, 1) := by decide +kernel
theorem dX1_readUnit_48 : decode cX1_readUnit 48 = .ok (.invokevirtual 69, 3) := by decide +kernel
theorem dX1_readUnit_51 : decode cX1_readUnit 51 = .ok (.iconst 1, 1) := by decide +kernel
theorem dX1_readUnit_52 : decode cX1_readUnit 52 = .ok (.ireturn, 1) := by decide +kernel
theorem dX1_readUnit_53 : decode cX1_readUnit 53 = .ok (.iload_n 1, 1) := by decide +kernel
theorem dX1_readUnit_54 : decode cX1_readUnit 54 = .ok (.iconst 5, 1) := by decide +kernel
theorem dX1_readUnit_55 : decode cX1_readUnit 55 = .ok (.if_icmp .lt 5, 3) := by decide +kernel
theorem dX1_readUnit_58 : decode cX1_readUnit 58 = .ok (.iconst 0, 1) := by decide +kernel
theorem dX1_readUnit_59 : decode cX1_readUnit 59 = .ok (.ireturn, 1) := by decide +kernel
theorem dX1_readUnit_60 : decode cX1_readUnit 60 = .ok (.aload_n 0, 1) := by decide +kernel
theorem dX1_readUnit_61 : decode cX1_readUnit 61 = .ok (.bipush 33, 2) := by decide +kernel
theorem dX1_readUnit_63 : decode cX1_readUnit 63 = .ok (.invokevirtual 65, 3) := by decide +kernel
theorem dX1_readUnit_66 : decode cX1_readUnit 66 = .ok (.ifCond .eq 29, 3) := by decide +kernel
theorem dX1_readUnit_69 : decode cX1_readUnit 69 = .ok (.aload_n 0, 1) := by decide +kernel
theorem dX1_readUnit_70 : decode cX1_readUnit 70 = .ok (.dup, 1) := by decide +kernel
theorem dX1_readUnit_71 : decode cX1_readUnit 71 = .ok (.getfield 52, 3) := by decide +kernel
theorem dX1_readUnit_74 : decode cX1_readUnit 74 = .ok (.iconst 1, 1) := by decide +kernel
theorem dX1_readUnit_75 : decode cX1_readUnit 75 = .ok (.iadd, 1) := by decide +kernel
theorem dX1_readUnit_76 : decode cX1_readUnit 76 = .ok (.putfield 52, 3) := by decide +kernel
theorem dX1_readUnit_79 : decode cX1_readUnit 79 = .ok (.aload_n 0, 1) := by decide +kernel
theorem dX1_readUnit_80 : decode cX1_readUnit 80 = .ok (.iload_n 1, 1) := by decide +kernel
theorem dX1_readUnit_81 : decode cX1_readUnit 81 = .ok (.iconst 1, 1) := by decide +kernel
theorem dX1_readUnit_82 : decode cX1_readUnit 82 = .ok (.iadd, 1) := by decide +kernel
theorem dX1_readUnit_83 : decode cX1_readUnit 83 = .ok (.invokevirtual 86, 3) := by decide +kernel
theorem dX1_readUnit_86 : decode cX1_readUnit 86 = .ok (.istore_n 2, 1) := by decide +kernel
theorem dX1_readUnit_87 : decode cX1_readUnit 87 = .ok (.aload_n 0, 1) := by decide +kernel
theorem dX1_readUnit_88 : decode cX1_readUnit 88 = .ok (.bipush (-33), 2) := by decide +kernel
theorem dX1_readUnit_90 : decode cX1_readUnit 90 = .ok (.invokevirtual 69, 3) := by decide +kernel
theorem dX1_readUnit_93 : decode cX1_readUnit 93 = .ok (.iload_n 2, 1) := by decide +kernel
theorem dX1_readUnit_94 : decode cX1_readUnit 94 = .ok (.ireturn, 1) := by decide +kernel
theorem dX1_readUnit_95 : decode cX1_readUnit 95 = .ok (.aload_n 0, 1) := by decide +kernel
theorem dX1_readUnit_96 : decode cX1_readUnit 96 = .ok (.iload_n 1, 1) := by decide +kernel
theorem dX1_readUnit_97 : decode cX1_readUnit 97 = .ok (.invokevirtual 96, 3) := by decide +kernel
theorem dX1_readUnit_100 : decode cX1_readUnit 100 = .ok (.ireturn, 1) := by decide +kernel
theorem dX1_readBracket_0 : decode cX1_readBracket 0 = .ok (.aload_n 0, 1) := by decide +kernel
theorem dX1_readBracket_1 : decode cX1_readBracket 1 = .ok (.bipush 40, 2) := by decide +kernel
theorem dX1_readBracket_3 : decode cX1_readBracket 3 = .ok (.invokevirtual 65, 3) := by decide +kernel
theorem dX1_readBracket_6 : decode cX1_readBracket 6 = .ok (.ifCond .ne 5, 3) := by decide +kernel
theorem dX1_readBracket_9 : decode cX1_readBracket 9 = .ok (.iconst 0, 1) := by decide +kernel
theorem dX1_readBracket_10 : decode cX1_readBracket 10 = .ok (.ireturn, 1) := by decide +kernel
theorem dX1_readBracket_11 : decode cX1_readBracket 11 = .ok (.aload_n 0, 1) := by decide +kernel
theorem dX1_readBracket_12 : decode cX1_readBracket 12 = .ok (.dup, 1) := by decide +kernel
theorem dX1_readBracket_13 : decode cX1_readBracket 13 = .ok (.getfield 52, 3) := by decide +kernel
theorem dX1_readBracket_16 : decode cX1_readBracket 16 = .ok (.iconst 1, 1) := by decide +kernel
theorem dX1_readBracket_17 : decode cX1_readBracket 17 = .ok (.iadd, 1) := by decide +kernel
theorem dX1_readBracket_18 : decode cX1_readBracket 18 = .ok (.putfield 52, 3) := by decide +kernel
theorem dX1_readBracket_21 : decode cX1_readBracket 21 = .ok (.aload_n 0, 1) := by decide +kernel
theorem dX1_readBracket_22 : decode cX1_readBracket 22 = .ok (.iload_n 1, 1) := by decide +kernel
theorem dX1_readBracket_23 : decode cX1_readBracket 23 = .ok (.iconst 1, 1) := by decide +kernel
theorem dX1_readBracket_24 : decode cX1_readBracket 24 = .ok (.iadd, 1) := by decide +kernel
theorem dX1_readBracket_25 : decode cX1_readBracket 25 = .ok (.invokevirtual 58, 3) := by decide +kernel
theorem dX1_readBracket_28 : decode cX1_readBracket 28 = .ok (.ifCond .eq 12, 3) := by decide +kernel
theorem dX1_readBracket_31 : decode cX1_readBracket 31 = .ok (.aload_n 0, 1) := by decide +kernel
theorem dX1_readBracket_32 : decode cX1_readBracket 32 = .ok (.bipush 41, 2) := by decide +kernel
theorem dX1_readBracket_34 : decode cX1_readBracket 34 = .ok (.invokevirtual 65, 3) := by decide +kernel
theorem dX1_readBracket_37 : decode cX1_readBracket 37 = .ok (.ifCond .ne 5, 3) := by decide +kernel
theorem dX1_readBracket_40 : decode cX1_readBracket 40 = .ok (.iconst 0, 1) := by decide +kernel
theorem dX1_readBracket_41 : decode cX1_readBracket 41 = .ok (.ireturn, 1) := by decide +kernel
theorem dX1_readBracket_42 : decode cX1_readBracket 42 = .ok (.aload_n 0, 1) := by decide +kernel
theorem dX1_readBracket_43 : decode cX1_readBracket 43 = .ok (.dup, 1) := by decide +kernel
theorem dX1_readBracket_44 : decode cX1_readBracket 44 = .ok (.getfield 52, 3) := by decide +kernel
theorem dX1_readBracket_47 : decode cX1_readBracket 47 = .ok (.iconst 1, 1) := by decide +kernel
theorem dX1_readBracket_48 : decode cX1_readBracket 48 = .ok (.iadd, 1) := by decide +kernel
theorem dX1_readBracket_49 : decode cX1_readBracket 49 = .ok (.putfield 52, 3) := by decide +kernel
theorem dX1_readBracket_52 : decode cX1_readBracket 52 = .ok (.iconst 1, 1) := by decide +kernel
theorem dX1_readBracket_53 : decode cX1_readBracket 53 = .ok (.ireturn, 1) := by decide +kernel
theorem dX1_readNumber_0 : decode cX1_readNumber 0 = .ok (.iconst 0, 1) := by decide +kernel
theorem dX1_readNumber_1 : decode cX1_readNumber 1 = .ok (.istore_n 1, 1) := by decide +kernel
theorem dX1_readNumber_2 : decode cX1_readNumber 2 = .ok (.iconst 0, 1) := by decide +kernel
theorem dX1_readNumber_3 : decode cX1_readNumber 3 = .ok (.istore_n 2, 1) := by decide +kernel
theorem dX1_readNumber_4 : decode cX1_readNumber 4 = .ok (.iload_n 2, 1) := by decide +kernel
theorem dX1_readNumber_5 : decode cX1_readNumber 5 = .ok (.iconst 4, 1) := by decide +kernel
theorem dX1_readNumber_6 : decode cX1_readNumber 6 = .ok (.if_icmp .ge 29, 3) := by decide +kernel
theorem dX1_readNumber_9 : decode cX1_readNumber 9 = .ok (.aload_n 0, 1) := by decide +kernel
theorem dX1_readNumber_10 : decode cX1_readNumber 10 = .ok (.invokevirtual 89, 3) := by decide +kernel
theorem dX1_readNumber_13 : decode cX1_readNumber 13 = .ok (.ifCond .eq 22, 3) := by decide +kernel
theorem dX1_readNumber_16 : decode cX1_readNumber 16 = .ok (.iload_n 1, 1) := by decide +kernel
theorem dX1_readNumber_17 : decode cX1_readNumber 17 = .ok (.bipush 10, 2) := by decide +kernel
theorem dX1_readNumber_19 : decode cX1_readNumber 19 = .ok (.imul, 1) := by decide +kernel
theorem dX1_readNumber_20 : decode cX1_readNumber 20 = .ok (.aload_n 0, 1) := by decide +kernel
theorem dX1_readNumber_21 : decode cX1_readNumber 21 = .ok (.invokevirtual 79, 3) := by decide +kernel
theorem dX1_readNumber_24 : decode cX1_readNumber 24 = .ok (.iadd, 1) := by decide +kernel
theorem dX1_readNumber_25 : decode cX1_readNumber 25 = .ok (.bipush 48, 2) := by decide +kernel
theorem dX1_readNumber_27 : decode cX1_readNumber 27 = .ok (.isub, 1) := by decide +kernel
theorem dX1_readNumber_28 : decode cX1_readNumber 28 = .ok (.istore_n 1, 1) := by decide +kernel
theorem dX1_readNumber_29 : decode cX1_readNumber 29 = .ok (.iinc 2 1, 3) := by decide +kernel
theorem dX1_readNumber_32 : decode cX1_readNumber 32 = .ok (.goto (-28), 3) := by decide +kernel
theorem dX1_readNumber_35 : decode cX1_readNumber 35 = .ok (.aload_n 0, 1) := by decide +kernel
theorem dX1_readNumber_36 : decode cX1_readNumber 36 = .ok (.iload_n 1, 1) := by decide +kernel
theorem dX1_readNumber_37 : decode cX1_readNumber 37 = .ok (.invokevirtual 69, 3) := by decide +kernel
theorem dX1_readNumber_40 : decode cX1_readNumber 40 = .ok (.return_, 1) := by decide +kernel
theorem dX1_nextSign_0 : decode cX1_nextSign 0 = .ok (.aload_n 0, 1) := by decide +kernel
theorem dX1_nextSign_1 : decode cX1_nextSign 1 = .ok (.getfield 52, 3) := by decide +kernel
theorem dX1_nextSign_4 : decode cX1_nextSign 4 = .ok (.aload_n 0, 1) := by decide +kernel
theorem dX1_nextSign_5 : decode cX1_nextSign 5 = .ok (.getfield 49, 3) := by decide +kernel
theorem dX1_nextSign_8 : decode cX1_nextSign 8 = .ok (.if_icmp .ge 15, 3) := by decide +kernel
theorem dX1_nextSign_11 : decode cX1_nextSign 11 = .ok (.aload_n 0, 1) := by decide +kernel
theorem dX1_nextSign_12 : decode cX1_nextSign 12 = .ok (.getfield 39, 3) := by decide +kernel
theorem dX1_nextSign_15 : decode cX1_nextSign 15 = .ok (.aload_n 0, 1) := by decide +kernel
theorem dX1_nextSign_16 : decode cX1_nextSign 16 = .ok (.getfield 52, 3) := by decide +kernel
theorem dX1_nextSign_19 : decode cX1_nextSign 19 = .ok (.baload, 1) := by decide +kernel
theorem dX1_nextSign_20 : decode cX1_nextSign 20 = .ok (.goto 4, 3) := by decide +kernel
theorem dX1_nextSign_23 : decode cX1_nextSign 23 = .ok (.iconst (-1), 1) := by decide +kernel
theorem dX1_nextSign_24 : decode cX1_nextSign 24 = .ok (.ireturn, 1) := by decide +kernel
theorem dX1_takeSign_0 : decode cX1_takeSign 0 = .ok (.aload_n 0, 1) := by decide +kernel
theorem dX1_takeSign_1 : decode cX1_takeSign 1 = .ok (.invokevirtual 99, 3) := by decide +kernel
theorem dX1_takeSign_4 : decode cX1_takeSign 4 = .ok (.istore_n 1, 1) := by decide +kernel
theorem dX1_takeSign_5 : decode cX1_takeSign 5 = .ok (.aload_n 0, 1) := by decide +kernel
theorem dX1_takeSign_6 : decode cX1_takeSign 6 = .ok (.dup, 1) := by decide +kernel
theorem dX1_takeSign_7 : decode cX1_takeSign 7 = .ok (.getfield 52, 3) := by decide +kernel
theorem dX1_takeSign_10 : decode cX1_takeSign 10 = .ok (.iconst 1, 1) := by decide +kernel
theorem dX1_takeSign_11 : decode cX1_takeSign 11 = .ok (.iadd, 1) := by decide +kernel
theorem dX1_takeSign_12 : decode cX1_takeSign 12 = .ok (.putfield 52, 3) := by decide +kernel
theorem dX1_takeSign_15 : decode cX1_takeSign 15 = .ok (.iload_n 1, 1) := by decide +kernel
theorem dX1_takeSign_16 : decode cX1_takeSign 16 = .ok (.ireturn, 1) := by decide +kernel
theorem dX1_sees_0 : decode cX1_sees 0 = .ok (.aload_n 0, 1) := by decide +kernel
theorem dX1_sees_1 : decode cX1_sees 1 = .ok (.invokevirtual 99, 3) := by decide +kernel
theorem dX1_sees_4 : decode cX1_sees 4 = .ok (.iload_n 1, 1) := by decide +kernel
theorem dX1_sees_5 : decode cX1_sees 5 = .ok (.if_icmp .ne 7, 3) := by decide +kernel
theorem dX1_sees_8 : decode cX1_sees 8 = .ok (.iconst 1, 1) := by decide +kernel
theorem dX1_sees_9 : decode cX1_sees 9 = .ok (.goto 4, 3) := by decide +kernel
theorem dX1_sees_12 : decode cX1_sees 12 = .ok (.iconst 0, 1) := by decide +kernel
theorem dX1_sees_13 : decode cX1_sees 13 = .ok (.ireturn, 1) := by decide +kernel
theorem dX1_seesDigit_0 : decode cX1_seesDigit 0 = .ok (.aload_n 0, 1) := by decide +kernel
theorem dX1_seesDigit_1 : decode cX1_seesDigit 1 = .ok (.invokevirtual 99, 3) := by decide +kernel
theorem dX1_seesDigit_4 : decode cX1_seesDigit 4 = .ok (.bipush 48, 2) := by decide +kernel
theorem dX1_seesDigit_6 : decode cX1_seesDigit 6 = .ok (.if_icmp .lt 16, 3) := by decide +kernel
theorem dX1_seesDigit_9 : decode cX1_seesDigit 9 = .ok (.aload_n 0, 1) := by decide +kernel
theorem dX1_seesDigit_10 : decode cX1_seesDigit 10 = .ok (.invokevirtual 99, 3) := by decide +kernel
theorem dX1_seesDigit_13 : decode cX1_seesDigit 13 = .ok (.bipush 57, 2) := by decide +kernel
theorem dX1_seesDigit_15 : decode cX1_seesDigit 15 = .ok (.if_icmp .gt 7, 3) := by decide +kernel
theorem dX1_seesDigit_18 : decode cX1_seesDigit 18 = .ok (.iconst 1, 1) := by decide +kernel
theorem dX1_seesDigit_19 : decode cX1_seesDigit 19 = .ok (.goto 4, 3) := by decide +kernel
theorem dX1_seesDigit_22 : decode cX1_seesDigit 22 = .ok (.iconst 0, 1) := by decide +kernel
theorem dX1_seesDigit_23 : decode cX1_seesDigit 23 = .ok (.ireturn, 1) := by decide +kernel
theorem dX1_write_0 : decode cX1_write 0 = .ok (.aload_n 0, 1) := by decide +kernel
theorem dX1_write_1 : decode cX1_write 1 = .ok (.getfield 55, 3) := by decide +kernel
theorem dX1_write_4 : decode cX1_write 4 = .ok (.bipush 60, 2) := by decide +kernel
theorem dX1_write_6 : decode cX1_write 6 = .ok (.if_icmp .ge 23, 3) := by decide +kernel
theorem dX1_write_9 : decode cX1_write 9 = .ok (.aload_n 0, 1) := by decide +kernel
theorem dX1_write_10 : decode cX1_write 10 = .ok (.getfield 22, 3) := by decide +kernel
theorem dX1_write_13 : decode cX1_write 13 = .ok (.aload_n 0, 1) := by decide +kernel
theorem dX1_write_14 : decode cX1_write 14 = .ok (.getfield 55, 3) := by decide +kernel
theorem dX1_write_17 : decode cX1_write 17 = .ok (.iload_n 1, 1) := by decide +kernel
theorem dX1_write_18 : decode cX1_write 18 = .ok (.iastore, 1) := by decide +kernel
theorem dX1_write_19 : decode cX1_write 19 = .ok (.aload_n 0, 1) := by decide +kernel
theorem dX1_write_20 : decode cX1_write 20 = .ok (.dup, 1) := by decide +kernel
theorem dX1_write_21 : decode cX1_write 21 = .ok (.getfield 55, 3) := by decide +kernel
theorem dX1_write_24 : decode cX1_write 24 = .ok (.iconst 1, 1) := by decide +kernel
theorem dX1_write_25 : decode cX1_write 25 = .ok (.iadd, 1) := by decide +kernel
theorem dX1_write_26 : decode cX1_write 26 = .ok (.putfield 55, 3) := by decide +kernel
theorem dX1_write_29 : decode cX1_write 29 = .ok (.return_, 1) := by decide +kernel
theorem dX2_init_0 : decode cX2_init 0 = .ok (.aload_n 0, 1) := by decide +kernel
theorem dX2_init_1 : decode cX2_init 1 = .ok (.invokespecial 1, 3) := by decide +kernel
theorem dX2_init_4 : decode cX2_init 4 = .ok (.return_, 1) := by decide +kernel
theorem dX2_spending_0 : decode cX2_spending 0 = .ok (.aload_n 0, 1) := by decide +kernel
theorem dX2_spending_1 : decode cX2_spending 1 = .ok (.aload_n 1, 1) := by decide +kernel
theorem dX2_spending_2 : decode cX2_spending 2 = .ok (.iload_n 2, 1) := by decide +kernel
theorem dX2_spending_3 : decode cX2_spending 3 = .ok (.invokespecial 7, 3) := by decide +kernel
theorem dX2_spending_6 : decode cX2_spending 6 = .ok (.aload_n 1, 1) := by decide +kernel
theorem dX2_spending_7 : decode cX2_spending 7 = .ok (.getfield 11, 3) := by decide +kernel
theorem dX2_spending_10 : decode cX2_spending 10 = .ok (.iload_n 2, 1) := by decide +kernel
theorem dX2_spending_11 : decode cX2_spending 11 = .ok (.iaload, 1) := by decide +kernel
theorem dX2_spending_12 : decode cX2_spending 12 = .ok (.iconst 2, 1) := by decide +kernel
theorem dX2_spending_13 : decode cX2_spending 13 = .ok (.idiv, 1) := by decide +kernel
theorem dX2_spending_14 : decode cX2_spending 14 = .ok (.isub, 1) := by decide +kernel
theorem dX2_spending_15 : decode cX2_spending 15 = .ok (.ireturn, 1) := by decide +kernel
theorem dX2_leans_0 : decode cX2_leans 0 = .ok (.aload_n 1, 1) := by decide +kernel
theorem dX2_leans_1 : decode cX2_leans 1 = .ok (.bipush 30, 2) := by decide +kernel
theorem dX2_leans_3 : decode cX2_leans 3 = .ok (.invokevirtual 17, 3) := by decide +kernel
theorem dX2_leans_6 : decode cX2_leans 6 = .ok (.iconst 0, 1) := by decide +kernel
theorem dX2_leans_7 : decode cX2_leans 7 = .ok (.aload_n 0, 1) := by decide +kernel
theorem dX2_leans_8 : decode cX2_leans 8 = .ok (.aload_n 1, 1) := by decide +kernel
theorem dX2_leans_9 : decode cX2_leans 9 = .ok (.iload_n 2, 1) := by decide +kernel
theorem dX2_leans_10 : decode cX2_leans 10 = .ok (.invokespecial 23, 3) := by decide +kernel
theorem dX2_leans_13 : decode cX2_leans 13 = .ok (.isub, 1) := by decide +kernel
theorem dX2_leans_14 : decode cX2_leans 14 = .ok (.ireturn, 1) := by decide +kernel
theorem dX3_init_0 : decode cX3_init 0 = .ok (.aload_n 0, 1) := by decide +kernel
theorem dX3_init_1 : decode cX3_init 1 = .ok (.invokespecial 1, 3) := by decide +kernel
theorem dX3_init_4 : decode cX3_init 4 = .ok (.return_, 1) := by decide +kernel
theorem dX3_spending_0 : decode cX3_spending 0 = .ok (.aload_n 0, 1) := by decide +kernel
theorem dX3_spending_1 : decode cX3_spending 1 = .ok (.aload_n 1, 1) := by decide +kernel
theorem dX3_spending_2 : decode cX3_spending 2 = .ok (.iload_n 2, 1) := by decide +kernel
theorem dX3_spending_3 : decode cX3_spending 3 = .ok (.invokespecial 7, 3) := by decide +kernel
theorem dX3_spending_6 : decode cX3_spending 6 = .ok (.aload_n 1, 1) := by decide +kernel
theorem dX3_spending_7 : decode cX3_spending 7 = .ok (.getfield 11, 3) := by decide +kernel
theorem dX3_spending_10 : decode cX3_spending 10 = .ok (.iload_n 2, 1) := by decide +kernel
theorem dX3_spending_11 : decode cX3_spending 11 = .ok (.iaload, 1) := by decide +kernel
theorem dX3_spending_12 : decode cX3_spending 12 = .ok (.iconst 3, 1) := by decide +kernel
theorem dX3_spending_13 : decode cX3_spending 13 = .ok (.irem, 1) := by decide +kernel
theorem dX3_spending_14 : decode cX3_spending 14 = .ok (.iadd, 1) := by decide +kernel
theorem dX3_spending_15 : decode cX3_spending 15 = .ok (.ireturn, 1) := by decide +kernel
theorem dX3_biting_0 : decode cX3_biting 0 = .ok (.aload_n 0, 1) := by decide +kernel
theorem dX3_biting_1 : decode cX3_biting 1 = .ok (.iload_n 1, 1) := by decide +kernel
theorem dX3_biting_2 : decode cX3_biting 2 = .ok (.invokespecial 17, 3) := by decide +kernel
theorem dX3_biting_5 : decode cX3_biting 5 = .ok (.iconst 2, 1) := by decide +kernel
theorem dX3_biting_6 : decode cX3_biting 6 = .ok (.iadd, 1) := by decide +kernel
theorem dX3_biting_7 : decode cX3_biting 7 = .ok (.ireturn, 1) := by decide +kernel
theorem dX3_holds_0 : decode cX3_holds 0 = .ok (.aload_n 1, 1) := by decide +kernel
theorem dX3_holds_1 : decode cX3_holds 1 = .ok (.bipush 50, 2) := by decide +kernel
theorem dX3_holds_3 : decode cX3_holds 3 = .ok (.invokevirtual 21, 3) := by decide +kernel
theorem dX3_holds_6 : decode cX3_holds 6 = .ok (.aload_n 0, 1) := by decide +kernel
theorem dX3_holds_7 : decode cX3_holds 7 = .ok (.aload_n 1, 1) := by decide +kernel
theorem dX3_holds_8 : decode cX3_holds 8 = .ok (.iload_n 2, 1) := by decide +kernel
theorem dX3_holds_9 : decode cX3_holds 9 = .ok (.invokespecial 27, 3) := by decide +kernel
theorem dX3_holds_12 : decode cX3_holds 12 = .ok (.iconst 3, 1) := by decide +kernel
theorem dX3_holds_13 : decode cX3_holds 13 = .ok (.imul, 1) := by decide +kernel
theorem dX3_holds_14 : decode cX3_holds 14 = .ok (.ireturn, 1) := by decide +kernel
theorem dX3_sways_0 : decode cX3_sways 0 = .ok (.aload_n 1, 1) := by decide +kernel
theorem dX3_sways_1 : decode cX3_sways 1 = .ok (.bipush 51, 2) := by decide +kernel
theorem dX3_sways_3 : decode cX3_sways 3 = .ok (.invokevirtual 21, 3) := by decide +kernel
theorem dX3_sways_6 : decode cX3_sways 6 = .ok (.aload_n 0, 1) := by decide +kernel
theorem dX3_sways_7 : decode cX3_sways 7 = .ok (.aload_n 1, 1) := by decide +kernel
theorem dX3_sways_8 : decode cX3_sways 8 = .ok (.iload_n 2, 1) := by decide +kernel
theorem dX3_sways_9 : decode cX3_sways 9 = .ok (.invokespecial 31, 3) := by decide +kernel
theorem dX3_sways_12 : decode cX3_sways 12 = .ok (.aload_n 1, 1) := by decide +kernel
theorem dX3_sways_13 : decode cX3_sways 13 = .ok (.getfield 34, 3) := by decide +kernel
theorem dX3_sways_16 : decode cX3_sways 16 = .ok (.ixor, 1) := by decide +kernel
theorem dX3_sways_17 : decode cX3_sways 17 = .ok (.ireturn, 1) := by decide +kernel
theorem dX4_init_0 : decode cX4_init 0 = .ok (.aload_n 0, 1) := by decide +kernel
theorem dX4_init_1 : decode cX4_init 1 = .ok (.invokespecial 3, 3) := by decide +kernel
theorem dX4_init_4 : decode cX4_init 4 = .ok (.aload_n 0, 1) := by decide +kernel
