theorem dX9_spending_36 : decode cX9_spending 36 = .ok (.iload_n 2, 1) := by decide +kernel
theorem dX9_spending_37 : decode cX9_spending 37 = .ok (.iaload, 1) := by decide +kernel
theorem dX9_spending_38 : decode cX9_spending 38 = .ok (.invokevirtual 33, 3) := by decide +kernel
theorem dX9_spending_41 : decode cX9_spending 41 = .ok (.ireturn, 1) := by decide +kernel
theorem dX9_holds_0 : decode cX9_holds 0 = .ok (.aload_n 1, 1) := by decide +kernel
theorem dX9_holds_1 : decode cX9_holds 1 = .ok (.bipush 70, 2) := by decide +kernel
theorem dX9_holds_3 : decode cX9_holds 3 = .ok (.invokevirtual 37, 3) := by decide +kernel
theorem dX9_holds_6 : decode cX9_holds 6 = .ok (.bipush 9, 2) := by decide +kernel
theorem dX9_holds_8 : decode cX9_holds 8 = .ok (.ireturn, 1) := by decide +kernel
theorem dX9_leans_0 : decode cX9_leans 0 = .ok (.aload_n 1, 1) := by decide +kernel
theorem dX9_leans_1 : decode cX9_leans 1 = .ok (.bipush 71, 2) := by decide +kernel
theorem dX9_leans_3 : decode cX9_leans 3 = .ok (.invokevirtual 37, 3) := by decide +kernel
theorem dX9_leans_6 : decode cX9_leans 6 = .ok (.aload_n 0, 1) := by decide +kernel
theorem dX9_leans_7 : decode cX9_leans 7 = .ok (.aload_n 1, 1) := by decide +kernel
theorem dX9_leans_8 : decode cX9_leans 8 = .ok (.iload_n 2, 1) := by decide +kernel
theorem dX9_leans_9 : decode cX9_leans 9 = .ok (.invokespecial 43, 3) := by decide +kernel
theorem dX9_leans_12 : decode cX9_leans 12 = .ok (.aload_n 1, 1) := by decide +kernel
theorem dX9_leans_13 : decode cX9_leans 13 = .ok (.getfield 47, 3) := by decide +kernel
theorem dX9_leans_16 : decode cX9_leans 16 = .ok (.iadd, 1) := by decide +kernel
theorem dX9_leans_17 : decode cX9_leans 17 = .ok (.ireturn, 1) := by decide +kernel
theorem dX10_init_0 : decode cX10_init 0 = .ok (.aload_n 0, 1) := by decide +kernel
theorem dX10_init_1 : decode cX10_init 1 = .ok (.invokespecial 1, 3) := by decide +kernel
theorem dX10_init_4 : decode cX10_init 4 = .ok (.return_, 1) := by decide +kernel
theorem dX10_biting_0 : decode cX10_biting 0 = .ok (.iconst 2, 1) := by decide +kernel
theorem dX10_biting_1 : decode cX10_biting 1 = .ok (.aload_n 0, 1) := by decide +kernel
theorem dX10_biting_2 : decode cX10_biting 2 = .ok (.iload_n 1, 1) := by decide +kernel
theorem dX10_biting_3 : decode cX10_biting 3 = .ok (.invokespecial 7, 3) := by decide +kernel
theorem dX10_biting_6 : decode cX10_biting 6 = .ok (.imul, 1) := by decide +kernel
theorem dX10_biting_7 : decode cX10_biting 7 = .ok (.ireturn, 1) := by decide +kernel
theorem dX10_leans_0 : decode cX10_leans 0 = .ok (.aload_n 1, 1) := by decide +kernel
theorem dX10_leans_1 : decode cX10_leans 1 = .ok (.bipush 60, 2) := by decide +kernel
theorem dX10_leans_3 : decode cX10_leans 3 = .ok (.invokevirtual 11, 3) := by decide +kernel
theorem dX10_leans_6 : decode cX10_leans 6 = .ok (.aload_n 0, 1) := by decide +kernel
theorem dX10_leans_7 : decode cX10_leans 7 = .ok (.aload_n 1, 1) := by decide +kernel
theorem dX10_leans_8 : decode cX10_leans 8 = .ok (.iload_n 2, 1) := by decide +kernel
theorem dX10_leans_9 : decode cX10_leans 9 = .ok (.iconst 1, 1) := by decide +kernel
theorem dX10_leans_10 : decode cX10_leans 10 = .ok (.iadd, 1) := by decide +kernel
theorem dX10_leans_11 : decode cX10_leans 11 = .ok (.invokespecial 17, 3) := by decide +kernel
theorem dX10_leans_14 : decode cX10_leans 14 = .ok (.ireturn, 1) := by decide +kernel
theorem dX11_init_0 : decode cX11_init 0 = .ok (.aload_n 0, 1) := by decide +kernel
theorem dX11_init_1 : decode cX11_init 1 = .ok (.invokespecial 1, 3) := by decide +kernel
theorem dX11_init_4 : decode cX11_init 4 = .ok (.bipush 7, 2) := by decide +kernel
theorem dX11_init_6 : decode cX11_init 6 = .ok (.anewarray 7, 3) := by decide +kernel
theorem dX11_init_9 : decode cX11_init 9 = .ok (.dup, 1) := by decide +kernel
theorem dX11_init_10 : decode cX11_init 10 = .ok (.iconst 0, 1) := by decide +kernel
theorem dX11_init_11 : decode cX11_init 11 = .ok (.new 7, 3) := by decide +kernel
theorem dX11_init_14 : decode cX11_init 14 = .ok (.dup, 1) := by decide +kernel
theorem dX11_init_15 : decode cX11_init 15 = .ok (.invokespecial 9, 3) := by decide +kernel
theorem dX11_init_18 : decode cX11_init 18 = .ok (.aastore, 1) := by decide +kernel
theorem dX11_init_19 : decode cX11_init 19 = .ok (.dup, 1) := by decide +kernel
theorem dX11_init_20 : decode cX11_init 20 = .ok (.iconst 1, 1) := by decide +kernel
theorem dX11_init_21 : decode cX11_init 21 = .ok (.new 10, 3) := by decide +kernel
theorem dX11_init_24 : decode cX11_init 24 = .ok (.dup, 1) := by decide +kernel
theorem dX11_init_25 : decode cX11_init 25 = .ok (.invokespecial 12, 3) := by decide +kernel
theorem dX11_init_28 : decode cX11_init 28 = .ok (.aastore, 1) := by decide +kernel
theorem dX11_init_29 : decode cX11_init 29 = .ok (.dup, 1) := by decide +kernel
theorem dX11_init_30 : decode cX11_init 30 = .ok (.iconst 2, 1) := by decide +kernel
theorem dX11_init_31 : decode cX11_init 31 = .ok (.new 13, 3) := by decide +kernel
theorem dX11_init_34 : decode cX11_init 34 = .ok (.dup, 1) := by decide +kernel
theorem dX11_init_35 : decode cX11_init 35 = .ok (.invokespecial 15, 3) := by decide +kernel
theorem dX11_init_38 : decode cX11_init 38 = .ok (.aastore, 1) := by decide +kernel
theorem dX11_init_39 : decode cX11_init 39 = .ok (.dup, 1) := by decide +kernel
theorem dX11_init_40 : decode cX11_init 40 = .ok (.iconst 3, 1) := by decide +kernel
theorem dX11_init_41 : decode cX11_init 41 = .ok (.new 16, 3) := by decide +kernel
theorem dX11_init_44 : decode cX11_init 44 = .ok (.dup, 1) := by decide +kernel
theorem dX11_init_45 : decode cX11_init 45 = .ok (.invokespecial 18, 3) := by decide +kernel
theorem dX11_init_48 : decode cX11_init 48 = .ok (.aastore, 1) := by decide +kernel
theorem dX11_init_49 : decode cX11_init 49 = .ok (.dup, 1) := by decide +kernel
theorem dX11_init_50 : decode cX11_init 50 = .ok (.iconst 4, 1) := by decide +kernel
theorem dX11_init_51 : decode cX11_init 51 = .ok (.new 19, 3) := by decide +kernel
theorem dX11_init_54 : decode cX11_init 54 = .ok (.dup, 1) := by decide +kernel
theorem dX11_init_55 : decode cX11_init 55 = .ok (.invokespecial 21, 3) := by decide +kernel
theorem dX11_init_58 : decode cX11_init 58 = .ok (.aastore, 1) := by decide +kernel
theorem dX11_init_59 : decode cX11_init 59 = .ok (.dup, 1) := by decide +kernel
theorem dX11_init_60 : decode cX11_init 60 = .ok (.iconst 5, 1) := by decide +kernel
theorem dX11_init_61 : decode cX11_init 61 = .ok (.new 22, 3) := by decide +kernel
theorem dX11_init_64 : decode cX11_init 64 = .ok (.dup, 1) := by decide +kernel
theorem dX11_init_65 : decode cX11_init 65 = .ok (.invokespecial 24, 3) := by decide +kernel
theorem dX11_init_68 : decode cX11_init 68 = .ok (.aastore, 1) := by decide +kernel
theorem dX11_init_69 : decode cX11_init 69 = .ok (.dup, 1) := by decide +kernel
theorem dX11_init_70 : decode cX11_init 70 = .ok (.bipush 6, 2) := by decide +kernel
theorem dX11_init_72 : decode cX11_init 72 = .ok (.new 25, 3) := by decide +kernel
theorem dX11_init_75 : decode cX11_init 75 = .ok (.dup, 1) := by decide +kernel
theorem dX11_init_76 : decode cX11_init 76 = .ok (.invokespecial 27, 3) := by decide +kernel
theorem dX11_init_79 : decode cX11_init 79 = .ok (.aastore, 1) := by decide +kernel
theorem dX11_init_80 : decode cX11_init 80 = .ok (.astore_n 1, 1) := by decide +kernel
theorem dX11_init_81 : decode cX11_init 81 = .ok (.aload_n 0, 1) := by decide +kernel
theorem dX11_init_82 : decode cX11_init 82 = .ok (.new 28, 3) := by decide +kernel
theorem dX11_init_85 : decode cX11_init 85 = .ok (.dup, 1) := by decide +kernel
theorem dX11_init_86 : decode cX11_init 86 = .ok (.aload_n 1, 1) := by decide +kernel
theorem dX11_init_87 : decode cX11_init 87 = .ok (.invokespecial 30, 3) := by decide +kernel
theorem dX11_init_90 : decode cX11_init 90 = .ok (.putfield 33, 3) := by decide +kernel
theorem dX11_init_93 : decode cX11_init 93 = .ok (.aload_n 0, 1) := by decide +kernel
theorem dX11_init_94 : decode cX11_init 94 = .ok (.new 28, 3) := by decide +kernel
theorem dX11_init_97 : decode cX11_init 97 = .ok (.dup, 1) := by decide +kernel
theorem dX11_init_98 : decode cX11_init 98 = .ok (.aload_n 1, 1) := by decide +kernel
theorem dX11_init_99 : decode cX11_init 99 = .ok (.invokespecial 30, 3) := by decide +kernel
theorem dX11_init_102 : decode cX11_init 102 = .ok (.putfield 39, 3) := by decide +kernel
theorem dX11_init_105 : decode cX11_init 105 = .ok (.aload_n 0, 1) := by decide +kernel
theorem dX11_init_106 : decode cX11_init 106 = .ok (.new 42, 3) := by decide +kernel
theorem dX11_init_109 : decode cX11_init 109 = .ok (.dup, 1) := by decide +kernel
theorem dX11_init_110 : decode cX11_init 110 = .ok (.aload_n 1, 1) := by decide +kernel
theorem dX11_init_111 : decode cX11_init 111 = .ok (.aload_n 0, 1) := by decide +kernel
theorem dX11_init_112 : decode cX11_init 112 = .ok (.getfield 33, 3) := by decide +kernel
theorem dX11_init_115 : decode cX11_init 115 = .ok (.getfield 44, 3) := by decide +kernel
theorem dX11_init_118 : decode cX11_init 118 = .ok (.aload_n 0, 1) := by decide +kernel
theorem dX11_init_119 : decode cX11_init 119 = .ok (.getfield 33, 3) := by decide +kernel
theorem dX11_init_122 : decode cX11_init 122 = .ok (.getfield 48, 3) := by decide +kernel
theorem dX11_init_125 : decode cX11_init 125 = .ok (.invokespecial 51, 3) := by decide +kernel
theorem dX11_init_128 : decode cX11_init 128 = .ok (.putfield 54, 3) := by decide +kernel
theorem dX11_init_131 : decode cX11_init 131 = .ok (.aload_n 0, 1) := by decide +kernel
theorem dX11_init_132 : decode cX11_init 132 = .ok (.iconst 4, 1) := by decide +kernel
theorem dX11_init_133 : decode cX11_init 133 = .ok (.anewarray 42, 3) := by decide +kernel
theorem dX11_init_136 : decode cX11_init 136 = .ok (.putfield 58, 3) := by decide +kernel
theorem dX11_init_139 : decode cX11_init 139 = .ok (.iconst 0, 1) := by decide +kernel
theorem dX11_init_140 : decode cX11_init 140 = .ok (.istore_n 2, 1) := by decide +kernel
theorem dX11_init_141 : decode cX11_init 141 = .ok (.iload_n 2, 1) := by decide +kernel
theorem dX11_init_142 : decode cX11_init 142 = .ok (.iconst 3, 1) := by decide +kernel
theorem dX11_init_143 : decode cX11_init 143 = .ok (.if_icmp .gt 37, 3) := by decide +kernel
theorem dX11_init_146 : decode cX11_init 146 = .ok (.aload_n 0, 1) := by decide +kernel
theorem dX11_init_147 : decode cX11_init 147 = .ok (.getfield 58, 3) := by decide +kernel
theorem dX11_init_150 : decode cX11_init 150 = .ok (.iload_n 2, 1) := by decide +kernel
theorem dX11_init_151 : decode cX11_init 151 = .ok (.new 42, 3) := by decide +kernel
theorem dX11_init_154 : decode cX11_init 154 = .ok (.dup, 1) := by decide +kernel
theorem dX11_init_155 : decode cX11_init 155 = .ok (.aload_n 1, 1) := by decide +kernel
theorem dX11_init_156 : decode cX11_init 156 = .ok (.aload_n 0, 1) := by decide +kernel
theorem dX11_init_157 : decode cX11_init 157 = .ok (.getfield 33, 3) := by decide +kernel
theorem dX11_init_160 : decode cX11_init 160 = .ok (.getfield 44, 3) := by decide +kernel
theorem dX11_init_163 : decode cX11_init 163 = .ok (.aload_n 0, 1) := by decide +kernel
theorem dX11_init_164 : decode cX11_init 164 = .ok (.getfield 33, 3) := by decide +kernel
theorem dX11_init_167 : decode cX11_init 167 = .ok (.getfield 48, 3) := by decide +kernel
theorem dX11_init_170 : decode cX11_init 170 = .ok (.invokespecial 51, 3) := by decide +kernel
theorem dX11_init_173 : decode cX11_init 173 = .ok (.aastore, 1) := by decide +kernel
theorem dX11_init_174 : decode cX11_init 174 = .ok (.iinc 2 1, 3) := by decide +kernel
theorem dX11_init_177 : decode cX11_init 177 = .ok (.goto (-36), 3) := by decide +kernel
theorem dX11_init_180 : decode cX11_init 180 = .ok (.aload_n 0, 1) := by decide +kernel
theorem dX11_init_181 : decode cX11_init 181 = .ok (.new 62, 3) := by decide +kernel
theorem dX11_init_184 : decode cX11_init 184 = .ok (.dup, 1) := by decide +kernel
theorem dX11_init_185 : decode cX11_init 185 = .ok (.invokespecial 64, 3) := by decide +kernel
theorem dX11_init_188 : decode cX11_init 188 = .ok (.putfield 65, 3) := by decide +kernel
theorem dX11_init_191 : decode cX11_init 191 = .ok (.aload_n 0, 1) := by decide +kernel
theorem dX11_init_192 : decode cX11_init 192 = .ok (.iconst 4, 1) := by decide +kernel
theorem dX11_init_193 : decode cX11_init 193 = .ok (.bipush 24, 2) := by decide +kernel
theorem dX11_init_195 : decode cX11_init 195 = .ok (.multianewarray 69 2, 4) := by decide +kernel
theorem dX11_init_199 : decode cX11_init 199 = .ok (.putfield 71, 3) := by decide +kernel
theorem dX11_init_202 : decode cX11_init 202 = .ok (.aload_n 0, 1) := by decide +kernel
theorem dX11_init_203 : decode cX11_init 203 = .ok (.iconst 4, 1) := by decide +kernel
theorem dX11_init_204 : decode cX11_init 204 = .ok (.newarray .int, 2) := by decide +kernel
theorem dX11_init_206 : decode cX11_init 206 = .ok (.putfield 74, 3) := by decide +kernel
theorem dX11_init_209 : decode cX11_init 209 = .ok (.aload_n 0, 1) := by decide +kernel
theorem dX11_init_210 : decode cX11_init 210 = .ok (.iconst 4, 1) := by decide +kernel
theorem dX11_init_211 : decode cX11_init 211 = .ok (.newarray .int, 2) := by decide +kernel
theorem dX11_init_213 : decode cX11_init 213 = .ok (.putfield 78, 3) := by decide +kernel
theorem dX11_init_216 : decode cX11_init 216 = .ok (.aload_n 0, 1) := by decide +kernel
theorem dX11_init_217 : decode cX11_init 217 = .ok (.bipush 7, 2) := by decide +kernel
theorem dX11_init_219 : decode cX11_init 219 = .ok (.newarray .int, 2) := by decide +kernel
theorem dX11_init_221 : decode cX11_init 221 = .ok (.putfield 81, 3) := by decide +kernel
theorem dX11_init_224 : decode cX11_init 224 = .ok (.aload_n 0, 1) := by decide +kernel
theorem dX11_init_225 : decode cX11_init 225 = .ok (.iconst 0, 1) := by decide +kernel
theorem dX11_init_226 : decode cX11_init 226 = .ok (.putfield 84, 3) := by decide +kernel
theorem dX11_init_229 : decode cX11_init 229 = .ok (.return_, 1) := by decide +kernel
theorem dX11_stander_0 : decode cX11_stander 0 = .ok (.iload_n 1, 1) := by decide +kernel
theorem dX11_stander_1 : decode cX11_stander 1 = .ok (.invokestatic 88, 3) := by decide +kernel
theorem dX11_stander_4 : decode cX11_stander 4 = .ok (.ifCond .eq 13, 3) := by decide +kernel
theorem dX11_stander_7 : decode cX11_stander 7 = .ok (.iload_n 2, 1) := by decide +kernel
theorem dX11_stander_8 : decode cX11_stander 8 = .ok (.iconst 0, 1) := by decide +kernel
theorem dX11_stander_9 : decode cX11_stander 9 = .ok (.bipush 69, 2) := by decide +kernel
theorem dX11_stander_11 : decode cX11_stander 11 = .ok (.invokestatic 92, 3) := by decide +kernel
theorem dX11_stander_14 : decode cX11_stander 14 = .ok (.ifCond .ne 9, 3) := by decide +kernel
theorem dX11_stander_17 : decode cX11_stander 17 = .ok (.aload_n 0, 1) := by decide +kernel
theorem dX11_stander_18 : decode cX11_stander 18 = .ok (.iconst 1, 1) := by decide +kernel
theorem dX11_stander_19 : decode cX11_stander 19 = .ok (.invokevirtual 96, 3) := by decide +kernel
theorem dX11_stander_22 : decode cX11_stander 22 = .ok (.ireturn, 1) := by decide +kernel
theorem dX11_stander_23 : decode cX11_stander 23 = .ok (.bipush 10, 2) := by decide +kernel
theorem dX11_stander_25 : decode cX11_stander 25 = .ok (.aload_n 0, 1) := by decide +kernel
theorem dX11_stander_26 : decode cX11_stander 26 = .ok (.getfield 33, 3) := by decide +kernel
theorem dX11_stander_29 : decode cX11_stander 29 = .ok (.getfield 100, 3) := by decide +kernel
theorem dX11_stander_32 : decode cX11_stander 32 = .ok (.getfield 103, 3) := by decide +kernel
theorem dX11_stander_35 : decode cX11_stander 35 = .ok (.iload_n 1, 1) := by decide +kernel
theorem dX11_stander_36 : decode cX11_stander 36 = .ok (.iaload, 1) := by decide +kernel
theorem dX11_stander_37 : decode cX11_stander 37 = .ok (.imul, 1) := by decide +kernel
theorem dX11_stander_38 : decode cX11_stander 38 = .ok (.aload_n 0, 1) := by decide +kernel
theorem dX11_stander_39 : decode cX11_stander 39 = .ok (.getfield 33, 3) := by decide +kernel
theorem dX11_stander_42 : decode cX11_stander 42 = .ok (.getfield 100, 3) := by decide +kernel
theorem dX11_stander_45 : decode cX11_stander 45 = .ok (.getfield 106, 3) := by decide +kernel
theorem dX11_stander_48 : decode cX11_stander 48 = .ok (.iload_n 1, 1) := by decide +kernel
theorem dX11_stander_49 : decode cX11_stander 49 = .ok (.iaload, 1) := by decide +kernel
theorem dX11_stander_50 : decode cX11_stander 50 = .ok (.iadd, 1) := by decide +kernel
theorem dX11_stander_51 : decode cX11_stander 51 = .ok (.istore_n 3, 1) := by decide +kernel
theorem dX11_stander_52 : decode cX11_stander 52 = .ok (.aload_n 0, 1) := by decide +kernel
theorem dX11_stander_53 : decode cX11_stander 53 = .ok (.getfield 33, 3) := by decide +kernel
theorem dX11_stander_56 : decode cX11_stander 56 = .ok (.getfield 100, 3) := by decide +kernel
theorem dX11_stander_59 : decode cX11_stander 59 = .ok (.getfield 103, 3) := by decide +kernel
theorem dX11_stander_62 : decode cX11_stander 62 = .ok (.iload_n 1, 1) := by decide +kernel
theorem dX11_stander_63 : decode cX11_stander 63 = .ok (.iload_n 2, 1) := by decide +kernel
theorem dX11_stander_64 : decode cX11_stander 64 = .ok (.bipush 10, 2) := by decide +kernel
theorem dX11_stander_66 : decode cX11_stander 66 = .ok (.idiv, 1) := by decide +kernel
theorem dX11_stander_67 : decode cX11_stander 67 = .ok (.iastore, 1) := by decide +kernel
theorem dX11_stander_68 : decode cX11_stander 68 = .ok (.aload_n 0, 1) := by decide +kernel
theorem dX11_stander_69 : decode cX11_stander 69 = .ok (.getfield 33, 3) := by decide +kernel
theorem dX11_stander_72 : decode cX11_stander 72 = .ok (.getfield 100, 3) := by decide +kernel
theorem dX11_stander_75 : decode cX11_stander 75 = .ok (.getfield 106, 3) := by decide +kernel
theorem dX11_stander_78 : decode cX11_stander 78 = .ok (.iload_n 1, 1) := by decide +kernel
theorem dX11_stander_79 : decode cX11_stander 79 = .ok (.iload_n 2, 1) := by decide +kernel
theorem dX11_stander_80 : decode cX11_stander 80 = .ok (.bipush 10, 2) := by decide +kernel
theorem dX11_stander_82 : decode cX11_stander 82 = .ok (.irem, 1) := by decide +kernel
theorem dX11_stander_83 : decode cX11_stander 83 = .ok (.iastore, 1) := by decide +kernel
theorem dX11_stander_84 : decode cX11_stander 84 = .ok (.iload_n 3, 1) := by decide +kernel
theorem dX11_stander_85 : decode cX11_stander 85 = .ok (.ireturn, 1) := by decide +kernel
theorem dX11_standerIs_0 : decode cX11_standerIs 0 = .ok (.iload_n 1, 1) := by decide +kernel
theorem dX11_standerIs_1 : decode cX11_standerIs 1 = .ok (.invokestatic 88, 3) := by decide +kernel
theorem dX11_standerIs_4 : decode cX11_standerIs 4 = .ok (.ifCond .eq 13, 3) := by decide +kernel
theorem dX11_standerIs_7 : decode cX11_standerIs 7 = .ok (.iload_n 2, 1) := by decide +kernel
theorem dX11_standerIs_8 : decode cX11_standerIs 8 = .ok (.iconst 0, 1) := by decide +kernel
theorem dX11_standerIs_9 : decode cX11_standerIs 9 = .ok (.bipush 6, 2) := by decide +kernel
theorem dX11_standerIs_11 : decode cX11_standerIs 11 = .ok (.invokestatic 92, 3) := by decide +kernel
theorem dX11_standerIs_14 : decode cX11_standerIs 14 = .ok (.ifCond .ne 9, 3) := by decide +kernel
theorem dX11_standerIs_17 : decode cX11_standerIs 17 = .ok (.aload_n 0, 1) := by decide +kernel
theorem dX11_standerIs_18 : decode cX11_standerIs 18 = .ok (.iconst 1, 1) := by decide +kernel
theorem dX11_standerIs_19 : decode cX11_standerIs 19 = .ok (.invokevirtual 96, 3) := by decide +kernel
theorem dX11_standerIs_22 : decode cX11_standerIs 22 = .ok (.ireturn, 1) := by decide +kernel
theorem dX11_standerIs_23 : decode cX11_standerIs 23 = .ok (.iload_n 2, 1) := by decide +kernel
theorem dX11_standerIs_24 : decode cX11_standerIs 24 = .ok (.tableswitch 94 0 6 #[44, 57, 94, 94, 94, 70, 82], 44) := by decide +kernel
theorem dX11_standerIs_68 : decode cX11_standerIs 68 = .ok (.aload_n 0, 1) := by decide +kernel
theorem dX11_standerIs_69 : decode cX11_standerIs 69 = .ok (.getfield 33, 3) := by decide +kernel
theorem dX11_standerIs_72 : decode cX11_standerIs 72 = .ok (.getfield 100, 3) := by decide +kernel
theorem dX11_standerIs_75 : decode cX11_standerIs 75 = .ok (.getfield 103, 3) := by decide +kernel
theorem dX11_standerIs_78 : decode cX11_standerIs 78 = .ok (.iload_n 1, 1) := by decide +kernel
theorem dX11_standerIs_79 : decode cX11_standerIs 79 = .ok (.iaload, 1) := by decide +kernel
theorem dX11_standerIs_80 : decode cX11_standerIs 80 = .ok (.ireturn, 1) := by decide +kernel
theorem dX11_standerIs_81 : decode cX11_standerIs 81 = .ok (.aload_n 0, 1) := by decide +kernel
theorem dX11_standerIs_82 : decode cX11_standerIs 82 = .ok (.getfield 33, 3) := by decide +kernel
theorem dX11_standerIs_85 : decode cX11_standerIs 85 = .ok (.getfield 100, 3) := by decide +kernel
theorem dX11_standerIs_88 : decode cX11_standerIs 88 = .ok (.getfield 106, 3) := by decide +kernel
theorem dX11_standerIs_91 : decode cX11_standerIs 91 = .ok (.iload_n 1, 1) := by decide +kernel
theorem dX11_standerIs_92 : decode cX11_standerIs 92 = .ok (.iaload, 1) := by decide +kernel
theorem dX11_standerIs_93 : decode cX11_standerIs 93 = .ok (.ireturn, 1) := by decide +kernel
theorem dX11_standerIs_94 : decode cX11_standerIs 94 = .ok (.aload_n 0, 1) := by decide +kernel
theorem dX11_standerIs_95 : decode cX11_standerIs 95 = .ok (.getfield 33, 3) := by decide +kernel
theorem dX11_standerIs_98 : decode cX11_standerIs 98 = .ok (.getfield 100, 3) := by decide +kernel
theorem dX11_standerIs_101 : decode cX11_standerIs 101 = .ok (.iload_n 1, 1) := by decide +kernel
theorem dX11_standerIs_102 : decode cX11_standerIs 102 = .ok (.invokevirtual 109, 3) := by decide +kernel
theorem dX11_standerIs_105 : decode cX11_standerIs 105 = .ok (.ireturn, 1) := by decide +kernel
theorem dX11_standerIs_106 : decode cX11_standerIs 106 = .ok (.aload_n 0, 1) := by decide +kernel
theorem dX11_standerIs_107 : decode cX11_standerIs 107 = .ok (.getfield 33, 3) := by decide +kernel
theorem dX11_standerIs_110 : decode cX11_standerIs 110 = .ok (.getfield 100, 3) := by decide +kernel
theorem dX11_standerIs_113 : decode cX11_standerIs 113 = .ok (.iload_n 1, 1) := by decide +kernel
theorem dX11_standerIs_114 : decode cX11_standerIs 114 = .ok (.invokevirtual 112, 3) := by decide +kernel
theorem dX11_standerIs_117 : decode cX11_standerIs 117 = .ok (.ireturn, 1) := by decide +kernel
theorem dX11_standerIs_118 : decode cX11_standerIs 118 = .ok (.aload_n 0, 1) := by decide +kernel
theorem dX11_standerIs_119 : decode cX11_standerIs 119 = .ok (.getfield 33, 3) := by decide +kernel
theorem dX11_standerIs_122 : decode cX11_standerIs 122 = .ok (.getfield 100, 3) := by decide +kernel
theorem dX11_standerIs_125 : decode cX11_standerIs 125 = .ok (.iload_n 1, 1) := by decide +kernel
theorem dX11_standerIs_126 : decode cX11_standerIs 126 = .ok (.iload_n 2, 1) := by decide +kernel
theorem dX11_standerIs_127 : decode cX11_standerIs 127 = .ok (.invokevirtual 115, 3) := by decide +kernel
theorem dX11_standerIs_130 : decode cX11_standerIs 130 = .ok (.ireturn, 1) := by decide +kernel
theorem dX11_as_0 : decode cX11_as 0 = .ok (.iload_n 1, 1) := by decide +kernel
theorem dX11_as_1 : decode cX11_as 1 = .ok (.invokestatic 88, 3) := by decide +kernel
theorem dX11_as_4 : decode cX11_as 4 = .ok (.ifCond .eq 13, 3) := by decide +kernel
theorem dX11_as_7 : decode cX11_as 7 = .ok (.iload_n 2, 1) := by decide +kernel
theorem dX11_as_8 : decode cX11_as 8 = .ok (.iconst 0, 1) := by decide +kernel
theorem dX11_as_9 : decode cX11_as 9 = .ok (.bipush 6, 2) := by decide +kernel
theorem dX11_as_11 : decode cX11_as 11 = .ok (.invokestatic 92, 3) := by decide +kernel
theorem dX11_as_14 : decode cX11_as 14 = .ok (.ifCond .ne 9, 3) := by decide +kernel
theorem dX11_as_17 : decode cX11_as 17 = .ok (.aload_n 0, 1) := by decide +kernel
theorem dX11_as_18 : decode cX11_as 18 = .ok (.iconst 1, 1) := by decide +kernel
theorem dX11_as_19 : decode cX11_as 19 = .ok (.invokevirtual 96, 3) := by decide +kernel
theorem dX11_as_22 : decode cX11_as 22 = .ok (.ireturn, 1) := by decide +kernel
theorem dX11_as_23 : decode cX11_as 23 = .ok (.aload_n 0, 1) := by decide +kernel
theorem dX11_as_24 : decode cX11_as 24 = .ok (.getfield 33, 3) := by decide +kernel
theorem dX11_as_27 : decode cX11_as 27 = .ok (.getfield 100, 3) := by decide +kernel
theorem dX11_as_30 : decode cX11_as 30 = .ok (.iload_n 1, 1) := by decide +kernel
theorem dX11_as_31 : decode cX11_as 31 = .ok (.invokevirtual 119, 3) := by decide +kernel
theorem dX11_as_34 : decode cX11_as 34 = .ok (.iload_n 2, 1) := by decide +kernel
theorem dX11_as_35 : decode cX11_as 35 = .ok (.invokestatic 123, 3) := by decide +kernel
theorem dX11_as_38 : decode cX11_as 38 = .ok (.ifCond .ne 9, 3) := by decide +kernel
theorem dX11_as_41 : decode cX11_as 41 = .ok (.aload_n 0, 1) := by decide +kernel
theorem dX11_as_42 : decode cX11_as 42 = .ok (.iconst 5, 1) := by decide +kernel
theorem dX11_as_43 : decode cX11_as 43 = .ok (.invokevirtual 96, 3) := by decide +kernel
theorem dX11_as_46 : decode cX11_as 46 = .ok (.ireturn, 1) := by decide +kernel
theorem dX11_as_47 : decode cX11_as 47 = .ok (.aload_n 0, 1) := by decide +kernel
theorem dX11_as_48 : decode cX11_as 48 = .ok (.getfield 33, 3) := by decide +kernel
theorem dX11_as_51 : decode cX11_as 51 = .ok (.getfield 100, 3) := by decide +kernel
theorem dX11_as_54 : decode cX11_as 54 = .ok (.getfield 106, 3) := by decide +kernel
theorem dX11_as_57 : decode cX11_as 57 = .ok (.iload_n 1, 1) := by decide +kernel
theorem dX11_as_58 : decode cX11_as 58 = .ok (.iaload, 1) := by decide +kernel
theorem dX11_as_59 : decode cX11_as 59 = .ok (.ireturn, 1) := by decide +kernel
theorem dX11_patience_0 : decode cX11_patience 0 = .ok (.iload_n 1, 1) := by decide +kernel
theorem dX11_patience_1 : decode cX11_patience 1 = .ok (.invokestatic 88, 3) := by decide +kernel
theorem dX11_patience_4 : decode cX11_patience 4 = .ok (.ifCond .eq 14, 3) := by decide +kernel
theorem dX11_patience_7 : decode cX11_patience 7 = .ok (.iload_n 2, 1) := by decide +kernel
theorem dX11_patience_8 : decode cX11_patience 8 = .ok (.iconst 0, 1) := by decide +kernel
theorem dX11_patience_9 : decode cX11_patience 9 = .ok (.sipush 999, 3) := by decide +kernel
theorem dX11_patience_12 : decode cX11_patience 12 = .ok (.invokestatic 92, 3) := by decide +kernel
theorem dX11_patience_15 : decode cX11_patience 15 = .ok (.ifCond .ne 9, 3) := by decide +kernel
theorem dX11_patience_18 : decode cX11_patience 18 = .ok (.aload_n 0, 1) := by decide +kernel
theorem dX11_patience_19 : decode cX11_patience 19 = .ok (.iconst 1, 1) := by decide +kernel
theorem dX11_patience_20 : decode cX11_patience 20 = .ok (.invokevirtual 96, 3) := by decide +kernel
theorem dX11_patience_23 : decode cX11_patience 23 = .ok (.ireturn, 1) := by decide +kernel
theorem dX11_patience_24 : decode cX11_patience 24 = .ok (.aload_n 0, 1) := by decide +kernel
theorem dX11_patience_25 : decode cX11_patience 25 = .ok (.getfield 33, 3) := by decide +kernel
theorem dX11_patience_28 : decode cX11_patience 28 = .ok (.getfield 100, 3) := by decide +kernel
theorem dX11_patience_31 : decode cX11_patience 31 = .ok (.iload_n 1, 1) := by decide +kernel
theorem dX11_patience_32 : decode cX11_patience 32 = .ok (.invokevirtual 127, 3) := by decide +kernel
theorem dX11_patience_35 : decode cX11_patience 35 = .ok (.ifCond .ne 9, 3) := by decide +kernel
theorem dX11_patience_38 : decode cX11_patience 38 = .ok (.aload_n 0, 1) := by decide +kernel
theorem dX11_patience_39 : decode cX11_patience 39 = .ok (.iconst 3, 1) := by decide +kernel
theorem dX11_patience_40 : decode cX11_patience 40 = .ok (.invokevirtual 96, 3) := by decide +kernel
theorem dX11_patience_43 : decode cX11_patience 43 = .ok (.ireturn, 1) := by decide +kernel
theorem dX11_patience_44 : decode cX11_patience 44 = .ok (.aload_n 0, 1) := by decide +kernel
theorem dX11_patience_45 : decode cX11_patience 45 = .ok (.getfield 33, 3) := by decide +kernel
theorem dX11_patience_48 : decode cX11_patience 48 = .ok (.getfield 100, 3) := by decide +kernel
theorem dX11_patience_51 : decode cX11_patience 51 = .ok (.getfield 130, 3) := by decide +kernel
theorem dX11_patience_54 : decode cX11_patience 54 = .ok (.iload_n 1, 1) := by decide +kernel
theorem dX11_patience_55 : decode cX11_patience 55 = .ok (.iaload, 1) := by decide +kernel
theorem dX11_patience_56 : decode cX11_patience 56 = .ok (.istore_n 3, 1) := by decide +kernel
theorem dX11_patience_57 : decode cX11_patience 57 = .ok (.aload_n 0, 1) := by decide +kernel
theorem dX11_patience_58 : decode cX11_patience 58 = .ok (.getfield 33, 3) := by decide +kernel
theorem dX11_patience_61 : decode cX11_patience 61 = .ok (.getfield 100, 3) := by decide +kernel
theorem dX11_patience_64 : decode cX11_patience 64 = .ok (.getfield 130, 3) := by decide +kernel
theorem dX11_patience_67 : decode cX11_patience 67 = .ok (.iload_n 1, 1) := by decide +kernel
theorem dX11_patience_68 : decode cX11_patience 68 = .ok (.iload_n 2, 1) := by decide +kernel
theorem dX11_patience_69 : decode cX11_patience 69 = .ok (.iastore, 1) := by decide +kernel
theorem dX11_patience_70 : decode cX11_patience 70 = .ok (.aload_n 0, 1) := by decide +kernel
theorem dX11_patience_71 : decode cX11_patience 71 = .ok (.getfield 33, 3) := by decide +kernel
theorem dX11_patience_74 : decode cX11_patience 74 = .ok (.getfield 100, 3) := by decide +kernel
theorem dX11_patience_77 : decode cX11_patience 77 = .ok (.invokevirtual 133, 3) := by decide +kernel
theorem dX11_patience_80 : decode cX11_patience 80 = .ok (.pop, 1) := by decide +kernel
theorem dX11_patience_81 : decode cX11_patience 81 = .ok (.iload_n 3, 1) := by decide +kernel
theorem dX11_patience_82 : decode cX11_patience 82 = .ok (.ireturn, 1) := by decide +kernel
theorem dX11_swap_0 : decode cX11_swap 0 = .ok (.iload_n 1, 1) := by decide +kernel
theorem dX11_swap_1 : decode cX11_swap 1 = .ok (.invokestatic 88, 3) := by decide +kernel
theorem dX11_swap_4 : decode cX11_swap 4 = .ok (.ifCond .eq 10, 3) := by decide +kernel
theorem dX11_swap_7 : decode cX11_swap 7 = .ok (.iload_n 2, 1) := by decide +kernel
theorem dX11_swap_8 : decode cX11_swap 8 = .ok (.invokestatic 88, 3) := by decide +kernel
theorem dX11_swap_11 : decode cX11_swap 11 = .ok (.ifCond .ne 9, 3) := by decide +kernel
theorem dX11_swap_14 : decode cX11_swap 14 = .ok (.aload_n 0, 1) := by decide +kernel
theorem dX11_swap_15 : decode cX11_swap 15 = .ok (.iconst 1, 1) := by decide +kernel
theorem dX11_swap_16 : decode cX11_swap 16 = .ok (.invokevirtual 96, 3) := by decide +kernel
theorem dX11_swap_19 : decode cX11_swap 19 = .ok (.ireturn, 1) := by decide +kernel
theorem dX11_swap_20 : decode cX11_swap 20 = .ok (.aload_n 0, 1) := by decide +kernel
theorem dX11_swap_21 : decode cX11_swap 21 = .ok (.getfield 33, 3) := by decide +kernel
theorem dX11_swap_24 : decode cX11_swap 24 = .ok (.getfield 100, 3) := by decide +kernel
theorem dX11_swap_27 : decode cX11_swap 27 = .ok (.iload_n 1, 1) := by decide +kernel
theorem dX11_swap_28 : decode cX11_swap 28 = .ok (.invokevirtual 127, 3) := by decide +kernel
theorem dX11_swap_31 : decode cX11_swap 31 = .ok (.ifCond .eq 17, 3) := by decide +kernel
theorem dX11_swap_34 : decode cX11_swap 34 = .ok (.aload_n 0, 1) := by decide +kernel
theorem dX11_swap_35 : decode cX11_swap 35 = .ok (.getfield 33, 3) := by decide +kernel
theorem dX11_swap_38 : decode cX11_swap 38 = .ok (.getfield 100, 3) := by decide +kernel
theorem dX11_swap_41 : decode cX11_swap 41 = .ok (.iload_n 2, 1) := by decide +kernel
theorem dX11_swap_42 : decode cX11_swap 42 = .ok (.invokevirtual 127, 3) := by decide +kernel
theorem dX11_swap_45 : decode cX11_swap 45 = .ok (.ifCond .ne 9, 3) := by decide +kernel
theorem dX11_swap_48 : decode cX11_swap 48 = .ok (.aload_n 0, 1) := by decide +kernel
theorem dX11_swap_49 : decode cX11_swap 49 = .ok (.iconst 3, 1) := by decide +kernel
theorem dX11_swap_50 : decode cX11_swap 50 = .ok (.invokevirtual 96, 3) := by decide +kernel
theorem dX11_swap_53 : decode cX11_swap 53 = .ok (.ireturn, 1) := by decide +kernel
theorem dX11_swap_54 : decode cX11_swap 54 = .ok (.aload_n 0, 1) := by decide +kernel
theorem dX11_swap_55 : decode cX11_swap 55 = .ok (.getfield 33, 3) := by decide +kernel
theorem dX11_swap_58 : decode cX11_swap 58 = .ok (.getfield 100, 3) := by decide +kernel
theorem dX11_swap_61 : decode cX11_swap 61 = .ok (.iload_n 1, 1) := by decide +kernel
theorem dX11_swap_62 : decode cX11_swap 62 = .ok (.iload_n 2, 1) := by decide +kernel
theorem dX11_swap_63 : decode cX11_swap 63 = .ok (.invokevirtual 137, 3) := by decide +kernel
theorem dX11_swap_66 : decode cX11_swap 66 = .ok (.aload_n 0, 1) := by decide +kernel
theorem dX11_swap_67 : decode cX11_swap 67 = .ok (.getfield 33, 3) := by decide +kernel
theorem dX11_swap_70 : decode cX11_swap 70 = .ok (.getfield 100, 3) := by decide +kernel
theorem dX11_swap_73 : decode cX11_swap 73 = .ok (.getfield 141, 3) := by decide +kernel
theorem dX11_swap_76 : decode cX11_swap 76 = .ok (.iload_n 1, 1) := by decide +kernel
theorem dX11_swap_77 : decode cX11_swap 77 = .ok (.iaload, 1) := by decide +kernel
theorem dX11_swap_78 : decode cX11_swap 78 = .ok (.ireturn, 1) := by decide +kernel
theorem dX11_again_0 : decode cX11_again 0 = .ok (.iload_n 1, 1) := by decide +kernel
theorem dX11_again_1 : decode cX11_again 1 = .ok (.invokestatic 88, 3) := by decide +kernel
theorem dX11_again_4 : decode cX11_again 4 = .ok (.ifCond .eq 14, 3) := by decide +kernel
theorem dX11_again_7 : decode cX11_again 7 = .ok (.iload_n 2, 1) := by decide +kernel
theorem dX11_again_8 : decode cX11_again 8 = .ok (.iconst 1, 1) := by decide +kernel
theorem dX11_again_9 : decode cX11_again 9 = .ok (.sipush 999, 3) := by decide +kernel
theorem dX11_again_12 : decode cX11_again 12 = .ok (.invokestatic 92, 3) := by decide +kernel
theorem dX11_again_15 : decode cX11_again 15 = .ok (.ifCond .ne 9, 3) := by decide +kernel
theorem dX11_again_18 : decode cX11_again 18 = .ok (.aload_n 0, 1) := by decide +kernel
theorem dX11_again_19 : decode cX11_again 19 = .ok (.iconst 1, 1) := by decide +kernel
theorem dX11_again_20 : decode cX11_again 20 = .ok (.invokevirtual 96, 3) := by decide +kernel
theorem dX11_again_23 : decode cX11_again 23 = .ok (.ireturn, 1) := by decide +kernel
theorem dX11_again_24 : decode cX11_again 24 = .ok (.aload_n 0, 1) := by decide +kernel
theorem dX11_again_25 : decode cX11_again 25 = .ok (.getfield 33, 3) := by decide +kernel
theorem dX11_again_28 : decode cX11_again 28 = .ok (.getfield 100, 3) := by decide +kernel
theorem dX11_again_31 : decode cX11_again 31 = .ok (.iload_n 1, 1) := by decide +kernel
theorem dX11_again_32 : decode cX11_again 32 = .ok (.invokevirtual 127, 3) := by decide +kernel
theorem dX11_again_35 : decode cX11_again 35 = .ok (.ifCond .eq 9, 3) := by decide +kernel
theorem dX11_again_38 : decode cX11_again 38 = .ok (.aload_n 0, 1) := by decide +kernel
theorem dX11_again_39 : decode cX11_again 39 = .ok (.iconst 3, 1) := by decide +kernel
theorem dX11_again_40 : decode cX11_again 40 = .ok (.invokevirtual 96, 3) := by decide +kernel
theorem dX11_again_43 : decode cX11_again 43 = .ok (.ireturn, 1) := by decide +kernel
theorem dX11_again_44 : decode cX11_again 44 = .ok (.aload_n 0, 1) := by decide +kernel
theorem dX11_again_45 : decode cX11_again 45 = .ok (.getfield 33, 3) := by decide +kernel
theorem dX11_again_48 : decode cX11_again 48 = .ok (.getfield 100, 3) := by decide +kernel
theorem dX11_again_51 : decode cX11_again 51 = .ok (.getfield 144, 3) := by decide +kernel
theorem dX11_again_54 : decode cX11_again 54 = .ok (.iload_n 1, 1) := by decide +kernel
theorem dX11_again_55 : decode cX11_again 55 = .ok (.iconst (-1), 1) := by decide +kernel
theorem dX11_again_56 : decode cX11_again 56 = .ok (.iastore, 1) := by decide +kernel
theorem dX11_again_57 : decode cX11_again 57 = .ok (.aload_n 0, 1) := by decide +kernel
theorem dX11_again_58 : decode cX11_again 58 = .ok (.getfield 33, 3) := by decide +kernel
theorem dX11_again_61 : decode cX11_again 61 = .ok (.getfield 100, 3) := by decide +kernel
theorem dX11_again_64 : decode cX11_again 64 = .ok (.getfield 130, 3) := by decide +kernel
theorem dX11_again_67 : decode cX11_again 67 = .ok (.iload_n 1, 1) := by decide +kernel
theorem dX11_again_68 : decode cX11_again 68 = .ok (.iload_n 2, 1) := by decide +kernel
theorem dX11_again_69 : decode cX11_again 69 = .ok (.iastore, 1) := by decide +kernel
theorem dX11_again_70 : decode cX11_again 70 = .ok (.iconst 1, 1) := by decide +kernel
theorem dX11_again_71 : decode cX11_again 71 = .ok (.ireturn, 1) := by decide +kernel
theorem dX11_sun_0 : decode cX11_sun 0 = .ok (.iload_n 1, 1) := by decide +kernel
theorem dX11_sun_1 : decode cX11_sun 1 = .ok (.iconst 0, 1) := by decide +kernel
theorem dX11_sun_2 : decode cX11_sun 2 = .ok (.bipush 9, 2) := by decide +kernel
theorem dX11_sun_4 : decode cX11_sun 4 = .ok (.invokestatic 92, 3) := by decide +kernel
theorem dX11_sun_7 : decode cX11_sun 7 = .ok (.ifCond .ne 9, 3) := by decide +kernel
theorem dX11_sun_10 : decode cX11_sun 10 = .ok (.aload_n 0, 1) := by decide +kernel
theorem dX11_sun_11 : decode cX11_sun 11 = .ok (.iconst 1, 1) := by decide +kernel
theorem dX11_sun_12 : decode cX11_sun 12 = .ok (.invokevirtual 96, 3) := by decide +kernel
theorem dX11_sun_15 : decode cX11_sun 15 = .ok (.ireturn, 1) := by decide +kernel
theorem dX11_sun_16 : decode cX11_sun 16 = .ok (.aload_n 0, 1) := by decide +kernel
theorem dX11_sun_17 : decode cX11_sun 17 = .ok (.getfield 33, 3) := by decide +kernel
theorem dX11_sun_20 : decode cX11_sun 20 = .ok (.getfield 100, 3) := by decide +kernel
theorem dX11_sun_23 : decode cX11_sun 23 = .ok (.getfield 147, 3) := by decide +kernel
theorem dX11_sun_26 : decode cX11_sun 26 = .ok (.istore_n 2, 1) := by decide +kernel
theorem dX11_sun_27 : decode cX11_sun 27 = .ok (.aload_n 0, 1) := by decide +kernel
theorem dX11_sun_28 : decode cX11_sun 28 = .ok (.getfield 33, 3) := by decide +kernel
theorem dX11_sun_31 : decode cX11_sun 31 = .ok (.getfield 100, 3) := by decide +kernel
theorem dX11_sun_34 : decode cX11_sun 34 = .ok (.iload_n 1, 1) := by decide +kernel
theorem dX11_sun_35 : decode cX11_sun 35 = .ok (.putfield 147, 3) := by decide +kernel
theorem dX11_sun_38 : decode cX11_sun 38 = .ok (.iload_n 2, 1) := by decide +kernel
theorem dX11_sun_39 : decode cX11_sun 39 = .ok (.ireturn, 1) := by decide +kernel
theorem dX11_at_0 : decode cX11_at 0 = .ok (.iload_n 1, 1) := by decide +kernel
theorem dX11_at_1 : decode cX11_at 1 = .ok (.invokestatic 150, 3) := by decide +kernel
theorem dX11_at_4 : decode cX11_at 4 = .ok (.ifCond .ne 9, 3) := by decide +kernel
theorem dX11_at_7 : decode cX11_at 7 = .ok (.aload_n 0, 1) := by decide +kernel
theorem dX11_at_8 : decode cX11_at 8 = .ok (.iconst 1, 1) := by decide +kernel
theorem dX11_at_9 : decode cX11_at 9 = .ok (.invokevirtual 96, 3) := by decide +kernel
theorem dX11_at_12 : decode cX11_at 12 = .ok (.ireturn, 1) := by decide +kernel
theorem dX11_at_13 : decode cX11_at 13 = .ok (.aload_n 0, 1) := by decide +kernel
theorem dX11_at_14 : decode cX11_at 14 = .ok (.getfield 33, 3) := by decide +kernel
theorem dX11_at_17 : decode cX11_at 17 = .ok (.getfield 100, 3) := by decide +kernel
theorem dX11_at_20 : decode cX11_at 20 = .ok (.iload_n 1, 1) := by decide +kernel
theorem dX11_at_21 : decode cX11_at 21 = .ok (.invokevirtual 153, 3) := by decide +kernel
theorem dX11_at_24 : decode cX11_at 24 = .ok (.ireturn, 1) := by decide +kernel
theorem dX11_feed_0 : decode cX11_feed 0 = .ok (.iload_n 3, 1) := by decide +kernel
theorem dX11_feed_1 : decode cX11_feed 1 = .ok (.iconst 1, 1) := by decide +kernel
theorem dX11_feed_2 : decode cX11_feed 2 = .ok (.bipush 8, 2) := by decide +kernel
theorem dX11_feed_4 : decode cX11_feed 4 = .ok (.invokestatic 92, 3) := by decide +kernel
theorem dX11_feed_7 : decode cX11_feed 7 = .ok (.ifCond .ne 9, 3) := by decide +kernel
theorem dX11_feed_10 : decode cX11_feed 10 = .ok (.aload_n 0, 1) := by decide +kernel
theorem dX11_feed_11 : decode cX11_feed 11 = .ok (.iconst 1, 1) := by decide +kernel
theorem dX11_feed_12 : decode cX11_feed 12 = .ok (.invokevirtual 96, 3) := by decide +kernel
theorem dX11_feed_15 : decode cX11_feed 15 = .ok (.ireturn, 1) := by decide +kernel
theorem dX11_feed_16 : decode cX11_feed 16 = .ok (.aload_n 0, 1) := by decide +kernel
theorem dX11_feed_17 : decode cX11_feed 17 = .ok (.getfield 33, 3) := by decide +kernel
theorem dX11_feed_20 : decode cX11_feed 20 = .ok (.getfield 156, 3) := by decide +kernel
theorem dX11_feed_23 : decode cX11_feed 23 = .ok (.bipush 60, 2) := by decide +kernel
theorem dX11_feed_25 : decode cX11_feed 25 = .ok (.iload_n 3, 1) := by decide +kernel
theorem dX11_feed_26 : decode cX11_feed 26 = .ok (.isub, 1) := by decide +kernel
theorem dX11_feed_27 : decode cX11_feed 27 = .ok (.if_icmp .le 9, 3) := by decide +kernel
theorem dX11_feed_30 : decode cX11_feed 30 = .ok (.aload_n 0, 1) := by decide +kernel
theorem dX11_feed_31 : decode cX11_feed 31 = .ok (.iconst 4, 1) := by decide +kernel
theorem dX11_feed_32 : decode cX11_feed 32 = .ok (.invokevirtual 96, 3) := by decide +kernel
theorem dX11_feed_35 : decode cX11_feed 35 = .ok (.ireturn, 1) := by decide +kernel
theorem dX11_feed_36 : decode cX11_feed 36 = .ok (.iconst 0, 1) := by decide +kernel
theorem dX11_feed_37 : decode cX11_feed 37 = .ok (.istore 4, 2) := by decide +kernel
theorem dX11_feed_39 : decode cX11_feed 39 = .ok (.iload 4, 2) := by decide +kernel
theorem dX11_feed_41 : decode cX11_feed 41 = .ok (.iload_n 3, 1) := by decide +kernel
theorem dX11_feed_42 : decode cX11_feed 42 = .ok (.if_icmp .ge 46, 3) := by decide +kernel
theorem dX11_feed_45 : decode cX11_feed 45 = .ok (.aload_n 0, 1) := by decide +kernel
theorem dX11_feed_46 : decode cX11_feed 46 = .ok (.getfield 33, 3) := by decide +kernel
theorem dX11_feed_49 : decode cX11_feed 49 = .ok (.getfield 159, 3) := by decide +kernel
theorem dX11_feed_52 : decode cX11_feed 52 = .ok (.aload_n 0, 1) := by decide +kernel
theorem dX11_feed_53 : decode cX11_feed 53 = .ok (.getfield 33, 3) := by decide +kernel
theorem dX11_feed_56 : decode cX11_feed 56 = .ok (.getfield 156, 3) := by decide +kernel
theorem dX11_feed_59 : decode cX11_feed 59 = .ok (.lload_n 1, 1) := by decide +kernel
theorem dX11_feed_60 : decode cX11_feed 60 = .ok (.bipush 8, 2) := by decide +kernel
theorem dX11_feed_62 : decode cX11_feed 62 = .ok (.iload 4, 2) := by decide +kernel
theorem dX11_feed_64 : decode cX11_feed 64 = .ok (.imul, 1) := by decide +kernel
theorem dX11_feed_65 : decode cX11_feed 65 = .ok (.lushr, 1) := by decide +kernel
theorem dX11_feed_66 : decode cX11_feed 66 = .ok (.l2i, 1) := by decide +kernel
theorem dX11_feed_67 : decode cX11_feed 67 = .ok (.i2b, 1) := by decide +kernel
theorem dX11_feed_68 : decode cX11_feed 68 = .ok (.bastore, 1) := by decide +kernel
theorem dX11_feed_69 : decode cX11_feed 69 = .ok (.aload_n 0, 1) := by decide +kernel
theorem dX11_feed_70 : decode cX11_feed 70 = .ok (.getfield 33, 3) := by decide +kernel
theorem dX11_feed_73 : decode cX11_feed 73 = .ok (.dup, 1) := by decide +kernel
theorem dX11_feed_74 : decode cX11_feed 74 = .ok (.getfield 156, 3) := by decide +kernel
theorem dX11_feed_77 : decode cX11_feed 77 = .ok (.iconst 1, 1) := by decide +kernel
theorem dX11_feed_78 : decode cX11_feed 78 = .ok (.iadd, 1) := by decide +kernel
theorem dX11_feed_79 : decode cX11_feed 79 = .ok (.putfield 156, 3) := by decide +kernel
theorem dX11_feed_82 : decode cX11_feed 82 = .ok (.iinc 4 1, 3) := by decide +kernel
theorem dX11_feed_85 : decode cX11_feed 85 = .ok (.goto (-46), 3) := by decide +kernel
theorem dX11_feed_88 : decode cX11_feed 88 = .ok (.aload_n 0, 1) := by decide +kernel
theorem dX11_feed_89 : decode cX11_feed 89 = .ok (.getfield 33, 3) := by decide +kernel
theorem dX11_feed_92 : decode cX11_feed 92 = .ok (.getfield 156, 3) := by decide +kernel
theorem dX11_feed_95 : decode cX11_feed 95 = .ok (.ireturn, 1) := by decide +kernel
theorem dX11_text_0 : decode cX11_text 0 = .ok (.iload_n 1, 1) := by decide +kernel
theorem dX11_text_1 : decode cX11_text 1 = .ok (.iconst 0, 1) := by decide +kernel
theorem dX11_text_2 : decode cX11_text 2 = .ok (.iconst 1, 1) := by decide +kernel
theorem dX11_text_3 : decode cX11_text 3 = .ok (.invokestatic 92, 3) := by decide +kernel
theorem dX11_text_6 : decode cX11_text 6 = .ok (.ifCond .ne 9, 3) := by decide +kernel
theorem dX11_text_9 : decode cX11_text 9 = .ok (.aload_n 0, 1) := by decide +kernel
theorem dX11_text_10 : decode cX11_text 10 = .ok (.iconst 1, 1) := by decide +kernel
theorem dX11_text_11 : decode cX11_text 11 = .ok (.invokevirtual 96, 3) := by decide +kernel
theorem dX11_text_14 : decode cX11_text 14 = .ok (.ireturn, 1) := by decide +kernel
theorem dX11_text_15 : decode cX11_text 15 = .ok (.aload_n 0, 1) := by decide +kernel
theorem dX11_text_16 : decode cX11_text 16 = .ok (.getfield 33, 3) := by decide +kernel
theorem dX11_text_19 : decode cX11_text 19 = .ok (.iload_n 1, 1) := by decide +kernel
theorem dX11_text_20 : decode cX11_text 20 = .ok (.invokevirtual 163, 3) := by decide +kernel
theorem dX11_text_23 : decode cX11_text 23 = .ok (.aload_n 0, 1) := by decide +kernel
theorem dX11_text_24 : decode cX11_text 24 = .ok (.getfield 33, 3) := by decide +kernel
theorem dX11_text_27 : decode cX11_text 27 = .ok (.getfield 159, 3) := by decide +kernel
theorem dX11_text_30 : decode cX11_text 30 = .ok (.aload_n 0, 1) := by decide +kernel
theorem dX11_text_31 : decode cX11_text 31 = .ok (.getfield 33, 3) := by decide +kernel
theorem dX11_text_34 : decode cX11_text 34 = .ok (.getfield 156, 3) := by decide +kernel
theorem dX11_text_37 : decode cX11_text 37 = .ok (.invokevirtual 167, 3) := by decide +kernel
theorem dX11_text_40 : decode cX11_text 40 = .ok (.istore_n 2, 1) := by decide +kernel
theorem dX11_text_41 : decode cX11_text 41 = .ok (.aload_n 0, 1) := by decide +kernel
theorem dX11_text_42 : decode cX11_text 42 = .ok (.getfield 33, 3) := by decide +kernel
theorem dX11_text_45 : decode cX11_text 45 = .ok (.iconst 0, 1) := by decide +kernel
theorem dX11_text_46 : decode cX11_text 46 = .ok (.putfield 156, 3) := by decide +kernel
theorem dX11_text_49 : decode cX11_text 49 = .ok (.iload_n 2, 1) := by decide +kernel
theorem dX11_text_50 : decode cX11_text 50 = .ok (.ifCond .ge 7, 3) := by decide +kernel
theorem dX11_text_53 : decode cX11_text 53 = .ok (.iconst 1, 1) := by decide +kernel
theorem dX11_text_54 : decode cX11_text 54 = .ok (.goto 7, 3) := by decide +kernel
theorem dX11_text_57 : decode cX11_text 57 = .ok (.bipush (-10), 2) := by decide +kernel
theorem dX11_text_59 : decode cX11_text 59 = .ok (.iload_n 2, 1) := by decide +kernel
theorem dX11_text_60 : decode cX11_text 60 = .ok (.isub, 1) := by decide +kernel
theorem dX11_text_61 : decode cX11_text 61 = .ok (.ireturn, 1) := by decide +kernel
theorem dX11_untell_0 : decode cX11_untell 0 = .ok (.iload_n 1, 1) := by decide +kernel
theorem dX11_untell_1 : decode cX11_untell 1 = .ok (.iconst 0, 1) := by decide +kernel
theorem dX11_untell_2 : decode cX11_untell 2 = .ok (.iconst 1, 1) := by decide +kernel
theorem dX11_untell_3 : decode cX11_untell 3 = .ok (.invokestatic 92, 3) := by decide +kernel
theorem dX11_untell_6 : decode cX11_untell 6 = .ok (.ifCond .ne 9, 3) := by decide +kernel
theorem dX11_untell_9 : decode cX11_untell 9 = .ok (.aload_n 0, 1) := by decide +kernel
theorem dX11_untell_10 : decode cX11_untell 10 = .ok (.iconst 1, 1) := by decide +kernel
theorem dX11_untell_11 : decode cX11_untell 11 = .ok (.invokevirtual 96, 3) := by decide +kernel
theorem dX11_untell_14 : decode cX11_untell 14 = .ok (.ireturn, 1) := by decide +kernel
theorem dX11_untell_15 : decode cX11_untell 15 = .ok (.aload_n 0, 1) := by decide +kernel
theorem dX11_untell_16 : decode cX11_untell 16 = .ok (.getfield 33, 3) := by decide +kernel
theorem dX11_untell_19 : decode cX11_untell 19 = .ok (.iload_n 1, 1) := by decide +kernel
theorem dX11_untell_20 : decode cX11_untell 20 = .ok (.invokevirtual 163, 3) := by decide +kernel
theorem dX11_untell_23 : decode cX11_untell 23 = .ok (.astore_n 2, 1) := by decide +kernel
theorem dX11_untell_24 : decode cX11_untell 24 = .ok (.aload_n 2, 1) := by decide +kernel
theorem dX11_untell_25 : decode cX11_untell 25 = .ok (.invokevirtual 173, 3) := by decide +kernel
theorem dX11_untell_28 : decode cX11_untell 28 = .ok (.ifCond .eq 7, 3) := by decide +kernel
theorem dX11_untell_31 : decode cX11_untell 31 = .ok (.iconst 0, 1) := by decide +kernel
theorem dX11_untell_32 : decode cX11_untell 32 = .ok (.goto 4, 3) := by decide +kernel
theorem dX11_untell_35 : decode cX11_untell 35 = .ok (.iconst 1, 1) := by decide +kernel
theorem dX11_untell_36 : decode cX11_untell 36 = .ok (.istore_n 3, 1) := by decide +kernel
theorem dX11_untell_37 : decode cX11_untell 37 = .ok (.aload_n 2, 1) := by decide +kernel
theorem dX11_untell_38 : decode cX11_untell 38 = .ok (.invokevirtual 177, 3) := by decide +kernel
theorem dX11_untell_41 : decode cX11_untell 41 = .ok (.iload_n 3, 1) := by decide +kernel
theorem dX11_untell_42 : decode cX11_untell 42 = .ok (.ireturn, 1) := by decide +kernel
theorem dX11_minutes_0 : decode cX11_minutes 0 = .ok (.iload_n 1, 1) := by decide +kernel
theorem dX11_minutes_1 : decode cX11_minutes 1 = .ok (.iconst 1, 1) := by decide +kernel
theorem dX11_minutes_2 : decode cX11_minutes 2 = .ok (.sipush 200, 3) := by decide +kernel
theorem dX11_minutes_5 : decode cX11_minutes 5 = .ok (.invokestatic 92, 3) := by decide +kernel
theorem dX11_minutes_8 : decode cX11_minutes 8 = .ok (.ifCond .ne 9, 3) := by decide +kernel
theorem dX11_minutes_11 : decode cX11_minutes 11 = .ok (.aload_n 0, 1) := by decide +kernel
theorem dX11_minutes_12 : decode cX11_minutes 12 = .ok (.iconst 1, 1) := by decide +kernel
theorem dX11_minutes_13 : decode cX11_minutes 13 = .ok (.invokevirtual 96, 3) := by decide +kernel
theorem dX11_minutes_16 : decode cX11_minutes 16 = .ok (.ireturn, 1) := by decide +kernel
theorem dX11_minutes_17 : decode cX11_minutes 17 = .ok (.aload_n 0, 1) := by decide +kernel
theorem dX11_minutes_18 : decode cX11_minutes 18 = .ok (.getfield 33, 3) := by decide +kernel
theorem dX11_minutes_21 : decode cX11_minutes 21 = .ok (.getfield 100, 3) := by decide +kernel
theorem dX11_minutes_24 : decode cX11_minutes 24 = .ok (.getfield 180, 3) := by decide +kernel
theorem dX11_minutes_27 : decode cX11_minutes 27 = .ok (.iload_n 1, 1) := by decide +kernel
theorem dX11_minutes_28 : decode cX11_minutes 28 = .ok (.iadd, 1) := by decide +kernel
theorem dX11_minutes_29 : decode cX11_minutes 29 = .ok (.sipush 9999, 3) := by decide +kernel
theorem dX11_minutes_32 : decode cX11_minutes 32 = .ok (.if_icmp .le 9, 3) := by decide +kernel
theorem dX11_minutes_35 : decode cX11_minutes 35 = .ok (.aload_n 0, 1) := by decide +kernel
theorem dX11_minutes_36 : decode cX11_minutes 36 = .ok (.iconst 3, 1) := by decide +kernel
theorem dX11_minutes_37 : decode cX11_minutes 37 = .ok (.invokevirtual 96, 3) := by decide +kernel
theorem dX11_minutes_40 : decode cX11_minutes 40 = .ok (.ireturn, 1) := by decide +kernel
theorem dX11_minutes_41 : decode cX11_minutes 41 = .ok (.aload_n 0, 1) := by decide +kernel
theorem dX11_minutes_42 : decode cX11_minutes 42 = .ok (.getfield 33, 3) := by decide +kernel
theorem dX11_minutes_45 : decode cX11_minutes 45 = .ok (.getfield 100, 3) := by decide +kernel
theorem dX11_minutes_48 : decode cX11_minutes 48 = .ok (.iload_n 1, 1) := by decide +kernel
theorem dX11_minutes_49 : decode cX11_minutes 49 = .ok (.invokevirtual 183, 3) := by decide +kernel
theorem dX11_minutes_52 : decode cX11_minutes 52 = .ok (.ireturn, 1) := by decide +kernel
theorem dX11_fly_0 : decode cX11_fly 0 = .ok (.iload_n 1, 1) := by decide +kernel
theorem dX11_fly_1 : decode cX11_fly 1 = .ok (.invokestatic 150, 3) := by decide +kernel
theorem dX11_fly_4 : decode cX11_fly 4 = .ok (.ifCond .ne 9, 3) := by decide +kernel
theorem dX11_fly_7 : decode cX11_fly 7 = .ok (.aload_n 0, 1) := by decide +kernel
theorem dX11_fly_8 : decode cX11_fly 8 = .ok (.iconst 1, 1) := by decide +kernel
theorem dX11_fly_9 : decode cX11_fly 9 = .ok (.invokevirtual 96, 3) := by decide +kernel
theorem dX11_fly_12 : decode cX11_fly 12 = .ok (.ireturn, 1) := by decide +kernel
theorem dX11_fly_13 : decode cX11_fly 13 = .ok (.aload_n 0, 1) := by decide +kernel
theorem dX11_fly_14 : decode cX11_fly 14 = .ok (.getfield 33, 3) := by decide +kernel
theorem dX11_fly_17 : decode cX11_fly 17 = .ok (.getfield 100, 3) := by decide +kernel
theorem dX11_fly_20 : decode cX11_fly 20 = .ok (.iload_n 1, 1) := by decide +kernel
theorem dX11_fly_21 : decode cX11_fly 21 = .ok (.invokevirtual 186, 3) := by decide +kernel
theorem dX11_fly_24 : decode cX11_fly 24 = .ok (.ireturn, 1) := by decide +kernel
theorem dX11_poke_0 : decode cX11_poke 0 = .ok (.iload_n 1, 1) := by decide +kernel
theorem dX11_poke_1 : decode cX11_poke 1 = .ok (.invokestatic 88, 3) := by decide +kernel
theorem dX11_poke_4 : decode cX11_poke 4 = .ok (.ifCond .ne 9, 3) := by decide +kernel
theorem dX11_poke_7 : decode cX11_poke 7 = .ok (.aload_n 0, 1) := by decide +kernel
theorem dX11_poke_8 : decode cX11_poke 8 = .ok (.iconst 1, 1) := by decide +kernel
theorem dX11_poke_9 : decode cX11_poke 9 = .ok (.invokevirtual 96, 3) := by decide +kernel
theorem dX11_poke_12 : decode cX11_poke 12 = .ok (.ireturn, 1) := by decide +kernel
theorem dX11_poke_13 : decode cX11_poke 13 = .ok (.aload_n 0, 1) := by decide +kernel
theorem dX11_poke_14 : decode cX11_poke 14 = .ok (.getfield 33, 3) := by decide +kernel
theorem dX11_poke_17 : decode cX11_poke 17 = .ok (.getfield 100, 3) := by decide +kernel
theorem dX11_poke_20 : decode cX11_poke 20 = .ok (.iload_n 1, 1) := by decide +kernel
theorem dX11_poke_21 : decode cX11_poke 21 = .ok (.invokevirtual 127, 3) := by decide +kernel
theorem dX11_poke_24 : decode cX11_poke 24 = .ok (.ifCond .ne 9, 3) := by decide +kernel
theorem dX11_poke_27 : decode cX11_poke 27 = .ok (.aload_n 0, 1) := by decide +kernel
theorem dX11_poke_28 : decode cX11_poke 28 = .ok (.iconst 3, 1) := by decide +kernel
theorem dX11_poke_29 : decode cX11_poke 29 = .ok (.invokevirtual 96, 3) := by decide +kernel
theorem dX11_poke_32 : decode cX11_poke 32 = .ok (.ireturn, 1) := by decide +kernel
theorem dX11_poke_33 : decode cX11_poke 33 = .ok (.aload_n 0, 1) := by decide +kernel
theorem dX11_poke_34 : decode cX11_poke 34 = .ok (.getfield 33, 3) := by decide +kernel
theorem dX11_poke_37 : decode cX11_poke 37 = .ok (.getfield 100, 3) := by decide +kernel
theorem dX11_poke_40 : decode cX11_poke 40 = .ok (.iload_n 1, 1) := by decide +kernel
theorem dX11_poke_41 : decode cX11_poke 41 = .ok (.invokevirtual 189, 3) := by decide +kernel
theorem dX11_poke_44 : decode cX11_poke 44 = .ok (.ireturn, 1) := by decide +kernel
theorem dX11_draws_0 : decode cX11_draws 0 = .ok (.iload_n 1, 1) := by decide +kernel
theorem dX11_draws_1 : decode cX11_draws 1 = .ok (.iconst 1, 1) := by decide +kernel
theorem dX11_draws_2 : decode cX11_draws 2 = .ok (.bipush 60, 2) := by decide +kernel
theorem dX11_draws_4 : decode cX11_draws 4 = .ok (.invokestatic 92, 3) := by decide +kernel
theorem dX11_draws_7 : decode cX11_draws 7 = .ok (.ifCond .ne 9, 3) := by decide +kernel
theorem dX11_draws_10 : decode cX11_draws 10 = .ok (.aload_n 0, 1) := by decide +kernel
theorem dX11_draws_11 : decode cX11_draws 11 = .ok (.iconst 1, 1) := by decide +kernel
theorem dX11_draws_12 : decode cX11_draws 12 = .ok (.invokevirtual 96, 3) := by decide +kernel
theorem dX11_draws_15 : decode cX11_draws 15 = .ok (.ireturn, 1) := by decide +kernel
theorem dX11_draws_16 : decode cX11_draws 16 = .ok (.iconst 0, 1) := by decide +kernel
theorem dX11_draws_17 : decode cX11_draws 17 = .ok (.istore_n 2, 1) := by decide +kernel
theorem dX11_draws_18 : decode cX11_draws 18 = .ok (.iconst 0, 1) := by decide +kernel
theorem dX11_draws_19 : decode cX11_draws 19 = .ok (.istore_n 3, 1) := by decide +kernel
theorem dX11_draws_20 : decode cX11_draws 20 = .ok (.iload_n 3, 1) := by decide +kernel
theorem dX11_draws_21 : decode cX11_draws 21 = .ok (.iload_n 1, 1) := by decide +kernel
theorem dX11_draws_22 : decode cX11_draws 22 = .ok (.if_icmp .ge 32, 3) := by decide +kernel
theorem dX11_draws_25 : decode cX11_draws 25 = .ok (.iload_n 2, 1) := by decide +kernel
theorem dX11_draws_26 : decode cX11_draws 26 = .ok (.aload_n 0, 1) := by decide +kernel
theorem dX11_draws_27 : decode cX11_draws 27 = .ok (.getfield 33, 3) := by decide +kernel
theorem dX11_draws_30 : decode cX11_draws 30 = .ok (.getfield 100, 3) := by decide +kernel
theorem dX11_draws_33 : decode cX11_draws 33 = .ok (.aload_n 0, 1) := by decide +kernel
theorem dX11_draws_34 : decode cX11_draws 34 = .ok (.getfield 33, 3) := by decide +kernel
theorem dX11_draws_37 : decode cX11_draws 37 = .ok (.invokevirtual 192, 3) := by decide +kernel
theorem dX11_draws_40 : decode cX11_draws 40 = .ok (.bipush 9, 2) := by decide +kernel
theorem dX11_draws_42 : decode cX11_draws 42 = .ok (.irem, 1) := by decide +kernel
theorem dX11_draws_43 : decode cX11_draws 43 = .ok (.invokevirtual 186, 3) := by decide +kernel
theorem dX11_draws_46 : decode cX11_draws 46 = .ok (.iadd, 1) := by decide +kernel
theorem dX11_draws_47 : decode cX11_draws 47 = .ok (.istore_n 2, 1) := by decide +kernel
theorem dX11_draws_48 : decode cX11_draws 48 = .ok (.iinc 3 1, 3) := by decide +kernel
theorem dX11_draws_51 : decode cX11_draws 51 = .ok (.goto (-31), 3) := by decide +kernel
theorem dX11_draws_54 : decode cX11_draws 54 = .ok (.iload_n 2, 1) := by decide +kernel
theorem dX11_draws_55 : decode cX11_draws 55 = .ok (.ireturn, 1) := by decide +kernel
theorem dX11_seed_0 : decode cX11_seed 0 = .ok (.aload_n 0, 1) := by decide +kernel
theorem dX11_seed_1 : decode cX11_seed 1 = .ok (.getfield 33, 3) := by decide +kernel
theorem dX11_seed_4 : decode cX11_seed 4 = .ok (.getfield 195, 3) := by decide +kernel
theorem dX11_seed_7 : decode cX11_seed 7 = .ok (.istore_n 2, 1) := by decide +kernel
theorem dX11_seed_8 : decode cX11_seed 8 = .ok (.aload_n 0, 1) := by decide +kernel
theorem dX11_seed_9 : decode cX11_seed 9 = .ok (.getfield 33, 3) := by decide +kernel
theorem dX11_seed_12 : decode cX11_seed 12 = .ok (.iload_n 1, 1) := by decide +kernel
theorem dX11_seed_13 : decode cX11_seed 13 = .ok (.putfield 195, 3) := by decide +kernel
theorem dX11_seed_16 : decode cX11_seed 16 = .ok (.iload_n 2, 1) := by decide +kernel
theorem dX11_seed_17 : decode cX11_seed 17 = .ok (.ireturn, 1) := by decide +kernel
theorem dX11_then_0 : decode cX11_then 0 = .ok (.iload_n 1, 1) := by decide +kernel
theorem dX11_then_1 : decode cX11_then 1 = .ok (.iconst 0, 1) := by decide +kernel
theorem dX11_then_2 : decode cX11_then 2 = .ok (.sipush 200, 3) := by decide +kernel
theorem dX11_then_5 : decode cX11_then 5 = .ok (.invokestatic 92, 3) := by decide +kernel
theorem dX11_then_8 : decode cX11_then 8 = .ok (.ifCond .eq 19, 3) := by decide +kernel
theorem dX11_then_11 : decode cX11_then 11 = .ok (.iload_n 2, 1) := by decide +kernel
theorem dX11_then_12 : decode cX11_then 12 = .ok (.invokestatic 88, 3) := by decide +kernel
theorem dX11_then_15 : decode cX11_then 15 = .ok (.ifCond .eq 12, 3) := by decide +kernel
theorem dX11_then_18 : decode cX11_then 18 = .ok (.iload_n 3, 1) := by decide +kernel
theorem dX11_then_19 : decode cX11_then 19 = .ok (.iconst 2, 1) := by decide +kernel
theorem dX11_then_20 : decode cX11_then 20 = .ok (.iconst 4, 1) := by decide +kernel
theorem dX11_then_21 : decode cX11_then 21 = .ok (.invokestatic 92, 3) := by decide +kernel
theorem dX11_then_24 : decode cX11_then 24 = .ok (.ifCond .ne 9, 3) := by decide +kernel
theorem dX11_then_27 : decode cX11_then 27 = .ok (.aload_n 0, 1) := by decide +kernel
theorem dX11_then_28 : decode cX11_then 28 = .ok (.iconst 1, 1) := by decide +kernel
theorem dX11_then_29 : decode cX11_then 29 = .ok (.invokevirtual 96, 3) := by decide +kernel
theorem dX11_then_32 : decode cX11_then 32 = .ok (.ireturn, 1) := by decide +kernel
theorem dX11_then_33 : decode cX11_then 33 = .ok (.aload_n 0, 1) := by decide +kernel
theorem dX11_then_34 : decode cX11_then 34 = .ok (.iload_n 1, 1) := by decide +kernel
theorem dX11_then_35 : decode cX11_then 35 = .ok (.invokevirtual 198, 3) := by decide +kernel
theorem dX11_then_38 : decode cX11_then 38 = .ok (.aload_n 0, 1) := by decide +kernel
theorem dX11_then_39 : decode cX11_then 39 = .ok (.getfield 54, 3) := by decide +kernel
theorem dX11_then_42 : decode cX11_then 42 = .ok (.iload_n 2, 1) := by decide +kernel
theorem dX11_then_43 : decode cX11_then 43 = .ok (.iload_n 3, 1) := by decide +kernel
theorem dX11_then_44 : decode cX11_then 44 = .ok (.invokevirtual 115, 3) := by decide +kernel
theorem dX11_then_47 : decode cX11_then 47 = .ok (.ireturn, 1) := by decide +kernel
theorem dX11_standing_0 : decode cX11_standing 0 = .ok (.iload_n 1, 1) := by decide +kernel
theorem dX11_standing_1 : decode cX11_standing 1 = .ok (.iconst 0, 1) := by decide +kernel
theorem dX11_standing_2 : decode cX11_standing 2 = .ok (.sipush 200, 3) := by decide +kernel
theorem dX11_standing_5 : decode cX11_standing 5 = .ok (.invokestatic 92, 3) := by decide +kernel
theorem dX11_standing_8 : decode cX11_standing 8 = .ok (.ifCond .ne 9, 3) := by decide +kernel
theorem dX11_standing_11 : decode cX11_standing 11 = .ok (.aload_n 0, 1) := by decide +kernel
theorem dX11_standing_12 : decode cX11_standing 12 = .ok (.iconst 1, 1) := by decide +kernel
theorem dX11_standing_13 : decode cX11_standing 13 = .ok (.invokevirtual 96, 3) := by decide +kernel
theorem dX11_standing_16 : decode cX11_standing 16 = .ok (.ireturn, 1) := by decide +kernel
theorem dX11_standing_17 : decode cX11_standing 17 = .ok (.aload_n 0, 1) := by decide +kernel
theorem dX11_standing_18 : decode cX11_standing 18 = .ok (.iload_n 1, 1) := by decide +kernel
theorem dX11_standing_19 : decode cX11_standing 19 = .ok (.invokevirtual 198, 3) := by decide +kernel
theorem dX11_standing_22 : decode cX11_standing 22 = .ok (.aload_n 0, 1) := by decide +kernel
theorem dX11_standing_23 : decode cX11_standing 23 = .ok (.getfield 54, 3) := by decide +kernel
theorem dX11_standing_26 : decode cX11_standing 26 = .ok (.invokevirtual 202, 3) := by decide +kernel
theorem dX11_standing_29 : decode cX11_standing 29 = .ok (.ireturn, 1) := by decide +kernel
theorem dX11_lasts_0 : decode cX11_lasts 0 = .ok (.iload_n 1, 1) := by decide +kernel
theorem dX11_lasts_1 : decode cX11_lasts 1 = .ok (.invokestatic 88, 3) := by decide +kernel
