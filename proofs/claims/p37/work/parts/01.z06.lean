theorem dX12_joined_222 : decode cX12_joined 222 = .ok (.iload_n 2, 1) := by decide +kernel
theorem dX12_joined_223 : decode cX12_joined 223 = .ok (.ifCond .eq 7, 3) := by decide +kernel
theorem dX12_joined_226 : decode cX12_joined 226 = .ok (.iconst 1, 1) := by decide +kernel
theorem dX12_joined_227 : decode cX12_joined 227 = .ok (.goto 4, 3) := by decide +kernel
theorem dX12_joined_230 : decode cX12_joined 230 = .ok (.iconst 0, 1) := by decide +kernel
theorem dX12_joined_231 : decode cX12_joined 231 = .ok (.ireturn, 1) := by decide +kernel
theorem dX12_worked_0 : decode cX12_worked 0 = .ok (.bipush 53, 2) := by decide +kernel
theorem dX12_worked_2 : decode cX12_worked 2 = .ok (.bipush 125, 2) := by decide +kernel
theorem dX12_worked_4 : decode cX12_worked 4 = .ok (.iload_n 1, 1) := by decide +kernel
theorem dX12_worked_5 : decode cX12_worked 5 = .ok (.imul, 1) := by decide +kernel
theorem dX12_worked_6 : decode cX12_worked 6 = .ok (.iadd, 1) := by decide +kernel
theorem dX12_worked_7 : decode cX12_worked 7 = .ok (.istore_n 2, 1) := by decide +kernel
theorem dX12_worked_8 : decode cX12_worked 8 = .ok (.iconst 0, 1) := by decide +kernel
theorem dX12_worked_9 : decode cX12_worked 9 = .ok (.istore_n 3, 1) := by decide +kernel
theorem dX12_worked_10 : decode cX12_worked 10 = .ok (.iconst 0, 1) := by decide +kernel
theorem dX12_worked_11 : decode cX12_worked 11 = .ok (.istore 4, 2) := by decide +kernel
theorem dX12_worked_13 : decode cX12_worked 13 = .ok (.iload 4, 2) := by decide +kernel
theorem dX12_worked_15 : decode cX12_worked 15 = .ok (.aload_n 0, 1) := by decide +kernel
theorem dX12_worked_16 : decode cX12_worked 16 = .ok (.getfield 7, 3) := by decide +kernel
theorem dX12_worked_19 : decode cX12_worked 19 = .ok (.iload_n 2, 1) := by decide +kernel
theorem dX12_worked_20 : decode cX12_worked 20 = .ok (.iaload, 1) := by decide +kernel
theorem dX12_worked_21 : decode cX12_worked 21 = .ok (.if_icmp .ge 142, 3) := by decide +kernel
theorem dX12_worked_24 : decode cX12_worked 24 = .ok (.aload_n 0, 1) := by decide +kernel
theorem dX12_worked_25 : decode cX12_worked 25 = .ok (.getfield 7, 3) := by decide +kernel
theorem dX12_worked_28 : decode cX12_worked 28 = .ok (.iload_n 2, 1) := by decide +kernel
theorem dX12_worked_29 : decode cX12_worked 29 = .ok (.iconst 1, 1) := by decide +kernel
theorem dX12_worked_30 : decode cX12_worked 30 = .ok (.iadd, 1) := by decide +kernel
theorem dX12_worked_31 : decode cX12_worked 31 = .ok (.iconst 2, 1) := by decide +kernel
theorem dX12_worked_32 : decode cX12_worked 32 = .ok (.iload 4, 2) := by decide +kernel
theorem dX12_worked_34 : decode cX12_worked 34 = .ok (.imul, 1) := by decide +kernel
theorem dX12_worked_35 : decode cX12_worked 35 = .ok (.iadd, 1) := by decide +kernel
theorem dX12_worked_36 : decode cX12_worked 36 = .ok (.iaload, 1) := by decide +kernel
theorem dX12_worked_37 : decode cX12_worked 37 = .ok (.istore 5, 2) := by decide +kernel
theorem dX12_worked_39 : decode cX12_worked 39 = .ok (.aload_n 0, 1) := by decide +kernel
theorem dX12_worked_40 : decode cX12_worked 40 = .ok (.getfield 7, 3) := by decide +kernel
theorem dX12_worked_43 : decode cX12_worked 43 = .ok (.iload_n 2, 1) := by decide +kernel
theorem dX12_worked_44 : decode cX12_worked 44 = .ok (.iconst 2, 1) := by decide +kernel
theorem dX12_worked_45 : decode cX12_worked 45 = .ok (.iadd, 1) := by decide +kernel
theorem dX12_worked_46 : decode cX12_worked 46 = .ok (.iconst 2, 1) := by decide +kernel
theorem dX12_worked_47 : decode cX12_worked 47 = .ok (.iload 4, 2) := by decide +kernel
theorem dX12_worked_49 : decode cX12_worked 49 = .ok (.imul, 1) := by decide +kernel
theorem dX12_worked_50 : decode cX12_worked 50 = .ok (.iadd, 1) := by decide +kernel
theorem dX12_worked_51 : decode cX12_worked 51 = .ok (.iaload, 1) := by decide +kernel
theorem dX12_worked_52 : decode cX12_worked 52 = .ok (.istore 6, 2) := by decide +kernel
theorem dX12_worked_54 : decode cX12_worked 54 = .ok (.iload 5, 2) := by decide +kernel
theorem dX12_worked_56 : decode cX12_worked 56 = .ok (.ifCond .eq 9, 3) := by decide +kernel
theorem dX12_worked_59 : decode cX12_worked 59 = .ok (.iload 5, 2) := by decide +kernel
theorem dX12_worked_61 : decode cX12_worked 61 = .ok (.iconst 1, 1) := by decide +kernel
theorem dX12_worked_62 : decode cX12_worked 62 = .ok (.if_icmp .ne 32, 3) := by decide +kernel
theorem dX12_worked_65 : decode cX12_worked 65 = .ok (.aload_n 0, 1) := by decide +kernel
theorem dX12_worked_66 : decode cX12_worked 66 = .ok (.getfield 28, 3) := by decide +kernel
theorem dX12_worked_69 : decode cX12_worked 69 = .ok (.iload_n 3, 1) := by decide +kernel
theorem dX12_worked_70 : decode cX12_worked 70 = .ok (.iload 5, 2) := by decide +kernel
theorem dX12_worked_72 : decode cX12_worked 72 = .ok (.ifCond .ne 8, 3) := by decide +kernel
theorem dX12_worked_75 : decode cX12_worked 75 = .ok (.iload 6, 2) := by decide +kernel
theorem dX12_worked_77 : decode cX12_worked 77 = .ok (.goto 10, 3) := by decide +kernel
theorem dX12_worked_80 : decode cX12_worked 80 = .ok (.aload_n 0, 1) := by decide +kernel
theorem dX12_worked_81 : decode cX12_worked 81 = .ok (.getfield 25, 3) := by decide +kernel
theorem dX12_worked_84 : decode cX12_worked 84 = .ok (.iload 6, 2) := by decide +kernel
theorem dX12_worked_86 : decode cX12_worked 86 = .ok (.iaload, 1) := by decide +kernel
theorem dX12_worked_87 : decode cX12_worked 87 = .ok (.iastore, 1) := by decide +kernel
theorem dX12_worked_88 : decode cX12_worked 88 = .ok (.iinc 3 1, 3) := by decide +kernel
theorem dX12_worked_91 : decode cX12_worked 91 = .ok (.goto 66, 3) := by decide +kernel
theorem dX12_worked_94 : decode cX12_worked 94 = .ok (.iload 5, 2) := by decide +kernel
theorem dX12_worked_96 : decode cX12_worked 96 = .ok (.iconst 2, 1) := by decide +kernel
theorem dX12_worked_97 : decode cX12_worked 97 = .ok (.if_icmp .ne 30, 3) := by decide +kernel
theorem dX12_worked_100 : decode cX12_worked 100 = .ok (.aload_n 0, 1) := by decide +kernel
theorem dX12_worked_101 : decode cX12_worked 101 = .ok (.getfield 28, 3) := by decide +kernel
theorem dX12_worked_104 : decode cX12_worked 104 = .ok (.iload_n 3, 1) := by decide +kernel
theorem dX12_worked_105 : decode cX12_worked 105 = .ok (.iconst 1, 1) := by decide +kernel
theorem dX12_worked_106 : decode cX12_worked 106 = .ok (.isub, 1) := by decide +kernel
theorem dX12_worked_107 : decode cX12_worked 107 = .ok (.aload_n 0, 1) := by decide +kernel
theorem dX12_worked_108 : decode cX12_worked 108 = .ok (.getfield 28, 3) := by decide +kernel
theorem dX12_worked_111 : decode cX12_worked 111 = .ok (.iload_n 3, 1) := by decide +kernel
theorem dX12_worked_112 : decode cX12_worked 112 = .ok (.iconst 1, 1) := by decide +kernel
theorem dX12_worked_113 : decode cX12_worked 113 = .ok (.isub, 1) := by decide +kernel
theorem dX12_worked_114 : decode cX12_worked 114 = .ok (.iaload, 1) := by decide +kernel
theorem dX12_worked_115 : decode cX12_worked 115 = .ok (.ifCond .ne 7, 3) := by decide +kernel
theorem dX12_worked_118 : decode cX12_worked 118 = .ok (.iconst 1, 1) := by decide +kernel
theorem dX12_worked_119 : decode cX12_worked 119 = .ok (.goto 4, 3) := by decide +kernel
theorem dX12_worked_122 : decode cX12_worked 122 = .ok (.iconst 0, 1) := by decide +kernel
theorem dX12_worked_123 : decode cX12_worked 123 = .ok (.iastore, 1) := by decide +kernel
theorem dX12_worked_124 : decode cX12_worked 124 = .ok (.goto 33, 3) := by decide +kernel
theorem dX12_worked_127 : decode cX12_worked 127 = .ok (.iinc 3 (-1), 3) := by decide +kernel
theorem dX12_worked_130 : decode cX12_worked 130 = .ok (.aload_n 0, 1) := by decide +kernel
theorem dX12_worked_131 : decode cX12_worked 131 = .ok (.getfield 28, 3) := by decide +kernel
theorem dX12_worked_134 : decode cX12_worked 134 = .ok (.iload_n 3, 1) := by decide +kernel
theorem dX12_worked_135 : decode cX12_worked 135 = .ok (.iconst 1, 1) := by decide +kernel
theorem dX12_worked_136 : decode cX12_worked 136 = .ok (.isub, 1) := by decide +kernel
theorem dX12_worked_137 : decode cX12_worked 137 = .ok (.iload 6, 2) := by decide +kernel
theorem dX12_worked_139 : decode cX12_worked 139 = .ok (.aload_n 0, 1) := by decide +kernel
theorem dX12_worked_140 : decode cX12_worked 140 = .ok (.getfield 28, 3) := by decide +kernel
theorem dX12_worked_143 : decode cX12_worked 143 = .ok (.iload_n 3, 1) := by decide +kernel
theorem dX12_worked_144 : decode cX12_worked 144 = .ok (.iconst 1, 1) := by decide +kernel
theorem dX12_worked_145 : decode cX12_worked 145 = .ok (.isub, 1) := by decide +kernel
theorem dX12_worked_146 : decode cX12_worked 146 = .ok (.iaload, 1) := by decide +kernel
theorem dX12_worked_147 : decode cX12_worked 147 = .ok (.aload_n 0, 1) := by decide +kernel
theorem dX12_worked_148 : decode cX12_worked 148 = .ok (.getfield 28, 3) := by decide +kernel
theorem dX12_worked_151 : decode cX12_worked 151 = .ok (.iload_n 3, 1) := by decide +kernel
theorem dX12_worked_152 : decode cX12_worked 152 = .ok (.iaload, 1) := by decide +kernel
theorem dX12_worked_153 : decode cX12_worked 153 = .ok (.invokestatic 121, 3) := by decide +kernel
theorem dX12_worked_156 : decode cX12_worked 156 = .ok (.iastore, 1) := by decide +kernel
theorem dX12_worked_157 : decode cX12_worked 157 = .ok (.iinc 4 1, 3) := by decide +kernel
theorem dX12_worked_160 : decode cX12_worked 160 = .ok (.goto (-147), 3) := by decide +kernel
theorem dX12_worked_163 : decode cX12_worked 163 = .ok (.aload_n 0, 1) := by decide +kernel
theorem dX12_worked_164 : decode cX12_worked 164 = .ok (.getfield 28, 3) := by decide +kernel
theorem dX12_worked_167 : decode cX12_worked 167 = .ok (.iconst 0, 1) := by decide +kernel
theorem dX12_worked_168 : decode cX12_worked 168 = .ok (.iaload, 1) := by decide +kernel
theorem dX12_worked_169 : decode cX12_worked 169 = .ok (.ireturn, 1) := by decide +kernel
theorem dX12_spendsTold_0 : decode cX12_spendsTold 0 = .ok (.aload_n 0, 1) := by decide +kernel
theorem dX12_spendsTold_1 : decode cX12_spendsTold 1 = .ok (.iconst 0, 1) := by decide +kernel
theorem dX12_spendsTold_2 : decode cX12_spendsTold 2 = .ok (.invokevirtual 118, 3) := by decide +kernel
theorem dX12_spendsTold_5 : decode cX12_spendsTold 5 = .ok (.ifCond .ne 12, 3) := by decide +kernel
theorem dX12_spendsTold_8 : decode cX12_spendsTold 8 = .ok (.iconst 1, 1) := by decide +kernel
theorem dX12_spendsTold_9 : decode cX12_spendsTold 9 = .ok (.aload_n 0, 1) := by decide +kernel
theorem dX12_spendsTold_10 : decode cX12_spendsTold 10 = .ok (.getfield 7, 3) := by decide +kernel
theorem dX12_spendsTold_13 : decode cX12_spendsTold 13 = .ok (.iconst 1, 1) := by decide +kernel
theorem dX12_spendsTold_14 : decode cX12_spendsTold 14 = .ok (.iaload, 1) := by decide +kernel
theorem dX12_spendsTold_15 : decode cX12_spendsTold 15 = .ok (.iadd, 1) := by decide +kernel
theorem dX12_spendsTold_16 : decode cX12_spendsTold 16 = .ok (.ireturn, 1) := by decide +kernel
theorem dX12_spendsTold_17 : decode cX12_spendsTold 17 = .ok (.aload_n 0, 1) := by decide +kernel
theorem dX12_spendsTold_18 : decode cX12_spendsTold 18 = .ok (.getfield 25, 3) := by decide +kernel
theorem dX12_spendsTold_21 : decode cX12_spendsTold 21 = .ok (.bipush 115, 2) := by decide +kernel
theorem dX12_spendsTold_23 : decode cX12_spendsTold 23 = .ok (.aload_n 0, 1) := by decide +kernel
theorem dX12_spendsTold_24 : decode cX12_spendsTold 24 = .ok (.getfield 7, 3) := by decide +kernel
theorem dX12_spendsTold_27 : decode cX12_spendsTold 27 = .ok (.iconst 1, 1) := by decide +kernel
theorem dX12_spendsTold_28 : decode cX12_spendsTold 28 = .ok (.iaload, 1) := by decide +kernel
theorem dX12_spendsTold_29 : decode cX12_spendsTold 29 = .ok (.iastore, 1) := by decide +kernel
theorem dX12_spendsTold_30 : decode cX12_spendsTold 30 = .ok (.aload_n 0, 1) := by decide +kernel
theorem dX12_spendsTold_31 : decode cX12_spendsTold 31 = .ok (.getfield 25, 3) := by decide +kernel
theorem dX12_spendsTold_34 : decode cX12_spendsTold 34 = .ok (.bipush 112, 2) := by decide +kernel
theorem dX12_spendsTold_36 : decode cX12_spendsTold 36 = .ok (.aload_n 0, 1) := by decide +kernel
theorem dX12_spendsTold_37 : decode cX12_spendsTold 37 = .ok (.iload_n 1, 1) := by decide +kernel
theorem dX12_spendsTold_38 : decode cX12_spendsTold 38 = .ok (.iconst 3, 1) := by decide +kernel
theorem dX12_spendsTold_39 : decode cX12_spendsTold 39 = .ok (.invokevirtual 58, 3) := by decide +kernel
theorem dX12_spendsTold_42 : decode cX12_spendsTold 42 = .ok (.iastore, 1) := by decide +kernel
theorem dX12_spendsTold_43 : decode cX12_spendsTold 43 = .ok (.aload_n 0, 1) := by decide +kernel
theorem dX12_spendsTold_44 : decode cX12_spendsTold 44 = .ok (.getfield 25, 3) := by decide +kernel
theorem dX12_spendsTold_47 : decode cX12_spendsTold 47 = .ok (.bipush 109, 2) := by decide +kernel
theorem dX12_spendsTold_49 : decode cX12_spendsTold 49 = .ok (.aload_n 0, 1) := by decide +kernel
theorem dX12_spendsTold_50 : decode cX12_spendsTold 50 = .ok (.iload_n 1, 1) := by decide +kernel
theorem dX12_spendsTold_51 : decode cX12_spendsTold 51 = .ok (.iconst 1, 1) := by decide +kernel
theorem dX12_spendsTold_52 : decode cX12_spendsTold 52 = .ok (.invokevirtual 58, 3) := by decide +kernel
theorem dX12_spendsTold_55 : decode cX12_spendsTold 55 = .ok (.iastore, 1) := by decide +kernel
theorem dX12_spendsTold_56 : decode cX12_spendsTold 56 = .ok (.aload_n 0, 1) := by decide +kernel
theorem dX12_spendsTold_57 : decode cX12_spendsTold 57 = .ok (.iconst 0, 1) := by decide +kernel
theorem dX12_spendsTold_58 : decode cX12_spendsTold 58 = .ok (.invokevirtual 125, 3) := by decide +kernel
theorem dX12_spendsTold_61 : decode cX12_spendsTold 61 = .ok (.ireturn, 1) := by decide +kernel
theorem dX12_spends_0 : decode cX12_spends 0 = .ok (.aload_n 0, 1) := by decide +kernel
theorem dX12_spends_1 : decode cX12_spends 1 = .ok (.iload_n 1, 1) := by decide +kernel
theorem dX12_spends_2 : decode cX12_spends 2 = .ok (.iconst 1, 1) := by decide +kernel
theorem dX12_spends_3 : decode cX12_spends 3 = .ok (.invokevirtual 58, 3) := by decide +kernel
theorem dX12_spends_6 : decode cX12_spends 6 = .ok (.istore_n 2, 1) := by decide +kernel
theorem dX12_spends_7 : decode cX12_spends 7 = .ok (.iconst 1, 1) := by decide +kernel
theorem dX12_spends_8 : decode cX12_spends 8 = .ok (.aload_n 0, 1) := by decide +kernel
theorem dX12_spends_9 : decode cX12_spends 9 = .ok (.getfield 7, 3) := by decide +kernel
theorem dX12_spends_12 : decode cX12_spends 12 = .ok (.iconst 1, 1) := by decide +kernel
theorem dX12_spends_13 : decode cX12_spends 13 = .ok (.iaload, 1) := by decide +kernel
theorem dX12_spends_14 : decode cX12_spends 14 = .ok (.iadd, 1) := by decide +kernel
theorem dX12_spends_15 : decode cX12_spends 15 = .ok (.istore_n 3, 1) := by decide +kernel
theorem dX12_spends_16 : decode cX12_spends 16 = .ok (.aload_n 0, 1) := by decide +kernel
theorem dX12_spends_17 : decode cX12_spends 17 = .ok (.iload_n 1, 1) := by decide +kernel
theorem dX12_spends_18 : decode cX12_spends 18 = .ok (.iconst 0, 1) := by decide +kernel
theorem dX12_spends_19 : decode cX12_spends 19 = .ok (.invokevirtual 58, 3) := by decide +kernel
theorem dX12_spends_22 : decode cX12_spends 22 = .ok (.tableswitch 70 1 6 #[38, 43, 70, 52, 43, 61], 38) := by decide +kernel
theorem dX12_spends_60 : decode cX12_spends 60 = .ok (.iconst 1, 1) := by decide +kernel
theorem dX12_spends_61 : decode cX12_spends 61 = .ok (.istore_n 3, 1) := by decide +kernel
theorem dX12_spends_62 : decode cX12_spends 62 = .ok (.goto 30, 3) := by decide +kernel
theorem dX12_spends_65 : decode cX12_spends 65 = .ok (.iload_n 3, 1) := by decide +kernel
theorem dX12_spends_66 : decode cX12_spends 66 = .ok (.iload_n 2, 1) := by decide +kernel
theorem dX12_spends_67 : decode cX12_spends 67 = .ok (.iconst 2, 1) := by decide +kernel
theorem dX12_spends_68 : decode cX12_spends 68 = .ok (.idiv, 1) := by decide +kernel
theorem dX12_spends_69 : decode cX12_spends 69 = .ok (.isub, 1) := by decide +kernel
theorem dX12_spends_70 : decode cX12_spends 70 = .ok (.istore_n 3, 1) := by decide +kernel
theorem dX12_spends_71 : decode cX12_spends 71 = .ok (.goto 21, 3) := by decide +kernel
theorem dX12_spends_74 : decode cX12_spends 74 = .ok (.iconst 1, 1) := by decide +kernel
theorem dX12_spends_75 : decode cX12_spends 75 = .ok (.iload_n 2, 1) := by decide +kernel
theorem dX12_spends_76 : decode cX12_spends 76 = .ok (.iconst 3, 1) := by decide +kernel
theorem dX12_spends_77 : decode cX12_spends 77 = .ok (.irem, 1) := by decide +kernel
theorem dX12_spends_78 : decode cX12_spends 78 = .ok (.iadd, 1) := by decide +kernel
theorem dX12_spends_79 : decode cX12_spends 79 = .ok (.istore_n 3, 1) := by decide +kernel
theorem dX12_spends_80 : decode cX12_spends 80 = .ok (.goto 12, 3) := by decide +kernel
theorem dX12_spends_83 : decode cX12_spends 83 = .ok (.aload_n 0, 1) := by decide +kernel
theorem dX12_spends_84 : decode cX12_spends 84 = .ok (.iload_n 1, 1) := by decide +kernel
theorem dX12_spends_85 : decode cX12_spends 85 = .ok (.invokevirtual 128, 3) := by decide +kernel
theorem dX12_spends_88 : decode cX12_spends 88 = .ok (.istore_n 3, 1) := by decide +kernel
theorem dX12_spends_89 : decode cX12_spends 89 = .ok (.goto 3, 3) := by decide +kernel
theorem dX12_spends_92 : decode cX12_spends 92 = .ok (.iload_n 3, 1) := by decide +kernel
theorem dX12_spends_93 : decode cX12_spends 93 = .ok (.iconst 0, 1) := by decide +kernel
theorem dX12_spends_94 : decode cX12_spends 94 = .ok (.bipush 99, 2) := by decide +kernel
theorem dX12_spends_96 : decode cX12_spends 96 = .ok (.invokestatic 131, 3) := by decide +kernel
theorem dX12_spends_99 : decode cX12_spends 99 = .ok (.ireturn, 1) := by decide +kernel
theorem dX12_bite_0 : decode cX12_bite 0 = .ok (.aload_n 0, 1) := by decide +kernel
theorem dX12_bite_1 : decode cX12_bite 1 = .ok (.iload_n 1, 1) := by decide +kernel
theorem dX12_bite_2 : decode cX12_bite 2 = .ok (.iconst 0, 1) := by decide +kernel
theorem dX12_bite_3 : decode cX12_bite 3 = .ok (.invokevirtual 58, 3) := by decide +kernel
theorem dX12_bite_6 : decode cX12_bite 6 = .ok (.tableswitch 53 1 5 #[34, 53, 36, 48, 50], 34) := by decide +kernel
theorem dX12_bite_40 : decode cX12_bite 40 = .ok (.iconst 0, 1) := by decide +kernel
theorem dX12_bite_41 : decode cX12_bite 41 = .ok (.ireturn, 1) := by decide +kernel
theorem dX12_bite_42 : decode cX12_bite 42 = .ok (.bipush 10, 2) := by decide +kernel
theorem dX12_bite_44 : decode cX12_bite 44 = .ok (.iconst 3, 1) := by decide +kernel
theorem dX12_bite_45 : decode cX12_bite 45 = .ok (.aload_n 0, 1) := by decide +kernel
theorem dX12_bite_46 : decode cX12_bite 46 = .ok (.iload_n 1, 1) := by decide +kernel
theorem dX12_bite_47 : decode cX12_bite 47 = .ok (.iconst 1, 1) := by decide +kernel
theorem dX12_bite_48 : decode cX12_bite 48 = .ok (.invokevirtual 58, 3) := by decide +kernel
theorem dX12_bite_51 : decode cX12_bite 51 = .ok (.imul, 1) := by decide +kernel
theorem dX12_bite_52 : decode cX12_bite 52 = .ok (.iadd, 1) := by decide +kernel
theorem dX12_bite_53 : decode cX12_bite 53 = .ok (.ireturn, 1) := by decide +kernel
theorem dX12_bite_54 : decode cX12_bite 54 = .ok (.iconst 2, 1) := by decide +kernel
theorem dX12_bite_55 : decode cX12_bite 55 = .ok (.ireturn, 1) := by decide +kernel
theorem dX12_bite_56 : decode cX12_bite 56 = .ok (.bipush 20, 2) := by decide +kernel
theorem dX12_bite_58 : decode cX12_bite 58 = .ok (.ireturn, 1) := by decide +kernel
theorem dX12_bite_59 : decode cX12_bite 59 = .ok (.bipush 10, 2) := by decide +kernel
theorem dX12_bite_61 : decode cX12_bite 61 = .ok (.ireturn, 1) := by decide +kernel
theorem dX12_shaken_0 : decode cX12_shaken 0 = .ok (.iload_n 2, 1) := by decide +kernel
theorem dX12_shaken_1 : decode cX12_shaken 1 = .ok (.iconst 1, 1) := by decide +kernel
theorem dX12_shaken_2 : decode cX12_shaken 2 = .ok (.if_icmp .ne 8, 3) := by decide +kernel
theorem dX12_shaken_5 : decode cX12_shaken 5 = .ok (.bipush 8, 2) := by decide +kernel
theorem dX12_shaken_7 : decode cX12_shaken 7 = .ok (.goto 4, 3) := by decide +kernel
theorem dX12_shaken_10 : decode cX12_shaken 10 = .ok (.iconst 0, 1) := by decide +kernel
theorem dX12_shaken_11 : decode cX12_shaken 11 = .ok (.istore_n 3, 1) := by decide +kernel
theorem dX12_shaken_12 : decode cX12_shaken 12 = .ok (.aload_n 0, 1) := by decide +kernel
theorem dX12_shaken_13 : decode cX12_shaken 13 = .ok (.iconst 1, 1) := by decide +kernel
theorem dX12_shaken_14 : decode cX12_shaken 14 = .ok (.invokevirtual 118, 3) := by decide +kernel
theorem dX12_shaken_17 : decode cX12_shaken 17 = .ok (.ifCond .eq 43, 3) := by decide +kernel
theorem dX12_shaken_20 : decode cX12_shaken 20 = .ok (.aload_n 0, 1) := by decide +kernel
theorem dX12_shaken_21 : decode cX12_shaken 21 = .ok (.getfield 25, 3) := by decide +kernel
theorem dX12_shaken_24 : decode cX12_shaken 24 = .ok (.bipush 100, 2) := by decide +kernel
theorem dX12_shaken_26 : decode cX12_shaken 26 = .ok (.iload_n 2, 1) := by decide +kernel
theorem dX12_shaken_27 : decode cX12_shaken 27 = .ok (.iastore, 1) := by decide +kernel
theorem dX12_shaken_28 : decode cX12_shaken 28 = .ok (.aload_n 0, 1) := by decide +kernel
theorem dX12_shaken_29 : decode cX12_shaken 29 = .ok (.getfield 25, 3) := by decide +kernel
theorem dX12_shaken_32 : decode cX12_shaken 32 = .ok (.bipush 109, 2) := by decide +kernel
theorem dX12_shaken_34 : decode cX12_shaken 34 = .ok (.aload_n 0, 1) := by decide +kernel
theorem dX12_shaken_35 : decode cX12_shaken 35 = .ok (.iload_n 1, 1) := by decide +kernel
theorem dX12_shaken_36 : decode cX12_shaken 36 = .ok (.iconst 1, 1) := by decide +kernel
theorem dX12_shaken_37 : decode cX12_shaken 37 = .ok (.invokevirtual 58, 3) := by decide +kernel
theorem dX12_shaken_40 : decode cX12_shaken 40 = .ok (.iastore, 1) := by decide +kernel
theorem dX12_shaken_41 : decode cX12_shaken 41 = .ok (.aload_n 0, 1) := by decide +kernel
theorem dX12_shaken_42 : decode cX12_shaken 42 = .ok (.getfield 25, 3) := by decide +kernel
theorem dX12_shaken_45 : decode cX12_shaken 45 = .ok (.bipush 112, 2) := by decide +kernel
theorem dX12_shaken_47 : decode cX12_shaken 47 = .ok (.aload_n 0, 1) := by decide +kernel
theorem dX12_shaken_48 : decode cX12_shaken 48 = .ok (.iload_n 1, 1) := by decide +kernel
theorem dX12_shaken_49 : decode cX12_shaken 49 = .ok (.iconst 3, 1) := by decide +kernel
theorem dX12_shaken_50 : decode cX12_shaken 50 = .ok (.invokevirtual 58, 3) := by decide +kernel
theorem dX12_shaken_53 : decode cX12_shaken 53 = .ok (.iastore, 1) := by decide +kernel
theorem dX12_shaken_54 : decode cX12_shaken 54 = .ok (.aload_n 0, 1) := by decide +kernel
theorem dX12_shaken_55 : decode cX12_shaken 55 = .ok (.iconst 1, 1) := by decide +kernel
theorem dX12_shaken_56 : decode cX12_shaken 56 = .ok (.invokevirtual 125, 3) := by decide +kernel
theorem dX12_shaken_59 : decode cX12_shaken 59 = .ok (.istore_n 3, 1) := by decide +kernel
theorem dX12_shaken_60 : decode cX12_shaken 60 = .ok (.iload_n 3, 1) := by decide +kernel
theorem dX12_shaken_61 : decode cX12_shaken 61 = .ok (.iconst 0, 1) := by decide +kernel
theorem dX12_shaken_62 : decode cX12_shaken 62 = .ok (.bipush 99, 2) := by decide +kernel
theorem dX12_shaken_64 : decode cX12_shaken 64 = .ok (.invokestatic 131, 3) := by decide +kernel
theorem dX12_shaken_67 : decode cX12_shaken 67 = .ok (.ireturn, 1) := by decide +kernel
theorem dX12_loses_0 : decode cX12_loses 0 = .ok (.aload_n 0, 1) := by decide +kernel
theorem dX12_loses_1 : decode cX12_loses 1 = .ok (.iload_n 1, 1) := by decide +kernel
theorem dX12_loses_2 : decode cX12_loses 2 = .ok (.iconst 3, 1) := by decide +kernel
theorem dX12_loses_3 : decode cX12_loses 3 = .ok (.aload_n 0, 1) := by decide +kernel
theorem dX12_loses_4 : decode cX12_loses 4 = .ok (.iload_n 1, 1) := by decide +kernel
theorem dX12_loses_5 : decode cX12_loses 5 = .ok (.iconst 3, 1) := by decide +kernel
theorem dX12_loses_6 : decode cX12_loses 6 = .ok (.invokevirtual 58, 3) := by decide +kernel
theorem dX12_loses_9 : decode cX12_loses 9 = .ok (.iload_n 2, 1) := by decide +kernel
theorem dX12_loses_10 : decode cX12_loses 10 = .ok (.isub, 1) := by decide +kernel
theorem dX12_loses_11 : decode cX12_loses 11 = .ok (.iconst 0, 1) := by decide +kernel
theorem dX12_loses_12 : decode cX12_loses 12 = .ok (.sipush 999, 3) := by decide +kernel
theorem dX12_loses_15 : decode cX12_loses 15 = .ok (.invokestatic 131, 3) := by decide +kernel
theorem dX12_loses_18 : decode cX12_loses 18 = .ok (.invokevirtual 49, 3) := by decide +kernel
theorem dX12_loses_21 : decode cX12_loses 21 = .ok (.return_, 1) := by decide +kernel
theorem dX12_stirs_0 : decode cX12_stirs 0 = .ok (.aload_n 0, 1) := by decide +kernel
theorem dX12_stirs_1 : decode cX12_stirs 1 = .ok (.iload_n 1, 1) := by decide +kernel
theorem dX12_stirs_2 : decode cX12_stirs 2 = .ok (.iconst 4, 1) := by decide +kernel
theorem dX12_stirs_3 : decode cX12_stirs 3 = .ok (.aload_n 0, 1) := by decide +kernel
theorem dX12_stirs_4 : decode cX12_stirs 4 = .ok (.getfield 7, 3) := by decide +kernel
theorem dX12_stirs_7 : decode cX12_stirs 7 = .ok (.iconst 0, 1) := by decide +kernel
theorem dX12_stirs_8 : decode cX12_stirs 8 = .ok (.iaload, 1) := by decide +kernel
theorem dX12_stirs_9 : decode cX12_stirs 9 = .ok (.invokevirtual 49, 3) := by decide +kernel
theorem dX12_stirs_12 : decode cX12_stirs 12 = .ok (.iconst 0, 1) := by decide +kernel
theorem dX12_stirs_13 : decode cX12_stirs 13 = .ok (.istore_n 2, 1) := by decide +kernel
theorem dX12_stirs_14 : decode cX12_stirs 14 = .ok (.iload_n 2, 1) := by decide +kernel
theorem dX12_stirs_15 : decode cX12_stirs 15 = .ok (.bipush 9, 2) := by decide +kernel
theorem dX12_stirs_17 : decode cX12_stirs 17 = .ok (.if_icmp .ge 51, 3) := by decide +kernel
theorem dX12_stirs_20 : decode cX12_stirs 20 = .ok (.aload_n 0, 1) := by decide +kernel
theorem dX12_stirs_21 : decode cX12_stirs 21 = .ok (.iload_n 2, 1) := by decide +kernel
theorem dX12_stirs_22 : decode cX12_stirs 22 = .ok (.invokevirtual 62, 3) := by decide +kernel
theorem dX12_stirs_25 : decode cX12_stirs 25 = .ok (.ifCond .eq 37, 3) := by decide +kernel
theorem dX12_stirs_28 : decode cX12_stirs 28 = .ok (.aload_n 0, 1) := by decide +kernel
theorem dX12_stirs_29 : decode cX12_stirs 29 = .ok (.iload_n 2, 1) := by decide +kernel
theorem dX12_stirs_30 : decode cX12_stirs 30 = .ok (.iconst 2, 1) := by decide +kernel
theorem dX12_stirs_31 : decode cX12_stirs 31 = .ok (.invokevirtual 58, 3) := by decide +kernel
theorem dX12_stirs_34 : decode cX12_stirs 34 = .ok (.aload_n 0, 1) := by decide +kernel
theorem dX12_stirs_35 : decode cX12_stirs 35 = .ok (.iload_n 1, 1) := by decide +kernel
theorem dX12_stirs_36 : decode cX12_stirs 36 = .ok (.iconst 2, 1) := by decide +kernel
theorem dX12_stirs_37 : decode cX12_stirs 37 = .ok (.invokevirtual 58, 3) := by decide +kernel
theorem dX12_stirs_40 : decode cX12_stirs 40 = .ok (.isub, 1) := by decide +kernel
theorem dX12_stirs_41 : decode cX12_stirs 41 = .ok (.istore_n 3, 1) := by decide +kernel
theorem dX12_stirs_42 : decode cX12_stirs 42 = .ok (.aload_n 0, 1) := by decide +kernel
theorem dX12_stirs_43 : decode cX12_stirs 43 = .ok (.iload_n 2, 1) := by decide +kernel
theorem dX12_stirs_44 : decode cX12_stirs 44 = .ok (.aload_n 0, 1) := by decide +kernel
theorem dX12_stirs_45 : decode cX12_stirs 45 = .ok (.iload_n 2, 1) := by decide +kernel
theorem dX12_stirs_46 : decode cX12_stirs 46 = .ok (.iload_n 3, 1) := by decide +kernel
theorem dX12_stirs_47 : decode cX12_stirs 47 = .ok (.ifCond .ge 8, 3) := by decide +kernel
theorem dX12_stirs_50 : decode cX12_stirs 50 = .ok (.iload_n 3, 1) := by decide +kernel
theorem dX12_stirs_51 : decode cX12_stirs 51 = .ok (.ineg, 1) := by decide +kernel
theorem dX12_stirs_52 : decode cX12_stirs 52 = .ok (.goto 4, 3) := by decide +kernel
theorem dX12_stirs_55 : decode cX12_stirs 55 = .ok (.iload_n 3, 1) := by decide +kernel
theorem dX12_stirs_56 : decode cX12_stirs 56 = .ok (.invokevirtual 134, 3) := by decide +kernel
theorem dX12_stirs_59 : decode cX12_stirs 59 = .ok (.invokevirtual 137, 3) := by decide +kernel
theorem dX12_stirs_62 : decode cX12_stirs 62 = .ok (.iinc 2 1, 3) := by decide +kernel
theorem dX12_stirs_65 : decode cX12_stirs 65 = .ok (.goto (-51), 3) := by decide +kernel
theorem dX12_stirs_68 : decode cX12_stirs 68 = .ok (.return_, 1) := by decide +kernel
theorem dX12_settle_0 : decode cX12_settle 0 = .ok (.iconst 0, 1) := by decide +kernel
theorem dX12_settle_1 : decode cX12_settle 1 = .ok (.istore_n 1, 1) := by decide +kernel
theorem dX12_settle_2 : decode cX12_settle 2 = .ok (.iconst 0, 1) := by decide +kernel
theorem dX12_settle_3 : decode cX12_settle 3 = .ok (.istore_n 2, 1) := by decide +kernel
theorem dX12_settle_4 : decode cX12_settle 4 = .ok (.iload_n 2, 1) := by decide +kernel
theorem dX12_settle_5 : decode cX12_settle 5 = .ok (.bipush 9, 2) := by decide +kernel
theorem dX12_settle_7 : decode cX12_settle 7 = .ok (.if_icmp .ge 39, 3) := by decide +kernel
theorem dX12_settle_10 : decode cX12_settle 10 = .ok (.aload_n 0, 1) := by decide +kernel
theorem dX12_settle_11 : decode cX12_settle 11 = .ok (.iload_n 2, 1) := by decide +kernel
theorem dX12_settle_12 : decode cX12_settle 12 = .ok (.invokevirtual 62, 3) := by decide +kernel
theorem dX12_settle_15 : decode cX12_settle 15 = .ok (.ifCond .eq 25, 3) := by decide +kernel
theorem dX12_settle_18 : decode cX12_settle 18 = .ok (.aload_n 0, 1) := by decide +kernel
theorem dX12_settle_19 : decode cX12_settle 19 = .ok (.iload_n 2, 1) := by decide +kernel
theorem dX12_settle_20 : decode cX12_settle 20 = .ok (.iconst 3, 1) := by decide +kernel
theorem dX12_settle_21 : decode cX12_settle 21 = .ok (.invokevirtual 58, 3) := by decide +kernel
theorem dX12_settle_24 : decode cX12_settle 24 = .ok (.ifCond .ne 16, 3) := by decide +kernel
theorem dX12_settle_27 : decode cX12_settle 27 = .ok (.aload_n 0, 1) := by decide +kernel
theorem dX12_settle_28 : decode cX12_settle 28 = .ok (.iload_n 2, 1) := by decide +kernel
theorem dX12_settle_29 : decode cX12_settle 29 = .ok (.invokevirtual 140, 3) := by decide +kernel
theorem dX12_settle_32 : decode cX12_settle 32 = .ok (.iinc 1 1, 3) := by decide +kernel
theorem dX12_settle_35 : decode cX12_settle 35 = .ok (.iconst 0, 1) := by decide +kernel
theorem dX12_settle_36 : decode cX12_settle 36 = .ok (.istore_n 2, 1) := by decide +kernel
theorem dX12_settle_37 : decode cX12_settle 37 = .ok (.goto (-33), 3) := by decide +kernel
theorem dX12_settle_40 : decode cX12_settle 40 = .ok (.iinc 2 1, 3) := by decide +kernel
theorem dX12_settle_43 : decode cX12_settle 43 = .ok (.goto (-39), 3) := by decide +kernel
theorem dX12_settle_46 : decode cX12_settle 46 = .ok (.iload_n 1, 1) := by decide +kernel
theorem dX12_settle_47 : decode cX12_settle 47 = .ok (.ireturn, 1) := by decide +kernel
theorem dX12_minute_0 : decode cX12_minute 0 = .ok (.aload_n 0, 1) := by decide +kernel
theorem dX12_minute_1 : decode cX12_minute 1 = .ok (.getfield 7, 3) := by decide +kernel
theorem dX12_minute_4 : decode cX12_minute 4 = .ok (.iconst 0, 1) := by decide +kernel
theorem dX12_minute_5 : decode cX12_minute 5 = .ok (.dup2, 1) := by decide +kernel
theorem dX12_minute_6 : decode cX12_minute 6 = .ok (.iaload, 1) := by decide +kernel
theorem dX12_minute_7 : decode cX12_minute 7 = .ok (.iconst 1, 1) := by decide +kernel
theorem dX12_minute_8 : decode cX12_minute 8 = .ok (.iadd, 1) := by decide +kernel
theorem dX12_minute_9 : decode cX12_minute 9 = .ok (.iastore, 1) := by decide +kernel
theorem dX12_minute_10 : decode cX12_minute 10 = .ok (.iconst 0, 1) := by decide +kernel
theorem dX12_minute_11 : decode cX12_minute 11 = .ok (.istore_n 1, 1) := by decide +kernel
theorem dX12_minute_12 : decode cX12_minute 12 = .ok (.iload_n 1, 1) := by decide +kernel
theorem dX12_minute_13 : decode cX12_minute 13 = .ok (.bipush 9, 2) := by decide +kernel
theorem dX12_minute_15 : decode cX12_minute 15 = .ok (.if_icmp .ge 27, 3) := by decide +kernel
theorem dX12_minute_18 : decode cX12_minute 18 = .ok (.aload_n 0, 1) := by decide +kernel
theorem dX12_minute_19 : decode cX12_minute 19 = .ok (.iload_n 1, 1) := by decide +kernel
theorem dX12_minute_20 : decode cX12_minute 20 = .ok (.invokevirtual 62, 3) := by decide +kernel
theorem dX12_minute_23 : decode cX12_minute 23 = .ok (.ifCond .eq 13, 3) := by decide +kernel
theorem dX12_minute_26 : decode cX12_minute 26 = .ok (.aload_n 0, 1) := by decide +kernel
theorem dX12_minute_27 : decode cX12_minute 27 = .ok (.iload_n 1, 1) := by decide +kernel
theorem dX12_minute_28 : decode cX12_minute 28 = .ok (.aload_n 0, 1) := by decide +kernel
theorem dX12_minute_29 : decode cX12_minute 29 = .ok (.iload_n 1, 1) := by decide +kernel
theorem dX12_minute_30 : decode cX12_minute 30 = .ok (.invokevirtual 144, 3) := by decide +kernel
theorem dX12_minute_33 : decode cX12_minute 33 = .ok (.invokevirtual 137, 3) := by decide +kernel
theorem dX12_minute_36 : decode cX12_minute 36 = .ok (.iinc 1 1, 3) := by decide +kernel
theorem dX12_minute_39 : decode cX12_minute 39 = .ok (.goto (-27), 3) := by decide +kernel
theorem dX12_minute_42 : decode cX12_minute 42 = .ok (.aload_n 0, 1) := by decide +kernel
theorem dX12_minute_43 : decode cX12_minute 43 = .ok (.invokevirtual 147, 3) := by decide +kernel
theorem dX12_minute_46 : decode cX12_minute 46 = .ok (.ireturn, 1) := by decide +kernel
theorem dX12_flyAt_0 : decode cX12_flyAt 0 = .ok (.aload_n 0, 1) := by decide +kernel
theorem dX12_flyAt_1 : decode cX12_flyAt 1 = .ok (.iload_n 1, 1) := by decide +kernel
theorem dX12_flyAt_2 : decode cX12_flyAt 2 = .ok (.invokevirtual 150, 3) := by decide +kernel
theorem dX12_flyAt_5 : decode cX12_flyAt 5 = .ok (.istore_n 2, 1) := by decide +kernel
theorem dX12_flyAt_6 : decode cX12_flyAt 6 = .ok (.aload_n 0, 1) := by decide +kernel
theorem dX12_flyAt_7 : decode cX12_flyAt 7 = .ok (.iload_n 2, 1) := by decide +kernel
theorem dX12_flyAt_8 : decode cX12_flyAt 8 = .ok (.invokevirtual 62, 3) := by decide +kernel
theorem dX12_flyAt_11 : decode cX12_flyAt 11 = .ok (.ifCond .ne 5, 3) := by decide +kernel
theorem dX12_flyAt_14 : decode cX12_flyAt 14 = .ok (.iconst 0, 1) := by decide +kernel
theorem dX12_flyAt_15 : decode cX12_flyAt 15 = .ok (.ireturn, 1) := by decide +kernel
theorem dX12_flyAt_16 : decode cX12_flyAt 16 = .ok (.aload_n 0, 1) := by decide +kernel
theorem dX12_flyAt_17 : decode cX12_flyAt 17 = .ok (.iload_n 2, 1) := by decide +kernel
theorem dX12_flyAt_18 : decode cX12_flyAt 18 = .ok (.aload_n 0, 1) := by decide +kernel
theorem dX12_flyAt_19 : decode cX12_flyAt 19 = .ok (.iload_n 2, 1) := by decide +kernel
theorem dX12_flyAt_20 : decode cX12_flyAt 20 = .ok (.invokevirtual 153, 3) := by decide +kernel
theorem dX12_flyAt_23 : decode cX12_flyAt 23 = .ok (.invokevirtual 137, 3) := by decide +kernel
theorem dX12_flyAt_26 : decode cX12_flyAt 26 = .ok (.aload_n 0, 1) := by decide +kernel
theorem dX12_flyAt_27 : decode cX12_flyAt 27 = .ok (.invokevirtual 147, 3) := by decide +kernel
theorem dX12_flyAt_30 : decode cX12_flyAt 30 = .ok (.ireturn, 1) := by decide +kernel
theorem dX12_pokes_0 : decode cX12_pokes 0 = .ok (.aload_n 0, 1) := by decide +kernel
theorem dX12_pokes_1 : decode cX12_pokes 1 = .ok (.iload_n 1, 1) := by decide +kernel
theorem dX12_pokes_2 : decode cX12_pokes 2 = .ok (.iconst 3, 1) := by decide +kernel
theorem dX12_pokes_3 : decode cX12_pokes 3 = .ok (.iconst 0, 1) := by decide +kernel
theorem dX12_pokes_4 : decode cX12_pokes 4 = .ok (.invokevirtual 49, 3) := by decide +kernel
theorem dX12_pokes_7 : decode cX12_pokes 7 = .ok (.aload_n 0, 1) := by decide +kernel
theorem dX12_pokes_8 : decode cX12_pokes 8 = .ok (.invokevirtual 147, 3) := by decide +kernel
theorem dX12_pokes_11 : decode cX12_pokes 11 = .ok (.ireturn, 1) := by decide +kernel
theorem dX12_go_0 : decode cX12_go 0 = .ok (.iconst 0, 1) := by decide +kernel
theorem dX12_go_1 : decode cX12_go 1 = .ok (.istore_n 2, 1) := by decide +kernel
theorem dX12_go_2 : decode cX12_go 2 = .ok (.iconst 0, 1) := by decide +kernel
theorem dX12_go_3 : decode cX12_go 3 = .ok (.istore_n 3, 1) := by decide +kernel
theorem dX12_go_4 : decode cX12_go 4 = .ok (.iload_n 3, 1) := by decide +kernel
theorem dX12_go_5 : decode cX12_go 5 = .ok (.iload_n 1, 1) := by decide +kernel
theorem dX12_go_6 : decode cX12_go 6 = .ok (.if_icmp .ge 16, 3) := by decide +kernel
theorem dX12_go_9 : decode cX12_go 9 = .ok (.iload_n 2, 1) := by decide +kernel
theorem dX12_go_10 : decode cX12_go 10 = .ok (.aload_n 0, 1) := by decide +kernel
theorem dX12_go_11 : decode cX12_go 11 = .ok (.invokevirtual 156, 3) := by decide +kernel
theorem dX12_go_14 : decode cX12_go 14 = .ok (.iadd, 1) := by decide +kernel
theorem dX12_go_15 : decode cX12_go 15 = .ok (.istore_n 2, 1) := by decide +kernel
theorem dX12_go_16 : decode cX12_go 16 = .ok (.iinc 3 1, 3) := by decide +kernel
theorem dX12_go_19 : decode cX12_go 19 = .ok (.goto (-15), 3) := by decide +kernel
theorem dX12_go_22 : decode cX12_go 22 = .ok (.iload_n 2, 1) := by decide +kernel
theorem dX12_go_23 : decode cX12_go 23 = .ok (.ireturn, 1) := by decide +kernel
theorem dX12_stander_0 : decode cX12_stander 0 = .ok (.iload_n 1, 1) := by decide +kernel
theorem dX12_stander_1 : decode cX12_stander 1 = .ok (.invokestatic 159, 3) := by decide +kernel
theorem dX12_stander_4 : decode cX12_stander 4 = .ok (.ifCond .eq 13, 3) := by decide +kernel
theorem dX12_stander_7 : decode cX12_stander 7 = .ok (.iload_n 2, 1) := by decide +kernel
theorem dX12_stander_8 : decode cX12_stander 8 = .ok (.iconst 0, 1) := by decide +kernel
theorem dX12_stander_9 : decode cX12_stander 9 = .ok (.bipush 69, 2) := by decide +kernel
theorem dX12_stander_11 : decode cX12_stander 11 = .ok (.invokestatic 54, 3) := by decide +kernel
theorem dX12_stander_14 : decode cX12_stander 14 = .ok (.ifCond .ne 9, 3) := by decide +kernel
theorem dX12_stander_17 : decode cX12_stander 17 = .ok (.aload_n 0, 1) := by decide +kernel
theorem dX12_stander_18 : decode cX12_stander 18 = .ok (.iconst 1, 1) := by decide +kernel
theorem dX12_stander_19 : decode cX12_stander 19 = .ok (.invokevirtual 66, 3) := by decide +kernel
theorem dX12_stander_22 : decode cX12_stander 22 = .ok (.ireturn, 1) := by decide +kernel
theorem dX12_stander_23 : decode cX12_stander 23 = .ok (.bipush 10, 2) := by decide +kernel
theorem dX12_stander_25 : decode cX12_stander 25 = .ok (.aload_n 0, 1) := by decide +kernel
theorem dX12_stander_26 : decode cX12_stander 26 = .ok (.iload_n 1, 1) := by decide +kernel
theorem dX12_stander_27 : decode cX12_stander 27 = .ok (.iconst 0, 1) := by decide +kernel
theorem dX12_stander_28 : decode cX12_stander 28 = .ok (.invokevirtual 58, 3) := by decide +kernel
theorem dX12_stander_31 : decode cX12_stander 31 = .ok (.imul, 1) := by decide +kernel
theorem dX12_stander_32 : decode cX12_stander 32 = .ok (.aload_n 0, 1) := by decide +kernel
theorem dX12_stander_33 : decode cX12_stander 33 = .ok (.iload_n 1, 1) := by decide +kernel
theorem dX12_stander_34 : decode cX12_stander 34 = .ok (.iconst 1, 1) := by decide +kernel
theorem dX12_stander_35 : decode cX12_stander 35 = .ok (.invokevirtual 58, 3) := by decide +kernel
theorem dX12_stander_38 : decode cX12_stander 38 = .ok (.iadd, 1) := by decide +kernel
theorem dX12_stander_39 : decode cX12_stander 39 = .ok (.istore_n 3, 1) := by decide +kernel
theorem dX12_stander_40 : decode cX12_stander 40 = .ok (.aload_n 0, 1) := by decide +kernel
theorem dX12_stander_41 : decode cX12_stander 41 = .ok (.iload_n 1, 1) := by decide +kernel
theorem dX12_stander_42 : decode cX12_stander 42 = .ok (.iconst 0, 1) := by decide +kernel
theorem dX12_stander_43 : decode cX12_stander 43 = .ok (.iload_n 2, 1) := by decide +kernel
theorem dX12_stander_44 : decode cX12_stander 44 = .ok (.bipush 10, 2) := by decide +kernel
theorem dX12_stander_46 : decode cX12_stander 46 = .ok (.idiv, 1) := by decide +kernel
theorem dX12_stander_47 : decode cX12_stander 47 = .ok (.invokevirtual 49, 3) := by decide +kernel
theorem dX12_stander_50 : decode cX12_stander 50 = .ok (.aload_n 0, 1) := by decide +kernel
theorem dX12_stander_51 : decode cX12_stander 51 = .ok (.iload_n 1, 1) := by decide +kernel
theorem dX12_stander_52 : decode cX12_stander 52 = .ok (.iconst 1, 1) := by decide +kernel
theorem dX12_stander_53 : decode cX12_stander 53 = .ok (.iload_n 2, 1) := by decide +kernel
theorem dX12_stander_54 : decode cX12_stander 54 = .ok (.bipush 10, 2) := by decide +kernel
theorem dX12_stander_56 : decode cX12_stander 56 = .ok (.irem, 1) := by decide +kernel
theorem dX12_stander_57 : decode cX12_stander 57 = .ok (.invokevirtual 49, 3) := by decide +kernel
theorem dX12_stander_60 : decode cX12_stander 60 = .ok (.iload_n 3, 1) := by decide +kernel
theorem dX12_stander_61 : decode cX12_stander 61 = .ok (.ireturn, 1) := by decide +kernel
theorem dX12_standerIs_0 : decode cX12_standerIs 0 = .ok (.iload_n 1, 1) := by decide +kernel
theorem dX12_standerIs_1 : decode cX12_standerIs 1 = .ok (.invokestatic 159, 3) := by decide +kernel
theorem dX12_standerIs_4 : decode cX12_standerIs 4 = .ok (.ifCond .eq 13, 3) := by decide +kernel
theorem dX12_standerIs_7 : decode cX12_standerIs 7 = .ok (.iload_n 2, 1) := by decide +kernel
theorem dX12_standerIs_8 : decode cX12_standerIs 8 = .ok (.iconst 0, 1) := by decide +kernel
theorem dX12_standerIs_9 : decode cX12_standerIs 9 = .ok (.bipush 6, 2) := by decide +kernel
theorem dX12_standerIs_11 : decode cX12_standerIs 11 = .ok (.invokestatic 54, 3) := by decide +kernel
theorem dX12_standerIs_14 : decode cX12_standerIs 14 = .ok (.ifCond .ne 9, 3) := by decide +kernel
theorem dX12_standerIs_17 : decode cX12_standerIs 17 = .ok (.aload_n 0, 1) := by decide +kernel
theorem dX12_standerIs_18 : decode cX12_standerIs 18 = .ok (.iconst 1, 1) := by decide +kernel
theorem dX12_standerIs_19 : decode cX12_standerIs 19 = .ok (.invokevirtual 66, 3) := by decide +kernel
theorem dX12_standerIs_22 : decode cX12_standerIs 22 = .ok (.ireturn, 1) := by decide +kernel
theorem dX12_standerIs_23 : decode cX12_standerIs 23 = .ok (.iload_n 2, 1) := by decide +kernel
theorem dX12_standerIs_24 : decode cX12_standerIs 24 = .ok (.iconst 5, 1) := by decide +kernel
theorem dX12_standerIs_25 : decode cX12_standerIs 25 = .ok (.if_icmp .ge 12, 3) := by decide +kernel
theorem dX12_standerIs_28 : decode cX12_standerIs 28 = .ok (.aload_n 0, 1) := by decide +kernel
theorem dX12_standerIs_29 : decode cX12_standerIs 29 = .ok (.iload_n 1, 1) := by decide +kernel
theorem dX12_standerIs_30 : decode cX12_standerIs 30 = .ok (.iload_n 2, 1) := by decide +kernel
theorem dX12_standerIs_31 : decode cX12_standerIs 31 = .ok (.invokevirtual 58, 3) := by decide +kernel
theorem dX12_standerIs_34 : decode cX12_standerIs 34 = .ok (.goto 21, 3) := by decide +kernel
theorem dX12_standerIs_37 : decode cX12_standerIs 37 = .ok (.iload_n 2, 1) := by decide +kernel
theorem dX12_standerIs_38 : decode cX12_standerIs 38 = .ok (.iconst 5, 1) := by decide +kernel
theorem dX12_standerIs_39 : decode cX12_standerIs 39 = .ok (.if_icmp .ne 11, 3) := by decide +kernel
theorem dX12_standerIs_42 : decode cX12_standerIs 42 = .ok (.aload_n 0, 1) := by decide +kernel
theorem dX12_standerIs_43 : decode cX12_standerIs 43 = .ok (.iload_n 1, 1) := by decide +kernel
theorem dX12_standerIs_44 : decode cX12_standerIs 44 = .ok (.invokevirtual 144, 3) := by decide +kernel
theorem dX12_standerIs_47 : decode cX12_standerIs 47 = .ok (.goto 8, 3) := by decide +kernel
theorem dX12_standerIs_50 : decode cX12_standerIs 50 = .ok (.aload_n 0, 1) := by decide +kernel
theorem dX12_standerIs_51 : decode cX12_standerIs 51 = .ok (.iload_n 1, 1) := by decide +kernel
theorem dX12_standerIs_52 : decode cX12_standerIs 52 = .ok (.invokevirtual 153, 3) := by decide +kernel
theorem dX12_standerIs_55 : decode cX12_standerIs 55 = .ok (.ireturn, 1) := by decide +kernel
theorem dX12_isUnder_0 : decode cX12_isUnder 0 = .ok (.iload_n 1, 1) := by decide +kernel
theorem dX12_isUnder_1 : decode cX12_isUnder 1 = .ok (.ifCond .eq 28, 3) := by decide +kernel
theorem dX12_isUnder_4 : decode cX12_isUnder 4 = .ok (.iload_n 0, 1) := by decide +kernel
theorem dX12_isUnder_5 : decode cX12_isUnder 5 = .ok (.iload_n 1, 1) := by decide +kernel
theorem dX12_isUnder_6 : decode cX12_isUnder 6 = .ok (.if_icmp .eq 23, 3) := by decide +kernel
theorem dX12_isUnder_9 : decode cX12_isUnder 9 = .ok (.iload_n 1, 1) := by decide +kernel
theorem dX12_isUnder_10 : decode cX12_isUnder 10 = .ok (.iconst 1, 1) := by decide +kernel
theorem dX12_isUnder_11 : decode cX12_isUnder 11 = .ok (.if_icmp .ne 8, 3) := by decide +kernel
theorem dX12_isUnder_14 : decode cX12_isUnder 14 = .ok (.iload_n 0, 1) := by decide +kernel
theorem dX12_isUnder_15 : decode cX12_isUnder 15 = .ok (.iconst 4, 1) := by decide +kernel
theorem dX12_isUnder_16 : decode cX12_isUnder 16 = .ok (.if_icmp .eq 13, 3) := by decide +kernel
theorem dX12_isUnder_19 : decode cX12_isUnder 19 = .ok (.iload_n 1, 1) := by decide +kernel
theorem dX12_isUnder_20 : decode cX12_isUnder 20 = .ok (.iconst 2, 1) := by decide +kernel
theorem dX12_isUnder_21 : decode cX12_isUnder 21 = .ok (.if_icmp .ne 12, 3) := by decide +kernel
theorem dX12_isUnder_24 : decode cX12_isUnder 24 = .ok (.iload_n 0, 1) := by decide +kernel
theorem dX12_isUnder_25 : decode cX12_isUnder 25 = .ok (.iconst 5, 1) := by decide +kernel
theorem dX12_isUnder_26 : decode cX12_isUnder 26 = .ok (.if_icmp .ne 7, 3) := by decide +kernel
theorem dX12_isUnder_29 : decode cX12_isUnder 29 = .ok (.iconst 1, 1) := by decide +kernel
theorem dX12_isUnder_30 : decode cX12_isUnder 30 = .ok (.goto 4, 3) := by decide +kernel
theorem dX12_isUnder_33 : decode cX12_isUnder 33 = .ok (.iconst 0, 1) := by decide +kernel
theorem dX12_isUnder_34 : decode cX12_isUnder 34 = .ok (.ireturn, 1) := by decide +kernel
theorem dX12_as_0 : decode cX12_as 0 = .ok (.iload_n 1, 1) := by decide +kernel
theorem dX12_as_1 : decode cX12_as 1 = .ok (.invokestatic 159, 3) := by decide +kernel
theorem dX12_as_4 : decode cX12_as 4 = .ok (.ifCond .eq 13, 3) := by decide +kernel
theorem dX12_as_7 : decode cX12_as 7 = .ok (.iload_n 2, 1) := by decide +kernel
theorem dX12_as_8 : decode cX12_as 8 = .ok (.iconst 0, 1) := by decide +kernel
theorem dX12_as_9 : decode cX12_as 9 = .ok (.bipush 6, 2) := by decide +kernel
theorem dX12_as_11 : decode cX12_as 11 = .ok (.invokestatic 54, 3) := by decide +kernel
theorem dX12_as_14 : decode cX12_as 14 = .ok (.ifCond .ne 9, 3) := by decide +kernel
theorem dX12_as_17 : decode cX12_as 17 = .ok (.aload_n 0, 1) := by decide +kernel
theorem dX12_as_18 : decode cX12_as 18 = .ok (.iconst 1, 1) := by decide +kernel
theorem dX12_as_19 : decode cX12_as 19 = .ok (.invokevirtual 66, 3) := by decide +kernel
theorem dX12_as_22 : decode cX12_as 22 = .ok (.ireturn, 1) := by decide +kernel
theorem dX12_as_23 : decode cX12_as 23 = .ok (.aload_n 0, 1) := by decide +kernel
theorem dX12_as_24 : decode cX12_as 24 = .ok (.iload_n 1, 1) := by decide +kernel
theorem dX12_as_25 : decode cX12_as 25 = .ok (.iconst 0, 1) := by decide +kernel
theorem dX12_as_26 : decode cX12_as 26 = .ok (.invokevirtual 58, 3) := by decide +kernel
theorem dX12_as_29 : decode cX12_as 29 = .ok (.iload_n 2, 1) := by decide +kernel
theorem dX12_as_30 : decode cX12_as 30 = .ok (.invokestatic 162, 3) := by decide +kernel
theorem dX12_as_33 : decode cX12_as 33 = .ok (.ifCond .eq 12, 3) := by decide +kernel
theorem dX12_as_36 : decode cX12_as 36 = .ok (.aload_n 0, 1) := by decide +kernel
theorem dX12_as_37 : decode cX12_as 37 = .ok (.iload_n 1, 1) := by decide +kernel
theorem dX12_as_38 : decode cX12_as 38 = .ok (.iconst 1, 1) := by decide +kernel
theorem dX12_as_39 : decode cX12_as 39 = .ok (.invokevirtual 58, 3) := by decide +kernel
theorem dX12_as_42 : decode cX12_as 42 = .ok (.goto 8, 3) := by decide +kernel
theorem dX12_as_45 : decode cX12_as 45 = .ok (.aload_n 0, 1) := by decide +kernel
theorem dX12_as_46 : decode cX12_as 46 = .ok (.iconst 5, 1) := by decide +kernel
theorem dX12_as_47 : decode cX12_as 47 = .ok (.invokevirtual 66, 3) := by decide +kernel
theorem dX12_as_50 : decode cX12_as 50 = .ok (.ireturn, 1) := by decide +kernel
theorem dX12_patience_0 : decode cX12_patience 0 = .ok (.iload_n 1, 1) := by decide +kernel
theorem dX12_patience_1 : decode cX12_patience 1 = .ok (.invokestatic 159, 3) := by decide +kernel
theorem dX12_patience_4 : decode cX12_patience 4 = .ok (.ifCond .eq 14, 3) := by decide +kernel
theorem dX12_patience_7 : decode cX12_patience 7 = .ok (.iload_n 2, 1) := by decide +kernel
theorem dX12_patience_8 : decode cX12_patience 8 = .ok (.iconst 0, 1) := by decide +kernel
theorem dX12_patience_9 : decode cX12_patience 9 = .ok (.sipush 999, 3) := by decide +kernel
theorem dX12_patience_12 : decode cX12_patience 12 = .ok (.invokestatic 54, 3) := by decide +kernel
theorem dX12_patience_15 : decode cX12_patience 15 = .ok (.ifCond .ne 9, 3) := by decide +kernel
theorem dX12_patience_18 : decode cX12_patience 18 = .ok (.aload_n 0, 1) := by decide +kernel
theorem dX12_patience_19 : decode cX12_patience 19 = .ok (.iconst 1, 1) := by decide +kernel
theorem dX12_patience_20 : decode cX12_patience 20 = .ok (.invokevirtual 66, 3) := by decide +kernel
theorem dX12_patience_23 : decode cX12_patience 23 = .ok (.ireturn, 1) := by decide +kernel
theorem dX12_patience_24 : decode cX12_patience 24 = .ok (.aload_n 0, 1) := by decide +kernel
theorem dX12_patience_25 : decode cX12_patience 25 = .ok (.iload_n 1, 1) := by decide +kernel
theorem dX12_patience_26 : decode cX12_patience 26 = .ok (.invokevirtual 62, 3) := by decide +kernel
theorem dX12_patience_29 : decode cX12_patience 29 = .ok (.ifCond .ne 9, 3) := by decide +kernel
theorem dX12_patience_32 : decode cX12_patience 32 = .ok (.aload_n 0, 1) := by decide +kernel
theorem dX12_patience_33 : decode cX12_patience 33 = .ok (.iconst 3, 1) := by decide +kernel
theorem dX12_patience_34 : decode cX12_patience 34 = .ok (.invokevirtual 66, 3) := by decide +kernel
theorem dX12_patience_37 : decode cX12_patience 37 = .ok (.ireturn, 1) := by decide +kernel
theorem dX12_patience_38 : decode cX12_patience 38 = .ok (.aload_n 0, 1) := by decide +kernel
theorem dX12_patience_39 : decode cX12_patience 39 = .ok (.iload_n 1, 1) := by decide +kernel
theorem dX12_patience_40 : decode cX12_patience 40 = .ok (.iconst 3, 1) := by decide +kernel
theorem dX12_patience_41 : decode cX12_patience 41 = .ok (.invokevirtual 58, 3) := by decide +kernel
theorem dX12_patience_44 : decode cX12_patience 44 = .ok (.istore_n 3, 1) := by decide +kernel
theorem dX12_patience_45 : decode cX12_patience 45 = .ok (.aload_n 0, 1) := by decide +kernel
theorem dX12_patience_46 : decode cX12_patience 46 = .ok (.iload_n 1, 1) := by decide +kernel
theorem dX12_patience_47 : decode cX12_patience 47 = .ok (.iconst 3, 1) := by decide +kernel
theorem dX12_patience_48 : decode cX12_patience 48 = .ok (.iload_n 2, 1) := by decide +kernel
theorem dX12_patience_49 : decode cX12_patience 49 = .ok (.invokevirtual 49, 3) := by decide +kernel
theorem dX12_patience_52 : decode cX12_patience 52 = .ok (.aload_n 0, 1) := by decide +kernel
theorem dX12_patience_53 : decode cX12_patience 53 = .ok (.invokevirtual 147, 3) := by decide +kernel
theorem dX12_patience_56 : decode cX12_patience 56 = .ok (.istore 4, 2) := by decide +kernel
theorem dX12_patience_58 : decode cX12_patience 58 = .ok (.iload_n 3, 1) := by decide +kernel
theorem dX12_patience_59 : decode cX12_patience 59 = .ok (.ireturn, 1) := by decide +kernel
theorem dX12_swaps_0 : decode cX12_swaps 0 = .ok (.aload_n 0, 1) := by decide +kernel
theorem dX12_swaps_1 : decode cX12_swaps 1 = .ok (.iload_n 1, 1) := by decide +kernel
theorem dX12_swaps_2 : decode cX12_swaps 2 = .ok (.iconst 2, 1) := by decide +kernel
theorem dX12_swaps_3 : decode cX12_swaps 3 = .ok (.invokevirtual 58, 3) := by decide +kernel
theorem dX12_swaps_6 : decode cX12_swaps 6 = .ok (.istore_n 3, 1) := by decide +kernel
theorem dX12_swaps_7 : decode cX12_swaps 7 = .ok (.aload_n 0, 1) := by decide +kernel
theorem dX12_swaps_8 : decode cX12_swaps 8 = .ok (.iload_n 1, 1) := by decide +kernel
theorem dX12_swaps_9 : decode cX12_swaps 9 = .ok (.iconst 2, 1) := by decide +kernel
theorem dX12_swaps_10 : decode cX12_swaps 10 = .ok (.aload_n 0, 1) := by decide +kernel
theorem dX12_swaps_11 : decode cX12_swaps 11 = .ok (.iload_n 2, 1) := by decide +kernel
theorem dX12_swaps_12 : decode cX12_swaps 12 = .ok (.iconst 2, 1) := by decide +kernel
theorem dX12_swaps_13 : decode cX12_swaps 13 = .ok (.invokevirtual 58, 3) := by decide +kernel
theorem dX12_swaps_16 : decode cX12_swaps 16 = .ok (.invokevirtual 49, 3) := by decide +kernel
theorem dX12_swaps_19 : decode cX12_swaps 19 = .ok (.aload_n 0, 1) := by decide +kernel
theorem dX12_swaps_20 : decode cX12_swaps 20 = .ok (.iload_n 2, 1) := by decide +kernel
theorem dX12_swaps_21 : decode cX12_swaps 21 = .ok (.iconst 2, 1) := by decide +kernel
theorem dX12_swaps_22 : decode cX12_swaps 22 = .ok (.iload_n 3, 1) := by decide +kernel
theorem dX12_swaps_23 : decode cX12_swaps 23 = .ok (.invokevirtual 49, 3) := by decide +kernel
theorem dX12_swaps_26 : decode cX12_swaps 26 = .ok (.return_, 1) := by decide +kernel
theorem dX12_swap_0 : decode cX12_swap 0 = .ok (.iload_n 1, 1) := by decide +kernel
theorem dX12_swap_1 : decode cX12_swap 1 = .ok (.invokestatic 159, 3) := by decide +kernel
theorem dX12_swap_4 : decode cX12_swap 4 = .ok (.ifCond .eq 10, 3) := by decide +kernel
theorem dX12_swap_7 : decode cX12_swap 7 = .ok (.iload_n 2, 1) := by decide +kernel
theorem dX12_swap_8 : decode cX12_swap 8 = .ok (.invokestatic 159, 3) := by decide +kernel
theorem dX12_swap_11 : decode cX12_swap 11 = .ok (.ifCond .ne 9, 3) := by decide +kernel
theorem dX12_swap_14 : decode cX12_swap 14 = .ok (.aload_n 0, 1) := by decide +kernel
theorem dX12_swap_15 : decode cX12_swap 15 = .ok (.iconst 1, 1) := by decide +kernel
theorem dX12_swap_16 : decode cX12_swap 16 = .ok (.invokevirtual 66, 3) := by decide +kernel
theorem dX12_swap_19 : decode cX12_swap 19 = .ok (.ireturn, 1) := by decide +kernel
theorem dX12_swap_20 : decode cX12_swap 20 = .ok (.aload_n 0, 1) := by decide +kernel
theorem dX12_swap_21 : decode cX12_swap 21 = .ok (.iload_n 1, 1) := by decide +kernel
theorem dX12_swap_22 : decode cX12_swap 22 = .ok (.invokevirtual 62, 3) := by decide +kernel
theorem dX12_swap_25 : decode cX12_swap 25 = .ok (.ifCond .eq 11, 3) := by decide +kernel
theorem dX12_swap_28 : decode cX12_swap 28 = .ok (.aload_n 0, 1) := by decide +kernel
theorem dX12_swap_29 : decode cX12_swap 29 = .ok (.iload_n 2, 1) := by decide +kernel
theorem dX12_swap_30 : decode cX12_swap 30 = .ok (.invokevirtual 62, 3) := by decide +kernel
theorem dX12_swap_33 : decode cX12_swap 33 = .ok (.ifCond .ne 9, 3) := by decide +kernel
theorem dX12_swap_36 : decode cX12_swap 36 = .ok (.aload_n 0, 1) := by decide +kernel
theorem dX12_swap_37 : decode cX12_swap 37 = .ok (.iconst 3, 1) := by decide +kernel
theorem dX12_swap_38 : decode cX12_swap 38 = .ok (.invokevirtual 66, 3) := by decide +kernel
theorem dX12_swap_41 : decode cX12_swap 41 = .ok (.ireturn, 1) := by decide +kernel
theorem dX12_swap_42 : decode cX12_swap 42 = .ok (.aload_n 0, 1) := by decide +kernel
theorem dX12_swap_43 : decode cX12_swap 43 = .ok (.iload_n 1, 1) := by decide +kernel
theorem dX12_swap_44 : decode cX12_swap 44 = .ok (.iload_n 2, 1) := by decide +kernel
theorem dX12_swap_45 : decode cX12_swap 45 = .ok (.invokevirtual 166, 3) := by decide +kernel
theorem dX12_swap_48 : decode cX12_swap 48 = .ok (.aload_n 0, 1) := by decide +kernel
theorem dX12_swap_49 : decode cX12_swap 49 = .ok (.iload_n 1, 1) := by decide +kernel
theorem dX12_swap_50 : decode cX12_swap 50 = .ok (.iconst 2, 1) := by decide +kernel
theorem dX12_swap_51 : decode cX12_swap 51 = .ok (.invokevirtual 58, 3) := by decide +kernel
theorem dX12_swap_54 : decode cX12_swap 54 = .ok (.ireturn, 1) := by decide +kernel
theorem dX12_again_0 : decode cX12_again 0 = .ok (.iload_n 1, 1) := by decide +kernel
theorem dX12_again_1 : decode cX12_again 1 = .ok (.invokestatic 159, 3) := by decide +kernel
theorem dX12_again_4 : decode cX12_again 4 = .ok (.ifCond .eq 14, 3) := by decide +kernel
theorem dX12_again_7 : decode cX12_again 7 = .ok (.iload_n 2, 1) := by decide +kernel
theorem dX12_again_8 : decode cX12_again 8 = .ok (.iconst 1, 1) := by decide +kernel
theorem dX12_again_9 : decode cX12_again 9 = .ok (.sipush 999, 3) := by decide +kernel
theorem dX12_again_12 : decode cX12_again 12 = .ok (.invokestatic 54, 3) := by decide +kernel
theorem dX12_again_15 : decode cX12_again 15 = .ok (.ifCond .ne 9, 3) := by decide +kernel
theorem dX12_again_18 : decode cX12_again 18 = .ok (.aload_n 0, 1) := by decide +kernel
theorem dX12_again_19 : decode cX12_again 19 = .ok (.iconst 1, 1) := by decide +kernel
theorem dX12_again_20 : decode cX12_again 20 = .ok (.invokevirtual 66, 3) := by decide +kernel
theorem dX12_again_23 : decode cX12_again 23 = .ok (.ireturn, 1) := by decide +kernel
theorem dX12_again_24 : decode cX12_again 24 = .ok (.aload_n 0, 1) := by decide +kernel
theorem dX12_again_25 : decode cX12_again 25 = .ok (.iload_n 1, 1) := by decide +kernel
theorem dX12_again_26 : decode cX12_again 26 = .ok (.invokevirtual 62, 3) := by decide +kernel
theorem dX12_again_29 : decode cX12_again 29 = .ok (.ifCond .eq 9, 3) := by decide +kernel
theorem dX12_again_32 : decode cX12_again 32 = .ok (.aload_n 0, 1) := by decide +kernel
theorem dX12_again_33 : decode cX12_again 33 = .ok (.iconst 3, 1) := by decide +kernel
theorem dX12_again_34 : decode cX12_again 34 = .ok (.invokevirtual 66, 3) := by decide +kernel
theorem dX12_again_37 : decode cX12_again 37 = .ok (.ireturn, 1) := by decide +kernel
theorem dX12_again_38 : decode cX12_again 38 = .ok (.aload_n 0, 1) := by decide +kernel
theorem dX12_again_39 : decode cX12_again 39 = .ok (.iload_n 1, 1) := by decide +kernel
theorem dX12_again_40 : decode cX12_again 40 = .ok (.iconst 3, 1) := by decide +kernel
theorem dX12_again_41 : decode cX12_again 41 = .ok (.iload_n 2, 1) := by decide +kernel
theorem dX12_again_42 : decode cX12_again 42 = .ok (.invokevirtual 49, 3) := by decide +kernel
theorem dX12_again_45 : decode cX12_again 45 = .ok (.aload_n 0, 1) := by decide +kernel
theorem dX12_again_46 : decode cX12_again 46 = .ok (.iload_n 1, 1) := by decide +kernel
theorem dX12_again_47 : decode cX12_again 47 = .ok (.iconst 4, 1) := by decide +kernel
theorem dX12_again_48 : decode cX12_again 48 = .ok (.iconst (-1), 1) := by decide +kernel
theorem dX12_again_49 : decode cX12_again 49 = .ok (.invokevirtual 49, 3) := by decide +kernel
theorem dX12_again_52 : decode cX12_again 52 = .ok (.iconst 1, 1) := by decide +kernel
theorem dX12_again_53 : decode cX12_again 53 = .ok (.ireturn, 1) := by decide +kernel
theorem dX12_sun_0 : decode cX12_sun 0 = .ok (.iload_n 1, 1) := by decide +kernel
theorem dX12_sun_1 : decode cX12_sun 1 = .ok (.iconst 0, 1) := by decide +kernel
theorem dX12_sun_2 : decode cX12_sun 2 = .ok (.bipush 9, 2) := by decide +kernel
theorem dX12_sun_4 : decode cX12_sun 4 = .ok (.invokestatic 54, 3) := by decide +kernel
theorem dX12_sun_7 : decode cX12_sun 7 = .ok (.ifCond .eq 12, 3) := by decide +kernel
theorem dX12_sun_10 : decode cX12_sun 10 = .ok (.aload_n 0, 1) := by decide +kernel
theorem dX12_sun_11 : decode cX12_sun 11 = .ok (.iconst 1, 1) := by decide +kernel
theorem dX12_sun_12 : decode cX12_sun 12 = .ok (.iload_n 1, 1) := by decide +kernel
theorem dX12_sun_13 : decode cX12_sun 13 = .ok (.invokevirtual 169, 3) := by decide +kernel
theorem dX12_sun_16 : decode cX12_sun 16 = .ok (.goto 8, 3) := by decide +kernel
theorem dX12_sun_19 : decode cX12_sun 19 = .ok (.aload_n 0, 1) := by decide +kernel
theorem dX12_sun_20 : decode cX12_sun 20 = .ok (.iconst 1, 1) := by decide +kernel
theorem dX12_sun_21 : decode cX12_sun 21 = .ok (.invokevirtual 66, 3) := by decide +kernel
theorem dX12_sun_24 : decode cX12_sun 24 = .ok (.ireturn, 1) := by decide +kernel
theorem dX12_at_0 : decode cX12_at 0 = .ok (.iload_n 1, 1) := by decide +kernel
theorem dX12_at_1 : decode cX12_at 1 = .ok (.invokestatic 159, 3) := by decide +kernel
theorem dX12_at_4 : decode cX12_at 4 = .ok (.ifCond .eq 11, 3) := by decide +kernel
theorem dX12_at_7 : decode cX12_at 7 = .ok (.aload_n 0, 1) := by decide +kernel
theorem dX12_at_8 : decode cX12_at 8 = .ok (.iload_n 1, 1) := by decide +kernel
theorem dX12_at_9 : decode cX12_at 9 = .ok (.invokevirtual 150, 3) := by decide +kernel
theorem dX12_at_12 : decode cX12_at 12 = .ok (.goto 8, 3) := by decide +kernel
theorem dX12_at_15 : decode cX12_at 15 = .ok (.aload_n 0, 1) := by decide +kernel
theorem dX12_at_16 : decode cX12_at 16 = .ok (.iconst 1, 1) := by decide +kernel
theorem dX12_at_17 : decode cX12_at 17 = .ok (.invokevirtual 66, 3) := by decide +kernel
theorem dX12_at_20 : decode cX12_at 20 = .ok (.ireturn, 1) := by decide +kernel
theorem dX12_minutes_0 : decode cX12_minutes 0 = .ok (.iload_n 1, 1) := by decide +kernel
theorem dX12_minutes_1 : decode cX12_minutes 1 = .ok (.iconst 1, 1) := by decide +kernel
theorem dX12_minutes_2 : decode cX12_minutes 2 = .ok (.sipush 200, 3) := by decide +kernel
theorem dX12_minutes_5 : decode cX12_minutes 5 = .ok (.invokestatic 54, 3) := by decide +kernel
theorem dX12_minutes_8 : decode cX12_minutes 8 = .ok (.ifCond .ne 7, 3) := by decide +kernel
theorem dX12_minutes_11 : decode cX12_minutes 11 = .ok (.iconst 1, 1) := by decide +kernel
theorem dX12_minutes_12 : decode cX12_minutes 12 = .ok (.goto 22, 3) := by decide +kernel
theorem dX12_minutes_15 : decode cX12_minutes 15 = .ok (.aload_n 0, 1) := by decide +kernel
theorem dX12_minutes_16 : decode cX12_minutes 16 = .ok (.getfield 7, 3) := by decide +kernel
theorem dX12_minutes_19 : decode cX12_minutes 19 = .ok (.iconst 0, 1) := by decide +kernel
theorem dX12_minutes_20 : decode cX12_minutes 20 = .ok (.iaload, 1) := by decide +kernel
theorem dX12_minutes_21 : decode cX12_minutes 21 = .ok (.iload_n 1, 1) := by decide +kernel
theorem dX12_minutes_22 : decode cX12_minutes 22 = .ok (.iadd, 1) := by decide +kernel
theorem dX12_minutes_23 : decode cX12_minutes 23 = .ok (.sipush 9999, 3) := by decide +kernel
theorem dX12_minutes_26 : decode cX12_minutes 26 = .ok (.if_icmp .le 7, 3) := by decide +kernel
theorem dX12_minutes_29 : decode cX12_minutes 29 = .ok (.iconst 3, 1) := by decide +kernel
theorem dX12_minutes_30 : decode cX12_minutes 30 = .ok (.goto 4, 3) := by decide +kernel
theorem dX12_minutes_33 : decode cX12_minutes 33 = .ok (.iconst 0, 1) := by decide +kernel
theorem dX12_minutes_34 : decode cX12_minutes 34 = .ok (.istore_n 2, 1) := by decide +kernel
theorem dX12_minutes_35 : decode cX12_minutes 35 = .ok (.iload_n 2, 1) := by decide +kernel
theorem dX12_minutes_36 : decode cX12_minutes 36 = .ok (.ifCond .le 11, 3) := by decide +kernel
theorem dX12_minutes_39 : decode cX12_minutes 39 = .ok (.aload_n 0, 1) := by decide +kernel
theorem dX12_minutes_40 : decode cX12_minutes 40 = .ok (.iload_n 2, 1) := by decide +kernel
theorem dX12_minutes_41 : decode cX12_minutes 41 = .ok (.invokevirtual 66, 3) := by decide +kernel
theorem dX12_minutes_44 : decode cX12_minutes 44 = .ok (.goto 8, 3) := by decide +kernel
theorem dX12_minutes_47 : decode cX12_minutes 47 = .ok (.aload_n 0, 1) := by decide +kernel
theorem dX12_minutes_48 : decode cX12_minutes 48 = .ok (.iload_n 1, 1) := by decide +kernel
theorem dX12_minutes_49 : decode cX12_minutes 49 = .ok (.invokevirtual 172, 3) := by decide +kernel
theorem dX12_minutes_52 : decode cX12_minutes 52 = .ok (.ireturn, 1) := by decide +kernel
