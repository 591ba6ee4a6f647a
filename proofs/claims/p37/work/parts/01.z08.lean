theorem dX12_slate_36 : decode cX12_slate 36 = .ok (.iload_n 1, 1) := by decide +kernel
theorem dX12_slate_37 : decode cX12_slate 37 = .ok (.iaload, 1) := by decide +kernel
theorem dX12_slate_38 : decode cX12_slate 38 = .ok (.bipush 9, 2) := by decide +kernel
theorem dX12_slate_40 : decode cX12_slate 40 = .ok (.if_icmp .ge 10, 3) := by decide +kernel
theorem dX12_slate_43 : decode cX12_slate 43 = .ok (.aload_n 0, 1) := by decide +kernel
theorem dX12_slate_44 : decode cX12_slate 44 = .ok (.iconst 2, 1) := by decide +kernel
theorem dX12_slate_45 : decode cX12_slate 45 = .ok (.invokevirtual 66, 3) := by decide +kernel
theorem dX12_slate_48 : decode cX12_slate 48 = .ok (.i2l, 1) := by decide +kernel
theorem dX12_slate_49 : decode cX12_slate 49 = .ok (.lreturn, 1) := by decide +kernel
theorem dX12_slate_50 : decode cX12_slate 50 = .ok (.lconst 0, 1) := by decide +kernel
theorem dX12_slate_51 : decode cX12_slate 51 = .ok (.lstore_n 3, 1) := by decide +kernel
theorem dX12_slate_52 : decode cX12_slate 52 = .ok (.lconst 1, 1) := by decide +kernel
theorem dX12_slate_53 : decode cX12_slate 53 = .ok (.lstore 5, 2) := by decide +kernel
theorem dX12_slate_55 : decode cX12_slate 55 = .ok (.iconst 0, 1) := by decide +kernel
theorem dX12_slate_56 : decode cX12_slate 56 = .ok (.istore 7, 2) := by decide +kernel
theorem dX12_slate_58 : decode cX12_slate 58 = .ok (.iload 7, 2) := by decide +kernel
theorem dX12_slate_60 : decode cX12_slate 60 = .ok (.bipush 9, 2) := by decide +kernel
theorem dX12_slate_62 : decode cX12_slate 62 = .ok (.if_icmp .ge 79, 3) := by decide +kernel
theorem dX12_slate_65 : decode cX12_slate 65 = .ok (.aload_n 0, 1) := by decide +kernel
theorem dX12_slate_66 : decode cX12_slate 66 = .ok (.getfield 43, 3) := by decide +kernel
theorem dX12_slate_69 : decode cX12_slate 69 = .ok (.bipush 24, 2) := by decide +kernel
theorem dX12_slate_71 : decode cX12_slate 71 = .ok (.iload_n 1, 1) := by decide +kernel
theorem dX12_slate_72 : decode cX12_slate 72 = .ok (.imul, 1) := by decide +kernel
theorem dX12_slate_73 : decode cX12_slate 73 = .ok (.iload 7, 2) := by decide +kernel
theorem dX12_slate_75 : decode cX12_slate 75 = .ok (.iadd, 1) := by decide +kernel
theorem dX12_slate_76 : decode cX12_slate 76 = .ok (.iaload, 1) := by decide +kernel
theorem dX12_slate_77 : decode cX12_slate 77 = .ok (.istore 8, 2) := by decide +kernel
theorem dX12_slate_79 : decode cX12_slate 79 = .ok (.iload 8, 2) := by decide +kernel
theorem dX12_slate_81 : decode cX12_slate 81 = .ok (.iconst 1, 1) := by decide +kernel
theorem dX12_slate_82 : decode cX12_slate 82 = .ok (.bipush 99, 2) := by decide +kernel
theorem dX12_slate_84 : decode cX12_slate 84 = .ok (.invokestatic 54, 3) := by decide +kernel
theorem dX12_slate_87 : decode cX12_slate 87 = .ok (.ifCond .ne 11, 3) := by decide +kernel
theorem dX12_slate_90 : decode cX12_slate 90 = .ok (.aload_n 0, 1) := by decide +kernel
theorem dX12_slate_91 : decode cX12_slate 91 = .ok (.bipush 6, 2) := by decide +kernel
theorem dX12_slate_93 : decode cX12_slate 93 = .ok (.invokevirtual 66, 3) := by decide +kernel
theorem dX12_slate_96 : decode cX12_slate 96 = .ok (.i2l, 1) := by decide +kernel
theorem dX12_slate_97 : decode cX12_slate 97 = .ok (.lreturn, 1) := by decide +kernel
theorem dX12_slate_98 : decode cX12_slate 98 = .ok (.lload_n 3, 1) := by decide +kernel
theorem dX12_slate_99 : decode cX12_slate 99 = .ok (.iload 8, 2) := by decide +kernel
theorem dX12_slate_101 : decode cX12_slate 101 = .ok (.i2l, 1) := by decide +kernel
theorem dX12_slate_102 : decode cX12_slate 102 = .ok (.lmul, 1) := by decide +kernel
theorem dX12_slate_103 : decode cX12_slate 103 = .ok (.lload 5, 2) := by decide +kernel
theorem dX12_slate_105 : decode cX12_slate 105 = .ok (.ladd, 1) := by decide +kernel
theorem dX12_slate_106 : decode cX12_slate 106 = .ok (.lstore_n 3, 1) := by decide +kernel
theorem dX12_slate_107 : decode cX12_slate 107 = .ok (.lload 5, 2) := by decide +kernel
theorem dX12_slate_109 : decode cX12_slate 109 = .ok (.iload 8, 2) := by decide +kernel
theorem dX12_slate_111 : decode cX12_slate 111 = .ok (.i2l, 1) := by decide +kernel
theorem dX12_slate_112 : decode cX12_slate 112 = .ok (.lmul, 1) := by decide +kernel
theorem dX12_slate_113 : decode cX12_slate 113 = .ok (.lstore 5, 2) := by decide +kernel
theorem dX12_slate_115 : decode cX12_slate 115 = .ok (.lload_n 3, 1) := by decide +kernel
theorem dX12_slate_116 : decode cX12_slate 116 = .ok (.lload 5, 2) := by decide +kernel
theorem dX12_slate_118 : decode cX12_slate 118 = .ok (.invokestatic 206, 3) := by decide +kernel
theorem dX12_slate_121 : decode cX12_slate 121 = .ok (.lstore 9, 2) := by decide +kernel
theorem dX12_slate_123 : decode cX12_slate 123 = .ok (.lload_n 3, 1) := by decide +kernel
theorem dX12_slate_124 : decode cX12_slate 124 = .ok (.lload 9, 2) := by decide +kernel
theorem dX12_slate_126 : decode cX12_slate 126 = .ok (.ldiv, 1) := by decide +kernel
theorem dX12_slate_127 : decode cX12_slate 127 = .ok (.lstore_n 3, 1) := by decide +kernel
theorem dX12_slate_128 : decode cX12_slate 128 = .ok (.lload 5, 2) := by decide +kernel
theorem dX12_slate_130 : decode cX12_slate 130 = .ok (.lload 9, 2) := by decide +kernel
theorem dX12_slate_132 : decode cX12_slate 132 = .ok (.ldiv, 1) := by decide +kernel
theorem dX12_slate_133 : decode cX12_slate 133 = .ok (.lstore 5, 2) := by decide +kernel
theorem dX12_slate_135 : decode cX12_slate 135 = .ok (.iinc 7 1, 3) := by decide +kernel
theorem dX12_slate_138 : decode cX12_slate 138 = .ok (.goto (-80), 3) := by decide +kernel
theorem dX12_slate_141 : decode cX12_slate 141 = .ok (.iload_n 2, 1) := by decide +kernel
theorem dX12_slate_142 : decode cX12_slate 142 = .ok (.ifCond .ne 7, 3) := by decide +kernel
theorem dX12_slate_145 : decode cX12_slate 145 = .ok (.lload_n 3, 1) := by decide +kernel
theorem dX12_slate_146 : decode cX12_slate 146 = .ok (.goto 5, 3) := by decide +kernel
theorem dX12_slate_149 : decode cX12_slate 149 = .ok (.lload 5, 2) := by decide +kernel
theorem dX12_slate_151 : decode cX12_slate 151 = .ok (.lreturn, 1) := by decide +kernel
theorem dX12_begins_0 : decode cX12_begins 0 = .ok (.aload_n 0, 1) := by decide +kernel
theorem dX12_begins_1 : decode cX12_begins 1 = .ok (.getfield 210, 3) := by decide +kernel
theorem dX12_begins_4 : decode cX12_begins 4 = .ok (.bipush 30, 2) := by decide +kernel
theorem dX12_begins_6 : decode cX12_begins 6 = .ok (.if_icmp .ge 23, 3) := by decide +kernel
theorem dX12_begins_9 : decode cX12_begins 9 = .ok (.aload_n 0, 1) := by decide +kernel
theorem dX12_begins_10 : decode cX12_begins 10 = .ok (.getfield 34, 3) := by decide +kernel
theorem dX12_begins_13 : decode cX12_begins 13 = .ok (.aload_n 0, 1) := by decide +kernel
theorem dX12_begins_14 : decode cX12_begins 14 = .ok (.getfield 210, 3) := by decide +kernel
theorem dX12_begins_17 : decode cX12_begins 17 = .ok (.iload_n 1, 1) := by decide +kernel
theorem dX12_begins_18 : decode cX12_begins 18 = .ok (.iastore, 1) := by decide +kernel
theorem dX12_begins_19 : decode cX12_begins 19 = .ok (.aload_n 0, 1) := by decide +kernel
theorem dX12_begins_20 : decode cX12_begins 20 = .ok (.dup, 1) := by decide +kernel
theorem dX12_begins_21 : decode cX12_begins 21 = .ok (.getfield 210, 3) := by decide +kernel
theorem dX12_begins_24 : decode cX12_begins 24 = .ok (.iconst 1, 1) := by decide +kernel
theorem dX12_begins_25 : decode cX12_begins 25 = .ok (.iadd, 1) := by decide +kernel
theorem dX12_begins_26 : decode cX12_begins 26 = .ok (.putfield 210, 3) := by decide +kernel
theorem dX12_begins_29 : decode cX12_begins 29 = .ok (.return_, 1) := by decide +kernel
theorem dX12_above_0 : decode cX12_above 0 = .ok (.iload_n 0, 1) := by decide +kernel
theorem dX12_above_1 : decode cX12_above 1 = .ok (.iconst 4, 1) := by decide +kernel
theorem dX12_above_2 : decode cX12_above 2 = .ok (.if_icmp .ne 7, 3) := by decide +kernel
theorem dX12_above_5 : decode cX12_above 5 = .ok (.iconst 1, 1) := by decide +kernel
theorem dX12_above_6 : decode cX12_above 6 = .ok (.goto 13, 3) := by decide +kernel
theorem dX12_above_9 : decode cX12_above 9 = .ok (.iload_n 0, 1) := by decide +kernel
theorem dX12_above_10 : decode cX12_above 10 = .ok (.iconst 5, 1) := by decide +kernel
theorem dX12_above_11 : decode cX12_above 11 = .ok (.if_icmp .ne 7, 3) := by decide +kernel
theorem dX12_above_14 : decode cX12_above 14 = .ok (.iconst 2, 1) := by decide +kernel
theorem dX12_above_15 : decode cX12_above 15 = .ok (.goto 4, 3) := by decide +kernel
theorem dX12_above_18 : decode cX12_above 18 = .ok (.iconst 0, 1) := by decide +kernel
theorem dX12_above_19 : decode cX12_above 19 = .ok (.ireturn, 1) := by decide +kernel
theorem dX12_kindNow_0 : decode cX12_kindNow 0 = .ok (.aload_n 0, 1) := by decide +kernel
theorem dX12_kindNow_1 : decode cX12_kindNow 1 = .ok (.aload_n 0, 1) := by decide +kernel
theorem dX12_kindNow_2 : decode cX12_kindNow 2 = .ok (.getfield 213, 3) := by decide +kernel
theorem dX12_kindNow_5 : decode cX12_kindNow 5 = .ok (.iconst 0, 1) := by decide +kernel
theorem dX12_kindNow_6 : decode cX12_kindNow 6 = .ok (.invokevirtual 58, 3) := by decide +kernel
theorem dX12_kindNow_9 : decode cX12_kindNow 9 = .ok (.ireturn, 1) := by decide +kernel
theorem dX12_mNow_0 : decode cX12_mNow 0 = .ok (.aload_n 0, 1) := by decide +kernel
theorem dX12_mNow_1 : decode cX12_mNow 1 = .ok (.aload_n 0, 1) := by decide +kernel
theorem dX12_mNow_2 : decode cX12_mNow 2 = .ok (.getfield 213, 3) := by decide +kernel
theorem dX12_mNow_5 : decode cX12_mNow 5 = .ok (.iconst 1, 1) := by decide +kernel
theorem dX12_mNow_6 : decode cX12_mNow 6 = .ok (.invokevirtual 58, 3) := by decide +kernel
theorem dX12_mNow_9 : decode cX12_mNow 9 = .ok (.ireturn, 1) := by decide +kernel
theorem dX12_holdsAs_0 : decode cX12_holdsAs 0 = .ok (.iload_n 1, 1) := by decide +kernel
theorem dX12_holdsAs_1 : decode cX12_holdsAs 1 = .ok (.tableswitch 101 0 6 #[43, 56, 101, 101, 74, 101, 92], 43) := by decide +kernel
theorem dX12_holdsAs_44 : decode cX12_holdsAs 44 = .ok (.aload_n 0, 1) := by decide +kernel
theorem dX12_holdsAs_45 : decode cX12_holdsAs 45 = .ok (.bipush 10, 2) := by decide +kernel
theorem dX12_holdsAs_47 : decode cX12_holdsAs 47 = .ok (.invokevirtual 216, 3) := by decide +kernel
theorem dX12_holdsAs_50 : decode cX12_holdsAs 50 = .ok (.iload_n 2, 1) := by decide +kernel
theorem dX12_holdsAs_51 : decode cX12_holdsAs 51 = .ok (.aload_n 0, 1) := by decide +kernel
theorem dX12_holdsAs_52 : decode cX12_holdsAs 52 = .ok (.getfield 213, 3) := by decide +kernel
theorem dX12_holdsAs_55 : decode cX12_holdsAs 55 = .ok (.iadd, 1) := by decide +kernel
theorem dX12_holdsAs_56 : decode cX12_holdsAs 56 = .ok (.ireturn, 1) := by decide +kernel
theorem dX12_holdsAs_57 : decode cX12_holdsAs 57 = .ok (.aload_n 0, 1) := by decide +kernel
theorem dX12_holdsAs_58 : decode cX12_holdsAs 58 = .ok (.bipush 20, 2) := by decide +kernel
theorem dX12_holdsAs_60 : decode cX12_holdsAs 60 = .ok (.invokevirtual 216, 3) := by decide +kernel
theorem dX12_holdsAs_63 : decode cX12_holdsAs 63 = .ok (.aload_n 0, 1) := by decide +kernel
theorem dX12_holdsAs_64 : decode cX12_holdsAs 64 = .ok (.iconst 1, 1) := by decide +kernel
theorem dX12_holdsAs_65 : decode cX12_holdsAs 65 = .ok (.invokestatic 219, 3) := by decide +kernel
theorem dX12_holdsAs_68 : decode cX12_holdsAs 68 = .ok (.iload_n 2, 1) := by decide +kernel
theorem dX12_holdsAs_69 : decode cX12_holdsAs 69 = .ok (.invokevirtual 222, 3) := by decide +kernel
theorem dX12_holdsAs_72 : decode cX12_holdsAs 72 = .ok (.iconst 4, 1) := by decide +kernel
theorem dX12_holdsAs_73 : decode cX12_holdsAs 73 = .ok (.isub, 1) := by decide +kernel
theorem dX12_holdsAs_74 : decode cX12_holdsAs 74 = .ok (.ireturn, 1) := by decide +kernel
theorem dX12_holdsAs_75 : decode cX12_holdsAs 75 = .ok (.aload_n 0, 1) := by decide +kernel
theorem dX12_holdsAs_76 : decode cX12_holdsAs 76 = .ok (.bipush 50, 2) := by decide +kernel
theorem dX12_holdsAs_78 : decode cX12_holdsAs 78 = .ok (.invokevirtual 216, 3) := by decide +kernel
theorem dX12_holdsAs_81 : decode cX12_holdsAs 81 = .ok (.aload_n 0, 1) := by decide +kernel
theorem dX12_holdsAs_82 : decode cX12_holdsAs 82 = .ok (.iconst 4, 1) := by decide +kernel
theorem dX12_holdsAs_83 : decode cX12_holdsAs 83 = .ok (.invokestatic 219, 3) := by decide +kernel
theorem dX12_holdsAs_86 : decode cX12_holdsAs 86 = .ok (.iload_n 2, 1) := by decide +kernel
theorem dX12_holdsAs_87 : decode cX12_holdsAs 87 = .ok (.invokevirtual 222, 3) := by decide +kernel
theorem dX12_holdsAs_90 : decode cX12_holdsAs 90 = .ok (.iconst 3, 1) := by decide +kernel
theorem dX12_holdsAs_91 : decode cX12_holdsAs 91 = .ok (.imul, 1) := by decide +kernel
theorem dX12_holdsAs_92 : decode cX12_holdsAs 92 = .ok (.ireturn, 1) := by decide +kernel
theorem dX12_holdsAs_93 : decode cX12_holdsAs 93 = .ok (.aload_n 0, 1) := by decide +kernel
theorem dX12_holdsAs_94 : decode cX12_holdsAs 94 = .ok (.bipush 70, 2) := by decide +kernel
theorem dX12_holdsAs_96 : decode cX12_holdsAs 96 = .ok (.invokevirtual 216, 3) := by decide +kernel
theorem dX12_holdsAs_99 : decode cX12_holdsAs 99 = .ok (.bipush 9, 2) := by decide +kernel
theorem dX12_holdsAs_101 : decode cX12_holdsAs 101 = .ok (.ireturn, 1) := by decide +kernel
theorem dX12_holdsAs_102 : decode cX12_holdsAs 102 = .ok (.aload_n 0, 1) := by decide +kernel
theorem dX12_holdsAs_103 : decode cX12_holdsAs 103 = .ok (.iload_n 1, 1) := by decide +kernel
theorem dX12_holdsAs_104 : decode cX12_holdsAs 104 = .ok (.invokestatic 219, 3) := by decide +kernel
theorem dX12_holdsAs_107 : decode cX12_holdsAs 107 = .ok (.iload_n 2, 1) := by decide +kernel
theorem dX12_holdsAs_108 : decode cX12_holdsAs 108 = .ok (.invokevirtual 222, 3) := by decide +kernel
theorem dX12_holdsAs_111 : decode cX12_holdsAs 111 = .ok (.ireturn, 1) := by decide +kernel
theorem dX12_leansAs_0 : decode cX12_leansAs 0 = .ok (.iload_n 1, 1) := by decide +kernel
theorem dX12_leansAs_1 : decode cX12_leansAs 1 = .ok (.tableswitch 119 0 6 #[43, 119, 61, 119, 119, 79, 97], 43) := by decide +kernel
theorem dX12_leansAs_44 : decode cX12_leansAs 44 = .ok (.aload_n 0, 1) := by decide +kernel
theorem dX12_leansAs_45 : decode cX12_leansAs 45 = .ok (.bipush 11, 2) := by decide +kernel
theorem dX12_leansAs_47 : decode cX12_leansAs 47 = .ok (.invokevirtual 216, 3) := by decide +kernel
theorem dX12_leansAs_50 : decode cX12_leansAs 50 = .ok (.aload_n 0, 1) := by decide +kernel
theorem dX12_leansAs_51 : decode cX12_leansAs 51 = .ok (.aload_n 0, 1) := by decide +kernel
theorem dX12_leansAs_52 : decode cX12_leansAs 52 = .ok (.invokevirtual 225, 3) := by decide +kernel
theorem dX12_leansAs_55 : decode cX12_leansAs 55 = .ok (.iload_n 2, 1) := by decide +kernel
theorem dX12_leansAs_56 : decode cX12_leansAs 56 = .ok (.invokevirtual 222, 3) := by decide +kernel
theorem dX12_leansAs_59 : decode cX12_leansAs 59 = .ok (.iconst 2, 1) := by decide +kernel
theorem dX12_leansAs_60 : decode cX12_leansAs 60 = .ok (.imul, 1) := by decide +kernel
theorem dX12_leansAs_61 : decode cX12_leansAs 61 = .ok (.ireturn, 1) := by decide +kernel
theorem dX12_leansAs_62 : decode cX12_leansAs 62 = .ok (.aload_n 0, 1) := by decide +kernel
theorem dX12_leansAs_63 : decode cX12_leansAs 63 = .ok (.bipush 30, 2) := by decide +kernel
theorem dX12_leansAs_65 : decode cX12_leansAs 65 = .ok (.invokevirtual 216, 3) := by decide +kernel
theorem dX12_leansAs_68 : decode cX12_leansAs 68 = .ok (.iconst 0, 1) := by decide +kernel
theorem dX12_leansAs_69 : decode cX12_leansAs 69 = .ok (.aload_n 0, 1) := by decide +kernel
theorem dX12_leansAs_70 : decode cX12_leansAs 70 = .ok (.iconst 2, 1) := by decide +kernel
theorem dX12_leansAs_71 : decode cX12_leansAs 71 = .ok (.invokestatic 219, 3) := by decide +kernel
theorem dX12_leansAs_74 : decode cX12_leansAs 74 = .ok (.iload_n 2, 1) := by decide +kernel
theorem dX12_leansAs_75 : decode cX12_leansAs 75 = .ok (.invokevirtual 228, 3) := by decide +kernel
theorem dX12_leansAs_78 : decode cX12_leansAs 78 = .ok (.isub, 1) := by decide +kernel
theorem dX12_leansAs_79 : decode cX12_leansAs 79 = .ok (.ireturn, 1) := by decide +kernel
theorem dX12_leansAs_80 : decode cX12_leansAs 80 = .ok (.aload_n 0, 1) := by decide +kernel
theorem dX12_leansAs_81 : decode cX12_leansAs 81 = .ok (.bipush 60, 2) := by decide +kernel
theorem dX12_leansAs_83 : decode cX12_leansAs 83 = .ok (.invokevirtual 216, 3) := by decide +kernel
theorem dX12_leansAs_86 : decode cX12_leansAs 86 = .ok (.aload_n 0, 1) := by decide +kernel
theorem dX12_leansAs_87 : decode cX12_leansAs 87 = .ok (.iconst 5, 1) := by decide +kernel
theorem dX12_leansAs_88 : decode cX12_leansAs 88 = .ok (.invokestatic 219, 3) := by decide +kernel
theorem dX12_leansAs_91 : decode cX12_leansAs 91 = .ok (.iload_n 2, 1) := by decide +kernel
theorem dX12_leansAs_92 : decode cX12_leansAs 92 = .ok (.iconst 1, 1) := by decide +kernel
theorem dX12_leansAs_93 : decode cX12_leansAs 93 = .ok (.iadd, 1) := by decide +kernel
theorem dX12_leansAs_94 : decode cX12_leansAs 94 = .ok (.invokevirtual 228, 3) := by decide +kernel
theorem dX12_leansAs_97 : decode cX12_leansAs 97 = .ok (.ireturn, 1) := by decide +kernel
theorem dX12_leansAs_98 : decode cX12_leansAs 98 = .ok (.aload_n 0, 1) := by decide +kernel
theorem dX12_leansAs_99 : decode cX12_leansAs 99 = .ok (.bipush 71, 2) := by decide +kernel
theorem dX12_leansAs_101 : decode cX12_leansAs 101 = .ok (.invokevirtual 216, 3) := by decide +kernel
theorem dX12_leansAs_104 : decode cX12_leansAs 104 = .ok (.aload_n 0, 1) := by decide +kernel
theorem dX12_leansAs_105 : decode cX12_leansAs 105 = .ok (.bipush 6, 2) := by decide +kernel
theorem dX12_leansAs_107 : decode cX12_leansAs 107 = .ok (.invokestatic 219, 3) := by decide +kernel
theorem dX12_leansAs_110 : decode cX12_leansAs 110 = .ok (.iload_n 2, 1) := by decide +kernel
theorem dX12_leansAs_111 : decode cX12_leansAs 111 = .ok (.invokevirtual 228, 3) := by decide +kernel
theorem dX12_leansAs_114 : decode cX12_leansAs 114 = .ok (.aload_n 0, 1) := by decide +kernel
theorem dX12_leansAs_115 : decode cX12_leansAs 115 = .ok (.invokevirtual 231, 3) := by decide +kernel
theorem dX12_leansAs_118 : decode cX12_leansAs 118 = .ok (.iadd, 1) := by decide +kernel
theorem dX12_leansAs_119 : decode cX12_leansAs 119 = .ok (.ireturn, 1) := by decide +kernel
theorem dX12_leansAs_120 : decode cX12_leansAs 120 = .ok (.aload_n 0, 1) := by decide +kernel
theorem dX12_leansAs_121 : decode cX12_leansAs 121 = .ok (.iload_n 1, 1) := by decide +kernel
theorem dX12_leansAs_122 : decode cX12_leansAs 122 = .ok (.invokestatic 219, 3) := by decide +kernel
theorem dX12_leansAs_125 : decode cX12_leansAs 125 = .ok (.iload_n 2, 1) := by decide +kernel
theorem dX12_leansAs_126 : decode cX12_leansAs 126 = .ok (.invokevirtual 228, 3) := by decide +kernel
theorem dX12_leansAs_129 : decode cX12_leansAs 129 = .ok (.ireturn, 1) := by decide +kernel
theorem dX12_swaysAs_0 : decode cX12_swaysAs 0 = .ok (.iload_n 1, 1) := by decide +kernel
theorem dX12_swaysAs_1 : decode cX12_swaysAs 1 = .ok (.tableswitch 95 0 4 #[35, 95, 95, 56, 74], 35) := by decide +kernel
theorem dX12_swaysAs_36 : decode cX12_swaysAs 36 = .ok (.aload_n 0, 1) := by decide +kernel
theorem dX12_swaysAs_37 : decode cX12_swaysAs 37 = .ok (.bipush 12, 2) := by decide +kernel
theorem dX12_swaysAs_39 : decode cX12_swaysAs 39 = .ok (.invokevirtual 216, 3) := by decide +kernel
theorem dX12_swaysAs_42 : decode cX12_swaysAs 42 = .ok (.aload_n 0, 1) := by decide +kernel
theorem dX12_swaysAs_43 : decode cX12_swaysAs 43 = .ok (.aload_n 0, 1) := by decide +kernel
theorem dX12_swaysAs_44 : decode cX12_swaysAs 44 = .ok (.invokevirtual 225, 3) := by decide +kernel
theorem dX12_swaysAs_47 : decode cX12_swaysAs 47 = .ok (.iload_n 2, 1) := by decide +kernel
theorem dX12_swaysAs_48 : decode cX12_swaysAs 48 = .ok (.invokevirtual 228, 3) := by decide +kernel
theorem dX12_swaysAs_51 : decode cX12_swaysAs 51 = .ok (.aload_n 0, 1) := by decide +kernel
theorem dX12_swaysAs_52 : decode cX12_swaysAs 52 = .ok (.invokevirtual 231, 3) := by decide +kernel
theorem dX12_swaysAs_55 : decode cX12_swaysAs 55 = .ok (.isub, 1) := by decide +kernel
theorem dX12_swaysAs_56 : decode cX12_swaysAs 56 = .ok (.ireturn, 1) := by decide +kernel
theorem dX12_swaysAs_57 : decode cX12_swaysAs 57 = .ok (.aload_n 0, 1) := by decide +kernel
theorem dX12_swaysAs_58 : decode cX12_swaysAs 58 = .ok (.bipush 40, 2) := by decide +kernel
theorem dX12_swaysAs_60 : decode cX12_swaysAs 60 = .ok (.invokevirtual 216, 3) := by decide +kernel
theorem dX12_swaysAs_63 : decode cX12_swaysAs 63 = .ok (.aload_n 0, 1) := by decide +kernel
theorem dX12_swaysAs_64 : decode cX12_swaysAs 64 = .ok (.iconst 3, 1) := by decide +kernel
theorem dX12_swaysAs_65 : decode cX12_swaysAs 65 = .ok (.invokestatic 219, 3) := by decide +kernel
theorem dX12_swaysAs_68 : decode cX12_swaysAs 68 = .ok (.iload_n 2, 1) := by decide +kernel
theorem dX12_swaysAs_69 : decode cX12_swaysAs 69 = .ok (.iconst 2, 1) := by decide +kernel
theorem dX12_swaysAs_70 : decode cX12_swaysAs 70 = .ok (.idiv, 1) := by decide +kernel
theorem dX12_swaysAs_71 : decode cX12_swaysAs 71 = .ok (.invokevirtual 234, 3) := by decide +kernel
theorem dX12_swaysAs_74 : decode cX12_swaysAs 74 = .ok (.ireturn, 1) := by decide +kernel
theorem dX12_swaysAs_75 : decode cX12_swaysAs 75 = .ok (.aload_n 0, 1) := by decide +kernel
theorem dX12_swaysAs_76 : decode cX12_swaysAs 76 = .ok (.bipush 51, 2) := by decide +kernel
theorem dX12_swaysAs_78 : decode cX12_swaysAs 78 = .ok (.invokevirtual 216, 3) := by decide +kernel
theorem dX12_swaysAs_81 : decode cX12_swaysAs 81 = .ok (.aload_n 0, 1) := by decide +kernel
theorem dX12_swaysAs_82 : decode cX12_swaysAs 82 = .ok (.iconst 4, 1) := by decide +kernel
theorem dX12_swaysAs_83 : decode cX12_swaysAs 83 = .ok (.invokestatic 219, 3) := by decide +kernel
theorem dX12_swaysAs_86 : decode cX12_swaysAs 86 = .ok (.iload_n 2, 1) := by decide +kernel
theorem dX12_swaysAs_87 : decode cX12_swaysAs 87 = .ok (.invokevirtual 234, 3) := by decide +kernel
theorem dX12_swaysAs_90 : decode cX12_swaysAs 90 = .ok (.aload_n 0, 1) := by decide +kernel
theorem dX12_swaysAs_91 : decode cX12_swaysAs 91 = .ok (.getfield 213, 3) := by decide +kernel
theorem dX12_swaysAs_94 : decode cX12_swaysAs 94 = .ok (.ixor, 1) := by decide +kernel
theorem dX12_swaysAs_95 : decode cX12_swaysAs 95 = .ok (.ireturn, 1) := by decide +kernel
theorem dX12_swaysAs_96 : decode cX12_swaysAs 96 = .ok (.aload_n 0, 1) := by decide +kernel
theorem dX12_swaysAs_97 : decode cX12_swaysAs 97 = .ok (.iload_n 1, 1) := by decide +kernel
theorem dX12_swaysAs_98 : decode cX12_swaysAs 98 = .ok (.invokestatic 219, 3) := by decide +kernel
theorem dX12_swaysAs_101 : decode cX12_swaysAs 101 = .ok (.iload_n 2, 1) := by decide +kernel
theorem dX12_swaysAs_102 : decode cX12_swaysAs 102 = .ok (.invokevirtual 234, 3) := by decide +kernel
theorem dX12_swaysAs_105 : decode cX12_swaysAs 105 = .ok (.ireturn, 1) := by decide +kernel
theorem dX12_partsAs_0 : decode cX12_partsAs 0 = .ok (.iload_n 1, 1) := by decide +kernel
theorem dX12_partsAs_1 : decode cX12_partsAs 1 = .ok (.lookupswitch 119 #[(0, 27), (1, 78)], 27) := by decide +kernel
theorem dX12_partsAs_28 : decode cX12_partsAs 28 = .ok (.aload_n 0, 1) := by decide +kernel
theorem dX12_partsAs_29 : decode cX12_partsAs 29 = .ok (.bipush 13, 2) := by decide +kernel
theorem dX12_partsAs_31 : decode cX12_partsAs 31 = .ok (.invokevirtual 216, 3) := by decide +kernel
theorem dX12_partsAs_34 : decode cX12_partsAs 34 = .ok (.aload_n 0, 1) := by decide +kernel
theorem dX12_partsAs_35 : decode cX12_partsAs 35 = .ok (.invokevirtual 231, 3) := by decide +kernel
theorem dX12_partsAs_38 : decode cX12_partsAs 38 = .ok (.aload_n 0, 1) := by decide +kernel
theorem dX12_partsAs_39 : decode cX12_partsAs 39 = .ok (.getfield 213, 3) := by decide +kernel
theorem dX12_partsAs_42 : decode cX12_partsAs 42 = .ok (.isub, 1) := by decide +kernel
theorem dX12_partsAs_43 : decode cX12_partsAs 43 = .ok (.istore_n 3, 1) := by decide +kernel
theorem dX12_partsAs_44 : decode cX12_partsAs 44 = .ok (.aload_n 0, 1) := by decide +kernel
theorem dX12_partsAs_45 : decode cX12_partsAs 45 = .ok (.iload_n 3, 1) := by decide +kernel
theorem dX12_partsAs_46 : decode cX12_partsAs 46 = .ok (.ifCond .ne 7, 3) := by decide +kernel
theorem dX12_partsAs_49 : decode cX12_partsAs 49 = .ok (.iconst 1, 1) := by decide +kernel
theorem dX12_partsAs_50 : decode cX12_partsAs 50 = .ok (.goto 4, 3) := by decide +kernel
theorem dX12_partsAs_53 : decode cX12_partsAs 53 = .ok (.iconst 0, 1) := by decide +kernel
theorem dX12_partsAs_54 : decode cX12_partsAs 54 = .ok (.putfield 237, 3) := by decide +kernel
theorem dX12_partsAs_57 : decode cX12_partsAs 57 = .ok (.iload_n 3, 1) := by decide +kernel
theorem dX12_partsAs_58 : decode cX12_partsAs 58 = .ok (.ifCond .ne 7, 3) := by decide +kernel
theorem dX12_partsAs_61 : decode cX12_partsAs 61 = .ok (.iconst 0, 1) := by decide +kernel
theorem dX12_partsAs_62 : decode cX12_partsAs 62 = .ok (.goto 16, 3) := by decide +kernel
theorem dX12_partsAs_65 : decode cX12_partsAs 65 = .ok (.iload_n 3, 1) := by decide +kernel
theorem dX12_partsAs_66 : decode cX12_partsAs 66 = .ok (.iconst (-1), 1) := by decide +kernel
theorem dX12_partsAs_67 : decode cX12_partsAs 67 = .ok (.if_icmp .ne 8, 3) := by decide +kernel
theorem dX12_partsAs_70 : decode cX12_partsAs 70 = .ok (.iload_n 2, 1) := by decide +kernel
theorem dX12_partsAs_71 : decode cX12_partsAs 71 = .ok (.ineg, 1) := by decide +kernel
theorem dX12_partsAs_72 : decode cX12_partsAs 72 = .ok (.goto 6, 3) := by decide +kernel
theorem dX12_partsAs_75 : decode cX12_partsAs 75 = .ok (.iload_n 2, 1) := by decide +kernel
theorem dX12_partsAs_76 : decode cX12_partsAs 76 = .ok (.iload_n 3, 1) := by decide +kernel
theorem dX12_partsAs_77 : decode cX12_partsAs 77 = .ok (.idiv, 1) := by decide +kernel
theorem dX12_partsAs_78 : decode cX12_partsAs 78 = .ok (.ireturn, 1) := by decide +kernel
theorem dX12_partsAs_79 : decode cX12_partsAs 79 = .ok (.aload_n 0, 1) := by decide +kernel
theorem dX12_partsAs_80 : decode cX12_partsAs 80 = .ok (.bipush 21, 2) := by decide +kernel
theorem dX12_partsAs_82 : decode cX12_partsAs 82 = .ok (.invokevirtual 216, 3) := by decide +kernel
theorem dX12_partsAs_85 : decode cX12_partsAs 85 = .ok (.aload_n 0, 1) := by decide +kernel
theorem dX12_partsAs_86 : decode cX12_partsAs 86 = .ok (.iconst 1, 1) := by decide +kernel
theorem dX12_partsAs_87 : decode cX12_partsAs 87 = .ok (.invokestatic 219, 3) := by decide +kernel
theorem dX12_partsAs_90 : decode cX12_partsAs 90 = .ok (.iload_n 2, 1) := by decide +kernel
theorem dX12_partsAs_91 : decode cX12_partsAs 91 = .ok (.invokevirtual 241, 3) := by decide +kernel
theorem dX12_partsAs_94 : decode cX12_partsAs 94 = .ok (.istore 4, 2) := by decide +kernel
theorem dX12_partsAs_96 : decode cX12_partsAs 96 = .ok (.aload_n 0, 1) := by decide +kernel
theorem dX12_partsAs_97 : decode cX12_partsAs 97 = .ok (.getfield 237, 3) := by decide +kernel
theorem dX12_partsAs_100 : decode cX12_partsAs 100 = .ok (.ifCond .eq 7, 3) := by decide +kernel
theorem dX12_partsAs_103 : decode cX12_partsAs 103 = .ok (.iconst 0, 1) := by decide +kernel
theorem dX12_partsAs_104 : decode cX12_partsAs 104 = .ok (.goto 15, 3) := by decide +kernel
theorem dX12_partsAs_107 : decode cX12_partsAs 107 = .ok (.iload 4, 2) := by decide +kernel
theorem dX12_partsAs_109 : decode cX12_partsAs 109 = .ok (.aload_n 0, 1) := by decide +kernel
theorem dX12_partsAs_110 : decode cX12_partsAs 110 = .ok (.aload_n 0, 1) := by decide +kernel
theorem dX12_partsAs_111 : decode cX12_partsAs 111 = .ok (.invokevirtual 225, 3) := by decide +kernel
theorem dX12_partsAs_114 : decode cX12_partsAs 114 = .ok (.iconst 1, 1) := by decide +kernel
theorem dX12_partsAs_115 : decode cX12_partsAs 115 = .ok (.invokevirtual 228, 3) := by decide +kernel
theorem dX12_partsAs_118 : decode cX12_partsAs 118 = .ok (.iadd, 1) := by decide +kernel
theorem dX12_partsAs_119 : decode cX12_partsAs 119 = .ok (.ireturn, 1) := by decide +kernel
theorem dX12_partsAs_120 : decode cX12_partsAs 120 = .ok (.aload_n 0, 1) := by decide +kernel
theorem dX12_partsAs_121 : decode cX12_partsAs 121 = .ok (.iload_n 1, 1) := by decide +kernel
theorem dX12_partsAs_122 : decode cX12_partsAs 122 = .ok (.invokestatic 219, 3) := by decide +kernel
theorem dX12_partsAs_125 : decode cX12_partsAs 125 = .ok (.iload_n 2, 1) := by decide +kernel
theorem dX12_partsAs_126 : decode cX12_partsAs 126 = .ok (.invokevirtual 241, 3) := by decide +kernel
theorem dX12_partsAs_129 : decode cX12_partsAs 129 = .ok (.ireturn, 1) := by decide +kernel
theorem dX12_voice_0 : decode cX12_voice 0 = .ok (.iload_n 1, 1) := by decide +kernel
theorem dX12_voice_1 : decode cX12_voice 1 = .ok (.invokestatic 159, 3) := by decide +kernel
theorem dX12_voice_4 : decode cX12_voice 4 = .ok (.ifCond .eq 12, 3) := by decide +kernel
theorem dX12_voice_7 : decode cX12_voice 7 = .ok (.iload_n 2, 1) := by decide +kernel
theorem dX12_voice_8 : decode cX12_voice 8 = .ok (.iconst 0, 1) := by decide +kernel
theorem dX12_voice_9 : decode cX12_voice 9 = .ok (.iconst 3, 1) := by decide +kernel
theorem dX12_voice_10 : decode cX12_voice 10 = .ok (.invokestatic 54, 3) := by decide +kernel
theorem dX12_voice_13 : decode cX12_voice 13 = .ok (.ifCond .ne 9, 3) := by decide +kernel
theorem dX12_voice_16 : decode cX12_voice 16 = .ok (.aload_n 0, 1) := by decide +kernel
theorem dX12_voice_17 : decode cX12_voice 17 = .ok (.iconst 1, 1) := by decide +kernel
theorem dX12_voice_18 : decode cX12_voice 18 = .ok (.invokevirtual 66, 3) := by decide +kernel
theorem dX12_voice_21 : decode cX12_voice 21 = .ok (.ireturn, 1) := by decide +kernel
theorem dX12_voice_22 : decode cX12_voice 22 = .ok (.aload_n 0, 1) := by decide +kernel
theorem dX12_voice_23 : decode cX12_voice 23 = .ok (.iconst 0, 1) := by decide +kernel
theorem dX12_voice_24 : decode cX12_voice 24 = .ok (.putfield 210, 3) := by decide +kernel
theorem dX12_voice_27 : decode cX12_voice 27 = .ok (.aload_n 0, 1) := by decide +kernel
theorem dX12_voice_28 : decode cX12_voice 28 = .ok (.iload_n 1, 1) := by decide +kernel
theorem dX12_voice_29 : decode cX12_voice 29 = .ok (.putfield 213, 3) := by decide +kernel
theorem dX12_voice_32 : decode cX12_voice 32 = .ok (.aload_n 0, 1) := by decide +kernel
theorem dX12_voice_33 : decode cX12_voice 33 = .ok (.iconst 0, 1) := by decide +kernel
theorem dX12_voice_34 : decode cX12_voice 34 = .ok (.putfield 237, 3) := by decide +kernel
theorem dX12_voice_37 : decode cX12_voice 37 = .ok (.aload_n 0, 1) := by decide +kernel
theorem dX12_voice_38 : decode cX12_voice 38 = .ok (.invokevirtual 225, 3) := by decide +kernel
theorem dX12_voice_41 : decode cX12_voice 41 = .ok (.istore 4, 2) := by decide +kernel
theorem dX12_voice_43 : decode cX12_voice 43 = .ok (.iload_n 2, 1) := by decide +kernel
theorem dX12_voice_44 : decode cX12_voice 44 = .ok (.ifCond .ne 13, 3) := by decide +kernel
theorem dX12_voice_47 : decode cX12_voice 47 = .ok (.aload_n 0, 1) := by decide +kernel
theorem dX12_voice_48 : decode cX12_voice 48 = .ok (.iload 4, 2) := by decide +kernel
theorem dX12_voice_50 : decode cX12_voice 50 = .ok (.iload_n 3, 1) := by decide +kernel
theorem dX12_voice_51 : decode cX12_voice 51 = .ok (.invokevirtual 222, 3) := by decide +kernel
theorem dX12_voice_54 : decode cX12_voice 54 = .ok (.goto 40, 3) := by decide +kernel
theorem dX12_voice_57 : decode cX12_voice 57 = .ok (.iload_n 2, 1) := by decide +kernel
theorem dX12_voice_58 : decode cX12_voice 58 = .ok (.iconst 1, 1) := by decide +kernel
theorem dX12_voice_59 : decode cX12_voice 59 = .ok (.if_icmp .ne 13, 3) := by decide +kernel
theorem dX12_voice_62 : decode cX12_voice 62 = .ok (.aload_n 0, 1) := by decide +kernel
theorem dX12_voice_63 : decode cX12_voice 63 = .ok (.iload 4, 2) := by decide +kernel
theorem dX12_voice_65 : decode cX12_voice 65 = .ok (.iload_n 3, 1) := by decide +kernel
theorem dX12_voice_66 : decode cX12_voice 66 = .ok (.invokevirtual 228, 3) := by decide +kernel
theorem dX12_voice_69 : decode cX12_voice 69 = .ok (.goto 25, 3) := by decide +kernel
theorem dX12_voice_72 : decode cX12_voice 72 = .ok (.iload_n 2, 1) := by decide +kernel
theorem dX12_voice_73 : decode cX12_voice 73 = .ok (.iconst 2, 1) := by decide +kernel
theorem dX12_voice_74 : decode cX12_voice 74 = .ok (.if_icmp .ne 13, 3) := by decide +kernel
theorem dX12_voice_77 : decode cX12_voice 77 = .ok (.aload_n 0, 1) := by decide +kernel
theorem dX12_voice_78 : decode cX12_voice 78 = .ok (.iload 4, 2) := by decide +kernel
theorem dX12_voice_80 : decode cX12_voice 80 = .ok (.iload_n 3, 1) := by decide +kernel
theorem dX12_voice_81 : decode cX12_voice 81 = .ok (.invokevirtual 234, 3) := by decide +kernel
theorem dX12_voice_84 : decode cX12_voice 84 = .ok (.goto 10, 3) := by decide +kernel
theorem dX12_voice_87 : decode cX12_voice 87 = .ok (.aload_n 0, 1) := by decide +kernel
theorem dX12_voice_88 : decode cX12_voice 88 = .ok (.iload 4, 2) := by decide +kernel
theorem dX12_voice_90 : decode cX12_voice 90 = .ok (.iload_n 3, 1) := by decide +kernel
theorem dX12_voice_91 : decode cX12_voice 91 = .ok (.invokevirtual 241, 3) := by decide +kernel
theorem dX12_voice_94 : decode cX12_voice 94 = .ok (.istore 5, 2) := by decide +kernel
theorem dX12_voice_96 : decode cX12_voice 96 = .ok (.aload_n 0, 1) := by decide +kernel
theorem dX12_voice_97 : decode cX12_voice 97 = .ok (.getfield 237, 3) := by decide +kernel
theorem dX12_voice_100 : decode cX12_voice 100 = .ok (.ifCond .eq 12, 3) := by decide +kernel
theorem dX12_voice_103 : decode cX12_voice 103 = .ok (.aload_n 0, 1) := by decide +kernel
theorem dX12_voice_104 : decode cX12_voice 104 = .ok (.bipush 6, 2) := by decide +kernel
theorem dX12_voice_106 : decode cX12_voice 106 = .ok (.invokevirtual 66, 3) := by decide +kernel
theorem dX12_voice_109 : decode cX12_voice 109 = .ok (.goto 5, 3) := by decide +kernel
theorem dX12_voice_112 : decode cX12_voice 112 = .ok (.iload 5, 2) := by decide +kernel
theorem dX12_voice_114 : decode cX12_voice 114 = .ok (.ireturn, 1) := by decide +kernel
theorem dX12_body_0 : decode cX12_body 0 = .ok (.iload_n 1, 1) := by decide +kernel
theorem dX12_body_1 : decode cX12_body 1 = .ok (.iconst 0, 1) := by decide +kernel
theorem dX12_body_2 : decode cX12_body 2 = .ok (.aload_n 0, 1) := by decide +kernel
theorem dX12_body_3 : decode cX12_body 3 = .ok (.getfield 210, 3) := by decide +kernel
theorem dX12_body_6 : decode cX12_body 6 = .ok (.iconst 1, 1) := by decide +kernel
theorem dX12_body_7 : decode cX12_body 7 = .ok (.isub, 1) := by decide +kernel
theorem dX12_body_8 : decode cX12_body 8 = .ok (.invokestatic 54, 3) := by decide +kernel
theorem dX12_body_11 : decode cX12_body 11 = .ok (.ifCond .eq 12, 3) := by decide +kernel
theorem dX12_body_14 : decode cX12_body 14 = .ok (.aload_n 0, 1) := by decide +kernel
theorem dX12_body_15 : decode cX12_body 15 = .ok (.getfield 34, 3) := by decide +kernel
theorem dX12_body_18 : decode cX12_body 18 = .ok (.iload_n 1, 1) := by decide +kernel
theorem dX12_body_19 : decode cX12_body 19 = .ok (.iaload, 1) := by decide +kernel
theorem dX12_body_20 : decode cX12_body 20 = .ok (.goto 8, 3) := by decide +kernel
theorem dX12_body_23 : decode cX12_body 23 = .ok (.aload_n 0, 1) := by decide +kernel
theorem dX12_body_24 : decode cX12_body 24 = .ok (.iconst 2, 1) := by decide +kernel
theorem dX12_body_25 : decode cX12_body 25 = .ok (.invokevirtual 66, 3) := by decide +kernel
theorem dX12_body_28 : decode cX12_body 28 = .ok (.ireturn, 1) := by decide +kernel
theorem dX12_isSheet_0 : decode cX12_isSheet 0 = .ok (.iload_n 0, 1) := by decide +kernel
theorem dX12_isSheet_1 : decode cX12_isSheet 1 = .ok (.iconst 0, 1) := by decide +kernel
theorem dX12_isSheet_2 : decode cX12_isSheet 2 = .ok (.iconst 3, 1) := by decide +kernel
theorem dX12_isSheet_3 : decode cX12_isSheet 3 = .ok (.invokestatic 54, 3) := by decide +kernel
theorem dX12_isSheet_6 : decode cX12_isSheet 6 = .ok (.ireturn, 1) := by decide +kernel
theorem dX12_sheet_0 : decode cX12_sheet 0 = .ok (.iload_n 1, 1) := by decide +kernel
theorem dX12_sheet_1 : decode cX12_sheet 1 = .ok (.invokestatic 203, 3) := by decide +kernel
theorem dX12_sheet_4 : decode cX12_sheet 4 = .ok (.ifCond .eq 25, 3) := by decide +kernel
theorem dX12_sheet_7 : decode cX12_sheet 7 = .ok (.iload_n 2, 1) := by decide +kernel
theorem dX12_sheet_8 : decode cX12_sheet 8 = .ok (.ifCond .eq 27, 3) := by decide +kernel
theorem dX12_sheet_11 : decode cX12_sheet 11 = .ok (.iload_n 2, 1) := by decide +kernel
theorem dX12_sheet_12 : decode cX12_sheet 12 = .ok (.bipush 8, 2) := by decide +kernel
theorem dX12_sheet_14 : decode cX12_sheet 14 = .ok (.if_icmp .eq 21, 3) := by decide +kernel
theorem dX12_sheet_17 : decode cX12_sheet 17 = .ok (.iload_n 2, 1) := by decide +kernel
theorem dX12_sheet_18 : decode cX12_sheet 18 = .ok (.bipush 16, 2) := by decide +kernel
theorem dX12_sheet_20 : decode cX12_sheet 20 = .ok (.if_icmp .eq 15, 3) := by decide +kernel
theorem dX12_sheet_23 : decode cX12_sheet 23 = .ok (.iload_n 2, 1) := by decide +kernel
theorem dX12_sheet_24 : decode cX12_sheet 24 = .ok (.bipush 32, 2) := by decide +kernel
theorem dX12_sheet_26 : decode cX12_sheet 26 = .ok (.if_icmp .eq 9, 3) := by decide +kernel
theorem dX12_sheet_29 : decode cX12_sheet 29 = .ok (.aload_n 0, 1) := by decide +kernel
theorem dX12_sheet_30 : decode cX12_sheet 30 = .ok (.iconst 1, 1) := by decide +kernel
theorem dX12_sheet_31 : decode cX12_sheet 31 = .ok (.invokevirtual 66, 3) := by decide +kernel
theorem dX12_sheet_34 : decode cX12_sheet 34 = .ok (.ireturn, 1) := by decide +kernel
theorem dX12_sheet_35 : decode cX12_sheet 35 = .ok (.iload_n 2, 1) := by decide +kernel
theorem dX12_sheet_36 : decode cX12_sheet 36 = .ok (.ifCond .eq 13, 3) := by decide +kernel
theorem dX12_sheet_39 : decode cX12_sheet 39 = .ok (.iload_n 3, 1) := by decide +kernel
theorem dX12_sheet_40 : decode cX12_sheet 40 = .ok (.ifCond .ge 9, 3) := by decide +kernel
theorem dX12_sheet_43 : decode cX12_sheet 43 = .ok (.aload_n 0, 1) := by decide +kernel
theorem dX12_sheet_44 : decode cX12_sheet 44 = .ok (.iconst 3, 1) := by decide +kernel
theorem dX12_sheet_45 : decode cX12_sheet 45 = .ok (.invokevirtual 66, 3) := by decide +kernel
theorem dX12_sheet_48 : decode cX12_sheet 48 = .ok (.ireturn, 1) := by decide +kernel
theorem dX12_sheet_49 : decode cX12_sheet 49 = .ok (.iload_n 2, 1) := by decide +kernel
theorem dX12_sheet_50 : decode cX12_sheet 50 = .ok (.ifCond .eq 15, 3) := by decide +kernel
theorem dX12_sheet_53 : decode cX12_sheet 53 = .ok (.iload_n 3, 1) := by decide +kernel
theorem dX12_sheet_54 : decode cX12_sheet 54 = .ok (.bipush 24, 2) := by decide +kernel
theorem dX12_sheet_56 : decode cX12_sheet 56 = .ok (.if_icmp .le 9, 3) := by decide +kernel
theorem dX12_sheet_59 : decode cX12_sheet 59 = .ok (.aload_n 0, 1) := by decide +kernel
theorem dX12_sheet_60 : decode cX12_sheet 60 = .ok (.iconst 1, 1) := by decide +kernel
theorem dX12_sheet_61 : decode cX12_sheet 61 = .ok (.invokevirtual 66, 3) := by decide +kernel
theorem dX12_sheet_64 : decode cX12_sheet 64 = .ok (.ireturn, 1) := by decide +kernel
theorem dX12_sheet_65 : decode cX12_sheet 65 = .ok (.aload_n 0, 1) := by decide +kernel
theorem dX12_sheet_66 : decode cX12_sheet 66 = .ok (.getfield 37, 3) := by decide +kernel
theorem dX12_sheet_69 : decode cX12_sheet 69 = .ok (.iload_n 1, 1) := by decide +kernel
theorem dX12_sheet_70 : decode cX12_sheet 70 = .ok (.iload_n 2, 1) := by decide +kernel
theorem dX12_sheet_71 : decode cX12_sheet 71 = .ok (.iastore, 1) := by decide +kernel
theorem dX12_sheet_72 : decode cX12_sheet 72 = .ok (.aload_n 0, 1) := by decide +kernel
theorem dX12_sheet_73 : decode cX12_sheet 73 = .ok (.getfield 40, 3) := by decide +kernel
theorem dX12_sheet_76 : decode cX12_sheet 76 = .ok (.iload_n 1, 1) := by decide +kernel
theorem dX12_sheet_77 : decode cX12_sheet 77 = .ok (.iload_n 2, 1) := by decide +kernel
theorem dX12_sheet_78 : decode cX12_sheet 78 = .ok (.ifCond .ne 7, 3) := by decide +kernel
theorem dX12_sheet_81 : decode cX12_sheet 81 = .ok (.iconst 0, 1) := by decide +kernel
theorem dX12_sheet_82 : decode cX12_sheet 82 = .ok (.goto 4, 3) := by decide +kernel
theorem dX12_sheet_85 : decode cX12_sheet 85 = .ok (.iload_n 3, 1) := by decide +kernel
theorem dX12_sheet_86 : decode cX12_sheet 86 = .ok (.iastore, 1) := by decide +kernel
theorem dX12_sheet_87 : decode cX12_sheet 87 = .ok (.iconst 0, 1) := by decide +kernel
theorem dX12_sheet_88 : decode cX12_sheet 88 = .ok (.istore 4, 2) := by decide +kernel
theorem dX12_sheet_90 : decode cX12_sheet 90 = .ok (.iload 4, 2) := by decide +kernel
theorem dX12_sheet_92 : decode cX12_sheet 92 = .ok (.bipush 24, 2) := by decide +kernel
theorem dX12_sheet_94 : decode cX12_sheet 94 = .ok (.if_icmp .ge 22, 3) := by decide +kernel
theorem dX12_sheet_97 : decode cX12_sheet 97 = .ok (.aload_n 0, 1) := by decide +kernel
theorem dX12_sheet_98 : decode cX12_sheet 98 = .ok (.getfield 43, 3) := by decide +kernel
theorem dX12_sheet_101 : decode cX12_sheet 101 = .ok (.bipush 24, 2) := by decide +kernel
theorem dX12_sheet_103 : decode cX12_sheet 103 = .ok (.iload_n 1, 1) := by decide +kernel
theorem dX12_sheet_104 : decode cX12_sheet 104 = .ok (.imul, 1) := by decide +kernel
theorem dX12_sheet_105 : decode cX12_sheet 105 = .ok (.iload 4, 2) := by decide +kernel
theorem dX12_sheet_107 : decode cX12_sheet 107 = .ok (.iadd, 1) := by decide +kernel
theorem dX12_sheet_108 : decode cX12_sheet 108 = .ok (.iconst 0, 1) := by decide +kernel
theorem dX12_sheet_109 : decode cX12_sheet 109 = .ok (.iastore, 1) := by decide +kernel
theorem dX12_sheet_110 : decode cX12_sheet 110 = .ok (.iinc 4 1, 3) := by decide +kernel
theorem dX12_sheet_113 : decode cX12_sheet 113 = .ok (.goto (-23), 3) := by decide +kernel
theorem dX12_sheet_116 : decode cX12_sheet 116 = .ok (.iconst 1, 1) := by decide +kernel
theorem dX12_sheet_117 : decode cX12_sheet 117 = .ok (.ireturn, 1) := by decide +kernel
theorem dX12_put_0 : decode cX12_put 0 = .ok (.iload_n 1, 1) := by decide +kernel
theorem dX12_put_1 : decode cX12_put 1 = .ok (.invokestatic 203, 3) := by decide +kernel
theorem dX12_put_4 : decode cX12_put 4 = .ok (.ifCond .ne 9, 3) := by decide +kernel
theorem dX12_put_7 : decode cX12_put 7 = .ok (.aload_n 0, 1) := by decide +kernel
theorem dX12_put_8 : decode cX12_put 8 = .ok (.iconst 1, 1) := by decide +kernel
theorem dX12_put_9 : decode cX12_put 9 = .ok (.invokevirtual 66, 3) := by decide +kernel
theorem dX12_put_12 : decode cX12_put 12 = .ok (.ireturn, 1) := by decide +kernel
theorem dX12_put_13 : decode cX12_put 13 = .ok (.aload_n 0, 1) := by decide +kernel
theorem dX12_put_14 : decode cX12_put 14 = .ok (.getfield 37, 3) := by decide +kernel
theorem dX12_put_17 : decode cX12_put 17 = .ok (.iload_n 1, 1) := by decide +kernel
theorem dX12_put_18 : decode cX12_put 18 = .ok (.iaload, 1) := by decide +kernel
theorem dX12_put_19 : decode cX12_put 19 = .ok (.ifCond .ne 9, 3) := by decide +kernel
theorem dX12_put_22 : decode cX12_put 22 = .ok (.aload_n 0, 1) := by decide +kernel
theorem dX12_put_23 : decode cX12_put 23 = .ok (.iconst 2, 1) := by decide +kernel
theorem dX12_put_24 : decode cX12_put 24 = .ok (.invokevirtual 66, 3) := by decide +kernel
theorem dX12_put_27 : decode cX12_put 27 = .ok (.ireturn, 1) := by decide +kernel
theorem dX12_put_28 : decode cX12_put 28 = .ok (.iload_n 2, 1) := by decide +kernel
theorem dX12_put_29 : decode cX12_put 29 = .ok (.iconst 0, 1) := by decide +kernel
theorem dX12_put_30 : decode cX12_put 30 = .ok (.aload_n 0, 1) := by decide +kernel
theorem dX12_put_31 : decode cX12_put 31 = .ok (.getfield 40, 3) := by decide +kernel
theorem dX12_put_34 : decode cX12_put 34 = .ok (.iload_n 1, 1) := by decide +kernel
theorem dX12_put_35 : decode cX12_put 35 = .ok (.iaload, 1) := by decide +kernel
theorem dX12_put_36 : decode cX12_put 36 = .ok (.iconst 1, 1) := by decide +kernel
theorem dX12_put_37 : decode cX12_put 37 = .ok (.isub, 1) := by decide +kernel
theorem dX12_put_38 : decode cX12_put 38 = .ok (.invokestatic 54, 3) := by decide +kernel
theorem dX12_put_41 : decode cX12_put 41 = .ok (.ifCond .ne 9, 3) := by decide +kernel
theorem dX12_put_44 : decode cX12_put 44 = .ok (.aload_n 0, 1) := by decide +kernel
theorem dX12_put_45 : decode cX12_put 45 = .ok (.iconst 1, 1) := by decide +kernel
theorem dX12_put_46 : decode cX12_put 46 = .ok (.invokevirtual 66, 3) := by decide +kernel
theorem dX12_put_49 : decode cX12_put 49 = .ok (.ireturn, 1) := by decide +kernel
theorem dX12_put_50 : decode cX12_put 50 = .ok (.bipush 32, 2) := by decide +kernel
theorem dX12_put_52 : decode cX12_put 52 = .ok (.aload_n 0, 1) := by decide +kernel
theorem dX12_put_53 : decode cX12_put 53 = .ok (.getfield 37, 3) := by decide +kernel
theorem dX12_put_56 : decode cX12_put 56 = .ok (.iload_n 1, 1) := by decide +kernel
theorem dX12_put_57 : decode cX12_put 57 = .ok (.iaload, 1) := by decide +kernel
theorem dX12_put_58 : decode cX12_put 58 = .ok (.isub, 1) := by decide +kernel
theorem dX12_put_59 : decode cX12_put 59 = .ok (.istore 4, 2) := by decide +kernel
theorem dX12_put_61 : decode cX12_put 61 = .ok (.aload_n 0, 1) := by decide +kernel
theorem dX12_put_62 : decode cX12_put 62 = .ok (.getfield 43, 3) := by decide +kernel
theorem dX12_put_65 : decode cX12_put 65 = .ok (.bipush 24, 2) := by decide +kernel
theorem dX12_put_67 : decode cX12_put 67 = .ok (.iload_n 1, 1) := by decide +kernel
theorem dX12_put_68 : decode cX12_put 68 = .ok (.imul, 1) := by decide +kernel
theorem dX12_put_69 : decode cX12_put 69 = .ok (.iload_n 2, 1) := by decide +kernel
theorem dX12_put_70 : decode cX12_put 70 = .ok (.iadd, 1) := by decide +kernel
theorem dX12_put_71 : decode cX12_put 71 = .ok (.iload_n 3, 1) := by decide +kernel
theorem dX12_put_72 : decode cX12_put 72 = .ok (.iload 4, 2) := by decide +kernel
theorem dX12_put_74 : decode cX12_put 74 = .ok (.ishl, 1) := by decide +kernel
theorem dX12_put_75 : decode cX12_put 75 = .ok (.iload 4, 2) := by decide +kernel
theorem dX12_put_77 : decode cX12_put 77 = .ok (.ishr, 1) := by decide +kernel
theorem dX12_put_78 : decode cX12_put 78 = .ok (.iastore, 1) := by decide +kernel
theorem dX12_put_79 : decode cX12_put 79 = .ok (.iconst 1, 1) := by decide +kernel
theorem dX12_put_80 : decode cX12_put 80 = .ok (.ireturn, 1) := by decide +kernel
theorem dX12_move_0 : decode cX12_move 0 = .ok (.iload_n 1, 1) := by decide +kernel
theorem dX12_move_1 : decode cX12_move 1 = .ok (.invokestatic 203, 3) := by decide +kernel
theorem dX12_move_4 : decode cX12_move 4 = .ok (.ifCond .eq 10, 3) := by decide +kernel
theorem dX12_move_7 : decode cX12_move 7 = .ok (.iload_n 3, 1) := by decide +kernel
theorem dX12_move_8 : decode cX12_move 8 = .ok (.invokestatic 203, 3) := by decide +kernel
theorem dX12_move_11 : decode cX12_move 11 = .ok (.ifCond .ne 9, 3) := by decide +kernel
theorem dX12_move_14 : decode cX12_move 14 = .ok (.aload_n 0, 1) := by decide +kernel
theorem dX12_move_15 : decode cX12_move 15 = .ok (.iconst 1, 1) := by decide +kernel
theorem dX12_move_16 : decode cX12_move 16 = .ok (.invokevirtual 66, 3) := by decide +kernel
theorem dX12_move_19 : decode cX12_move 19 = .ok (.ireturn, 1) := by decide +kernel
theorem dX12_move_20 : decode cX12_move 20 = .ok (.aload_n 0, 1) := by decide +kernel
theorem dX12_move_21 : decode cX12_move 21 = .ok (.getfield 37, 3) := by decide +kernel
theorem dX12_move_24 : decode cX12_move 24 = .ok (.iload_n 1, 1) := by decide +kernel
theorem dX12_move_25 : decode cX12_move 25 = .ok (.iaload, 1) := by decide +kernel
theorem dX12_move_26 : decode cX12_move 26 = .ok (.ifCond .eq 12, 3) := by decide +kernel
theorem dX12_move_29 : decode cX12_move 29 = .ok (.aload_n 0, 1) := by decide +kernel
theorem dX12_move_30 : decode cX12_move 30 = .ok (.getfield 37, 3) := by decide +kernel
theorem dX12_move_33 : decode cX12_move 33 = .ok (.iload_n 3, 1) := by decide +kernel
theorem dX12_move_34 : decode cX12_move 34 = .ok (.iaload, 1) := by decide +kernel
theorem dX12_move_35 : decode cX12_move 35 = .ok (.ifCond .ne 9, 3) := by decide +kernel
theorem dX12_move_38 : decode cX12_move 38 = .ok (.aload_n 0, 1) := by decide +kernel
theorem dX12_move_39 : decode cX12_move 39 = .ok (.iconst 2, 1) := by decide +kernel
theorem dX12_move_40 : decode cX12_move 40 = .ok (.invokevirtual 66, 3) := by decide +kernel
theorem dX12_move_43 : decode cX12_move 43 = .ok (.ireturn, 1) := by decide +kernel
theorem dX12_move_44 : decode cX12_move 44 = .ok (.aload_n 0, 1) := by decide +kernel
theorem dX12_move_45 : decode cX12_move 45 = .ok (.getfield 37, 3) := by decide +kernel
theorem dX12_move_48 : decode cX12_move 48 = .ok (.iload_n 1, 1) := by decide +kernel
theorem dX12_move_49 : decode cX12_move 49 = .ok (.iaload, 1) := by decide +kernel
theorem dX12_move_50 : decode cX12_move 50 = .ok (.aload_n 0, 1) := by decide +kernel
theorem dX12_move_51 : decode cX12_move 51 = .ok (.getfield 37, 3) := by decide +kernel
theorem dX12_move_54 : decode cX12_move 54 = .ok (.iload_n 3, 1) := by decide +kernel
theorem dX12_move_55 : decode cX12_move 55 = .ok (.iaload, 1) := by decide +kernel
theorem dX12_move_56 : decode cX12_move 56 = .ok (.if_icmp .eq 9, 3) := by decide +kernel
theorem dX12_move_59 : decode cX12_move 59 = .ok (.aload_n 0, 1) := by decide +kernel
theorem dX12_move_60 : decode cX12_move 60 = .ok (.iconst 5, 1) := by decide +kernel
theorem dX12_move_61 : decode cX12_move 61 = .ok (.invokevirtual 66, 3) := by decide +kernel
theorem dX12_move_64 : decode cX12_move 64 = .ok (.ireturn, 1) := by decide +kernel
theorem dX12_move_65 : decode cX12_move 65 = .ok (.iload 5, 2) := by decide +kernel
theorem dX12_move_67 : decode cX12_move 67 = .ok (.ifCond .lt 39, 3) := by decide +kernel
theorem dX12_move_70 : decode cX12_move 70 = .ok (.iload_n 2, 1) := by decide +kernel
theorem dX12_move_71 : decode cX12_move 71 = .ok (.ifCond .lt 35, 3) := by decide +kernel
theorem dX12_move_74 : decode cX12_move 74 = .ok (.iload 4, 2) := by decide +kernel
theorem dX12_move_76 : decode cX12_move 76 = .ok (.ifCond .lt 30, 3) := by decide +kernel
theorem dX12_move_79 : decode cX12_move 79 = .ok (.iload_n 2, 1) := by decide +kernel
theorem dX12_move_80 : decode cX12_move 80 = .ok (.aload_n 0, 1) := by decide +kernel
theorem dX12_move_81 : decode cX12_move 81 = .ok (.getfield 40, 3) := by decide +kernel
theorem dX12_move_84 : decode cX12_move 84 = .ok (.iload_n 1, 1) := by decide +kernel
theorem dX12_move_85 : decode cX12_move 85 = .ok (.iaload, 1) := by decide +kernel
theorem dX12_move_86 : decode cX12_move 86 = .ok (.iload 5, 2) := by decide +kernel
theorem dX12_move_88 : decode cX12_move 88 = .ok (.isub, 1) := by decide +kernel
theorem dX12_move_89 : decode cX12_move 89 = .ok (.if_icmp .gt 17, 3) := by decide +kernel
theorem dX12_move_92 : decode cX12_move 92 = .ok (.iload 4, 2) := by decide +kernel
theorem dX12_move_94 : decode cX12_move 94 = .ok (.aload_n 0, 1) := by decide +kernel
theorem dX12_move_95 : decode cX12_move 95 = .ok (.getfield 40, 3) := by decide +kernel
theorem dX12_move_98 : decode cX12_move 98 = .ok (.iload_n 3, 1) := by decide +kernel
theorem dX12_move_99 : decode cX12_move 99 = .ok (.iaload, 1) := by decide +kernel
theorem dX12_move_100 : decode cX12_move 100 = .ok (.iload 5, 2) := by decide +kernel
theorem dX12_move_102 : decode cX12_move 102 = .ok (.isub, 1) := by decide +kernel
theorem dX12_move_103 : decode cX12_move 103 = .ok (.if_icmp .le 9, 3) := by decide +kernel
theorem dX12_move_106 : decode cX12_move 106 = .ok (.aload_n 0, 1) := by decide +kernel
theorem dX12_move_107 : decode cX12_move 107 = .ok (.iconst 1, 1) := by decide +kernel
theorem dX12_move_108 : decode cX12_move 108 = .ok (.invokevirtual 66, 3) := by decide +kernel
theorem dX12_move_111 : decode cX12_move 111 = .ok (.ireturn, 1) := by decide +kernel
theorem dX12_move_112 : decode cX12_move 112 = .ok (.iconst 0, 1) := by decide +kernel
theorem dX12_move_113 : decode cX12_move 113 = .ok (.istore 6, 2) := by decide +kernel
theorem dX12_move_115 : decode cX12_move 115 = .ok (.iload 6, 2) := by decide +kernel
theorem dX12_move_117 : decode cX12_move 117 = .ok (.iload 5, 2) := by decide +kernel
theorem dX12_move_119 : decode cX12_move 119 = .ok (.if_icmp .ge 30, 3) := by decide +kernel
theorem dX12_move_122 : decode cX12_move 122 = .ok (.aload_n 0, 1) := by decide +kernel
theorem dX12_move_123 : decode cX12_move 123 = .ok (.getfield 46, 3) := by decide +kernel
theorem dX12_move_126 : decode cX12_move 126 = .ok (.iload 6, 2) := by decide +kernel
theorem dX12_move_128 : decode cX12_move 128 = .ok (.aload_n 0, 1) := by decide +kernel
theorem dX12_move_129 : decode cX12_move 129 = .ok (.getfield 43, 3) := by decide +kernel
theorem dX12_move_132 : decode cX12_move 132 = .ok (.bipush 24, 2) := by decide +kernel
theorem dX12_move_134 : decode cX12_move 134 = .ok (.iload_n 1, 1) := by decide +kernel
theorem dX12_move_135 : decode cX12_move 135 = .ok (.imul, 1) := by decide +kernel
theorem dX12_move_136 : decode cX12_move 136 = .ok (.iload_n 2, 1) := by decide +kernel
theorem dX12_move_137 : decode cX12_move 137 = .ok (.iadd, 1) := by decide +kernel
theorem dX12_move_138 : decode cX12_move 138 = .ok (.iload 6, 2) := by decide +kernel
theorem dX12_move_140 : decode cX12_move 140 = .ok (.iadd, 1) := by decide +kernel
theorem dX12_move_141 : decode cX12_move 141 = .ok (.iaload, 1) := by decide +kernel
theorem dX12_move_142 : decode cX12_move 142 = .ok (.iastore, 1) := by decide +kernel
theorem dX12_move_143 : decode cX12_move 143 = .ok (.iinc 6 1, 3) := by decide +kernel
theorem dX12_move_146 : decode cX12_move 146 = .ok (.goto (-31), 3) := by decide +kernel
theorem dX12_move_149 : decode cX12_move 149 = .ok (.iconst 0, 1) := by decide +kernel
theorem dX12_move_150 : decode cX12_move 150 = .ok (.istore 6, 2) := by decide +kernel
theorem dX12_move_152 : decode cX12_move 152 = .ok (.iload 6, 2) := by decide +kernel
theorem dX12_move_154 : decode cX12_move 154 = .ok (.iload 5, 2) := by decide +kernel
theorem dX12_move_156 : decode cX12_move 156 = .ok (.if_icmp .ge 31, 3) := by decide +kernel
theorem dX12_move_159 : decode cX12_move 159 = .ok (.aload_n 0, 1) := by decide +kernel
theorem dX12_move_160 : decode cX12_move 160 = .ok (.getfield 43, 3) := by decide +kernel
theorem dX12_move_163 : decode cX12_move 163 = .ok (.bipush 24, 2) := by decide +kernel
theorem dX12_move_165 : decode cX12_move 165 = .ok (.iload_n 3, 1) := by decide +kernel
theorem dX12_move_166 : decode cX12_move 166 = .ok (.imul, 1) := by decide +kernel
theorem dX12_move_167 : decode cX12_move 167 = .ok (.iload 4, 2) := by decide +kernel
theorem dX12_move_169 : decode cX12_move 169 = .ok (.iadd, 1) := by decide +kernel
theorem dX12_move_170 : decode cX12_move 170 = .ok (.iload 6, 2) := by decide +kernel
theorem dX12_move_172 : decode cX12_move 172 = .ok (.iadd, 1) := by decide +kernel
theorem dX12_move_173 : decode cX12_move 173 = .ok (.aload_n 0, 1) := by decide +kernel
theorem dX12_move_174 : decode cX12_move 174 = .ok (.getfield 46, 3) := by decide +kernel
theorem dX12_move_177 : decode cX12_move 177 = .ok (.iload 6, 2) := by decide +kernel
theorem dX12_move_179 : decode cX12_move 179 = .ok (.iaload, 1) := by decide +kernel
theorem dX12_move_180 : decode cX12_move 180 = .ok (.iastore, 1) := by decide +kernel
theorem dX12_move_181 : decode cX12_move 181 = .ok (.iinc 6 1, 3) := by decide +kernel
theorem dX12_move_184 : decode cX12_move 184 = .ok (.goto (-32), 3) := by decide +kernel
theorem dX12_move_187 : decode cX12_move 187 = .ok (.iload 5, 2) := by decide +kernel
theorem dX12_move_189 : decode cX12_move 189 = .ok (.ireturn, 1) := by decide +kernel
theorem dX12_lacks_0 : decode cX12_lacks 0 = .ok (.iload_n 1, 1) := by decide +kernel
theorem dX12_lacks_1 : decode cX12_lacks 1 = .ok (.invokestatic 203, 3) := by decide +kernel
theorem dX12_lacks_4 : decode cX12_lacks 4 = .ok (.ifCond .ne 7, 3) := by decide +kernel
theorem dX12_lacks_7 : decode cX12_lacks 7 = .ok (.iconst 1, 1) := by decide +kernel
theorem dX12_lacks_8 : decode cX12_lacks 8 = .ok (.goto 17, 3) := by decide +kernel
theorem dX12_lacks_11 : decode cX12_lacks 11 = .ok (.aload_n 0, 1) := by decide +kernel
theorem dX12_lacks_12 : decode cX12_lacks 12 = .ok (.getfield 37, 3) := by decide +kernel
theorem dX12_lacks_15 : decode cX12_lacks 15 = .ok (.iload_n 1, 1) := by decide +kernel
theorem dX12_lacks_16 : decode cX12_lacks 16 = .ok (.iaload, 1) := by decide +kernel
theorem dX12_lacks_17 : decode cX12_lacks 17 = .ok (.ifCond .ne 7, 3) := by decide +kernel
theorem dX12_lacks_20 : decode cX12_lacks 20 = .ok (.iconst 2, 1) := by decide +kernel
theorem dX12_lacks_21 : decode cX12_lacks 21 = .ok (.goto 4, 3) := by decide +kernel
theorem dX12_lacks_24 : decode cX12_lacks 24 = .ok (.iconst 0, 1) := by decide +kernel
theorem dX12_lacks_25 : decode cX12_lacks 25 = .ok (.ireturn, 1) := by decide +kernel
theorem dX12_flies_0 : decode cX12_flies 0 = .ok (.aload_n 0, 1) := by decide +kernel
theorem dX12_flies_1 : decode cX12_flies 1 = .ok (.iload_n 1, 1) := by decide +kernel
theorem dX12_flies_2 : decode cX12_flies 2 = .ok (.invokevirtual 244, 3) := by decide +kernel
theorem dX12_flies_5 : decode cX12_flies 5 = .ok (.istore_n 2, 1) := by decide +kernel
theorem dX12_flies_6 : decode cX12_flies 6 = .ok (.iload_n 2, 1) := by decide +kernel
theorem dX12_flies_7 : decode cX12_flies 7 = .ok (.ifCond .le 9, 3) := by decide +kernel
theorem dX12_flies_10 : decode cX12_flies 10 = .ok (.aload_n 0, 1) := by decide +kernel
theorem dX12_flies_11 : decode cX12_flies 11 = .ok (.iload_n 2, 1) := by decide +kernel
theorem dX12_flies_12 : decode cX12_flies 12 = .ok (.invokevirtual 66, 3) := by decide +kernel
theorem dX12_flies_15 : decode cX12_flies 15 = .ok (.ireturn, 1) := by decide +kernel
theorem dX12_flies_16 : decode cX12_flies 16 = .ok (.iconst 0, 1) := by decide +kernel
theorem dX12_flies_17 : decode cX12_flies 17 = .ok (.istore_n 3, 1) := by decide +kernel
theorem dX12_flies_18 : decode cX12_flies 18 = .ok (.iload_n 3, 1) := by decide +kernel
theorem dX12_flies_19 : decode cX12_flies 19 = .ok (.aload_n 0, 1) := by decide +kernel
theorem dX12_flies_20 : decode cX12_flies 20 = .ok (.getfield 40, 3) := by decide +kernel
theorem dX12_flies_23 : decode cX12_flies 23 = .ok (.iload_n 1, 1) := by decide +kernel
theorem dX12_flies_24 : decode cX12_flies 24 = .ok (.iaload, 1) := by decide +kernel
theorem dX12_flies_25 : decode cX12_flies 25 = .ok (.if_icmp .ge 43, 3) := by decide +kernel
theorem dX12_flies_28 : decode cX12_flies 28 = .ok (.aload_n 0, 1) := by decide +kernel
theorem dX12_flies_29 : decode cX12_flies 29 = .ok (.getfield 43, 3) := by decide +kernel
theorem dX12_flies_32 : decode cX12_flies 32 = .ok (.bipush 24, 2) := by decide +kernel
theorem dX12_flies_34 : decode cX12_flies 34 = .ok (.iload_n 1, 1) := by decide +kernel
theorem dX12_flies_35 : decode cX12_flies 35 = .ok (.imul, 1) := by decide +kernel
theorem dX12_flies_36 : decode cX12_flies 36 = .ok (.iload_n 3, 1) := by decide +kernel
theorem dX12_flies_37 : decode cX12_flies 37 = .ok (.iadd, 1) := by decide +kernel
theorem dX12_flies_38 : decode cX12_flies 38 = .ok (.iaload, 1) := by decide +kernel
theorem dX12_flies_39 : decode cX12_flies 39 = .ok (.invokestatic 159, 3) := by decide +kernel
theorem dX12_flies_42 : decode cX12_flies 42 = .ok (.ifCond .eq 26, 3) := by decide +kernel
theorem dX12_flies_45 : decode cX12_flies 45 = .ok (.aload_n 0, 1) := by decide +kernel
theorem dX12_flies_46 : decode cX12_flies 46 = .ok (.aload_n 0, 1) := by decide +kernel
theorem dX12_flies_47 : decode cX12_flies 47 = .ok (.getfield 43, 3) := by decide +kernel
theorem dX12_flies_50 : decode cX12_flies 50 = .ok (.bipush 24, 2) := by decide +kernel
theorem dX12_flies_52 : decode cX12_flies 52 = .ok (.iload_n 1, 1) := by decide +kernel
theorem dX12_flies_53 : decode cX12_flies 53 = .ok (.imul, 1) := by decide +kernel
theorem dX12_flies_54 : decode cX12_flies 54 = .ok (.iload_n 3, 1) := by decide +kernel
theorem dX12_flies_55 : decode cX12_flies 55 = .ok (.iadd, 1) := by decide +kernel
theorem dX12_flies_56 : decode cX12_flies 56 = .ok (.iaload, 1) := by decide +kernel
theorem dX12_flies_57 : decode cX12_flies 57 = .ok (.invokevirtual 175, 3) := by decide +kernel
theorem dX12_flies_60 : decode cX12_flies 60 = .ok (.istore 4, 2) := by decide +kernel
theorem dX12_flies_62 : decode cX12_flies 62 = .ok (.iinc 3 1, 3) := by decide +kernel
theorem dX12_flies_65 : decode cX12_flies 65 = .ok (.goto (-47), 3) := by decide +kernel
theorem dX12_flies_68 : decode cX12_flies 68 = .ok (.iload_n 3, 1) := by decide +kernel
theorem dX12_flies_69 : decode cX12_flies 69 = .ok (.ireturn, 1) := by decide +kernel
theorem dX12_judge_0 : decode cX12_judge 0 = .ok (.aload_n 0, 1) := by decide +kernel
theorem dX12_judge_1 : decode cX12_judge 1 = .ok (.iload_n 1, 1) := by decide +kernel
theorem dX12_judge_2 : decode cX12_judge 2 = .ok (.invokevirtual 244, 3) := by decide +kernel
theorem dX12_judge_5 : decode cX12_judge 5 = .ok (.istore_n 2, 1) := by decide +kernel
theorem dX12_judge_6 : decode cX12_judge 6 = .ok (.iload_n 2, 1) := by decide +kernel
theorem dX12_judge_7 : decode cX12_judge 7 = .ok (.ifCond .le 9, 3) := by decide +kernel
theorem dX12_judge_10 : decode cX12_judge 10 = .ok (.aload_n 0, 1) := by decide +kernel
theorem dX12_judge_11 : decode cX12_judge 11 = .ok (.iload_n 2, 1) := by decide +kernel
theorem dX12_judge_12 : decode cX12_judge 12 = .ok (.invokevirtual 66, 3) := by decide +kernel
theorem dX12_judge_15 : decode cX12_judge 15 = .ok (.ireturn, 1) := by decide +kernel
theorem dX12_judge_16 : decode cX12_judge 16 = .ok (.aload_n 0, 1) := by decide +kernel
theorem dX12_judge_17 : decode cX12_judge 17 = .ok (.iconst 0, 1) := by decide +kernel
theorem dX12_judge_18 : decode cX12_judge 18 = .ok (.invokevirtual 185, 3) := by decide +kernel
theorem dX12_judge_21 : decode cX12_judge 21 = .ok (.iconst 0, 1) := by decide +kernel
theorem dX12_judge_22 : decode cX12_judge 22 = .ok (.istore_n 3, 1) := by decide +kernel
theorem dX12_judge_23 : decode cX12_judge 23 = .ok (.iload_n 3, 1) := by decide +kernel
theorem dX12_judge_24 : decode cX12_judge 24 = .ok (.aload_n 0, 1) := by decide +kernel
theorem dX12_judge_25 : decode cX12_judge 25 = .ok (.getfield 40, 3) := by decide +kernel
theorem dX12_judge_28 : decode cX12_judge 28 = .ok (.iload_n 1, 1) := by decide +kernel
theorem dX12_judge_29 : decode cX12_judge 29 = .ok (.iaload, 1) := by decide +kernel
theorem dX12_judge_30 : decode cX12_judge 30 = .ok (.if_icmp .ge 33, 3) := by decide +kernel
theorem dX12_judge_33 : decode cX12_judge 33 = .ok (.aload_n 0, 1) := by decide +kernel
theorem dX12_judge_34 : decode cX12_judge 34 = .ok (.getfield 43, 3) := by decide +kernel
theorem dX12_judge_37 : decode cX12_judge 37 = .ok (.bipush 24, 2) := by decide +kernel
theorem dX12_judge_39 : decode cX12_judge 39 = .ok (.iload_n 1, 1) := by decide +kernel
