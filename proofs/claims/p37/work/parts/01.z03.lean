theorem dX11_lasts_4 : decode cX11_lasts 4 = .ok (.ifCond .ne 9, 3) := by decide +kernel
theorem dX11_lasts_7 : decode cX11_lasts 7 = .ok (.aload_n 0, 1) := by decide +kernel
theorem dX11_lasts_8 : decode cX11_lasts 8 = .ok (.iconst 1, 1) := by decide +kernel
theorem dX11_lasts_9 : decode cX11_lasts 9 = .ok (.invokevirtual 96, 3) := by decide +kernel
theorem dX11_lasts_12 : decode cX11_lasts 12 = .ok (.ireturn, 1) := by decide +kernel
theorem dX11_lasts_13 : decode cX11_lasts 13 = .ok (.aload_n 0, 1) := by decide +kernel
theorem dX11_lasts_14 : decode cX11_lasts 14 = .ok (.getfield 33, 3) := by decide +kernel
theorem dX11_lasts_17 : decode cX11_lasts 17 = .ok (.getfield 100, 3) := by decide +kernel
theorem dX11_lasts_20 : decode cX11_lasts 20 = .ok (.iload_n 1, 1) := by decide +kernel
theorem dX11_lasts_21 : decode cX11_lasts 21 = .ok (.invokevirtual 127, 3) := by decide +kernel
theorem dX11_lasts_24 : decode cX11_lasts 24 = .ok (.ifCond .ne 9, 3) := by decide +kernel
theorem dX11_lasts_27 : decode cX11_lasts 27 = .ok (.aload_n 0, 1) := by decide +kernel
theorem dX11_lasts_28 : decode cX11_lasts 28 = .ok (.iconst 3, 1) := by decide +kernel
theorem dX11_lasts_29 : decode cX11_lasts 29 = .ok (.invokevirtual 96, 3) := by decide +kernel
theorem dX11_lasts_32 : decode cX11_lasts 32 = .ok (.ireturn, 1) := by decide +kernel
theorem dX11_lasts_33 : decode cX11_lasts 33 = .ok (.aload_n 0, 1) := by decide +kernel
theorem dX11_lasts_34 : decode cX11_lasts 34 = .ok (.getfield 54, 3) := by decide +kernel
theorem dX11_lasts_37 : decode cX11_lasts 37 = .ok (.aload_n 0, 1) := by decide +kernel
theorem dX11_lasts_38 : decode cX11_lasts 38 = .ok (.getfield 33, 3) := by decide +kernel
theorem dX11_lasts_41 : decode cX11_lasts 41 = .ok (.getfield 100, 3) := by decide +kernel
theorem dX11_lasts_44 : decode cX11_lasts 44 = .ok (.invokevirtual 205, 3) := by decide +kernel
theorem dX11_lasts_47 : decode cX11_lasts 47 = .ok (.aload_n 0, 1) := by decide +kernel
theorem dX11_lasts_48 : decode cX11_lasts 48 = .ok (.getfield 54, 3) := by decide +kernel
theorem dX11_lasts_51 : decode cX11_lasts 51 = .ok (.iload_n 1, 1) := by decide +kernel
theorem dX11_lasts_52 : decode cX11_lasts 52 = .ok (.invokevirtual 209, 3) := by decide +kernel
theorem dX11_lasts_55 : decode cX11_lasts 55 = .ok (.istore_n 2, 1) := by decide +kernel
theorem dX11_lasts_56 : decode cX11_lasts 56 = .ok (.iload_n 2, 1) := by decide +kernel
theorem dX11_lasts_57 : decode cX11_lasts 57 = .ok (.sipush 201, 3) := by decide +kernel
theorem dX11_lasts_60 : decode cX11_lasts 60 = .ok (.if_icmp .ne 11, 3) := by decide +kernel
theorem dX11_lasts_63 : decode cX11_lasts 63 = .ok (.aload_n 0, 1) := by decide +kernel
theorem dX11_lasts_64 : decode cX11_lasts 64 = .ok (.iconst 2, 1) := by decide +kernel
theorem dX11_lasts_65 : decode cX11_lasts 65 = .ok (.invokevirtual 96, 3) := by decide +kernel
theorem dX11_lasts_68 : decode cX11_lasts 68 = .ok (.goto 4, 3) := by decide +kernel
theorem dX11_lasts_71 : decode cX11_lasts 71 = .ok (.iload_n 2, 1) := by decide +kernel
theorem dX11_lasts_72 : decode cX11_lasts 72 = .ok (.ireturn, 1) := by decide +kernel
theorem dX11_lastOne_0 : decode cX11_lastOne 0 = .ok (.aload_n 0, 1) := by decide +kernel
theorem dX11_lastOne_1 : decode cX11_lastOne 1 = .ok (.sipush 200, 3) := by decide +kernel
theorem dX11_lastOne_4 : decode cX11_lastOne 4 = .ok (.invokevirtual 198, 3) := by decide +kernel
theorem dX11_lastOne_7 : decode cX11_lastOne 7 = .ok (.iconst (-1), 1) := by decide +kernel
theorem dX11_lastOne_8 : decode cX11_lastOne 8 = .ok (.istore_n 1, 1) := by decide +kernel
theorem dX11_lastOne_9 : decode cX11_lastOne 9 = .ok (.iconst 0, 1) := by decide +kernel
theorem dX11_lastOne_10 : decode cX11_lastOne 10 = .ok (.istore_n 2, 1) := by decide +kernel
theorem dX11_lastOne_11 : decode cX11_lastOne 11 = .ok (.iconst 0, 1) := by decide +kernel
theorem dX11_lastOne_12 : decode cX11_lastOne 12 = .ok (.istore_n 3, 1) := by decide +kernel
theorem dX11_lastOne_13 : decode cX11_lastOne 13 = .ok (.iload_n 3, 1) := by decide +kernel
theorem dX11_lastOne_14 : decode cX11_lastOne 14 = .ok (.bipush 9, 2) := by decide +kernel
theorem dX11_lastOne_16 : decode cX11_lastOne 16 = .ok (.if_icmp .ge 76, 3) := by decide +kernel
theorem dX11_lastOne_19 : decode cX11_lastOne 19 = .ok (.aload_n 0, 1) := by decide +kernel
theorem dX11_lastOne_20 : decode cX11_lastOne 20 = .ok (.getfield 33, 3) := by decide +kernel
theorem dX11_lastOne_23 : decode cX11_lastOne 23 = .ok (.getfield 100, 3) := by decide +kernel
theorem dX11_lastOne_26 : decode cX11_lastOne 26 = .ok (.iload_n 3, 1) := by decide +kernel
theorem dX11_lastOne_27 : decode cX11_lastOne 27 = .ok (.invokevirtual 127, 3) := by decide +kernel
theorem dX11_lastOne_30 : decode cX11_lastOne 30 = .ok (.ifCond .ne 6, 3) := by decide +kernel
theorem dX11_lastOne_33 : decode cX11_lastOne 33 = .ok (.goto 53, 3) := by decide +kernel
theorem dX11_lastOne_36 : decode cX11_lastOne 36 = .ok (.aload_n 0, 1) := by decide +kernel
theorem dX11_lastOne_37 : decode cX11_lastOne 37 = .ok (.getfield 54, 3) := by decide +kernel
theorem dX11_lastOne_40 : decode cX11_lastOne 40 = .ok (.iload_n 3, 1) := by decide +kernel
theorem dX11_lastOne_41 : decode cX11_lastOne 41 = .ok (.invokevirtual 127, 3) := by decide +kernel
theorem dX11_lastOne_44 : decode cX11_lastOne 44 = .ok (.ifCond .eq 9, 3) := by decide +kernel
theorem dX11_lastOne_47 : decode cX11_lastOne 47 = .ok (.sipush 201, 3) := by decide +kernel
theorem dX11_lastOne_50 : decode cX11_lastOne 50 = .ok (.goto 23, 3) := by decide +kernel
theorem dX11_lastOne_53 : decode cX11_lastOne 53 = .ok (.aload_n 0, 1) := by decide +kernel
theorem dX11_lastOne_54 : decode cX11_lastOne 54 = .ok (.getfield 54, 3) := by decide +kernel
theorem dX11_lastOne_57 : decode cX11_lastOne 57 = .ok (.getfield 144, 3) := by decide +kernel
theorem dX11_lastOne_60 : decode cX11_lastOne 60 = .ok (.iload_n 3, 1) := by decide +kernel
theorem dX11_lastOne_61 : decode cX11_lastOne 61 = .ok (.iaload, 1) := by decide +kernel
theorem dX11_lastOne_62 : decode cX11_lastOne 62 = .ok (.aload_n 0, 1) := by decide +kernel
theorem dX11_lastOne_63 : decode cX11_lastOne 63 = .ok (.getfield 33, 3) := by decide +kernel
theorem dX11_lastOne_66 : decode cX11_lastOne 66 = .ok (.getfield 100, 3) := by decide +kernel
theorem dX11_lastOne_69 : decode cX11_lastOne 69 = .ok (.getfield 180, 3) := by decide +kernel
theorem dX11_lastOne_72 : decode cX11_lastOne 72 = .ok (.isub, 1) := by decide +kernel
theorem dX11_lastOne_73 : decode cX11_lastOne 73 = .ok (.istore 4, 2) := by decide +kernel
theorem dX11_lastOne_75 : decode cX11_lastOne 75 = .ok (.iload 4, 2) := by decide +kernel
theorem dX11_lastOne_77 : decode cX11_lastOne 77 = .ok (.iload_n 2, 1) := by decide +kernel
theorem dX11_lastOne_78 : decode cX11_lastOne 78 = .ok (.if_icmp .le 8, 3) := by decide +kernel
theorem dX11_lastOne_81 : decode cX11_lastOne 81 = .ok (.iload 4, 2) := by decide +kernel
theorem dX11_lastOne_83 : decode cX11_lastOne 83 = .ok (.istore_n 2, 1) := by decide +kernel
theorem dX11_lastOne_84 : decode cX11_lastOne 84 = .ok (.iload_n 3, 1) := by decide +kernel
theorem dX11_lastOne_85 : decode cX11_lastOne 85 = .ok (.istore_n 1, 1) := by decide +kernel
theorem dX11_lastOne_86 : decode cX11_lastOne 86 = .ok (.iinc 3 1, 3) := by decide +kernel
theorem dX11_lastOne_89 : decode cX11_lastOne 89 = .ok (.goto (-76), 3) := by decide +kernel
theorem dX11_lastOne_92 : decode cX11_lastOne 92 = .ok (.iload_n 1, 1) := by decide +kernel
theorem dX11_lastOne_93 : decode cX11_lastOne 93 = .ok (.ifCond .ge 11, 3) := by decide +kernel
theorem dX11_lastOne_96 : decode cX11_lastOne 96 = .ok (.aload_n 0, 1) := by decide +kernel
theorem dX11_lastOne_97 : decode cX11_lastOne 97 = .ok (.iconst 2, 1) := by decide +kernel
theorem dX11_lastOne_98 : decode cX11_lastOne 98 = .ok (.invokevirtual 96, 3) := by decide +kernel
theorem dX11_lastOne_101 : decode cX11_lastOne 101 = .ok (.goto 4, 3) := by decide +kernel
theorem dX11_lastOne_104 : decode cX11_lastOne 104 = .ok (.iload_n 1, 1) := by decide +kernel
theorem dX11_lastOne_105 : decode cX11_lastOne 105 = .ok (.ireturn, 1) := by decide +kernel
theorem dX11_round_0 : decode cX11_round 0 = .ok (.iload_n 1, 1) := by decide +kernel
theorem dX11_round_1 : decode cX11_round 1 = .ok (.invokestatic 88, 3) := by decide +kernel
theorem dX11_round_4 : decode cX11_round 4 = .ok (.ifCond .eq 21, 3) := by decide +kernel
theorem dX11_round_7 : decode cX11_round 7 = .ok (.iload_n 2, 1) := by decide +kernel
theorem dX11_round_8 : decode cX11_round 8 = .ok (.iconst 1, 1) := by decide +kernel
theorem dX11_round_9 : decode cX11_round 9 = .ok (.iconst 3, 1) := by decide +kernel
theorem dX11_round_10 : decode cX11_round 10 = .ok (.invokestatic 92, 3) := by decide +kernel
theorem dX11_round_13 : decode cX11_round 13 = .ok (.ifCond .eq 12, 3) := by decide +kernel
theorem dX11_round_16 : decode cX11_round 16 = .ok (.iload_n 3, 1) := by decide +kernel
theorem dX11_round_17 : decode cX11_round 17 = .ok (.iconst 0, 1) := by decide +kernel
theorem dX11_round_18 : decode cX11_round 18 = .ok (.iconst 1, 1) := by decide +kernel
theorem dX11_round_19 : decode cX11_round 19 = .ok (.invokestatic 92, 3) := by decide +kernel
theorem dX11_round_22 : decode cX11_round 22 = .ok (.ifCond .ne 9, 3) := by decide +kernel
theorem dX11_round_25 : decode cX11_round 25 = .ok (.aload_n 0, 1) := by decide +kernel
theorem dX11_round_26 : decode cX11_round 26 = .ok (.iconst 1, 1) := by decide +kernel
theorem dX11_round_27 : decode cX11_round 27 = .ok (.invokevirtual 96, 3) := by decide +kernel
theorem dX11_round_30 : decode cX11_round 30 = .ok (.ireturn, 1) := by decide +kernel
theorem dX11_round_31 : decode cX11_round 31 = .ok (.aload_n 0, 1) := by decide +kernel
theorem dX11_round_32 : decode cX11_round 32 = .ok (.getfield 33, 3) := by decide +kernel
theorem dX11_round_35 : decode cX11_round 35 = .ok (.getfield 100, 3) := by decide +kernel
theorem dX11_round_38 : decode cX11_round 38 = .ok (.iload_n 1, 1) := by decide +kernel
theorem dX11_round_39 : decode cX11_round 39 = .ok (.invokevirtual 127, 3) := by decide +kernel
theorem dX11_round_42 : decode cX11_round 42 = .ok (.ifCond .ne 9, 3) := by decide +kernel
theorem dX11_round_45 : decode cX11_round 45 = .ok (.aload_n 0, 1) := by decide +kernel
theorem dX11_round_46 : decode cX11_round 46 = .ok (.iconst 3, 1) := by decide +kernel
theorem dX11_round_47 : decode cX11_round 47 = .ok (.invokevirtual 96, 3) := by decide +kernel
theorem dX11_round_50 : decode cX11_round 50 = .ok (.ireturn, 1) := by decide +kernel
theorem dX11_round_51 : decode cX11_round 51 = .ok (.aload_n 0, 1) := by decide +kernel
theorem dX11_round_52 : decode cX11_round 52 = .ok (.iload_n 1, 1) := by decide +kernel
theorem dX11_round_53 : decode cX11_round 53 = .ok (.iload_n 2, 1) := by decide +kernel
theorem dX11_round_54 : decode cX11_round 54 = .ok (.invokevirtual 212, 3) := by decide +kernel
theorem dX11_round_57 : decode cX11_round 57 = .ok (.istore 4, 2) := by decide +kernel
theorem dX11_round_59 : decode cX11_round 59 = .ok (.iload 4, 2) := by decide +kernel
theorem dX11_round_61 : decode cX11_round 61 = .ok (.ifCond .ge 9, 3) := by decide +kernel
theorem dX11_round_64 : decode cX11_round 64 = .ok (.aload_n 0, 1) := by decide +kernel
theorem dX11_round_65 : decode cX11_round 65 = .ok (.iconst 2, 1) := by decide +kernel
theorem dX11_round_66 : decode cX11_round 66 = .ok (.invokevirtual 96, 3) := by decide +kernel
theorem dX11_round_69 : decode cX11_round 69 = .ok (.ireturn, 1) := by decide +kernel
theorem dX11_round_70 : decode cX11_round 70 = .ok (.iload_n 3, 1) := by decide +kernel
theorem dX11_round_71 : decode cX11_round 71 = .ok (.ifCond .ne 14, 3) := by decide +kernel
theorem dX11_round_74 : decode cX11_round 74 = .ok (.iload 4, 2) := by decide +kernel
theorem dX11_round_76 : decode cX11_round 76 = .ok (.getstatic 215, 3) := by decide +kernel
theorem dX11_round_79 : decode cX11_round 79 = .ok (.iconst 3, 1) := by decide +kernel
theorem dX11_round_80 : decode cX11_round 80 = .ok (.iaload, 1) := by decide +kernel
theorem dX11_round_81 : decode cX11_round 81 = .ok (.idiv, 1) := by decide +kernel
theorem dX11_round_82 : decode cX11_round 82 = .ok (.goto 11, 3) := by decide +kernel
theorem dX11_round_85 : decode cX11_round 85 = .ok (.iload 4, 2) := by decide +kernel
theorem dX11_round_87 : decode cX11_round 87 = .ok (.getstatic 215, 3) := by decide +kernel
theorem dX11_round_90 : decode cX11_round 90 = .ok (.iconst 3, 1) := by decide +kernel
theorem dX11_round_91 : decode cX11_round 91 = .ok (.iaload, 1) := by decide +kernel
theorem dX11_round_92 : decode cX11_round 92 = .ok (.irem, 1) := by decide +kernel
theorem dX11_round_93 : decode cX11_round 93 = .ok (.ireturn, 1) := by decide +kernel
theorem dX11_change_0 : decode cX11_change 0 = .ok (.iload_n 1, 1) := by decide +kernel
theorem dX11_change_1 : decode cX11_change 1 = .ok (.invokestatic 88, 3) := by decide +kernel
theorem dX11_change_4 : decode cX11_change 4 = .ok (.ifCond .eq 12, 3) := by decide +kernel
theorem dX11_change_7 : decode cX11_change 7 = .ok (.iload_n 2, 1) := by decide +kernel
theorem dX11_change_8 : decode cX11_change 8 = .ok (.iconst 0, 1) := by decide +kernel
theorem dX11_change_9 : decode cX11_change 9 = .ok (.iconst 1, 1) := by decide +kernel
theorem dX11_change_10 : decode cX11_change 10 = .ok (.invokestatic 92, 3) := by decide +kernel
theorem dX11_change_13 : decode cX11_change 13 = .ok (.ifCond .ne 9, 3) := by decide +kernel
theorem dX11_change_16 : decode cX11_change 16 = .ok (.aload_n 0, 1) := by decide +kernel
theorem dX11_change_17 : decode cX11_change 17 = .ok (.iconst 1, 1) := by decide +kernel
theorem dX11_change_18 : decode cX11_change 18 = .ok (.invokevirtual 96, 3) := by decide +kernel
theorem dX11_change_21 : decode cX11_change 21 = .ok (.ireturn, 1) := by decide +kernel
theorem dX11_change_22 : decode cX11_change 22 = .ok (.aload_n 0, 1) := by decide +kernel
theorem dX11_change_23 : decode cX11_change 23 = .ok (.getfield 33, 3) := by decide +kernel
theorem dX11_change_26 : decode cX11_change 26 = .ok (.getfield 100, 3) := by decide +kernel
theorem dX11_change_29 : decode cX11_change 29 = .ok (.iload_n 1, 1) := by decide +kernel
theorem dX11_change_30 : decode cX11_change 30 = .ok (.invokevirtual 127, 3) := by decide +kernel
theorem dX11_change_33 : decode cX11_change 33 = .ok (.ifCond .ne 9, 3) := by decide +kernel
theorem dX11_change_36 : decode cX11_change 36 = .ok (.aload_n 0, 1) := by decide +kernel
theorem dX11_change_37 : decode cX11_change 37 = .ok (.iconst 3, 1) := by decide +kernel
theorem dX11_change_38 : decode cX11_change 38 = .ok (.invokevirtual 96, 3) := by decide +kernel
theorem dX11_change_41 : decode cX11_change 41 = .ok (.ireturn, 1) := by decide +kernel
theorem dX11_change_42 : decode cX11_change 42 = .ok (.iload_n 1, 1) := by decide +kernel
theorem dX11_change_43 : decode cX11_change 43 = .ok (.istore_n 3, 1) := by decide +kernel
theorem dX11_change_44 : decode cX11_change 44 = .ok (.iconst 0, 1) := by decide +kernel
theorem dX11_change_45 : decode cX11_change 45 = .ok (.istore 4, 2) := by decide +kernel
theorem dX11_change_47 : decode cX11_change 47 = .ok (.iconst 0, 1) := by decide +kernel
theorem dX11_change_48 : decode cX11_change 48 = .ok (.istore 5, 2) := by decide +kernel
theorem dX11_change_50 : decode cX11_change 50 = .ok (.iload 5, 2) := by decide +kernel
theorem dX11_change_52 : decode cX11_change 52 = .ok (.bipush 9, 2) := by decide +kernel
theorem dX11_change_54 : decode cX11_change 54 = .ok (.if_icmp .ge 75, 3) := by decide +kernel
theorem dX11_change_57 : decode cX11_change 57 = .ok (.aload_n 0, 1) := by decide +kernel
theorem dX11_change_58 : decode cX11_change 58 = .ok (.getfield 33, 3) := by decide +kernel
theorem dX11_change_61 : decode cX11_change 61 = .ok (.getfield 100, 3) := by decide +kernel
theorem dX11_change_64 : decode cX11_change 64 = .ok (.iload 5, 2) := by decide +kernel
theorem dX11_change_66 : decode cX11_change 66 = .ok (.invokevirtual 127, 3) := by decide +kernel
theorem dX11_change_69 : decode cX11_change 69 = .ok (.ifCond .ne 6, 3) := by decide +kernel
theorem dX11_change_72 : decode cX11_change 72 = .ok (.goto 51, 3) := by decide +kernel
theorem dX11_change_75 : decode cX11_change 75 = .ok (.aload_n 0, 1) := by decide +kernel
theorem dX11_change_76 : decode cX11_change 76 = .ok (.getfield 54, 3) := by decide +kernel
theorem dX11_change_79 : decode cX11_change 79 = .ok (.aload_n 0, 1) := by decide +kernel
theorem dX11_change_80 : decode cX11_change 80 = .ok (.getfield 33, 3) := by decide +kernel
theorem dX11_change_83 : decode cX11_change 83 = .ok (.getfield 100, 3) := by decide +kernel
theorem dX11_change_86 : decode cX11_change 86 = .ok (.invokevirtual 205, 3) := by decide +kernel
theorem dX11_change_89 : decode cX11_change 89 = .ok (.aload_n 0, 1) := by decide +kernel
theorem dX11_change_90 : decode cX11_change 90 = .ok (.getfield 54, 3) := by decide +kernel
theorem dX11_change_93 : decode cX11_change 93 = .ok (.iload_n 1, 1) := by decide +kernel
theorem dX11_change_94 : decode cX11_change 94 = .ok (.iload 5, 2) := by decide +kernel
theorem dX11_change_96 : decode cX11_change 96 = .ok (.invokevirtual 137, 3) := by decide +kernel
theorem dX11_change_99 : decode cX11_change 99 = .ok (.aload_n 0, 1) := by decide +kernel
theorem dX11_change_100 : decode cX11_change 100 = .ok (.getfield 54, 3) := by decide +kernel
theorem dX11_change_103 : decode cX11_change 103 = .ok (.iload_n 1, 1) := by decide +kernel
theorem dX11_change_104 : decode cX11_change 104 = .ok (.invokevirtual 209, 3) := by decide +kernel
theorem dX11_change_107 : decode cX11_change 107 = .ok (.istore 6, 2) := by decide +kernel
theorem dX11_change_109 : decode cX11_change 109 = .ok (.iload 6, 2) := by decide +kernel
theorem dX11_change_111 : decode cX11_change 111 = .ok (.iload 4, 2) := by decide +kernel
theorem dX11_change_113 : decode cX11_change 113 = .ok (.if_icmp .le 10, 3) := by decide +kernel
theorem dX11_change_116 : decode cX11_change 116 = .ok (.iload 6, 2) := by decide +kernel
theorem dX11_change_118 : decode cX11_change 118 = .ok (.istore 4, 2) := by decide +kernel
theorem dX11_change_120 : decode cX11_change 120 = .ok (.iload 5, 2) := by decide +kernel
theorem dX11_change_122 : decode cX11_change 122 = .ok (.istore_n 3, 1) := by decide +kernel
theorem dX11_change_123 : decode cX11_change 123 = .ok (.iinc 5 1, 3) := by decide +kernel
theorem dX11_change_126 : decode cX11_change 126 = .ok (.goto (-76), 3) := by decide +kernel
theorem dX11_change_129 : decode cX11_change 129 = .ok (.iload_n 2, 1) := by decide +kernel
theorem dX11_change_130 : decode cX11_change 130 = .ok (.ifCond .ne 7, 3) := by decide +kernel
theorem dX11_change_133 : decode cX11_change 133 = .ok (.iload_n 3, 1) := by decide +kernel
theorem dX11_change_134 : decode cX11_change 134 = .ok (.goto 5, 3) := by decide +kernel
theorem dX11_change_137 : decode cX11_change 137 = .ok (.iload 4, 2) := by decide +kernel
theorem dX11_change_139 : decode cX11_change 139 = .ok (.ireturn, 1) := by decide +kernel
theorem dX11_empties_0 : decode cX11_empties 0 = .ok (.iload_n 1, 1) := by decide +kernel
theorem dX11_empties_1 : decode cX11_empties 1 = .ok (.iconst 0, 1) := by decide +kernel
theorem dX11_empties_2 : decode cX11_empties 2 = .ok (.iconst 1, 1) := by decide +kernel
theorem dX11_empties_3 : decode cX11_empties 3 = .ok (.invokestatic 92, 3) := by decide +kernel
theorem dX11_empties_6 : decode cX11_empties 6 = .ok (.ifCond .ne 9, 3) := by decide +kernel
theorem dX11_empties_9 : decode cX11_empties 9 = .ok (.aload_n 0, 1) := by decide +kernel
theorem dX11_empties_10 : decode cX11_empties 10 = .ok (.iconst 1, 1) := by decide +kernel
theorem dX11_empties_11 : decode cX11_empties 11 = .ok (.invokevirtual 96, 3) := by decide +kernel
theorem dX11_empties_14 : decode cX11_empties 14 = .ok (.ireturn, 1) := by decide +kernel
theorem dX11_empties_15 : decode cX11_empties 15 = .ok (.aload_n 0, 1) := by decide +kernel
theorem dX11_empties_16 : decode cX11_empties 16 = .ok (.getfield 33, 3) := by decide +kernel
theorem dX11_empties_19 : decode cX11_empties 19 = .ok (.getfield 100, 3) := by decide +kernel
theorem dX11_empties_22 : decode cX11_empties 22 = .ok (.invokevirtual 218, 3) := by decide +kernel
theorem dX11_empties_25 : decode cX11_empties 25 = .ok (.istore_n 2, 1) := by decide +kernel
theorem dX11_empties_26 : decode cX11_empties 26 = .ok (.iload_n 2, 1) := by decide +kernel
theorem dX11_empties_27 : decode cX11_empties 27 = .ok (.istore_n 3, 1) := by decide +kernel
theorem dX11_empties_28 : decode cX11_empties 28 = .ok (.iconst 0, 1) := by decide +kernel
theorem dX11_empties_29 : decode cX11_empties 29 = .ok (.istore 4, 2) := by decide +kernel
theorem dX11_empties_31 : decode cX11_empties 31 = .ok (.iload 4, 2) := by decide +kernel
theorem dX11_empties_33 : decode cX11_empties 33 = .ok (.iload_n 2, 1) := by decide +kernel
theorem dX11_empties_34 : decode cX11_empties 34 = .ok (.if_icmp .ge 54, 3) := by decide +kernel
theorem dX11_empties_37 : decode cX11_empties 37 = .ok (.iload 4, 2) := by decide +kernel
theorem dX11_empties_39 : decode cX11_empties 39 = .ok (.invokestatic 221, 3) := by decide +kernel
theorem dX11_empties_42 : decode cX11_empties 42 = .ok (.iload_n 3, 1) := by decide +kernel
theorem dX11_empties_43 : decode cX11_empties 43 = .ok (.invokestatic 221, 3) := by decide +kernel
theorem dX11_empties_46 : decode cX11_empties 46 = .ok (.if_icmp .ge 7, 3) := by decide +kernel
theorem dX11_empties_49 : decode cX11_empties 49 = .ok (.iconst 1, 1) := by decide +kernel
theorem dX11_empties_50 : decode cX11_empties 50 = .ok (.goto 4, 3) := by decide +kernel
theorem dX11_empties_53 : decode cX11_empties 53 = .ok (.iconst 0, 1) := by decide +kernel
theorem dX11_empties_54 : decode cX11_empties 54 = .ok (.istore 5, 2) := by decide +kernel
theorem dX11_empties_56 : decode cX11_empties 56 = .ok (.iload 5, 2) := by decide +kernel
theorem dX11_empties_58 : decode cX11_empties 58 = .ok (.ifCond .eq 24, 3) := by decide +kernel
theorem dX11_empties_61 : decode cX11_empties 61 = .ok (.iload 4, 2) := by decide +kernel
theorem dX11_empties_63 : decode cX11_empties 63 = .ok (.iload_n 2, 1) := by decide +kernel
theorem dX11_empties_64 : decode cX11_empties 64 = .ok (.iconst (-1), 1) := by decide +kernel
theorem dX11_empties_65 : decode cX11_empties 65 = .ok (.ixor, 1) := by decide +kernel
theorem dX11_empties_66 : decode cX11_empties 66 = .ok (.iand, 1) := by decide +kernel
theorem dX11_empties_67 : decode cX11_empties 67 = .ok (.ifCond .ne 15, 3) := by decide +kernel
theorem dX11_empties_70 : decode cX11_empties 70 = .ok (.aload_n 0, 1) := by decide +kernel
theorem dX11_empties_71 : decode cX11_empties 71 = .ok (.iload 4, 2) := by decide +kernel
theorem dX11_empties_73 : decode cX11_empties 73 = .ok (.invokevirtual 226, 3) := by decide +kernel
theorem dX11_empties_76 : decode cX11_empties 76 = .ok (.ifCond .eq 6, 3) := by decide +kernel
theorem dX11_empties_79 : decode cX11_empties 79 = .ok (.iload 4, 2) := by decide +kernel
theorem dX11_empties_81 : decode cX11_empties 81 = .ok (.istore_n 3, 1) := by decide +kernel
theorem dX11_empties_82 : decode cX11_empties 82 = .ok (.iinc 4 1, 3) := by decide +kernel
theorem dX11_empties_85 : decode cX11_empties 85 = .ok (.goto (-54), 3) := by decide +kernel
theorem dX11_empties_88 : decode cX11_empties 88 = .ok (.iload_n 1, 1) := by decide +kernel
theorem dX11_empties_89 : decode cX11_empties 89 = .ok (.ifCond .ne 10, 3) := by decide +kernel
theorem dX11_empties_92 : decode cX11_empties 92 = .ok (.iload_n 3, 1) := by decide +kernel
theorem dX11_empties_93 : decode cX11_empties 93 = .ok (.invokestatic 221, 3) := by decide +kernel
theorem dX11_empties_96 : decode cX11_empties 96 = .ok (.goto 4, 3) := by decide +kernel
theorem dX11_empties_99 : decode cX11_empties 99 = .ok (.iload_n 3, 1) := by decide +kernel
theorem dX11_empties_100 : decode cX11_empties 100 = .ok (.ireturn, 1) := by decide +kernel
theorem dX11_whose_0 : decode cX11_whose 0 = .ok (.iload_n 1, 1) := by decide +kernel
theorem dX11_whose_1 : decode cX11_whose 1 = .ok (.iconst 0, 1) := by decide +kernel
theorem dX11_whose_2 : decode cX11_whose 2 = .ok (.sipush 511, 3) := by decide +kernel
theorem dX11_whose_5 : decode cX11_whose 5 = .ok (.invokestatic 92, 3) := by decide +kernel
theorem dX11_whose_8 : decode cX11_whose 8 = .ok (.ifCond .ne 9, 3) := by decide +kernel
theorem dX11_whose_11 : decode cX11_whose 11 = .ok (.aload_n 0, 1) := by decide +kernel
theorem dX11_whose_12 : decode cX11_whose 12 = .ok (.iconst 1, 1) := by decide +kernel
theorem dX11_whose_13 : decode cX11_whose 13 = .ok (.invokevirtual 96, 3) := by decide +kernel
theorem dX11_whose_16 : decode cX11_whose 16 = .ok (.ireturn, 1) := by decide +kernel
theorem dX11_whose_17 : decode cX11_whose 17 = .ok (.aload_n 0, 1) := by decide +kernel
theorem dX11_whose_18 : decode cX11_whose 18 = .ok (.getfield 33, 3) := by decide +kernel
theorem dX11_whose_21 : decode cX11_whose 21 = .ok (.getfield 100, 3) := by decide +kernel
theorem dX11_whose_24 : decode cX11_whose 24 = .ok (.invokevirtual 218, 3) := by decide +kernel
theorem dX11_whose_27 : decode cX11_whose 27 = .ok (.istore_n 2, 1) := by decide +kernel
theorem dX11_whose_28 : decode cX11_whose 28 = .ok (.iconst 0, 1) := by decide +kernel
theorem dX11_whose_29 : decode cX11_whose 29 = .ok (.istore_n 3, 1) := by decide +kernel
theorem dX11_whose_30 : decode cX11_whose 30 = .ok (.iconst 0, 1) := by decide +kernel
theorem dX11_whose_31 : decode cX11_whose 31 = .ok (.istore 4, 2) := by decide +kernel
theorem dX11_whose_33 : decode cX11_whose 33 = .ok (.iload 4, 2) := by decide +kernel
theorem dX11_whose_35 : decode cX11_whose 35 = .ok (.bipush 9, 2) := by decide +kernel
theorem dX11_whose_37 : decode cX11_whose 37 = .ok (.if_icmp .ge 73, 3) := by decide +kernel
theorem dX11_whose_40 : decode cX11_whose 40 = .ok (.aload_n 0, 1) := by decide +kernel
theorem dX11_whose_41 : decode cX11_whose 41 = .ok (.getfield 33, 3) := by decide +kernel
theorem dX11_whose_44 : decode cX11_whose 44 = .ok (.getfield 100, 3) := by decide +kernel
theorem dX11_whose_47 : decode cX11_whose 47 = .ok (.iload 4, 2) := by decide +kernel
theorem dX11_whose_49 : decode cX11_whose 49 = .ok (.invokevirtual 127, 3) := by decide +kernel
theorem dX11_whose_52 : decode cX11_whose 52 = .ok (.ifCond .ne 6, 3) := by decide +kernel
theorem dX11_whose_55 : decode cX11_whose 55 = .ok (.goto 49, 3) := by decide +kernel
theorem dX11_whose_58 : decode cX11_whose 58 = .ok (.aload_n 0, 1) := by decide +kernel
theorem dX11_whose_59 : decode cX11_whose 59 = .ok (.getfield 54, 3) := by decide +kernel
theorem dX11_whose_62 : decode cX11_whose 62 = .ok (.aload_n 0, 1) := by decide +kernel
theorem dX11_whose_63 : decode cX11_whose 63 = .ok (.getfield 33, 3) := by decide +kernel
theorem dX11_whose_66 : decode cX11_whose 66 = .ok (.getfield 100, 3) := by decide +kernel
theorem dX11_whose_69 : decode cX11_whose 69 = .ok (.invokevirtual 205, 3) := by decide +kernel
theorem dX11_whose_72 : decode cX11_whose 72 = .ok (.aload_n 0, 1) := by decide +kernel
theorem dX11_whose_73 : decode cX11_whose 73 = .ok (.getfield 54, 3) := by decide +kernel
theorem dX11_whose_76 : decode cX11_whose 76 = .ok (.iload 4, 2) := by decide +kernel
theorem dX11_whose_78 : decode cX11_whose 78 = .ok (.invokevirtual 189, 3) := by decide +kernel
theorem dX11_whose_81 : decode cX11_whose 81 = .ok (.pop, 1) := by decide +kernel
theorem dX11_whose_82 : decode cX11_whose 82 = .ok (.iload_n 2, 1) := by decide +kernel
theorem dX11_whose_83 : decode cX11_whose 83 = .ok (.aload_n 0, 1) := by decide +kernel
theorem dX11_whose_84 : decode cX11_whose 84 = .ok (.getfield 54, 3) := by decide +kernel
theorem dX11_whose_87 : decode cX11_whose 87 = .ok (.invokevirtual 218, 3) := by decide +kernel
theorem dX11_whose_90 : decode cX11_whose 90 = .ok (.iconst (-1), 1) := by decide +kernel
theorem dX11_whose_91 : decode cX11_whose 91 = .ok (.ixor, 1) := by decide +kernel
theorem dX11_whose_92 : decode cX11_whose 92 = .ok (.iand, 1) := by decide +kernel
theorem dX11_whose_93 : decode cX11_whose 93 = .ok (.iload_n 1, 1) := by decide +kernel
theorem dX11_whose_94 : decode cX11_whose 94 = .ok (.if_icmp .ne 10, 3) := by decide +kernel
theorem dX11_whose_97 : decode cX11_whose 97 = .ok (.iload_n 3, 1) := by decide +kernel
theorem dX11_whose_98 : decode cX11_whose 98 = .ok (.iconst 1, 1) := by decide +kernel
theorem dX11_whose_99 : decode cX11_whose 99 = .ok (.iload 4, 2) := by decide +kernel
theorem dX11_whose_101 : decode cX11_whose 101 = .ok (.ishl, 1) := by decide +kernel
theorem dX11_whose_102 : decode cX11_whose 102 = .ok (.ior, 1) := by decide +kernel
theorem dX11_whose_103 : decode cX11_whose 103 = .ok (.istore_n 3, 1) := by decide +kernel
theorem dX11_whose_104 : decode cX11_whose 104 = .ok (.iinc 4 1, 3) := by decide +kernel
theorem dX11_whose_107 : decode cX11_whose 107 = .ok (.goto (-74), 3) := by decide +kernel
theorem dX11_whose_110 : decode cX11_whose 110 = .ok (.iload_n 3, 1) := by decide +kernel
theorem dX11_whose_111 : decode cX11_whose 111 = .ok (.ireturn, 1) := by decide +kernel
theorem dX11_slate_0 : decode cX11_slate 0 = .ok (.iload_n 1, 1) := by decide +kernel
theorem dX11_slate_1 : decode cX11_slate 1 = .ok (.invokestatic 229, 3) := by decide +kernel
theorem dX11_slate_4 : decode cX11_slate 4 = .ok (.ifCond .eq 12, 3) := by decide +kernel
theorem dX11_slate_7 : decode cX11_slate 7 = .ok (.iload_n 2, 1) := by decide +kernel
theorem dX11_slate_8 : decode cX11_slate 8 = .ok (.iconst 0, 1) := by decide +kernel
theorem dX11_slate_9 : decode cX11_slate 9 = .ok (.iconst 1, 1) := by decide +kernel
theorem dX11_slate_10 : decode cX11_slate 10 = .ok (.invokestatic 92, 3) := by decide +kernel
theorem dX11_slate_13 : decode cX11_slate 13 = .ok (.ifCond .ne 10, 3) := by decide +kernel
theorem dX11_slate_16 : decode cX11_slate 16 = .ok (.aload_n 0, 1) := by decide +kernel
theorem dX11_slate_17 : decode cX11_slate 17 = .ok (.iconst 1, 1) := by decide +kernel
theorem dX11_slate_18 : decode cX11_slate 18 = .ok (.invokevirtual 96, 3) := by decide +kernel
theorem dX11_slate_21 : decode cX11_slate 21 = .ok (.i2l, 1) := by decide +kernel
theorem dX11_slate_22 : decode cX11_slate 22 = .ok (.lreturn, 1) := by decide +kernel
theorem dX11_slate_23 : decode cX11_slate 23 = .ok (.aload_n 0, 1) := by decide +kernel
theorem dX11_slate_24 : decode cX11_slate 24 = .ok (.iload_n 1, 1) := by decide +kernel
theorem dX11_slate_25 : decode cX11_slate 25 = .ok (.invokevirtual 232, 3) := by decide +kernel
theorem dX11_slate_28 : decode cX11_slate 28 = .ok (.ifCond .ne 14, 3) := by decide +kernel
theorem dX11_slate_31 : decode cX11_slate 31 = .ok (.aload_n 0, 1) := by decide +kernel
theorem dX11_slate_32 : decode cX11_slate 32 = .ok (.getfield 78, 3) := by decide +kernel
theorem dX11_slate_35 : decode cX11_slate 35 = .ok (.iload_n 1, 1) := by decide +kernel
theorem dX11_slate_36 : decode cX11_slate 36 = .ok (.iaload, 1) := by decide +kernel
theorem dX11_slate_37 : decode cX11_slate 37 = .ok (.bipush 9, 2) := by decide +kernel
theorem dX11_slate_39 : decode cX11_slate 39 = .ok (.if_icmp .ge 10, 3) := by decide +kernel
theorem dX11_slate_42 : decode cX11_slate 42 = .ok (.aload_n 0, 1) := by decide +kernel
theorem dX11_slate_43 : decode cX11_slate 43 = .ok (.iconst 2, 1) := by decide +kernel
theorem dX11_slate_44 : decode cX11_slate 44 = .ok (.invokevirtual 96, 3) := by decide +kernel
theorem dX11_slate_47 : decode cX11_slate 47 = .ok (.i2l, 1) := by decide +kernel
theorem dX11_slate_48 : decode cX11_slate 48 = .ok (.lreturn, 1) := by decide +kernel
theorem dX11_slate_49 : decode cX11_slate 49 = .ok (.lconst 0, 1) := by decide +kernel
theorem dX11_slate_50 : decode cX11_slate 50 = .ok (.lstore_n 3, 1) := by decide +kernel
theorem dX11_slate_51 : decode cX11_slate 51 = .ok (.lconst 1, 1) := by decide +kernel
theorem dX11_slate_52 : decode cX11_slate 52 = .ok (.lstore 5, 2) := by decide +kernel
theorem dX11_slate_54 : decode cX11_slate 54 = .ok (.iconst 0, 1) := by decide +kernel
theorem dX11_slate_55 : decode cX11_slate 55 = .ok (.istore 7, 2) := by decide +kernel
theorem dX11_slate_57 : decode cX11_slate 57 = .ok (.iload 7, 2) := by decide +kernel
theorem dX11_slate_59 : decode cX11_slate 59 = .ok (.bipush 9, 2) := by decide +kernel
theorem dX11_slate_61 : decode cX11_slate 61 = .ok (.if_icmp .ge 56, 3) := by decide +kernel
theorem dX11_slate_64 : decode cX11_slate 64 = .ok (.aload_n 0, 1) := by decide +kernel
theorem dX11_slate_65 : decode cX11_slate 65 = .ok (.getfield 71, 3) := by decide +kernel
theorem dX11_slate_68 : decode cX11_slate 68 = .ok (.iload_n 1, 1) := by decide +kernel
theorem dX11_slate_69 : decode cX11_slate 69 = .ok (.aaload, 1) := by decide +kernel
theorem dX11_slate_70 : decode cX11_slate 70 = .ok (.iload 7, 2) := by decide +kernel
theorem dX11_slate_72 : decode cX11_slate 72 = .ok (.iaload, 1) := by decide +kernel
theorem dX11_slate_73 : decode cX11_slate 73 = .ok (.istore 8, 2) := by decide +kernel
theorem dX11_slate_75 : decode cX11_slate 75 = .ok (.iload 8, 2) := by decide +kernel
theorem dX11_slate_77 : decode cX11_slate 77 = .ok (.iconst 1, 1) := by decide +kernel
theorem dX11_slate_78 : decode cX11_slate 78 = .ok (.bipush 99, 2) := by decide +kernel
theorem dX11_slate_80 : decode cX11_slate 80 = .ok (.invokestatic 92, 3) := by decide +kernel
theorem dX11_slate_83 : decode cX11_slate 83 = .ok (.ifCond .ne 11, 3) := by decide +kernel
theorem dX11_slate_86 : decode cX11_slate 86 = .ok (.aload_n 0, 1) := by decide +kernel
theorem dX11_slate_87 : decode cX11_slate 87 = .ok (.bipush 6, 2) := by decide +kernel
theorem dX11_slate_89 : decode cX11_slate 89 = .ok (.invokevirtual 96, 3) := by decide +kernel
theorem dX11_slate_92 : decode cX11_slate 92 = .ok (.i2l, 1) := by decide +kernel
theorem dX11_slate_93 : decode cX11_slate 93 = .ok (.lreturn, 1) := by decide +kernel
theorem dX11_slate_94 : decode cX11_slate 94 = .ok (.lload_n 3, 1) := by decide +kernel
theorem dX11_slate_95 : decode cX11_slate 95 = .ok (.iload 8, 2) := by decide +kernel
theorem dX11_slate_97 : decode cX11_slate 97 = .ok (.i2l, 1) := by decide +kernel
theorem dX11_slate_98 : decode cX11_slate 98 = .ok (.lmul, 1) := by decide +kernel
theorem dX11_slate_99 : decode cX11_slate 99 = .ok (.lload 5, 2) := by decide +kernel
theorem dX11_slate_101 : decode cX11_slate 101 = .ok (.ladd, 1) := by decide +kernel
theorem dX11_slate_102 : decode cX11_slate 102 = .ok (.lstore_n 3, 1) := by decide +kernel
theorem dX11_slate_103 : decode cX11_slate 103 = .ok (.lload 5, 2) := by decide +kernel
theorem dX11_slate_105 : decode cX11_slate 105 = .ok (.iload 8, 2) := by decide +kernel
theorem dX11_slate_107 : decode cX11_slate 107 = .ok (.i2l, 1) := by decide +kernel
theorem dX11_slate_108 : decode cX11_slate 108 = .ok (.lmul, 1) := by decide +kernel
theorem dX11_slate_109 : decode cX11_slate 109 = .ok (.lstore 5, 2) := by decide +kernel
theorem dX11_slate_111 : decode cX11_slate 111 = .ok (.iinc 7 1, 3) := by decide +kernel
theorem dX11_slate_114 : decode cX11_slate 114 = .ok (.goto (-57), 3) := by decide +kernel
theorem dX11_slate_117 : decode cX11_slate 117 = .ok (.lload_n 3, 1) := by decide +kernel
theorem dX11_slate_118 : decode cX11_slate 118 = .ok (.lload 5, 2) := by decide +kernel
theorem dX11_slate_120 : decode cX11_slate 120 = .ok (.invokestatic 234, 3) := by decide +kernel
theorem dX11_slate_123 : decode cX11_slate 123 = .ok (.lstore 7, 2) := by decide +kernel
theorem dX11_slate_125 : decode cX11_slate 125 = .ok (.iload_n 2, 1) := by decide +kernel
theorem dX11_slate_126 : decode cX11_slate 126 = .ok (.ifCond .ne 10, 3) := by decide +kernel
theorem dX11_slate_129 : decode cX11_slate 129 = .ok (.lload_n 3, 1) := by decide +kernel
theorem dX11_slate_130 : decode cX11_slate 130 = .ok (.lload 7, 2) := by decide +kernel
theorem dX11_slate_132 : decode cX11_slate 132 = .ok (.ldiv, 1) := by decide +kernel
theorem dX11_slate_133 : decode cX11_slate 133 = .ok (.goto 8, 3) := by decide +kernel
theorem dX11_slate_136 : decode cX11_slate 136 = .ok (.lload 5, 2) := by decide +kernel
theorem dX11_slate_138 : decode cX11_slate 138 = .ok (.lload 7, 2) := by decide +kernel
theorem dX11_slate_140 : decode cX11_slate 140 = .ok (.ldiv, 1) := by decide +kernel
theorem dX11_slate_141 : decode cX11_slate 141 = .ok (.lreturn, 1) := by decide +kernel
theorem dX11_voice_0 : decode cX11_voice 0 = .ok (.iload_n 1, 1) := by decide +kernel
theorem dX11_voice_1 : decode cX11_voice 1 = .ok (.invokestatic 88, 3) := by decide +kernel
theorem dX11_voice_4 : decode cX11_voice 4 = .ok (.ifCond .eq 12, 3) := by decide +kernel
theorem dX11_voice_7 : decode cX11_voice 7 = .ok (.iload_n 2, 1) := by decide +kernel
theorem dX11_voice_8 : decode cX11_voice 8 = .ok (.iconst 0, 1) := by decide +kernel
theorem dX11_voice_9 : decode cX11_voice 9 = .ok (.iconst 3, 1) := by decide +kernel
theorem dX11_voice_10 : decode cX11_voice 10 = .ok (.invokestatic 92, 3) := by decide +kernel
theorem dX11_voice_13 : decode cX11_voice 13 = .ok (.ifCond .ne 9, 3) := by decide +kernel
theorem dX11_voice_16 : decode cX11_voice 16 = .ok (.aload_n 0, 1) := by decide +kernel
theorem dX11_voice_17 : decode cX11_voice 17 = .ok (.iconst 1, 1) := by decide +kernel
theorem dX11_voice_18 : decode cX11_voice 18 = .ok (.invokevirtual 96, 3) := by decide +kernel
theorem dX11_voice_21 : decode cX11_voice 21 = .ok (.ireturn, 1) := by decide +kernel
theorem dX11_voice_22 : decode cX11_voice 22 = .ok (.aload_n 0, 1) := by decide +kernel
theorem dX11_voice_23 : decode cX11_voice 23 = .ok (.getfield 33, 3) := by decide +kernel
theorem dX11_voice_26 : decode cX11_voice 26 = .ok (.getfield 100, 3) := by decide +kernel
theorem dX11_voice_29 : decode cX11_voice 29 = .ok (.iload_n 1, 1) := by decide +kernel
theorem dX11_voice_30 : decode cX11_voice 30 = .ok (.invokevirtual 119, 3) := by decide +kernel
theorem dX11_voice_33 : decode cX11_voice 33 = .ok (.astore 4, 2) := by decide +kernel
theorem dX11_voice_35 : decode cX11_voice 35 = .ok (.aload_n 0, 1) := by decide +kernel
theorem dX11_voice_36 : decode cX11_voice 36 = .ok (.getfield 65, 3) := by decide +kernel
theorem dX11_voice_39 : decode cX11_voice 39 = .ok (.iload_n 1, 1) := by decide +kernel
theorem dX11_voice_40 : decode cX11_voice 40 = .ok (.aload_n 0, 1) := by decide +kernel
theorem dX11_voice_41 : decode cX11_voice 41 = .ok (.getfield 33, 3) := by decide +kernel
theorem dX11_voice_44 : decode cX11_voice 44 = .ok (.getfield 100, 3) := by decide +kernel
theorem dX11_voice_47 : decode cX11_voice 47 = .ok (.getfield 106, 3) := by decide +kernel
theorem dX11_voice_50 : decode cX11_voice 50 = .ok (.iload_n 1, 1) := by decide +kernel
theorem dX11_voice_51 : decode cX11_voice 51 = .ok (.iaload, 1) := by decide +kernel
theorem dX11_voice_52 : decode cX11_voice 52 = .ok (.invokevirtual 238, 3) := by decide +kernel
theorem dX11_voice_55 : decode cX11_voice 55 = .ok (.iload_n 2, 1) := by decide +kernel
theorem dX11_voice_56 : decode cX11_voice 56 = .ok (.tableswitch 73 0 2 #[28, 43, 58], 28) := by decide +kernel
theorem dX11_voice_84 : decode cX11_voice 84 = .ok (.aload 4, 2) := by decide +kernel
theorem dX11_voice_86 : decode cX11_voice 86 = .ok (.aload_n 0, 1) := by decide +kernel
theorem dX11_voice_87 : decode cX11_voice 87 = .ok (.getfield 65, 3) := by decide +kernel
theorem dX11_voice_90 : decode cX11_voice 90 = .ok (.iload_n 3, 1) := by decide +kernel
theorem dX11_voice_91 : decode cX11_voice 91 = .ok (.invokevirtual 241, 3) := by decide +kernel
theorem dX11_voice_94 : decode cX11_voice 94 = .ok (.istore 5, 2) := by decide +kernel
theorem dX11_voice_96 : decode cX11_voice 96 = .ok (.goto 45, 3) := by decide +kernel
theorem dX11_voice_99 : decode cX11_voice 99 = .ok (.aload 4, 2) := by decide +kernel
theorem dX11_voice_101 : decode cX11_voice 101 = .ok (.aload_n 0, 1) := by decide +kernel
theorem dX11_voice_102 : decode cX11_voice 102 = .ok (.getfield 65, 3) := by decide +kernel
theorem dX11_voice_105 : decode cX11_voice 105 = .ok (.iload_n 3, 1) := by decide +kernel
theorem dX11_voice_106 : decode cX11_voice 106 = .ok (.invokevirtual 245, 3) := by decide +kernel
theorem dX11_voice_109 : decode cX11_voice 109 = .ok (.istore 5, 2) := by decide +kernel
theorem dX11_voice_111 : decode cX11_voice 111 = .ok (.goto 30, 3) := by decide +kernel
theorem dX11_voice_114 : decode cX11_voice 114 = .ok (.aload 4, 2) := by decide +kernel
theorem dX11_voice_116 : decode cX11_voice 116 = .ok (.aload_n 0, 1) := by decide +kernel
theorem dX11_voice_117 : decode cX11_voice 117 = .ok (.getfield 65, 3) := by decide +kernel
theorem dX11_voice_120 : decode cX11_voice 120 = .ok (.iload_n 3, 1) := by decide +kernel
theorem dX11_voice_121 : decode cX11_voice 121 = .ok (.invokevirtual 248, 3) := by decide +kernel
theorem dX11_voice_124 : decode cX11_voice 124 = .ok (.istore 5, 2) := by decide +kernel
theorem dX11_voice_126 : decode cX11_voice 126 = .ok (.goto 15, 3) := by decide +kernel
theorem dX11_voice_129 : decode cX11_voice 129 = .ok (.aload 4, 2) := by decide +kernel
theorem dX11_voice_131 : decode cX11_voice 131 = .ok (.aload_n 0, 1) := by decide +kernel
theorem dX11_voice_132 : decode cX11_voice 132 = .ok (.getfield 65, 3) := by decide +kernel
theorem dX11_voice_135 : decode cX11_voice 135 = .ok (.iload_n 3, 1) := by decide +kernel
theorem dX11_voice_136 : decode cX11_voice 136 = .ok (.invokevirtual 251, 3) := by decide +kernel
theorem dX11_voice_139 : decode cX11_voice 139 = .ok (.istore 5, 2) := by decide +kernel
theorem dX11_voice_141 : decode cX11_voice 141 = .ok (.aload_n 0, 1) := by decide +kernel
theorem dX11_voice_142 : decode cX11_voice 142 = .ok (.getfield 65, 3) := by decide +kernel
theorem dX11_voice_145 : decode cX11_voice 145 = .ok (.getfield 254, 3) := by decide +kernel
theorem dX11_voice_148 : decode cX11_voice 148 = .ok (.ifCond .eq 10, 3) := by decide +kernel
theorem dX11_voice_151 : decode cX11_voice 151 = .ok (.aload_n 0, 1) := by decide +kernel
theorem dX11_voice_152 : decode cX11_voice 152 = .ok (.bipush 6, 2) := by decide +kernel
theorem dX11_voice_154 : decode cX11_voice 154 = .ok (.invokevirtual 96, 3) := by decide +kernel
theorem dX11_voice_157 : decode cX11_voice 157 = .ok (.ireturn, 1) := by decide +kernel
theorem dX11_voice_158 : decode cX11_voice 158 = .ok (.aload_n 0, 1) := by decide +kernel
theorem dX11_voice_159 : decode cX11_voice 159 = .ok (.getfield 65, 3) := by decide +kernel
theorem dX11_voice_162 : decode cX11_voice 162 = .ok (.invokevirtual 258, 3) := by decide +kernel
theorem dX11_voice_165 : decode cX11_voice 165 = .ok (.iload 5, 2) := by decide +kernel
theorem dX11_voice_167 : decode cX11_voice 167 = .ok (.ireturn, 1) := by decide +kernel
theorem dX11_body_0 : decode cX11_body 0 = .ok (.iload_n 1, 1) := by decide +kernel
theorem dX11_body_1 : decode cX11_body 1 = .ok (.iconst 0, 1) := by decide +kernel
theorem dX11_body_2 : decode cX11_body 2 = .ok (.aload_n 0, 1) := by decide +kernel
theorem dX11_body_3 : decode cX11_body 3 = .ok (.getfield 65, 3) := by decide +kernel
theorem dX11_body_6 : decode cX11_body 6 = .ok (.getfield 261, 3) := by decide +kernel
theorem dX11_body_9 : decode cX11_body 9 = .ok (.iconst 1, 1) := by decide +kernel
theorem dX11_body_10 : decode cX11_body 10 = .ok (.isub, 1) := by decide +kernel
theorem dX11_body_11 : decode cX11_body 11 = .ok (.invokestatic 92, 3) := by decide +kernel
theorem dX11_body_14 : decode cX11_body 14 = .ok (.ifCond .ne 9, 3) := by decide +kernel
theorem dX11_body_17 : decode cX11_body 17 = .ok (.aload_n 0, 1) := by decide +kernel
theorem dX11_body_18 : decode cX11_body 18 = .ok (.iconst 2, 1) := by decide +kernel
theorem dX11_body_19 : decode cX11_body 19 = .ok (.invokevirtual 96, 3) := by decide +kernel
theorem dX11_body_22 : decode cX11_body 22 = .ok (.ireturn, 1) := by decide +kernel
theorem dX11_body_23 : decode cX11_body 23 = .ok (.aload_n 0, 1) := by decide +kernel
theorem dX11_body_24 : decode cX11_body 24 = .ok (.getfield 65, 3) := by decide +kernel
theorem dX11_body_27 : decode cX11_body 27 = .ok (.getfield 264, 3) := by decide +kernel
theorem dX11_body_30 : decode cX11_body 30 = .ok (.iload_n 1, 1) := by decide +kernel
theorem dX11_body_31 : decode cX11_body 31 = .ok (.iaload, 1) := by decide +kernel
theorem dX11_body_32 : decode cX11_body 32 = .ok (.ireturn, 1) := by decide +kernel
theorem dX11_sheet_0 : decode cX11_sheet 0 = .ok (.iload_n 1, 1) := by decide +kernel
theorem dX11_sheet_1 : decode cX11_sheet 1 = .ok (.invokestatic 229, 3) := by decide +kernel
theorem dX11_sheet_4 : decode cX11_sheet 4 = .ok (.ifCond .eq 10, 3) := by decide +kernel
theorem dX11_sheet_7 : decode cX11_sheet 7 = .ok (.iload_n 2, 1) := by decide +kernel
theorem dX11_sheet_8 : decode cX11_sheet 8 = .ok (.invokestatic 267, 3) := by decide +kernel
theorem dX11_sheet_11 : decode cX11_sheet 11 = .ok (.ifCond .ne 9, 3) := by decide +kernel
theorem dX11_sheet_14 : decode cX11_sheet 14 = .ok (.aload_n 0, 1) := by decide +kernel
theorem dX11_sheet_15 : decode cX11_sheet 15 = .ok (.iconst 1, 1) := by decide +kernel
theorem dX11_sheet_16 : decode cX11_sheet 16 = .ok (.invokevirtual 96, 3) := by decide +kernel
theorem dX11_sheet_19 : decode cX11_sheet 19 = .ok (.ireturn, 1) := by decide +kernel
theorem dX11_sheet_20 : decode cX11_sheet 20 = .ok (.iload_n 2, 1) := by decide +kernel
theorem dX11_sheet_21 : decode cX11_sheet 21 = .ok (.ifCond .eq 13, 3) := by decide +kernel
theorem dX11_sheet_24 : decode cX11_sheet 24 = .ok (.iload_n 3, 1) := by decide +kernel
theorem dX11_sheet_25 : decode cX11_sheet 25 = .ok (.ifCond .ge 9, 3) := by decide +kernel
theorem dX11_sheet_28 : decode cX11_sheet 28 = .ok (.aload_n 0, 1) := by decide +kernel
theorem dX11_sheet_29 : decode cX11_sheet 29 = .ok (.iconst 3, 1) := by decide +kernel
theorem dX11_sheet_30 : decode cX11_sheet 30 = .ok (.invokevirtual 96, 3) := by decide +kernel
theorem dX11_sheet_33 : decode cX11_sheet 33 = .ok (.ireturn, 1) := by decide +kernel
theorem dX11_sheet_34 : decode cX11_sheet 34 = .ok (.iload_n 2, 1) := by decide +kernel
theorem dX11_sheet_35 : decode cX11_sheet 35 = .ok (.ifCond .eq 15, 3) := by decide +kernel
theorem dX11_sheet_38 : decode cX11_sheet 38 = .ok (.iload_n 3, 1) := by decide +kernel
theorem dX11_sheet_39 : decode cX11_sheet 39 = .ok (.bipush 24, 2) := by decide +kernel
theorem dX11_sheet_41 : decode cX11_sheet 41 = .ok (.if_icmp .le 9, 3) := by decide +kernel
theorem dX11_sheet_44 : decode cX11_sheet 44 = .ok (.aload_n 0, 1) := by decide +kernel
theorem dX11_sheet_45 : decode cX11_sheet 45 = .ok (.iconst 1, 1) := by decide +kernel
theorem dX11_sheet_46 : decode cX11_sheet 46 = .ok (.invokevirtual 96, 3) := by decide +kernel
theorem dX11_sheet_49 : decode cX11_sheet 49 = .ok (.ireturn, 1) := by decide +kernel
theorem dX11_sheet_50 : decode cX11_sheet 50 = .ok (.aload_n 0, 1) := by decide +kernel
theorem dX11_sheet_51 : decode cX11_sheet 51 = .ok (.getfield 74, 3) := by decide +kernel
theorem dX11_sheet_54 : decode cX11_sheet 54 = .ok (.iload_n 1, 1) := by decide +kernel
theorem dX11_sheet_55 : decode cX11_sheet 55 = .ok (.iload_n 2, 1) := by decide +kernel
theorem dX11_sheet_56 : decode cX11_sheet 56 = .ok (.iastore, 1) := by decide +kernel
theorem dX11_sheet_57 : decode cX11_sheet 57 = .ok (.aload_n 0, 1) := by decide +kernel
theorem dX11_sheet_58 : decode cX11_sheet 58 = .ok (.getfield 78, 3) := by decide +kernel
theorem dX11_sheet_61 : decode cX11_sheet 61 = .ok (.iload_n 1, 1) := by decide +kernel
theorem dX11_sheet_62 : decode cX11_sheet 62 = .ok (.iload_n 2, 1) := by decide +kernel
theorem dX11_sheet_63 : decode cX11_sheet 63 = .ok (.ifCond .ne 7, 3) := by decide +kernel
theorem dX11_sheet_66 : decode cX11_sheet 66 = .ok (.iconst 0, 1) := by decide +kernel
theorem dX11_sheet_67 : decode cX11_sheet 67 = .ok (.goto 4, 3) := by decide +kernel
theorem dX11_sheet_70 : decode cX11_sheet 70 = .ok (.iload_n 3, 1) := by decide +kernel
theorem dX11_sheet_71 : decode cX11_sheet 71 = .ok (.iastore, 1) := by decide +kernel
theorem dX11_sheet_72 : decode cX11_sheet 72 = .ok (.iconst 0, 1) := by decide +kernel
theorem dX11_sheet_73 : decode cX11_sheet 73 = .ok (.istore 4, 2) := by decide +kernel
theorem dX11_sheet_75 : decode cX11_sheet 75 = .ok (.iload 4, 2) := by decide +kernel
theorem dX11_sheet_77 : decode cX11_sheet 77 = .ok (.bipush 24, 2) := by decide +kernel
theorem dX11_sheet_79 : decode cX11_sheet 79 = .ok (.if_icmp .ge 19, 3) := by decide +kernel
theorem dX11_sheet_82 : decode cX11_sheet 82 = .ok (.aload_n 0, 1) := by decide +kernel
theorem dX11_sheet_83 : decode cX11_sheet 83 = .ok (.getfield 71, 3) := by decide +kernel
theorem dX11_sheet_86 : decode cX11_sheet 86 = .ok (.iload_n 1, 1) := by decide +kernel
theorem dX11_sheet_87 : decode cX11_sheet 87 = .ok (.aaload, 1) := by decide +kernel
theorem dX11_sheet_88 : decode cX11_sheet 88 = .ok (.iload 4, 2) := by decide +kernel
theorem dX11_sheet_90 : decode cX11_sheet 90 = .ok (.iconst 0, 1) := by decide +kernel
theorem dX11_sheet_91 : decode cX11_sheet 91 = .ok (.iastore, 1) := by decide +kernel
theorem dX11_sheet_92 : decode cX11_sheet 92 = .ok (.iinc 4 1, 3) := by decide +kernel
theorem dX11_sheet_95 : decode cX11_sheet 95 = .ok (.goto (-20), 3) := by decide +kernel
theorem dX11_sheet_98 : decode cX11_sheet 98 = .ok (.iconst 1, 1) := by decide +kernel
theorem dX11_sheet_99 : decode cX11_sheet 99 = .ok (.ireturn, 1) := by decide +kernel
theorem dX11_put_0 : decode cX11_put 0 = .ok (.iload_n 1, 1) := by decide +kernel
theorem dX11_put_1 : decode cX11_put 1 = .ok (.invokestatic 229, 3) := by decide +kernel
theorem dX11_put_4 : decode cX11_put 4 = .ok (.ifCond .ne 9, 3) := by decide +kernel
theorem dX11_put_7 : decode cX11_put 7 = .ok (.aload_n 0, 1) := by decide +kernel
theorem dX11_put_8 : decode cX11_put 8 = .ok (.iconst 1, 1) := by decide +kernel
theorem dX11_put_9 : decode cX11_put 9 = .ok (.invokevirtual 96, 3) := by decide +kernel
theorem dX11_put_12 : decode cX11_put 12 = .ok (.ireturn, 1) := by decide +kernel
theorem dX11_put_13 : decode cX11_put 13 = .ok (.aload_n 0, 1) := by decide +kernel
theorem dX11_put_14 : decode cX11_put 14 = .ok (.iload_n 1, 1) := by decide +kernel
theorem dX11_put_15 : decode cX11_put 15 = .ok (.invokevirtual 232, 3) := by decide +kernel
theorem dX11_put_18 : decode cX11_put 18 = .ok (.ifCond .eq 9, 3) := by decide +kernel
theorem dX11_put_21 : decode cX11_put 21 = .ok (.aload_n 0, 1) := by decide +kernel
theorem dX11_put_22 : decode cX11_put 22 = .ok (.iconst 2, 1) := by decide +kernel
theorem dX11_put_23 : decode cX11_put 23 = .ok (.invokevirtual 96, 3) := by decide +kernel
theorem dX11_put_26 : decode cX11_put 26 = .ok (.ireturn, 1) := by decide +kernel
theorem dX11_put_27 : decode cX11_put 27 = .ok (.iload_n 2, 1) := by decide +kernel
theorem dX11_put_28 : decode cX11_put 28 = .ok (.iconst 0, 1) := by decide +kernel
theorem dX11_put_29 : decode cX11_put 29 = .ok (.aload_n 0, 1) := by decide +kernel
theorem dX11_put_30 : decode cX11_put 30 = .ok (.getfield 78, 3) := by decide +kernel
theorem dX11_put_33 : decode cX11_put 33 = .ok (.iload_n 1, 1) := by decide +kernel
theorem dX11_put_34 : decode cX11_put 34 = .ok (.iaload, 1) := by decide +kernel
theorem dX11_put_35 : decode cX11_put 35 = .ok (.iconst 1, 1) := by decide +kernel
theorem dX11_put_36 : decode cX11_put 36 = .ok (.isub, 1) := by decide +kernel
theorem dX11_put_37 : decode cX11_put 37 = .ok (.invokestatic 92, 3) := by decide +kernel
theorem dX11_put_40 : decode cX11_put 40 = .ok (.ifCond .ne 9, 3) := by decide +kernel
theorem dX11_put_43 : decode cX11_put 43 = .ok (.aload_n 0, 1) := by decide +kernel
theorem dX11_put_44 : decode cX11_put 44 = .ok (.iconst 1, 1) := by decide +kernel
theorem dX11_put_45 : decode cX11_put 45 = .ok (.invokevirtual 96, 3) := by decide +kernel
theorem dX11_put_48 : decode cX11_put 48 = .ok (.ireturn, 1) := by decide +kernel
theorem dX11_put_49 : decode cX11_put 49 = .ok (.aload_n 0, 1) := by decide +kernel
theorem dX11_put_50 : decode cX11_put 50 = .ok (.getfield 71, 3) := by decide +kernel
theorem dX11_put_53 : decode cX11_put 53 = .ok (.iload_n 1, 1) := by decide +kernel
theorem dX11_put_54 : decode cX11_put 54 = .ok (.aaload, 1) := by decide +kernel
theorem dX11_put_55 : decode cX11_put 55 = .ok (.iload_n 2, 1) := by decide +kernel
theorem dX11_put_56 : decode cX11_put 56 = .ok (.aload_n 0, 1) := by decide +kernel
theorem dX11_put_57 : decode cX11_put 57 = .ok (.getfield 74, 3) := by decide +kernel
theorem dX11_put_60 : decode cX11_put 60 = .ok (.iload_n 1, 1) := by decide +kernel
theorem dX11_put_61 : decode cX11_put 61 = .ok (.iaload, 1) := by decide +kernel
theorem dX11_put_62 : decode cX11_put 62 = .ok (.iload_n 3, 1) := by decide +kernel
theorem dX11_put_63 : decode cX11_put 63 = .ok (.invokestatic 270, 3) := by decide +kernel
theorem dX11_put_66 : decode cX11_put 66 = .ok (.iastore, 1) := by decide +kernel
theorem dX11_put_67 : decode cX11_put 67 = .ok (.iconst 1, 1) := by decide +kernel
theorem dX11_put_68 : decode cX11_put 68 = .ok (.ireturn, 1) := by decide +kernel
theorem dX11_move_0 : decode cX11_move 0 = .ok (.iload_n 1, 1) := by decide +kernel
theorem dX11_move_1 : decode cX11_move 1 = .ok (.invokestatic 229, 3) := by decide +kernel
theorem dX11_move_4 : decode cX11_move 4 = .ok (.ifCond .eq 10, 3) := by decide +kernel
theorem dX11_move_7 : decode cX11_move 7 = .ok (.iload_n 3, 1) := by decide +kernel
theorem dX11_move_8 : decode cX11_move 8 = .ok (.invokestatic 229, 3) := by decide +kernel
theorem dX11_move_11 : decode cX11_move 11 = .ok (.ifCond .ne 9, 3) := by decide +kernel
theorem dX11_move_14 : decode cX11_move 14 = .ok (.aload_n 0, 1) := by decide +kernel
theorem dX11_move_15 : decode cX11_move 15 = .ok (.iconst 1, 1) := by decide +kernel
theorem dX11_move_16 : decode cX11_move 16 = .ok (.invokevirtual 96, 3) := by decide +kernel
theorem dX11_move_19 : decode cX11_move 19 = .ok (.ireturn, 1) := by decide +kernel
theorem dX11_move_20 : decode cX11_move 20 = .ok (.aload_n 0, 1) := by decide +kernel
theorem dX11_move_21 : decode cX11_move 21 = .ok (.iload_n 1, 1) := by decide +kernel
theorem dX11_move_22 : decode cX11_move 22 = .ok (.invokevirtual 232, 3) := by decide +kernel
theorem dX11_move_25 : decode cX11_move 25 = .ok (.ifCond .ne 11, 3) := by decide +kernel
theorem dX11_move_28 : decode cX11_move 28 = .ok (.aload_n 0, 1) := by decide +kernel
theorem dX11_move_29 : decode cX11_move 29 = .ok (.iload_n 3, 1) := by decide +kernel
theorem dX11_move_30 : decode cX11_move 30 = .ok (.invokevirtual 232, 3) := by decide +kernel
theorem dX11_move_33 : decode cX11_move 33 = .ok (.ifCond .eq 9, 3) := by decide +kernel
theorem dX11_move_36 : decode cX11_move 36 = .ok (.aload_n 0, 1) := by decide +kernel
theorem dX11_move_37 : decode cX11_move 37 = .ok (.iconst 2, 1) := by decide +kernel
theorem dX11_move_38 : decode cX11_move 38 = .ok (.invokevirtual 96, 3) := by decide +kernel
theorem dX11_move_41 : decode cX11_move 41 = .ok (.ireturn, 1) := by decide +kernel
theorem dX11_move_42 : decode cX11_move 42 = .ok (.aload_n 0, 1) := by decide +kernel
theorem dX11_move_43 : decode cX11_move 43 = .ok (.getfield 74, 3) := by decide +kernel
theorem dX11_move_46 : decode cX11_move 46 = .ok (.iload_n 1, 1) := by decide +kernel
theorem dX11_move_47 : decode cX11_move 47 = .ok (.iaload, 1) := by decide +kernel
theorem dX11_move_48 : decode cX11_move 48 = .ok (.aload_n 0, 1) := by decide +kernel
theorem dX11_move_49 : decode cX11_move 49 = .ok (.getfield 74, 3) := by decide +kernel
theorem dX11_move_52 : decode cX11_move 52 = .ok (.iload_n 3, 1) := by decide +kernel
theorem dX11_move_53 : decode cX11_move 53 = .ok (.iaload, 1) := by decide +kernel
theorem dX11_move_54 : decode cX11_move 54 = .ok (.if_icmp .eq 9, 3) := by decide +kernel
theorem dX11_move_57 : decode cX11_move 57 = .ok (.aload_n 0, 1) := by decide +kernel
theorem dX11_move_58 : decode cX11_move 58 = .ok (.iconst 5, 1) := by decide +kernel
theorem dX11_move_59 : decode cX11_move 59 = .ok (.invokevirtual 96, 3) := by decide +kernel
theorem dX11_move_62 : decode cX11_move 62 = .ok (.ireturn, 1) := by decide +kernel
theorem dX11_move_63 : decode cX11_move 63 = .ok (.aload_n 0, 1) := by decide +kernel
theorem dX11_move_64 : decode cX11_move 64 = .ok (.iload_n 1, 1) := by decide +kernel
theorem dX11_move_65 : decode cX11_move 65 = .ok (.iload_n 2, 1) := by decide +kernel
theorem dX11_move_66 : decode cX11_move 66 = .ok (.iload 5, 2) := by decide +kernel
theorem dX11_move_68 : decode cX11_move 68 = .ok (.invokevirtual 273, 3) := by decide +kernel
theorem dX11_move_71 : decode cX11_move 71 = .ok (.ifCond .eq 15, 3) := by decide +kernel
theorem dX11_move_74 : decode cX11_move 74 = .ok (.aload_n 0, 1) := by decide +kernel
theorem dX11_move_75 : decode cX11_move 75 = .ok (.iload_n 3, 1) := by decide +kernel
theorem dX11_move_76 : decode cX11_move 76 = .ok (.iload 4, 2) := by decide +kernel
theorem dX11_move_78 : decode cX11_move 78 = .ok (.iload 5, 2) := by decide +kernel
theorem dX11_move_80 : decode cX11_move 80 = .ok (.invokevirtual 273, 3) := by decide +kernel
theorem dX11_move_83 : decode cX11_move 83 = .ok (.ifCond .ne 9, 3) := by decide +kernel
theorem dX11_move_86 : decode cX11_move 86 = .ok (.aload_n 0, 1) := by decide +kernel
theorem dX11_move_87 : decode cX11_move 87 = .ok (.iconst 1, 1) := by decide +kernel
theorem dX11_move_88 : decode cX11_move 88 = .ok (.invokevirtual 96, 3) := by decide +kernel
theorem dX11_move_91 : decode cX11_move 91 = .ok (.ireturn, 1) := by decide +kernel
theorem dX11_move_92 : decode cX11_move 92 = .ok (.aload_n 0, 1) := by decide +kernel
theorem dX11_move_93 : decode cX11_move 93 = .ok (.getfield 71, 3) := by decide +kernel
theorem dX11_move_96 : decode cX11_move 96 = .ok (.iload_n 1, 1) := by decide +kernel
theorem dX11_move_97 : decode cX11_move 97 = .ok (.aaload, 1) := by decide +kernel
theorem dX11_move_98 : decode cX11_move 98 = .ok (.iload_n 2, 1) := by decide +kernel
theorem dX11_move_99 : decode cX11_move 99 = .ok (.aload_n 0, 1) := by decide +kernel
theorem dX11_move_100 : decode cX11_move 100 = .ok (.getfield 71, 3) := by decide +kernel
theorem dX11_move_103 : decode cX11_move 103 = .ok (.iload_n 3, 1) := by decide +kernel
theorem dX11_move_104 : decode cX11_move 104 = .ok (.aaload, 1) := by decide +kernel
theorem dX11_move_105 : decode cX11_move 105 = .ok (.iload 4, 2) := by decide +kernel
theorem dX11_move_107 : decode cX11_move 107 = .ok (.iload 5, 2) := by decide +kernel
theorem dX11_move_109 : decode cX11_move 109 = .ok (.invokestatic 276, 3) := by decide +kernel
theorem dX11_move_112 : decode cX11_move 112 = .ok (.iload 5, 2) := by decide +kernel
theorem dX11_move_114 : decode cX11_move 114 = .ok (.ireturn, 1) := by decide +kernel
theorem dX11_flies_0 : decode cX11_flies 0 = .ok (.iload_n 1, 1) := by decide +kernel
theorem dX11_flies_1 : decode cX11_flies 1 = .ok (.invokestatic 229, 3) := by decide +kernel
theorem dX11_flies_4 : decode cX11_flies 4 = .ok (.ifCond .ne 9, 3) := by decide +kernel
theorem dX11_flies_7 : decode cX11_flies 7 = .ok (.aload_n 0, 1) := by decide +kernel
theorem dX11_flies_8 : decode cX11_flies 8 = .ok (.iconst 1, 1) := by decide +kernel
theorem dX11_flies_9 : decode cX11_flies 9 = .ok (.invokevirtual 96, 3) := by decide +kernel
theorem dX11_flies_12 : decode cX11_flies 12 = .ok (.ireturn, 1) := by decide +kernel
theorem dX11_flies_13 : decode cX11_flies 13 = .ok (.aload_n 0, 1) := by decide +kernel
theorem dX11_flies_14 : decode cX11_flies 14 = .ok (.iload_n 1, 1) := by decide +kernel
theorem dX11_flies_15 : decode cX11_flies 15 = .ok (.invokevirtual 232, 3) := by decide +kernel
theorem dX11_flies_18 : decode cX11_flies 18 = .ok (.ifCond .eq 9, 3) := by decide +kernel
theorem dX11_flies_21 : decode cX11_flies 21 = .ok (.aload_n 0, 1) := by decide +kernel
theorem dX11_flies_22 : decode cX11_flies 22 = .ok (.iconst 2, 1) := by decide +kernel
theorem dX11_flies_23 : decode cX11_flies 23 = .ok (.invokevirtual 96, 3) := by decide +kernel
theorem dX11_flies_26 : decode cX11_flies 26 = .ok (.ireturn, 1) := by decide +kernel
theorem dX11_flies_27 : decode cX11_flies 27 = .ok (.iconst 0, 1) := by decide +kernel
theorem dX11_flies_28 : decode cX11_flies 28 = .ok (.istore_n 2, 1) := by decide +kernel
theorem dX11_flies_29 : decode cX11_flies 29 = .ok (.iload_n 2, 1) := by decide +kernel
theorem dX11_flies_30 : decode cX11_flies 30 = .ok (.aload_n 0, 1) := by decide +kernel
theorem dX11_flies_31 : decode cX11_flies 31 = .ok (.getfield 78, 3) := by decide +kernel
theorem dX11_flies_34 : decode cX11_flies 34 = .ok (.iload_n 1, 1) := by decide +kernel
theorem dX11_flies_35 : decode cX11_flies 35 = .ok (.iaload, 1) := by decide +kernel
theorem dX11_flies_36 : decode cX11_flies 36 = .ok (.if_icmp .ge 42, 3) := by decide +kernel
theorem dX11_flies_39 : decode cX11_flies 39 = .ok (.aload_n 0, 1) := by decide +kernel
theorem dX11_flies_40 : decode cX11_flies 40 = .ok (.getfield 71, 3) := by decide +kernel
theorem dX11_flies_43 : decode cX11_flies 43 = .ok (.iload_n 1, 1) := by decide +kernel
theorem dX11_flies_44 : decode cX11_flies 44 = .ok (.aaload, 1) := by decide +kernel
theorem dX11_flies_45 : decode cX11_flies 45 = .ok (.iload_n 2, 1) := by decide +kernel
theorem dX11_flies_46 : decode cX11_flies 46 = .ok (.iaload, 1) := by decide +kernel
theorem dX11_flies_47 : decode cX11_flies 47 = .ok (.invokestatic 150, 3) := by decide +kernel
theorem dX11_flies_50 : decode cX11_flies 50 = .ok (.ifCond .eq 28, 3) := by decide +kernel
theorem dX11_flies_53 : decode cX11_flies 53 = .ok (.aload_n 0, 1) := by decide +kernel
theorem dX11_flies_54 : decode cX11_flies 54 = .ok (.getfield 33, 3) := by decide +kernel
theorem dX11_flies_57 : decode cX11_flies 57 = .ok (.getfield 100, 3) := by decide +kernel
theorem dX11_flies_60 : decode cX11_flies 60 = .ok (.aload_n 0, 1) := by decide +kernel
theorem dX11_flies_61 : decode cX11_flies 61 = .ok (.getfield 71, 3) := by decide +kernel
theorem dX11_flies_64 : decode cX11_flies 64 = .ok (.iload_n 1, 1) := by decide +kernel
theorem dX11_flies_65 : decode cX11_flies 65 = .ok (.aaload, 1) := by decide +kernel
theorem dX11_flies_66 : decode cX11_flies 66 = .ok (.iload_n 2, 1) := by decide +kernel
theorem dX11_flies_67 : decode cX11_flies 67 = .ok (.iaload, 1) := by decide +kernel
theorem dX11_flies_68 : decode cX11_flies 68 = .ok (.invokevirtual 186, 3) := by decide +kernel
theorem dX11_flies_71 : decode cX11_flies 71 = .ok (.pop, 1) := by decide +kernel
theorem dX11_flies_72 : decode cX11_flies 72 = .ok (.iinc 2 1, 3) := by decide +kernel
