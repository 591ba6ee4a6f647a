theorem dX11_flies_75 : decode cX11_flies 75 = .ok (.goto (-46), 3) := by decide +kernel
theorem dX11_flies_78 : decode cX11_flies 78 = .ok (.iload_n 2, 1) := by decide +kernel
theorem dX11_flies_79 : decode cX11_flies 79 = .ok (.ireturn, 1) := by decide +kernel
theorem dX11_judge_0 : decode cX11_judge 0 = .ok (.iload_n 1, 1) := by decide +kernel
theorem dX11_judge_1 : decode cX11_judge 1 = .ok (.invokestatic 229, 3) := by decide +kernel
theorem dX11_judge_4 : decode cX11_judge 4 = .ok (.ifCond .ne 9, 3) := by decide +kernel
theorem dX11_judge_7 : decode cX11_judge 7 = .ok (.aload_n 0, 1) := by decide +kernel
theorem dX11_judge_8 : decode cX11_judge 8 = .ok (.iconst 1, 1) := by decide +kernel
theorem dX11_judge_9 : decode cX11_judge 9 = .ok (.invokevirtual 96, 3) := by decide +kernel
theorem dX11_judge_12 : decode cX11_judge 12 = .ok (.ireturn, 1) := by decide +kernel
theorem dX11_judge_13 : decode cX11_judge 13 = .ok (.aload_n 0, 1) := by decide +kernel
theorem dX11_judge_14 : decode cX11_judge 14 = .ok (.iload_n 1, 1) := by decide +kernel
theorem dX11_judge_15 : decode cX11_judge 15 = .ok (.invokevirtual 232, 3) := by decide +kernel
theorem dX11_judge_18 : decode cX11_judge 18 = .ok (.ifCond .eq 9, 3) := by decide +kernel
theorem dX11_judge_21 : decode cX11_judge 21 = .ok (.aload_n 0, 1) := by decide +kernel
theorem dX11_judge_22 : decode cX11_judge 22 = .ok (.iconst 2, 1) := by decide +kernel
theorem dX11_judge_23 : decode cX11_judge 23 = .ok (.invokevirtual 96, 3) := by decide +kernel
theorem dX11_judge_26 : decode cX11_judge 26 = .ok (.ireturn, 1) := by decide +kernel
theorem dX11_judge_27 : decode cX11_judge 27 = .ok (.aload_n 0, 1) := by decide +kernel
theorem dX11_judge_28 : decode cX11_judge 28 = .ok (.getfield 54, 3) := by decide +kernel
theorem dX11_judge_31 : decode cX11_judge 31 = .ok (.aload_n 0, 1) := by decide +kernel
theorem dX11_judge_32 : decode cX11_judge 32 = .ok (.getfield 33, 3) := by decide +kernel
theorem dX11_judge_35 : decode cX11_judge 35 = .ok (.getfield 100, 3) := by decide +kernel
theorem dX11_judge_38 : decode cX11_judge 38 = .ok (.invokevirtual 205, 3) := by decide +kernel
theorem dX11_judge_41 : decode cX11_judge 41 = .ok (.iconst 0, 1) := by decide +kernel
theorem dX11_judge_42 : decode cX11_judge 42 = .ok (.istore_n 2, 1) := by decide +kernel
theorem dX11_judge_43 : decode cX11_judge 43 = .ok (.iload_n 2, 1) := by decide +kernel
theorem dX11_judge_44 : decode cX11_judge 44 = .ok (.aload_n 0, 1) := by decide +kernel
theorem dX11_judge_45 : decode cX11_judge 45 = .ok (.getfield 78, 3) := by decide +kernel
theorem dX11_judge_48 : decode cX11_judge 48 = .ok (.iload_n 1, 1) := by decide +kernel
theorem dX11_judge_49 : decode cX11_judge 49 = .ok (.iaload, 1) := by decide +kernel
theorem dX11_judge_50 : decode cX11_judge 50 = .ok (.if_icmp .ge 35, 3) := by decide +kernel
theorem dX11_judge_53 : decode cX11_judge 53 = .ok (.aload_n 0, 1) := by decide +kernel
theorem dX11_judge_54 : decode cX11_judge 54 = .ok (.getfield 71, 3) := by decide +kernel
theorem dX11_judge_57 : decode cX11_judge 57 = .ok (.iload_n 1, 1) := by decide +kernel
theorem dX11_judge_58 : decode cX11_judge 58 = .ok (.aaload, 1) := by decide +kernel
theorem dX11_judge_59 : decode cX11_judge 59 = .ok (.iload_n 2, 1) := by decide +kernel
theorem dX11_judge_60 : decode cX11_judge 60 = .ok (.iaload, 1) := by decide +kernel
theorem dX11_judge_61 : decode cX11_judge 61 = .ok (.aload_n 0, 1) := by decide +kernel
theorem dX11_judge_62 : decode cX11_judge 62 = .ok (.getfield 54, 3) := by decide +kernel
theorem dX11_judge_65 : decode cX11_judge 65 = .ok (.invokevirtual 202, 3) := by decide +kernel
theorem dX11_judge_68 : decode cX11_judge 68 = .ok (.if_icmp .ne 17, 3) := by decide +kernel
theorem dX11_judge_71 : decode cX11_judge 71 = .ok (.aload_n 0, 1) := by decide +kernel
theorem dX11_judge_72 : decode cX11_judge 72 = .ok (.getfield 54, 3) := by decide +kernel
theorem dX11_judge_75 : decode cX11_judge 75 = .ok (.invokevirtual 282, 3) := by decide +kernel
theorem dX11_judge_78 : decode cX11_judge 78 = .ok (.pop, 1) := by decide +kernel
theorem dX11_judge_79 : decode cX11_judge 79 = .ok (.iinc 2 1, 3) := by decide +kernel
theorem dX11_judge_82 : decode cX11_judge 82 = .ok (.goto (-39), 3) := by decide +kernel
theorem dX11_judge_85 : decode cX11_judge 85 = .ok (.iload_n 2, 1) := by decide +kernel
theorem dX11_judge_86 : decode cX11_judge 86 = .ok (.ireturn, 1) := by decide +kernel
theorem dX11_image_0 : decode cX11_image 0 = .ok (.aload_n 0, 1) := by decide +kernel
theorem dX11_image_1 : decode cX11_image 1 = .ok (.getfield 39, 3) := by decide +kernel
theorem dX11_image_4 : decode cX11_image 4 = .ok (.aload_n 0, 1) := by decide +kernel
theorem dX11_image_5 : decode cX11_image 5 = .ok (.getfield 33, 3) := by decide +kernel
theorem dX11_image_8 : decode cX11_image 8 = .ok (.invokevirtual 285, 3) := by decide +kernel
theorem dX11_image_11 : decode cX11_image 11 = .ok (.aload_n 0, 1) := by decide +kernel
theorem dX11_image_12 : decode cX11_image 12 = .ok (.dup, 1) := by decide +kernel
theorem dX11_image_13 : decode cX11_image 13 = .ok (.getfield 84, 3) := by decide +kernel
theorem dX11_image_16 : decode cX11_image 16 = .ok (.iconst 1, 1) := by decide +kernel
theorem dX11_image_17 : decode cX11_image 17 = .ok (.iadd, 1) := by decide +kernel
theorem dX11_image_18 : decode cX11_image 18 = .ok (.putfield 84, 3) := by decide +kernel
theorem dX11_image_21 : decode cX11_image 21 = .ok (.aload_n 0, 1) := by decide +kernel
theorem dX11_image_22 : decode cX11_image 22 = .ok (.getfield 84, 3) := by decide +kernel
theorem dX11_image_25 : decode cX11_image 25 = .ok (.ireturn, 1) := by decide +kernel
theorem dX11_restore_0 : decode cX11_restore 0 = .ok (.aload_n 0, 1) := by decide +kernel
theorem dX11_restore_1 : decode cX11_restore 1 = .ok (.getfield 84, 3) := by decide +kernel
theorem dX11_restore_4 : decode cX11_restore 4 = .ok (.ifCond .ne 9, 3) := by decide +kernel
theorem dX11_restore_7 : decode cX11_restore 7 = .ok (.aload_n 0, 1) := by decide +kernel
theorem dX11_restore_8 : decode cX11_restore 8 = .ok (.iconst 2, 1) := by decide +kernel
theorem dX11_restore_9 : decode cX11_restore 9 = .ok (.invokevirtual 96, 3) := by decide +kernel
theorem dX11_restore_12 : decode cX11_restore 12 = .ok (.ireturn, 1) := by decide +kernel
theorem dX11_restore_13 : decode cX11_restore 13 = .ok (.aload_n 0, 1) := by decide +kernel
theorem dX11_restore_14 : decode cX11_restore 14 = .ok (.getfield 33, 3) := by decide +kernel
theorem dX11_restore_17 : decode cX11_restore 17 = .ok (.aload_n 0, 1) := by decide +kernel
theorem dX11_restore_18 : decode cX11_restore 18 = .ok (.getfield 39, 3) := by decide +kernel
theorem dX11_restore_21 : decode cX11_restore 21 = .ok (.invokevirtual 285, 3) := by decide +kernel
theorem dX11_restore_24 : decode cX11_restore 24 = .ok (.aload_n 0, 1) := by decide +kernel
theorem dX11_restore_25 : decode cX11_restore 25 = .ok (.getfield 33, 3) := by decide +kernel
theorem dX11_restore_28 : decode cX11_restore 28 = .ok (.getfield 100, 3) := by decide +kernel
theorem dX11_restore_31 : decode cX11_restore 31 = .ok (.getfield 180, 3) := by decide +kernel
theorem dX11_restore_34 : decode cX11_restore 34 = .ok (.ireturn, 1) := by decide +kernel
theorem dX11_tell_0 : decode cX11_tell 0 = .ok (.aload_n 0, 1) := by decide +kernel
theorem dX11_tell_1 : decode cX11_tell 1 = .ok (.getfield 33, 3) := by decide +kernel
theorem dX11_tell_4 : decode cX11_tell 4 = .ok (.getfield 288, 3) := by decide +kernel
theorem dX11_tell_7 : decode cX11_tell 7 = .ok (.bipush 24, 2) := by decide +kernel
theorem dX11_tell_9 : decode cX11_tell 9 = .ok (.if_icmp .lt 9, 3) := by decide +kernel
theorem dX11_tell_12 : decode cX11_tell 12 = .ok (.aload_n 0, 1) := by decide +kernel
theorem dX11_tell_13 : decode cX11_tell 13 = .ok (.iconst 4, 1) := by decide +kernel
theorem dX11_tell_14 : decode cX11_tell 14 = .ok (.invokevirtual 96, 3) := by decide +kernel
theorem dX11_tell_17 : decode cX11_tell 17 = .ok (.ireturn, 1) := by decide +kernel
theorem dX11_tell_18 : decode cX11_tell 18 = .ok (.aload_n 0, 1) := by decide +kernel
theorem dX11_tell_19 : decode cX11_tell 19 = .ok (.getfield 33, 3) := by decide +kernel
theorem dX11_tell_22 : decode cX11_tell 22 = .ok (.getfield 291, 3) := by decide +kernel
theorem dX11_tell_25 : decode cX11_tell 25 = .ok (.aload_n 0, 1) := by decide +kernel
theorem dX11_tell_26 : decode cX11_tell 26 = .ok (.getfield 33, 3) := by decide +kernel
theorem dX11_tell_29 : decode cX11_tell 29 = .ok (.getfield 288, 3) := by decide +kernel
theorem dX11_tell_32 : decode cX11_tell 32 = .ok (.iload_n 1, 1) := by decide +kernel
theorem dX11_tell_33 : decode cX11_tell 33 = .ok (.iastore, 1) := by decide +kernel
theorem dX11_tell_34 : decode cX11_tell 34 = .ok (.aload_n 0, 1) := by decide +kernel
theorem dX11_tell_35 : decode cX11_tell 35 = .ok (.getfield 33, 3) := by decide +kernel
theorem dX11_tell_38 : decode cX11_tell 38 = .ok (.dup, 1) := by decide +kernel
theorem dX11_tell_39 : decode cX11_tell 39 = .ok (.getfield 288, 3) := by decide +kernel
theorem dX11_tell_42 : decode cX11_tell 42 = .ok (.iconst 1, 1) := by decide +kernel
theorem dX11_tell_43 : decode cX11_tell 43 = .ok (.iadd, 1) := by decide +kernel
theorem dX11_tell_44 : decode cX11_tell 44 = .ok (.putfield 288, 3) := by decide +kernel
theorem dX11_tell_47 : decode cX11_tell 47 = .ok (.aload_n 0, 1) := by decide +kernel
theorem dX11_tell_48 : decode cX11_tell 48 = .ok (.getfield 33, 3) := by decide +kernel
theorem dX11_tell_51 : decode cX11_tell 51 = .ok (.getfield 288, 3) := by decide +kernel
theorem dX11_tell_54 : decode cX11_tell 54 = .ok (.ireturn, 1) := by decide +kernel
theorem dX11_check_0 : decode cX11_check 0 = .ok (.aload_n 0, 1) := by decide +kernel
theorem dX11_check_1 : decode cX11_check 1 = .ok (.getfield 33, 3) := by decide +kernel
theorem dX11_check_4 : decode cX11_check 4 = .ok (.getfield 288, 3) := by decide +kernel
theorem dX11_check_7 : decode cX11_check 7 = .ok (.istore_n 1, 1) := by decide +kernel
theorem dX11_check_8 : decode cX11_check 8 = .ok (.aload_n 0, 1) := by decide +kernel
theorem dX11_check_9 : decode cX11_check 9 = .ok (.getfield 33, 3) := by decide +kernel
theorem dX11_check_12 : decode cX11_check 12 = .ok (.iconst 0, 1) := by decide +kernel
theorem dX11_check_13 : decode cX11_check 13 = .ok (.putfield 288, 3) := by decide +kernel
theorem dX11_check_16 : decode cX11_check 16 = .ok (.aload_n 0, 1) := by decide +kernel
theorem dX11_check_17 : decode cX11_check 17 = .ok (.sipush 200, 3) := by decide +kernel
theorem dX11_check_20 : decode cX11_check 20 = .ok (.invokevirtual 198, 3) := by decide +kernel
theorem dX11_check_23 : decode cX11_check 23 = .ok (.iconst 0, 1) := by decide +kernel
theorem dX11_check_24 : decode cX11_check 24 = .ok (.istore_n 2, 1) := by decide +kernel
theorem dX11_check_25 : decode cX11_check 25 = .ok (.iload_n 2, 1) := by decide +kernel
theorem dX11_check_26 : decode cX11_check 26 = .ok (.iload_n 1, 1) := by decide +kernel
theorem dX11_check_27 : decode cX11_check 27 = .ok (.if_icmp .ge 40, 3) := by decide +kernel
theorem dX11_check_30 : decode cX11_check 30 = .ok (.iload_n 2, 1) := by decide +kernel
theorem dX11_check_31 : decode cX11_check 31 = .ok (.bipush 9, 2) := by decide +kernel
theorem dX11_check_33 : decode cX11_check 33 = .ok (.if_icmp .ge 24, 3) := by decide +kernel
theorem dX11_check_36 : decode cX11_check 36 = .ok (.aload_n 0, 1) := by decide +kernel
theorem dX11_check_37 : decode cX11_check 37 = .ok (.getfield 33, 3) := by decide +kernel
theorem dX11_check_40 : decode cX11_check 40 = .ok (.getfield 291, 3) := by decide +kernel
theorem dX11_check_43 : decode cX11_check 43 = .ok (.iload_n 2, 1) := by decide +kernel
theorem dX11_check_44 : decode cX11_check 44 = .ok (.iaload, 1) := by decide +kernel
theorem dX11_check_45 : decode cX11_check 45 = .ok (.aload_n 0, 1) := by decide +kernel
theorem dX11_check_46 : decode cX11_check 46 = .ok (.getfield 54, 3) := by decide +kernel
theorem dX11_check_49 : decode cX11_check 49 = .ok (.getfield 144, 3) := by decide +kernel
theorem dX11_check_52 : decode cX11_check 52 = .ok (.iload_n 2, 1) := by decide +kernel
theorem dX11_check_53 : decode cX11_check 53 = .ok (.iaload, 1) := by decide +kernel
theorem dX11_check_54 : decode cX11_check 54 = .ok (.if_icmp .eq 7, 3) := by decide +kernel
theorem dX11_check_57 : decode cX11_check 57 = .ok (.iconst 1, 1) := by decide +kernel
theorem dX11_check_58 : decode cX11_check 58 = .ok (.iload_n 2, 1) := by decide +kernel
theorem dX11_check_59 : decode cX11_check 59 = .ok (.iadd, 1) := by decide +kernel
theorem dX11_check_60 : decode cX11_check 60 = .ok (.ireturn, 1) := by decide +kernel
theorem dX11_check_61 : decode cX11_check 61 = .ok (.iinc 2 1, 3) := by decide +kernel
theorem dX11_check_64 : decode cX11_check 64 = .ok (.goto (-39), 3) := by decide +kernel
theorem dX11_check_67 : decode cX11_check 67 = .ok (.iconst 0, 1) := by decide +kernel
theorem dX11_check_68 : decode cX11_check 68 = .ok (.ireturn, 1) := by decide +kernel
theorem dX11_count_0 : decode cX11_count 0 = .ok (.iload_n 1, 1) := by decide +kernel
theorem dX11_count_1 : decode cX11_count 1 = .ok (.tableswitch 123 0 7 #[47, 58, 69, 80, 91, 99, 107, 115], 47) := by decide +kernel
theorem dX11_count_48 : decode cX11_count 48 = .ok (.aload_n 0, 1) := by decide +kernel
theorem dX11_count_49 : decode cX11_count 49 = .ok (.getfield 33, 3) := by decide +kernel
theorem dX11_count_52 : decode cX11_count 52 = .ok (.getfield 100, 3) := by decide +kernel
theorem dX11_count_55 : decode cX11_count 55 = .ok (.getfield 180, 3) := by decide +kernel
theorem dX11_count_58 : decode cX11_count 58 = .ok (.ireturn, 1) := by decide +kernel
theorem dX11_count_59 : decode cX11_count 59 = .ok (.aload_n 0, 1) := by decide +kernel
theorem dX11_count_60 : decode cX11_count 60 = .ok (.getfield 33, 3) := by decide +kernel
theorem dX11_count_63 : decode cX11_count 63 = .ok (.getfield 100, 3) := by decide +kernel
theorem dX11_count_66 : decode cX11_count 66 = .ok (.getfield 147, 3) := by decide +kernel
theorem dX11_count_69 : decode cX11_count 69 = .ok (.ireturn, 1) := by decide +kernel
theorem dX11_count_70 : decode cX11_count 70 = .ok (.aload_n 0, 1) := by decide +kernel
theorem dX11_count_71 : decode cX11_count 71 = .ok (.getfield 33, 3) := by decide +kernel
theorem dX11_count_74 : decode cX11_count 74 = .ok (.getfield 100, 3) := by decide +kernel
theorem dX11_count_77 : decode cX11_count 77 = .ok (.invokevirtual 202, 3) := by decide +kernel
theorem dX11_count_80 : decode cX11_count 80 = .ok (.ireturn, 1) := by decide +kernel
theorem dX11_count_81 : decode cX11_count 81 = .ok (.aload_n 0, 1) := by decide +kernel
theorem dX11_count_82 : decode cX11_count 82 = .ok (.getfield 33, 3) := by decide +kernel
theorem dX11_count_85 : decode cX11_count 85 = .ok (.getfield 100, 3) := by decide +kernel
theorem dX11_count_88 : decode cX11_count 88 = .ok (.invokevirtual 294, 3) := by decide +kernel
theorem dX11_count_91 : decode cX11_count 91 = .ok (.ireturn, 1) := by decide +kernel
theorem dX11_count_92 : decode cX11_count 92 = .ok (.aload_n 0, 1) := by decide +kernel
theorem dX11_count_93 : decode cX11_count 93 = .ok (.getfield 33, 3) := by decide +kernel
theorem dX11_count_96 : decode cX11_count 96 = .ok (.getfield 156, 3) := by decide +kernel
theorem dX11_count_99 : decode cX11_count 99 = .ok (.ireturn, 1) := by decide +kernel
theorem dX11_count_100 : decode cX11_count 100 = .ok (.aload_n 0, 1) := by decide +kernel
theorem dX11_count_101 : decode cX11_count 101 = .ok (.getfield 33, 3) := by decide +kernel
theorem dX11_count_104 : decode cX11_count 104 = .ok (.getfield 288, 3) := by decide +kernel
theorem dX11_count_107 : decode cX11_count 107 = .ok (.ireturn, 1) := by decide +kernel
theorem dX11_count_108 : decode cX11_count 108 = .ok (.aload_n 0, 1) := by decide +kernel
theorem dX11_count_109 : decode cX11_count 109 = .ok (.getfield 65, 3) := by decide +kernel
theorem dX11_count_112 : decode cX11_count 112 = .ok (.getfield 261, 3) := by decide +kernel
theorem dX11_count_115 : decode cX11_count 115 = .ok (.ireturn, 1) := by decide +kernel
theorem dX11_count_116 : decode cX11_count 116 = .ok (.aload_n 0, 1) := by decide +kernel
theorem dX11_count_117 : decode cX11_count 117 = .ok (.getfield 33, 3) := by decide +kernel
theorem dX11_count_120 : decode cX11_count 120 = .ok (.getfield 195, 3) := by decide +kernel
theorem dX11_count_123 : decode cX11_count 123 = .ok (.ireturn, 1) := by decide +kernel
theorem dX11_count_124 : decode cX11_count 124 = .ok (.aload_n 0, 1) := by decide +kernel
theorem dX11_count_125 : decode cX11_count 125 = .ok (.iconst 1, 1) := by decide +kernel
theorem dX11_count_126 : decode cX11_count 126 = .ok (.invokevirtual 96, 3) := by decide +kernel
theorem dX11_count_129 : decode cX11_count 129 = .ok (.ireturn, 1) := by decide +kernel
theorem dX11_told_0 : decode cX11_told 0 = .ok (.iload_n 1, 1) := by decide +kernel
theorem dX11_told_1 : decode cX11_told 1 = .ok (.iconst 1, 1) := by decide +kernel
theorem dX11_told_2 : decode cX11_told 2 = .ok (.bipush 6, 2) := by decide +kernel
theorem dX11_told_4 : decode cX11_told 4 = .ok (.invokestatic 92, 3) := by decide +kernel
theorem dX11_told_7 : decode cX11_told 7 = .ok (.ifCond .ne 9, 3) := by decide +kernel
theorem dX11_told_10 : decode cX11_told 10 = .ok (.aload_n 0, 1) := by decide +kernel
theorem dX11_told_11 : decode cX11_told 11 = .ok (.iconst 1, 1) := by decide +kernel
theorem dX11_told_12 : decode cX11_told 12 = .ok (.invokevirtual 96, 3) := by decide +kernel
theorem dX11_told_15 : decode cX11_told 15 = .ok (.ireturn, 1) := by decide +kernel
theorem dX11_told_16 : decode cX11_told 16 = .ok (.aload_n 0, 1) := by decide +kernel
theorem dX11_told_17 : decode cX11_told 17 = .ok (.getfield 81, 3) := by decide +kernel
theorem dX11_told_20 : decode cX11_told 20 = .ok (.iload_n 1, 1) := by decide +kernel
theorem dX11_told_21 : decode cX11_told 21 = .ok (.iaload, 1) := by decide +kernel
theorem dX11_told_22 : decode cX11_told 22 = .ok (.ireturn, 1) := by decide +kernel
theorem dX11_fails_0 : decode cX11_fails 0 = .ok (.aload_n 0, 1) := by decide +kernel
theorem dX11_fails_1 : decode cX11_fails 1 = .ok (.getfield 81, 3) := by decide +kernel
theorem dX11_fails_4 : decode cX11_fails 4 = .ok (.iload_n 1, 1) := by decide +kernel
theorem dX11_fails_5 : decode cX11_fails 5 = .ok (.dup2, 1) := by decide +kernel
theorem dX11_fails_6 : decode cX11_fails 6 = .ok (.iaload, 1) := by decide +kernel
theorem dX11_fails_7 : decode cX11_fails 7 = .ok (.iconst 1, 1) := by decide +kernel
theorem dX11_fails_8 : decode cX11_fails 8 = .ok (.iadd, 1) := by decide +kernel
theorem dX11_fails_9 : decode cX11_fails 9 = .ok (.iastore, 1) := by decide +kernel
theorem dX11_fails_10 : decode cX11_fails 10 = .ok (.ldc_w 297, 3) := by decide +kernel
theorem dX11_fails_13 : decode cX11_fails 13 = .ok (.iload_n 1, 1) := by decide +kernel
theorem dX11_fails_14 : decode cX11_fails 14 = .ok (.isub, 1) := by decide +kernel
theorem dX11_fails_15 : decode cX11_fails 15 = .ok (.ireturn, 1) := by decide +kernel
theorem dX11_within_0 : decode cX11_within 0 = .ok (.iload_n 0, 1) := by decide +kernel
theorem dX11_within_1 : decode cX11_within 1 = .ok (.iload_n 1, 1) := by decide +kernel
theorem dX11_within_2 : decode cX11_within 2 = .ok (.if_icmp .lt 12, 3) := by decide +kernel
theorem dX11_within_5 : decode cX11_within 5 = .ok (.iload_n 0, 1) := by decide +kernel
theorem dX11_within_6 : decode cX11_within 6 = .ok (.iload_n 2, 1) := by decide +kernel
theorem dX11_within_7 : decode cX11_within 7 = .ok (.if_icmp .gt 7, 3) := by decide +kernel
theorem dX11_within_10 : decode cX11_within 10 = .ok (.iconst 1, 1) := by decide +kernel
theorem dX11_within_11 : decode cX11_within 11 = .ok (.goto 4, 3) := by decide +kernel
theorem dX11_within_14 : decode cX11_within 14 = .ok (.iconst 0, 1) := by decide +kernel
theorem dX11_within_15 : decode cX11_within 15 = .ok (.ireturn, 1) := by decide +kernel
theorem dX11_isStander_0 : decode cX11_isStander 0 = .ok (.iload_n 0, 1) := by decide +kernel
theorem dX11_isStander_1 : decode cX11_isStander 1 = .ok (.iconst 0, 1) := by decide +kernel
theorem dX11_isStander_2 : decode cX11_isStander 2 = .ok (.bipush 8, 2) := by decide +kernel
theorem dX11_isStander_4 : decode cX11_isStander 4 = .ok (.invokestatic 92, 3) := by decide +kernel
theorem dX11_isStander_7 : decode cX11_isStander 7 = .ok (.ireturn, 1) := by decide +kernel
theorem dX11_isPost_0 : decode cX11_isPost 0 = .ok (.iload_n 0, 1) := by decide +kernel
theorem dX11_isPost_1 : decode cX11_isPost 1 = .ok (.iconst 0, 1) := by decide +kernel
theorem dX11_isPost_2 : decode cX11_isPost 2 = .ok (.bipush 8, 2) := by decide +kernel
theorem dX11_isPost_4 : decode cX11_isPost 4 = .ok (.invokestatic 92, 3) := by decide +kernel
theorem dX11_isPost_7 : decode cX11_isPost 7 = .ok (.ireturn, 1) := by decide +kernel
theorem dX11_isSheet_0 : decode cX11_isSheet 0 = .ok (.iload_n 0, 1) := by decide +kernel
theorem dX11_isSheet_1 : decode cX11_isSheet 1 = .ok (.iconst 0, 1) := by decide +kernel
theorem dX11_isSheet_2 : decode cX11_isSheet 2 = .ok (.iconst 3, 1) := by decide +kernel
theorem dX11_isSheet_3 : decode cX11_isSheet 3 = .ok (.invokestatic 92, 3) := by decide +kernel
theorem dX11_isSheet_6 : decode cX11_isSheet 6 = .ok (.ireturn, 1) := by decide +kernel
theorem dX11_isMissing_0 : decode cX11_isMissing 0 = .ok (.aload_n 0, 1) := by decide +kernel
theorem dX11_isMissing_1 : decode cX11_isMissing 1 = .ok (.getfield 74, 3) := by decide +kernel
theorem dX11_isMissing_4 : decode cX11_isMissing 4 = .ok (.iload_n 1, 1) := by decide +kernel
theorem dX11_isMissing_5 : decode cX11_isMissing 5 = .ok (.iaload, 1) := by decide +kernel
theorem dX11_isMissing_6 : decode cX11_isMissing 6 = .ok (.ifCond .ne 7, 3) := by decide +kernel
theorem dX11_isMissing_9 : decode cX11_isMissing 9 = .ok (.iconst 1, 1) := by decide +kernel
theorem dX11_isMissing_10 : decode cX11_isMissing 10 = .ok (.goto 4, 3) := by decide +kernel
theorem dX11_isMissing_13 : decode cX11_isMissing 13 = .ok (.iconst 0, 1) := by decide +kernel
theorem dX11_isMissing_14 : decode cX11_isMissing 14 = .ok (.ireturn, 1) := by decide +kernel
theorem dX11_isWidth_0 : decode cX11_isWidth 0 = .ok (.iload_n 0, 1) := by decide +kernel
theorem dX11_isWidth_1 : decode cX11_isWidth 1 = .ok (.ifCond .eq 21, 3) := by decide +kernel
theorem dX11_isWidth_4 : decode cX11_isWidth 4 = .ok (.iload_n 0, 1) := by decide +kernel
theorem dX11_isWidth_5 : decode cX11_isWidth 5 = .ok (.bipush 8, 2) := by decide +kernel
theorem dX11_isWidth_7 : decode cX11_isWidth 7 = .ok (.if_icmp .eq 15, 3) := by decide +kernel
theorem dX11_isWidth_10 : decode cX11_isWidth 10 = .ok (.iload_n 0, 1) := by decide +kernel
theorem dX11_isWidth_11 : decode cX11_isWidth 11 = .ok (.bipush 16, 2) := by decide +kernel
theorem dX11_isWidth_13 : decode cX11_isWidth 13 = .ok (.if_icmp .eq 9, 3) := by decide +kernel
theorem dX11_isWidth_16 : decode cX11_isWidth 16 = .ok (.iload_n 0, 1) := by decide +kernel
theorem dX11_isWidth_17 : decode cX11_isWidth 17 = .ok (.bipush 32, 2) := by decide +kernel
theorem dX11_isWidth_19 : decode cX11_isWidth 19 = .ok (.if_icmp .ne 7, 3) := by decide +kernel
theorem dX11_isWidth_22 : decode cX11_isWidth 22 = .ok (.iconst 1, 1) := by decide +kernel
theorem dX11_isWidth_23 : decode cX11_isWidth 23 = .ok (.goto 4, 3) := by decide +kernel
theorem dX11_isWidth_26 : decode cX11_isWidth 26 = .ok (.iconst 0, 1) := by decide +kernel
theorem dX11_isWidth_27 : decode cX11_isWidth 27 = .ok (.ireturn, 1) := by decide +kernel
theorem dX11_lowestBits_0 : decode cX11_lowestBits 0 = .ok (.iload_n 0, 1) := by decide +kernel
theorem dX11_lowestBits_1 : decode cX11_lowestBits 1 = .ok (.lookupswitch 33 #[(8, 27), (16, 30)], 27) := by decide +kernel
theorem dX11_lowestBits_28 : decode cX11_lowestBits 28 = .ok (.iload_n 1, 1) := by decide +kernel
theorem dX11_lowestBits_29 : decode cX11_lowestBits 29 = .ok (.i2b, 1) := by decide +kernel
theorem dX11_lowestBits_30 : decode cX11_lowestBits 30 = .ok (.ireturn, 1) := by decide +kernel
theorem dX11_lowestBits_31 : decode cX11_lowestBits 31 = .ok (.iload_n 1, 1) := by decide +kernel
theorem dX11_lowestBits_32 : decode cX11_lowestBits 32 = .ok (.i2s, 1) := by decide +kernel
theorem dX11_lowestBits_33 : decode cX11_lowestBits 33 = .ok (.ireturn, 1) := by decide +kernel
theorem dX11_lowestBits_34 : decode cX11_lowestBits 34 = .ok (.iload_n 1, 1) := by decide +kernel
theorem dX11_lowestBits_35 : decode cX11_lowestBits 35 = .ok (.ireturn, 1) := by decide +kernel
theorem dX11_stand_0 : decode cX11_stand 0 = .ok (.iload_n 3, 1) := by decide +kernel
theorem dX11_stand_1 : decode cX11_stand 1 = .ok (.ifCond .lt 23, 3) := by decide +kernel
theorem dX11_stand_4 : decode cX11_stand 4 = .ok (.iload_n 2, 1) := by decide +kernel
theorem dX11_stand_5 : decode cX11_stand 5 = .ok (.ifCond .lt 19, 3) := by decide +kernel
theorem dX11_stand_8 : decode cX11_stand 8 = .ok (.iload_n 3, 1) := by decide +kernel
theorem dX11_stand_9 : decode cX11_stand 9 = .ok (.aload_n 0, 1) := by decide +kernel
theorem dX11_stand_10 : decode cX11_stand 10 = .ok (.getfield 78, 3) := by decide +kernel
theorem dX11_stand_13 : decode cX11_stand 13 = .ok (.iload_n 1, 1) := by decide +kernel
theorem dX11_stand_14 : decode cX11_stand 14 = .ok (.iaload, 1) := by decide +kernel
theorem dX11_stand_15 : decode cX11_stand 15 = .ok (.iload_n 2, 1) := by decide +kernel
theorem dX11_stand_16 : decode cX11_stand 16 = .ok (.isub, 1) := by decide +kernel
theorem dX11_stand_17 : decode cX11_stand 17 = .ok (.if_icmp .gt 7, 3) := by decide +kernel
theorem dX11_stand_20 : decode cX11_stand 20 = .ok (.iconst 1, 1) := by decide +kernel
theorem dX11_stand_21 : decode cX11_stand 21 = .ok (.goto 4, 3) := by decide +kernel
theorem dX11_stand_24 : decode cX11_stand 24 = .ok (.iconst 0, 1) := by decide +kernel
theorem dX11_stand_25 : decode cX11_stand 25 = .ok (.ireturn, 1) := by decide +kernel
theorem dX11_isOf_0 : decode cX11_isOf 0 = .ok (.iload_n 1, 1) := by decide +kernel
theorem dX11_isOf_1 : decode cX11_isOf 1 = .ok (.tableswitch 69 1 6 #[39, 44, 49, 54, 59, 64], 39) := by decide +kernel
theorem dX11_isOf_40 : decode cX11_isOf 40 = .ok (.aload_n 0, 1) := by decide +kernel
theorem dX11_isOf_41 : decode cX11_isOf 41 = .ok (.instanceof 10, 3) := by decide +kernel
theorem dX11_isOf_44 : decode cX11_isOf 44 = .ok (.ireturn, 1) := by decide +kernel
theorem dX11_isOf_45 : decode cX11_isOf 45 = .ok (.aload_n 0, 1) := by decide +kernel
theorem dX11_isOf_46 : decode cX11_isOf 46 = .ok (.instanceof 13, 3) := by decide +kernel
theorem dX11_isOf_49 : decode cX11_isOf 49 = .ok (.ireturn, 1) := by decide +kernel
theorem dX11_isOf_50 : decode cX11_isOf 50 = .ok (.aload_n 0, 1) := by decide +kernel
theorem dX11_isOf_51 : decode cX11_isOf 51 = .ok (.instanceof 16, 3) := by decide +kernel
theorem dX11_isOf_54 : decode cX11_isOf 54 = .ok (.ireturn, 1) := by decide +kernel
theorem dX11_isOf_55 : decode cX11_isOf 55 = .ok (.aload_n 0, 1) := by decide +kernel
theorem dX11_isOf_56 : decode cX11_isOf 56 = .ok (.instanceof 19, 3) := by decide +kernel
theorem dX11_isOf_59 : decode cX11_isOf 59 = .ok (.ireturn, 1) := by decide +kernel
theorem dX11_isOf_60 : decode cX11_isOf 60 = .ok (.aload_n 0, 1) := by decide +kernel
theorem dX11_isOf_61 : decode cX11_isOf 61 = .ok (.instanceof 22, 3) := by decide +kernel
theorem dX11_isOf_64 : decode cX11_isOf 64 = .ok (.ireturn, 1) := by decide +kernel
theorem dX11_isOf_65 : decode cX11_isOf 65 = .ok (.aload_n 0, 1) := by decide +kernel
theorem dX11_isOf_66 : decode cX11_isOf 66 = .ok (.instanceof 25, 3) := by decide +kernel
theorem dX11_isOf_69 : decode cX11_isOf 69 = .ok (.ireturn, 1) := by decide +kernel
theorem dX11_isOf_70 : decode cX11_isOf 70 = .ok (.iload_n 1, 1) := by decide +kernel
theorem dX11_isOf_71 : decode cX11_isOf 71 = .ok (.ifCond .ne 7, 3) := by decide +kernel
theorem dX11_isOf_74 : decode cX11_isOf 74 = .ok (.iconst 1, 1) := by decide +kernel
theorem dX11_isOf_75 : decode cX11_isOf 75 = .ok (.goto 4, 3) := by decide +kernel
theorem dX11_isOf_78 : decode cX11_isOf 78 = .ok (.iconst 0, 1) := by decide +kernel
theorem dX11_isOf_79 : decode cX11_isOf 79 = .ok (.ireturn, 1) := by decide +kernel
theorem dX11_commonDivisor_0 : decode cX11_commonDivisor 0 = .ok (.lload_n 0, 1) := by decide +kernel
theorem dX11_commonDivisor_1 : decode cX11_commonDivisor 1 = .ok (.lstore 4, 2) := by decide +kernel
theorem dX11_commonDivisor_3 : decode cX11_commonDivisor 3 = .ok (.lload_n 2, 1) := by decide +kernel
theorem dX11_commonDivisor_4 : decode cX11_commonDivisor 4 = .ok (.lstore 6, 2) := by decide +kernel
theorem dX11_commonDivisor_6 : decode cX11_commonDivisor 6 = .ok (.iconst 0, 1) := by decide +kernel
theorem dX11_commonDivisor_7 : decode cX11_commonDivisor 7 = .ok (.istore 8, 2) := by decide +kernel
theorem dX11_commonDivisor_9 : decode cX11_commonDivisor 9 = .ok (.iload 8, 2) := by decide +kernel
theorem dX11_commonDivisor_11 : decode cX11_commonDivisor 11 = .ok (.sipush 128, 3) := by decide +kernel
theorem dX11_commonDivisor_14 : decode cX11_commonDivisor 14 = .ok (.if_icmp .ge 31, 3) := by decide +kernel
theorem dX11_commonDivisor_17 : decode cX11_commonDivisor 17 = .ok (.lload 6, 2) := by decide +kernel
theorem dX11_commonDivisor_19 : decode cX11_commonDivisor 19 = .ok (.lconst 0, 1) := by decide +kernel
theorem dX11_commonDivisor_20 : decode cX11_commonDivisor 20 = .ok (.lcmp, 1) := by decide +kernel
theorem dX11_commonDivisor_21 : decode cX11_commonDivisor 21 = .ok (.ifCond .eq 24, 3) := by decide +kernel
theorem dX11_commonDivisor_24 : decode cX11_commonDivisor 24 = .ok (.lload 4, 2) := by decide +kernel
theorem dX11_commonDivisor_26 : decode cX11_commonDivisor 26 = .ok (.lload 6, 2) := by decide +kernel
theorem dX11_commonDivisor_28 : decode cX11_commonDivisor 28 = .ok (.lrem, 1) := by decide +kernel
theorem dX11_commonDivisor_29 : decode cX11_commonDivisor 29 = .ok (.lstore 9, 2) := by decide +kernel
theorem dX11_commonDivisor_31 : decode cX11_commonDivisor 31 = .ok (.lload 6, 2) := by decide +kernel
theorem dX11_commonDivisor_33 : decode cX11_commonDivisor 33 = .ok (.lstore 4, 2) := by decide +kernel
theorem dX11_commonDivisor_35 : decode cX11_commonDivisor 35 = .ok (.lload 9, 2) := by decide +kernel
theorem dX11_commonDivisor_37 : decode cX11_commonDivisor 37 = .ok (.lstore 6, 2) := by decide +kernel
theorem dX11_commonDivisor_39 : decode cX11_commonDivisor 39 = .ok (.iinc 8 1, 3) := by decide +kernel
theorem dX11_commonDivisor_42 : decode cX11_commonDivisor 42 = .ok (.goto (-33), 3) := by decide +kernel
theorem dX11_commonDivisor_45 : decode cX11_commonDivisor 45 = .ok (.lconst 1, 1) := by decide +kernel
theorem dX11_commonDivisor_46 : decode cX11_commonDivisor 46 = .ok (.lload 4, 2) := by decide +kernel
theorem dX11_commonDivisor_48 : decode cX11_commonDivisor 48 = .ok (.invokestatic 298, 3) := by decide +kernel
theorem dX11_commonDivisor_51 : decode cX11_commonDivisor 51 = .ok (.lreturn, 1) := by decide +kernel
theorem dX11_lookAhead_0 : decode cX11_lookAhead 0 = .ok (.aload_n 0, 1) := by decide +kernel
theorem dX11_lookAhead_1 : decode cX11_lookAhead 1 = .ok (.getfield 54, 3) := by decide +kernel
theorem dX11_lookAhead_4 : decode cX11_lookAhead 4 = .ok (.aload_n 0, 1) := by decide +kernel
theorem dX11_lookAhead_5 : decode cX11_lookAhead 5 = .ok (.getfield 33, 3) := by decide +kernel
theorem dX11_lookAhead_8 : decode cX11_lookAhead 8 = .ok (.getfield 100, 3) := by decide +kernel
theorem dX11_lookAhead_11 : decode cX11_lookAhead 11 = .ok (.invokevirtual 205, 3) := by decide +kernel
theorem dX11_lookAhead_14 : decode cX11_lookAhead 14 = .ok (.aload_n 0, 1) := by decide +kernel
theorem dX11_lookAhead_15 : decode cX11_lookAhead 15 = .ok (.getfield 54, 3) := by decide +kernel
theorem dX11_lookAhead_18 : decode cX11_lookAhead 18 = .ok (.iload_n 1, 1) := by decide +kernel
theorem dX11_lookAhead_19 : decode cX11_lookAhead 19 = .ok (.invokevirtual 183, 3) := by decide +kernel
theorem dX11_lookAhead_22 : decode cX11_lookAhead 22 = .ok (.pop, 1) := by decide +kernel
theorem dX11_lookAhead_23 : decode cX11_lookAhead 23 = .ok (.return_, 1) := by decide +kernel
theorem dX11_isEmptiedBy_0 : decode cX11_isEmptiedBy 0 = .ok (.aload_n 0, 1) := by decide +kernel
theorem dX11_isEmptiedBy_1 : decode cX11_isEmptiedBy 1 = .ok (.getfield 54, 3) := by decide +kernel
theorem dX11_isEmptiedBy_4 : decode cX11_isEmptiedBy 4 = .ok (.aload_n 0, 1) := by decide +kernel
theorem dX11_isEmptiedBy_5 : decode cX11_isEmptiedBy 5 = .ok (.getfield 33, 3) := by decide +kernel
theorem dX11_isEmptiedBy_8 : decode cX11_isEmptiedBy 8 = .ok (.getfield 100, 3) := by decide +kernel
theorem dX11_isEmptiedBy_11 : decode cX11_isEmptiedBy 11 = .ok (.invokevirtual 205, 3) := by decide +kernel
theorem dX11_isEmptiedBy_14 : decode cX11_isEmptiedBy 14 = .ok (.iconst 0, 1) := by decide +kernel
theorem dX11_isEmptiedBy_15 : decode cX11_isEmptiedBy 15 = .ok (.istore_n 2, 1) := by decide +kernel
theorem dX11_isEmptiedBy_16 : decode cX11_isEmptiedBy 16 = .ok (.iload_n 2, 1) := by decide +kernel
theorem dX11_isEmptiedBy_17 : decode cX11_isEmptiedBy 17 = .ok (.bipush 9, 2) := by decide +kernel
theorem dX11_isEmptiedBy_19 : decode cX11_isEmptiedBy 19 = .ok (.if_icmp .ge 38, 3) := by decide +kernel
theorem dX11_isEmptiedBy_22 : decode cX11_isEmptiedBy 22 = .ok (.iload_n 1, 1) := by decide +kernel
theorem dX11_isEmptiedBy_23 : decode cX11_isEmptiedBy 23 = .ok (.iload_n 2, 1) := by decide +kernel
theorem dX11_isEmptiedBy_24 : decode cX11_isEmptiedBy 24 = .ok (.ishr, 1) := by decide +kernel
theorem dX11_isEmptiedBy_25 : decode cX11_isEmptiedBy 25 = .ok (.iconst 1, 1) := by decide +kernel
theorem dX11_isEmptiedBy_26 : decode cX11_isEmptiedBy 26 = .ok (.iand, 1) := by decide +kernel
theorem dX11_isEmptiedBy_27 : decode cX11_isEmptiedBy 27 = .ok (.iconst 1, 1) := by decide +kernel
theorem dX11_isEmptiedBy_28 : decode cX11_isEmptiedBy 28 = .ok (.if_icmp .ne 23, 3) := by decide +kernel
theorem dX11_isEmptiedBy_31 : decode cX11_isEmptiedBy 31 = .ok (.aload_n 0, 1) := by decide +kernel
theorem dX11_isEmptiedBy_32 : decode cX11_isEmptiedBy 32 = .ok (.getfield 54, 3) := by decide +kernel
theorem dX11_isEmptiedBy_35 : decode cX11_isEmptiedBy 35 = .ok (.iload_n 2, 1) := by decide +kernel
theorem dX11_isEmptiedBy_36 : decode cX11_isEmptiedBy 36 = .ok (.invokevirtual 127, 3) := by decide +kernel
theorem dX11_isEmptiedBy_39 : decode cX11_isEmptiedBy 39 = .ok (.ifCond .eq 12, 3) := by decide +kernel
theorem dX11_isEmptiedBy_42 : decode cX11_isEmptiedBy 42 = .ok (.aload_n 0, 1) := by decide +kernel
theorem dX11_isEmptiedBy_43 : decode cX11_isEmptiedBy 43 = .ok (.getfield 54, 3) := by decide +kernel
theorem dX11_isEmptiedBy_46 : decode cX11_isEmptiedBy 46 = .ok (.iload_n 2, 1) := by decide +kernel
theorem dX11_isEmptiedBy_47 : decode cX11_isEmptiedBy 47 = .ok (.invokevirtual 189, 3) := by decide +kernel
theorem dX11_isEmptiedBy_50 : decode cX11_isEmptiedBy 50 = .ok (.pop, 1) := by decide +kernel
theorem dX11_isEmptiedBy_51 : decode cX11_isEmptiedBy 51 = .ok (.iinc 2 1, 3) := by decide +kernel
theorem dX11_isEmptiedBy_54 : decode cX11_isEmptiedBy 54 = .ok (.goto (-38), 3) := by decide +kernel
theorem dX11_isEmptiedBy_57 : decode cX11_isEmptiedBy 57 = .ok (.aload_n 0, 1) := by decide +kernel
theorem dX11_isEmptiedBy_58 : decode cX11_isEmptiedBy 58 = .ok (.getfield 54, 3) := by decide +kernel
theorem dX11_isEmptiedBy_61 : decode cX11_isEmptiedBy 61 = .ok (.invokevirtual 218, 3) := by decide +kernel
theorem dX11_isEmptiedBy_64 : decode cX11_isEmptiedBy 64 = .ok (.ifCond .ne 7, 3) := by decide +kernel
theorem dX11_isEmptiedBy_67 : decode cX11_isEmptiedBy 67 = .ok (.iconst 1, 1) := by decide +kernel
theorem dX11_isEmptiedBy_68 : decode cX11_isEmptiedBy 68 = .ok (.goto 4, 3) := by decide +kernel
theorem dX11_isEmptiedBy_71 : decode cX11_isEmptiedBy 71 = .ok (.iconst 0, 1) := by decide +kernel
theorem dX11_isEmptiedBy_72 : decode cX11_isEmptiedBy 72 = .ok (.ireturn, 1) := by decide +kernel
theorem dX11_bestRound_0 : decode cX11_bestRound 0 = .ok (.aload_n 0, 1) := by decide +kernel
theorem dX11_bestRound_1 : decode cX11_bestRound 1 = .ok (.getfield 33, 3) := by decide +kernel
theorem dX11_bestRound_4 : decode cX11_bestRound 4 = .ok (.getfield 100, 3) := by decide +kernel
theorem dX11_bestRound_7 : decode cX11_bestRound 7 = .ok (.invokevirtual 202, 3) := by decide +kernel
theorem dX11_bestRound_10 : decode cX11_bestRound 10 = .ok (.istore_n 3, 1) := by decide +kernel
theorem dX11_bestRound_11 : decode cX11_bestRound 11 = .ok (.iconst (-1), 1) := by decide +kernel
theorem dX11_bestRound_12 : decode cX11_bestRound 12 = .ok (.istore 4, 2) := by decide +kernel
theorem dX11_bestRound_14 : decode cX11_bestRound 14 = .ok (.aload_n 0, 1) := by decide +kernel
theorem dX11_bestRound_15 : decode cX11_bestRound 15 = .ok (.getfield 58, 3) := by decide +kernel
theorem dX11_bestRound_18 : decode cX11_bestRound 18 = .ok (.iconst 0, 1) := by decide +kernel
theorem dX11_bestRound_19 : decode cX11_bestRound 19 = .ok (.aaload, 1) := by decide +kernel
theorem dX11_bestRound_20 : decode cX11_bestRound 20 = .ok (.aload_n 0, 1) := by decide +kernel
theorem dX11_bestRound_21 : decode cX11_bestRound 21 = .ok (.getfield 33, 3) := by decide +kernel
theorem dX11_bestRound_24 : decode cX11_bestRound 24 = .ok (.getfield 100, 3) := by decide +kernel
theorem dX11_bestRound_27 : decode cX11_bestRound 27 = .ok (.invokevirtual 205, 3) := by decide +kernel
theorem dX11_bestRound_30 : decode cX11_bestRound 30 = .ok (.iconst 0, 1) := by decide +kernel
theorem dX11_bestRound_31 : decode cX11_bestRound 31 = .ok (.istore 5, 2) := by decide +kernel
theorem dX11_bestRound_33 : decode cX11_bestRound 33 = .ok (.iload 5, 2) := by decide +kernel
theorem dX11_bestRound_35 : decode cX11_bestRound 35 = .ok (.getstatic 303, 3) := by decide +kernel
theorem dX11_bestRound_38 : decode cX11_bestRound 38 = .ok (.iload_n 2, 1) := by decide +kernel
theorem dX11_bestRound_39 : decode cX11_bestRound 39 = .ok (.iaload, 1) := by decide +kernel
theorem dX11_bestRound_40 : decode cX11_bestRound 40 = .ok (.if_icmp .ge 80, 3) := by decide +kernel
theorem dX11_bestRound_43 : decode cX11_bestRound 43 = .ok (.aload_n 0, 1) := by decide +kernel
theorem dX11_bestRound_44 : decode cX11_bestRound 44 = .ok (.iload 5, 2) := by decide +kernel
theorem dX11_bestRound_46 : decode cX11_bestRound 46 = .ok (.iload_n 2, 1) := by decide +kernel
theorem dX11_bestRound_47 : decode cX11_bestRound 47 = .ok (.invokevirtual 306, 3) := by decide +kernel
theorem dX11_bestRound_50 : decode cX11_bestRound 50 = .ok (.aload_n 0, 1) := by decide +kernel
theorem dX11_bestRound_51 : decode cX11_bestRound 51 = .ok (.getfield 58, 3) := by decide +kernel
theorem dX11_bestRound_54 : decode cX11_bestRound 54 = .ok (.iload_n 2, 1) := by decide +kernel
theorem dX11_bestRound_55 : decode cX11_bestRound 55 = .ok (.aaload, 1) := by decide +kernel
theorem dX11_bestRound_56 : decode cX11_bestRound 56 = .ok (.iload_n 1, 1) := by decide +kernel
theorem dX11_bestRound_57 : decode cX11_bestRound 57 = .ok (.invokevirtual 127, 3) := by decide +kernel
theorem dX11_bestRound_60 : decode cX11_bestRound 60 = .ok (.ifCond .eq 6, 3) := by decide +kernel
theorem dX11_bestRound_63 : decode cX11_bestRound 63 = .ok (.goto 51, 3) := by decide +kernel
theorem dX11_bestRound_66 : decode cX11_bestRound 66 = .ok (.iload_n 3, 1) := by decide +kernel
theorem dX11_bestRound_67 : decode cX11_bestRound 67 = .ok (.iconst 1, 1) := by decide +kernel
theorem dX11_bestRound_68 : decode cX11_bestRound 68 = .ok (.isub, 1) := by decide +kernel
theorem dX11_bestRound_69 : decode cX11_bestRound 69 = .ok (.aload_n 0, 1) := by decide +kernel
theorem dX11_bestRound_70 : decode cX11_bestRound 70 = .ok (.getfield 58, 3) := by decide +kernel
theorem dX11_bestRound_73 : decode cX11_bestRound 73 = .ok (.iload_n 2, 1) := by decide +kernel
theorem dX11_bestRound_74 : decode cX11_bestRound 74 = .ok (.aaload, 1) := by decide +kernel
theorem dX11_bestRound_75 : decode cX11_bestRound 75 = .ok (.invokevirtual 202, 3) := by decide +kernel
theorem dX11_bestRound_78 : decode cX11_bestRound 78 = .ok (.isub, 1) := by decide +kernel
theorem dX11_bestRound_79 : decode cX11_bestRound 79 = .ok (.istore 6, 2) := by decide +kernel
theorem dX11_bestRound_81 : decode cX11_bestRound 81 = .ok (.iload 6, 2) := by decide +kernel
theorem dX11_bestRound_83 : decode cX11_bestRound 83 = .ok (.getstatic 215, 3) := by decide +kernel
theorem dX11_bestRound_86 : decode cX11_bestRound 86 = .ok (.iconst 3, 1) := by decide +kernel
theorem dX11_bestRound_87 : decode cX11_bestRound 87 = .ok (.iaload, 1) := by decide +kernel
theorem dX11_bestRound_88 : decode cX11_bestRound 88 = .ok (.imul, 1) := by decide +kernel
theorem dX11_bestRound_89 : decode cX11_bestRound 89 = .ok (.iload 5, 2) := by decide +kernel
theorem dX11_bestRound_91 : decode cX11_bestRound 91 = .ok (.iload_n 2, 1) := by decide +kernel
theorem dX11_bestRound_92 : decode cX11_bestRound 92 = .ok (.invokestatic 309, 3) := by decide +kernel
theorem dX11_bestRound_95 : decode cX11_bestRound 95 = .ok (.iadd, 1) := by decide +kernel
theorem dX11_bestRound_96 : decode cX11_bestRound 96 = .ok (.istore 7, 2) := by decide +kernel
theorem dX11_bestRound_98 : decode cX11_bestRound 98 = .ok (.iload 4, 2) := by decide +kernel
theorem dX11_bestRound_100 : decode cX11_bestRound 100 = .ok (.ifCond .lt 10, 3) := by decide +kernel
theorem dX11_bestRound_103 : decode cX11_bestRound 103 = .ok (.iload 7, 2) := by decide +kernel
theorem dX11_bestRound_105 : decode cX11_bestRound 105 = .ok (.iload 4, 2) := by decide +kernel
theorem dX11_bestRound_107 : decode cX11_bestRound 107 = .ok (.if_icmp .ge 7, 3) := by decide +kernel
theorem dX11_bestRound_110 : decode cX11_bestRound 110 = .ok (.iload 7, 2) := by decide +kernel
theorem dX11_bestRound_112 : decode cX11_bestRound 112 = .ok (.istore 4, 2) := by decide +kernel
theorem dX11_bestRound_114 : decode cX11_bestRound 114 = .ok (.iinc 5 1, 3) := by decide +kernel
theorem dX11_bestRound_117 : decode cX11_bestRound 117 = .ok (.goto (-84), 3) := by decide +kernel
theorem dX11_bestRound_120 : decode cX11_bestRound 120 = .ok (.iload 4, 2) := by decide +kernel
theorem dX11_bestRound_122 : decode cX11_bestRound 122 = .ok (.ireturn, 1) := by decide +kernel
theorem dX11_flyRow_0 : decode cX11_flyRow 0 = .ok (.iconst 0, 1) := by decide +kernel
theorem dX11_flyRow_1 : decode cX11_flyRow 1 = .ok (.istore_n 3, 1) := by decide +kernel
theorem dX11_flyRow_2 : decode cX11_flyRow 2 = .ok (.iload_n 3, 1) := by decide +kernel
theorem dX11_flyRow_3 : decode cX11_flyRow 3 = .ok (.iload_n 2, 1) := by decide +kernel
theorem dX11_flyRow_4 : decode cX11_flyRow 4 = .ok (.if_icmp .ge 63, 3) := by decide +kernel
theorem dX11_flyRow_7 : decode cX11_flyRow 7 = .ok (.getstatic 303, 3) := by decide +kernel
theorem dX11_flyRow_10 : decode cX11_flyRow 10 = .ok (.iload_n 2, 1) := by decide +kernel
theorem dX11_flyRow_11 : decode cX11_flyRow 11 = .ok (.iconst 1, 1) := by decide +kernel
theorem dX11_flyRow_12 : decode cX11_flyRow 12 = .ok (.isub, 1) := by decide +kernel
theorem dX11_flyRow_13 : decode cX11_flyRow 13 = .ok (.iload_n 3, 1) := by decide +kernel
theorem dX11_flyRow_14 : decode cX11_flyRow 14 = .ok (.isub, 1) := by decide +kernel
theorem dX11_flyRow_15 : decode cX11_flyRow 15 = .ok (.iaload, 1) := by decide +kernel
theorem dX11_flyRow_16 : decode cX11_flyRow 16 = .ok (.istore 4, 2) := by decide +kernel
theorem dX11_flyRow_18 : decode cX11_flyRow 18 = .ok (.iload_n 1, 1) := by decide +kernel
theorem dX11_flyRow_19 : decode cX11_flyRow 19 = .ok (.iload 4, 2) := by decide +kernel
theorem dX11_flyRow_21 : decode cX11_flyRow 21 = .ok (.irem, 1) := by decide +kernel
theorem dX11_flyRow_22 : decode cX11_flyRow 22 = .ok (.ifCond .ne 39, 3) := by decide +kernel
theorem dX11_flyRow_25 : decode cX11_flyRow 25 = .ok (.aload_n 0, 1) := by decide +kernel
theorem dX11_flyRow_26 : decode cX11_flyRow 26 = .ok (.getfield 58, 3) := by decide +kernel
theorem dX11_flyRow_29 : decode cX11_flyRow 29 = .ok (.iload_n 3, 1) := by decide +kernel
theorem dX11_flyRow_30 : decode cX11_flyRow 30 = .ok (.iconst 1, 1) := by decide +kernel
theorem dX11_flyRow_31 : decode cX11_flyRow 31 = .ok (.iadd, 1) := by decide +kernel
theorem dX11_flyRow_32 : decode cX11_flyRow 32 = .ok (.aaload, 1) := by decide +kernel
theorem dX11_flyRow_33 : decode cX11_flyRow 33 = .ok (.aload_n 0, 1) := by decide +kernel
theorem dX11_flyRow_34 : decode cX11_flyRow 34 = .ok (.getfield 58, 3) := by decide +kernel
theorem dX11_flyRow_37 : decode cX11_flyRow 37 = .ok (.iload_n 3, 1) := by decide +kernel
theorem dX11_flyRow_38 : decode cX11_flyRow 38 = .ok (.aaload, 1) := by decide +kernel
theorem dX11_flyRow_39 : decode cX11_flyRow 39 = .ok (.invokevirtual 205, 3) := by decide +kernel
theorem dX11_flyRow_42 : decode cX11_flyRow 42 = .ok (.aload_n 0, 1) := by decide +kernel
theorem dX11_flyRow_43 : decode cX11_flyRow 43 = .ok (.getfield 58, 3) := by decide +kernel
theorem dX11_flyRow_46 : decode cX11_flyRow 46 = .ok (.iload_n 3, 1) := by decide +kernel
theorem dX11_flyRow_47 : decode cX11_flyRow 47 = .ok (.iconst 1, 1) := by decide +kernel
theorem dX11_flyRow_48 : decode cX11_flyRow 48 = .ok (.iadd, 1) := by decide +kernel
theorem dX11_flyRow_49 : decode cX11_flyRow 49 = .ok (.aaload, 1) := by decide +kernel
theorem dX11_flyRow_50 : decode cX11_flyRow 50 = .ok (.iload_n 1, 1) := by decide +kernel
theorem dX11_flyRow_51 : decode cX11_flyRow 51 = .ok (.iload 4, 2) := by decide +kernel
theorem dX11_flyRow_53 : decode cX11_flyRow 53 = .ok (.idiv, 1) := by decide +kernel
theorem dX11_flyRow_54 : decode cX11_flyRow 54 = .ok (.bipush 9, 2) := by decide +kernel
theorem dX11_flyRow_56 : decode cX11_flyRow 56 = .ok (.irem, 1) := by decide +kernel
theorem dX11_flyRow_57 : decode cX11_flyRow 57 = .ok (.invokevirtual 186, 3) := by decide +kernel
theorem dX11_flyRow_60 : decode cX11_flyRow 60 = .ok (.pop, 1) := by decide +kernel
theorem dX11_flyRow_61 : decode cX11_flyRow 61 = .ok (.iinc 3 1, 3) := by decide +kernel
theorem dX11_flyRow_64 : decode cX11_flyRow 64 = .ok (.goto (-62), 3) := by decide +kernel
theorem dX11_flyRow_67 : decode cX11_flyRow 67 = .ok (.return_, 1) := by decide +kernel
theorem dX11_figures_0 : decode cX11_figures 0 = .ok (.iconst 0, 1) := by decide +kernel
theorem dX11_figures_1 : decode cX11_figures 1 = .ok (.istore_n 2, 1) := by decide +kernel
theorem dX11_figures_2 : decode cX11_figures 2 = .ok (.iconst 0, 1) := by decide +kernel
theorem dX11_figures_3 : decode cX11_figures 3 = .ok (.istore_n 3, 1) := by decide +kernel
theorem dX11_figures_4 : decode cX11_figures 4 = .ok (.iload_n 3, 1) := by decide +kernel
theorem dX11_figures_5 : decode cX11_figures 5 = .ok (.iload_n 1, 1) := by decide +kernel
theorem dX11_figures_6 : decode cX11_figures 6 = .ok (.if_icmp .ge 30, 3) := by decide +kernel
theorem dX11_figures_9 : decode cX11_figures 9 = .ok (.iload_n 2, 1) := by decide +kernel
theorem dX11_figures_10 : decode cX11_figures 10 = .ok (.iload_n 0, 1) := by decide +kernel
theorem dX11_figures_11 : decode cX11_figures 11 = .ok (.getstatic 303, 3) := by decide +kernel
theorem dX11_figures_14 : decode cX11_figures 14 = .ok (.iload_n 3, 1) := by decide +kernel
theorem dX11_figures_15 : decode cX11_figures 15 = .ok (.iaload, 1) := by decide +kernel
theorem dX11_figures_16 : decode cX11_figures 16 = .ok (.idiv, 1) := by decide +kernel
theorem dX11_figures_17 : decode cX11_figures 17 = .ok (.bipush 9, 2) := by decide +kernel
theorem dX11_figures_19 : decode cX11_figures 19 = .ok (.irem, 1) := by decide +kernel
theorem dX11_figures_20 : decode cX11_figures 20 = .ok (.iconst 1, 1) := by decide +kernel
theorem dX11_figures_21 : decode cX11_figures 21 = .ok (.iadd, 1) := by decide +kernel
theorem dX11_figures_22 : decode cX11_figures 22 = .ok (.getstatic 215, 3) := by decide +kernel
theorem dX11_figures_25 : decode cX11_figures 25 = .ok (.iload_n 3, 1) := by decide +kernel
theorem dX11_figures_26 : decode cX11_figures 26 = .ok (.iaload, 1) := by decide +kernel
theorem dX11_figures_27 : decode cX11_figures 27 = .ok (.imul, 1) := by decide +kernel
theorem dX11_figures_28 : decode cX11_figures 28 = .ok (.iadd, 1) := by decide +kernel
theorem dX11_figures_29 : decode cX11_figures 29 = .ok (.istore_n 2, 1) := by decide +kernel
theorem dX11_figures_30 : decode cX11_figures 30 = .ok (.iinc 3 1, 3) := by decide +kernel
theorem dX11_figures_33 : decode cX11_figures 33 = .ok (.goto (-29), 3) := by decide +kernel
theorem dX11_figures_36 : decode cX11_figures 36 = .ok (.iload_n 2, 1) := by decide +kernel
theorem dX11_figures_37 : decode cX11_figures 37 = .ok (.ireturn, 1) := by decide +kernel
theorem dX12_init_0 : decode cX12_init 0 = .ok (.aload_n 0, 1) := by decide +kernel
theorem dX12_init_1 : decode cX12_init 1 = .ok (.invokespecial 1, 3) := by decide +kernel
theorem dX12_init_4 : decode cX12_init 4 = .ok (.aload_n 0, 1) := by decide +kernel
theorem dX12_init_5 : decode cX12_init 5 = .ok (.sipush 387, 3) := by decide +kernel
theorem dX12_init_8 : decode cX12_init 8 = .ok (.newarray .int, 2) := by decide +kernel
theorem dX12_init_10 : decode cX12_init 10 = .ok (.putfield 7, 3) := by decide +kernel
theorem dX12_init_13 : decode cX12_init 13 = .ok (.aload_n 0, 1) := by decide +kernel
theorem dX12_init_14 : decode cX12_init 14 = .ok (.sipush 387, 3) := by decide +kernel
theorem dX12_init_17 : decode cX12_init 17 = .ok (.newarray .int, 2) := by decide +kernel
theorem dX12_init_19 : decode cX12_init 19 = .ok (.putfield 13, 3) := by decide +kernel
theorem dX12_init_22 : decode cX12_init 22 = .ok (.aload_n 0, 1) := by decide +kernel
theorem dX12_init_23 : decode cX12_init 23 = .ok (.bipush 106, 2) := by decide +kernel
theorem dX12_init_25 : decode cX12_init 25 = .ok (.newarray .int, 2) := by decide +kernel
theorem dX12_init_27 : decode cX12_init 27 = .ok (.putfield 16, 3) := by decide +kernel
theorem dX12_init_30 : decode cX12_init 30 = .ok (.aload_n 0, 1) := by decide +kernel
theorem dX12_init_31 : decode cX12_init 31 = .ok (.bipush 7, 2) := by decide +kernel
theorem dX12_init_33 : decode cX12_init 33 = .ok (.newarray .int, 2) := by decide +kernel
theorem dX12_init_35 : decode cX12_init 35 = .ok (.putfield 19, 3) := by decide +kernel
theorem dX12_init_38 : decode cX12_init 38 = .ok (.aload_n 0, 1) := by decide +kernel
theorem dX12_init_39 : decode cX12_init 39 = .ok (.bipush 124, 2) := by decide +kernel
theorem dX12_init_41 : decode cX12_init 41 = .ok (.newarray .int, 2) := by decide +kernel
theorem dX12_init_43 : decode cX12_init 43 = .ok (.putfield 22, 3) := by decide +kernel
theorem dX12_init_46 : decode cX12_init 46 = .ok (.aload_n 0, 1) := by decide +kernel
theorem dX12_init_47 : decode cX12_init 47 = .ok (.sipush 128, 3) := by decide +kernel
theorem dX12_init_50 : decode cX12_init 50 = .ok (.newarray .int, 2) := by decide +kernel
theorem dX12_init_52 : decode cX12_init 52 = .ok (.putfield 25, 3) := by decide +kernel
theorem dX12_init_55 : decode cX12_init 55 = .ok (.aload_n 0, 1) := by decide +kernel
theorem dX12_init_56 : decode cX12_init 56 = .ok (.bipush 64, 2) := by decide +kernel
theorem dX12_init_58 : decode cX12_init 58 = .ok (.newarray .int, 2) := by decide +kernel
theorem dX12_init_60 : decode cX12_init 60 = .ok (.putfield 28, 3) := by decide +kernel
theorem dX12_init_63 : decode cX12_init 63 = .ok (.aload_n 0, 1) := by decide +kernel
theorem dX12_init_64 : decode cX12_init 64 = .ok (.bipush 9, 2) := by decide +kernel
theorem dX12_init_66 : decode cX12_init 66 = .ok (.newarray .int, 2) := by decide +kernel
theorem dX12_init_68 : decode cX12_init 68 = .ok (.putfield 31, 3) := by decide +kernel
theorem dX12_init_71 : decode cX12_init 71 = .ok (.aload_n 0, 1) := by decide +kernel
theorem dX12_init_72 : decode cX12_init 72 = .ok (.bipush 30, 2) := by decide +kernel
theorem dX12_init_74 : decode cX12_init 74 = .ok (.newarray .int, 2) := by decide +kernel
theorem dX12_init_76 : decode cX12_init 76 = .ok (.putfield 34, 3) := by decide +kernel
theorem dX12_init_79 : decode cX12_init 79 = .ok (.aload_n 0, 1) := by decide +kernel
theorem dX12_init_80 : decode cX12_init 80 = .ok (.iconst 4, 1) := by decide +kernel
theorem dX12_init_81 : decode cX12_init 81 = .ok (.newarray .int, 2) := by decide +kernel
theorem dX12_init_83 : decode cX12_init 83 = .ok (.putfield 37, 3) := by decide +kernel
theorem dX12_init_86 : decode cX12_init 86 = .ok (.aload_n 0, 1) := by decide +kernel
theorem dX12_init_87 : decode cX12_init 87 = .ok (.iconst 4, 1) := by decide +kernel
theorem dX12_init_88 : decode cX12_init 88 = .ok (.newarray .int, 2) := by decide +kernel
theorem dX12_init_90 : decode cX12_init 90 = .ok (.putfield 40, 3) := by decide +kernel
theorem dX12_init_93 : decode cX12_init 93 = .ok (.aload_n 0, 1) := by decide +kernel
theorem dX12_init_94 : decode cX12_init 94 = .ok (.bipush 96, 2) := by decide +kernel
theorem dX12_init_96 : decode cX12_init 96 = .ok (.newarray .int, 2) := by decide +kernel
theorem dX12_init_98 : decode cX12_init 98 = .ok (.putfield 43, 3) := by decide +kernel
theorem dX12_init_101 : decode cX12_init 101 = .ok (.aload_n 0, 1) := by decide +kernel
theorem dX12_init_102 : decode cX12_init 102 = .ok (.bipush 24, 2) := by decide +kernel
theorem dX12_init_104 : decode cX12_init 104 = .ok (.newarray .int, 2) := by decide +kernel
theorem dX12_init_106 : decode cX12_init 106 = .ok (.putfield 46, 3) := by decide +kernel
theorem dX12_init_109 : decode cX12_init 109 = .ok (.aload_n 0, 1) := by decide +kernel
theorem dX12_init_110 : decode cX12_init 110 = .ok (.getfield 7, 3) := by decide +kernel
theorem dX12_init_113 : decode cX12_init 113 = .ok (.iconst 1, 1) := by decide +kernel
theorem dX12_init_114 : decode cX12_init 114 = .ok (.iconst 1, 1) := by decide +kernel
theorem dX12_init_115 : decode cX12_init 115 = .ok (.iastore, 1) := by decide +kernel
theorem dX12_init_116 : decode cX12_init 116 = .ok (.aload_n 0, 1) := by decide +kernel
theorem dX12_init_117 : decode cX12_init 117 = .ok (.getfield 7, 3) := by decide +kernel
theorem dX12_init_120 : decode cX12_init 120 = .ok (.iconst 4, 1) := by decide +kernel
theorem dX12_init_121 : decode cX12_init 121 = .ok (.iconst 1, 1) := by decide +kernel
theorem dX12_init_122 : decode cX12_init 122 = .ok (.iastore, 1) := by decide +kernel
theorem dX12_init_123 : decode cX12_init 123 = .ok (.iconst 0, 1) := by decide +kernel
theorem dX12_init_124 : decode cX12_init 124 = .ok (.istore_n 1, 1) := by decide +kernel
theorem dX12_init_125 : decode cX12_init 125 = .ok (.iload_n 1, 1) := by decide +kernel
theorem dX12_init_126 : decode cX12_init 126 = .ok (.bipush 9, 2) := by decide +kernel
theorem dX12_init_128 : decode cX12_init 128 = .ok (.if_icmp .ge 31, 3) := by decide +kernel
theorem dX12_init_131 : decode cX12_init 131 = .ok (.aload_n 0, 1) := by decide +kernel
theorem dX12_init_132 : decode cX12_init 132 = .ok (.iload_n 1, 1) := by decide +kernel
theorem dX12_init_133 : decode cX12_init 133 = .ok (.iconst 2, 1) := by decide +kernel
theorem dX12_init_134 : decode cX12_init 134 = .ok (.iload_n 1, 1) := by decide +kernel
theorem dX12_init_135 : decode cX12_init 135 = .ok (.invokevirtual 49, 3) := by decide +kernel
theorem dX12_init_138 : decode cX12_init 138 = .ok (.aload_n 0, 1) := by decide +kernel
theorem dX12_init_139 : decode cX12_init 139 = .ok (.iload_n 1, 1) := by decide +kernel
theorem dX12_init_140 : decode cX12_init 140 = .ok (.iconst 3, 1) := by decide +kernel
theorem dX12_init_141 : decode cX12_init 141 = .ok (.bipush 60, 2) := by decide +kernel
theorem dX12_init_143 : decode cX12_init 143 = .ok (.invokevirtual 49, 3) := by decide +kernel
theorem dX12_init_146 : decode cX12_init 146 = .ok (.aload_n 0, 1) := by decide +kernel
theorem dX12_init_147 : decode cX12_init 147 = .ok (.iload_n 1, 1) := by decide +kernel
theorem dX12_init_148 : decode cX12_init 148 = .ok (.iconst 4, 1) := by decide +kernel
theorem dX12_init_149 : decode cX12_init 149 = .ok (.iconst (-1), 1) := by decide +kernel
theorem dX12_init_150 : decode cX12_init 150 = .ok (.invokevirtual 49, 3) := by decide +kernel
theorem dX12_init_153 : decode cX12_init 153 = .ok (.iinc 1 1, 3) := by decide +kernel
theorem dX12_init_156 : decode cX12_init 156 = .ok (.goto (-31), 3) := by decide +kernel
theorem dX12_init_159 : decode cX12_init 159 = .ok (.return_, 1) := by decide +kernel
theorem dX12_error_0 : decode cX12_error 0 = .ok (.aload_n 0, 1) := by decide +kernel
theorem dX12_error_1 : decode cX12_error 1 = .ok (.getfield 19, 3) := by decide +kernel
theorem dX12_error_4 : decode cX12_error 4 = .ok (.iload_n 1, 1) := by decide +kernel
theorem dX12_error_5 : decode cX12_error 5 = .ok (.dup2, 1) := by decide +kernel
theorem dX12_error_6 : decode cX12_error 6 = .ok (.iaload, 1) := by decide +kernel
theorem dX12_error_7 : decode cX12_error 7 = .ok (.iconst 1, 1) := by decide +kernel
theorem dX12_error_8 : decode cX12_error 8 = .ok (.iadd, 1) := by decide +kernel
theorem dX12_error_9 : decode cX12_error 9 = .ok (.iastore, 1) := by decide +kernel
theorem dX12_error_10 : decode cX12_error 10 = .ok (.ldc 53, 2) := by decide +kernel
theorem dX12_error_12 : decode cX12_error 12 = .ok (.iload_n 1, 1) := by decide +kernel
theorem dX12_error_13 : decode cX12_error 13 = .ok (.isub, 1) := by decide +kernel
theorem dX12_error_14 : decode cX12_error 14 = .ok (.ireturn, 1) := by decide +kernel
theorem dX12_in_0 : decode cX12_in 0 = .ok (.iload_n 0, 1) := by decide +kernel
theorem dX12_in_1 : decode cX12_in 1 = .ok (.iload_n 1, 1) := by decide +kernel
theorem dX12_in_2 : decode cX12_in 2 = .ok (.if_icmp .lt 12, 3) := by decide +kernel
theorem dX12_in_5 : decode cX12_in 5 = .ok (.iload_n 0, 1) := by decide +kernel
theorem dX12_in_6 : decode cX12_in 6 = .ok (.iload_n 2, 1) := by decide +kernel
theorem dX12_in_7 : decode cX12_in 7 = .ok (.if_icmp .gt 7, 3) := by decide +kernel
theorem dX12_in_10 : decode cX12_in 10 = .ok (.iconst 1, 1) := by decide +kernel
theorem dX12_in_11 : decode cX12_in 11 = .ok (.goto 4, 3) := by decide +kernel
theorem dX12_in_14 : decode cX12_in 14 = .ok (.iconst 0, 1) := by decide +kernel
theorem dX12_in_15 : decode cX12_in 15 = .ok (.ireturn, 1) := by decide +kernel
theorem dX12_held_0 : decode cX12_held 0 = .ok (.iload_n 0, 1) := by decide +kernel
theorem dX12_held_1 : decode cX12_held 1 = .ok (.iload_n 1, 1) := by decide +kernel
theorem dX12_held_2 : decode cX12_held 2 = .ok (.if_icmp .ge 7, 3) := by decide +kernel
theorem dX12_held_5 : decode cX12_held 5 = .ok (.iload_n 1, 1) := by decide +kernel
theorem dX12_held_6 : decode cX12_held 6 = .ok (.goto 13, 3) := by decide +kernel
theorem dX12_held_9 : decode cX12_held 9 = .ok (.iload_n 0, 1) := by decide +kernel
theorem dX12_held_10 : decode cX12_held 10 = .ok (.iload_n 2, 1) := by decide +kernel
theorem dX12_held_11 : decode cX12_held 11 = .ok (.if_icmp .le 7, 3) := by decide +kernel
theorem dX12_held_14 : decode cX12_held 14 = .ok (.iload_n 2, 1) := by decide +kernel
theorem dX12_held_15 : decode cX12_held 15 = .ok (.goto 4, 3) := by decide +kernel
theorem dX12_held_18 : decode cX12_held 18 = .ok (.iload_n 0, 1) := by decide +kernel
theorem dX12_held_19 : decode cX12_held 19 = .ok (.ireturn, 1) := by decide +kernel
theorem dX12_carry_0 : decode cX12_carry 0 = .ok (.iconst 0, 1) := by decide +kernel
theorem dX12_carry_1 : decode cX12_carry 1 = .ok (.istore_n 2, 1) := by decide +kernel
theorem dX12_carry_2 : decode cX12_carry 2 = .ok (.iload_n 2, 1) := by decide +kernel
theorem dX12_carry_3 : decode cX12_carry 3 = .ok (.sipush 387, 3) := by decide +kernel
theorem dX12_carry_6 : decode cX12_carry 6 = .ok (.if_icmp .ge 15, 3) := by decide +kernel
theorem dX12_carry_9 : decode cX12_carry 9 = .ok (.aload_n 1, 1) := by decide +kernel
theorem dX12_carry_10 : decode cX12_carry 10 = .ok (.iload_n 2, 1) := by decide +kernel
theorem dX12_carry_11 : decode cX12_carry 11 = .ok (.aload_n 0, 1) := by decide +kernel
theorem dX12_carry_12 : decode cX12_carry 12 = .ok (.iload_n 2, 1) := by decide +kernel
theorem dX12_carry_13 : decode cX12_carry 13 = .ok (.iaload, 1) := by decide +kernel
theorem dX12_carry_14 : decode cX12_carry 14 = .ok (.iastore, 1) := by decide +kernel
theorem dX12_carry_15 : decode cX12_carry 15 = .ok (.iinc 2 1, 3) := by decide +kernel
theorem dX12_carry_18 : decode cX12_carry 18 = .ok (.goto (-16), 3) := by decide +kernel
theorem dX12_carry_21 : decode cX12_carry 21 = .ok (.return_, 1) := by decide +kernel
theorem dX12_layDown_0 : decode cX12_layDown 0 = .ok (.iconst 0, 1) := by decide +kernel
theorem dX12_layDown_1 : decode cX12_layDown 1 = .ok (.istore_n 2, 1) := by decide +kernel
theorem dX12_layDown_2 : decode cX12_layDown 2 = .ok (.iload_n 2, 1) := by decide +kernel
theorem dX12_layDown_3 : decode cX12_layDown 3 = .ok (.bipush 53, 2) := by decide +kernel
theorem dX12_layDown_5 : decode cX12_layDown 5 = .ok (.if_icmp .ge 26, 3) := by decide +kernel
theorem dX12_layDown_8 : decode cX12_layDown 8 = .ok (.aload_n 0, 1) := by decide +kernel
theorem dX12_layDown_9 : decode cX12_layDown 9 = .ok (.getfield 16, 3) := by decide +kernel
theorem dX12_layDown_12 : decode cX12_layDown 12 = .ok (.bipush 53, 2) := by decide +kernel
theorem dX12_layDown_14 : decode cX12_layDown 14 = .ok (.iload_n 1, 1) := by decide +kernel
theorem dX12_layDown_15 : decode cX12_layDown 15 = .ok (.imul, 1) := by decide +kernel
theorem dX12_layDown_16 : decode cX12_layDown 16 = .ok (.iload_n 2, 1) := by decide +kernel
theorem dX12_layDown_17 : decode cX12_layDown 17 = .ok (.iadd, 1) := by decide +kernel
theorem dX12_layDown_18 : decode cX12_layDown 18 = .ok (.aload_n 0, 1) := by decide +kernel
theorem dX12_layDown_19 : decode cX12_layDown 19 = .ok (.getfield 7, 3) := by decide +kernel
theorem dX12_layDown_22 : decode cX12_layDown 22 = .ok (.iload_n 2, 1) := by decide +kernel
theorem dX12_layDown_23 : decode cX12_layDown 23 = .ok (.iaload, 1) := by decide +kernel
theorem dX12_layDown_24 : decode cX12_layDown 24 = .ok (.iastore, 1) := by decide +kernel
theorem dX12_layDown_25 : decode cX12_layDown 25 = .ok (.iinc 2 1, 3) := by decide +kernel
theorem dX12_layDown_28 : decode cX12_layDown 28 = .ok (.goto (-26), 3) := by decide +kernel
theorem dX12_layDown_31 : decode cX12_layDown 31 = .ok (.return_, 1) := by decide +kernel
theorem dX12_layBack_0 : decode cX12_layBack 0 = .ok (.iconst 0, 1) := by decide +kernel
theorem dX12_layBack_1 : decode cX12_layBack 1 = .ok (.istore_n 2, 1) := by decide +kernel
theorem dX12_layBack_2 : decode cX12_layBack 2 = .ok (.iload_n 2, 1) := by decide +kernel
theorem dX12_layBack_3 : decode cX12_layBack 3 = .ok (.bipush 53, 2) := by decide +kernel
theorem dX12_layBack_5 : decode cX12_layBack 5 = .ok (.if_icmp .ge 26, 3) := by decide +kernel
theorem dX12_layBack_8 : decode cX12_layBack 8 = .ok (.aload_n 0, 1) := by decide +kernel
theorem dX12_layBack_9 : decode cX12_layBack 9 = .ok (.getfield 7, 3) := by decide +kernel
theorem dX12_layBack_12 : decode cX12_layBack 12 = .ok (.iload_n 2, 1) := by decide +kernel
theorem dX12_layBack_13 : decode cX12_layBack 13 = .ok (.aload_n 0, 1) := by decide +kernel
theorem dX12_layBack_14 : decode cX12_layBack 14 = .ok (.getfield 16, 3) := by decide +kernel
theorem dX12_layBack_17 : decode cX12_layBack 17 = .ok (.bipush 53, 2) := by decide +kernel
theorem dX12_layBack_19 : decode cX12_layBack 19 = .ok (.iload_n 1, 1) := by decide +kernel
theorem dX12_layBack_20 : decode cX12_layBack 20 = .ok (.imul, 1) := by decide +kernel
theorem dX12_layBack_21 : decode cX12_layBack 21 = .ok (.iload_n 2, 1) := by decide +kernel
theorem dX12_layBack_22 : decode cX12_layBack 22 = .ok (.iadd, 1) := by decide +kernel
theorem dX12_layBack_23 : decode cX12_layBack 23 = .ok (.iaload, 1) := by decide +kernel
