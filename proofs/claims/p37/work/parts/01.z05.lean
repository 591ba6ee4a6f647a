theorem dX12_layBack_24 : decode cX12_layBack 24 = .ok (.iastore, 1) := by decide +kernel
theorem dX12_layBack_25 : decode cX12_layBack 25 = .ok (.iinc 2 1, 3) := by decide +kernel
theorem dX12_layBack_28 : decode cX12_layBack 28 = .ok (.goto (-26), 3) := by decide +kernel
theorem dX12_layBack_31 : decode cX12_layBack 31 = .ok (.return_, 1) := by decide +kernel
theorem dX12_isOne_0 : decode cX12_isOne 0 = .ok (.iload_n 0, 1) := by decide +kernel
theorem dX12_isOne_1 : decode cX12_isOne 1 = .ok (.iconst 0, 1) := by decide +kernel
theorem dX12_isOne_2 : decode cX12_isOne 2 = .ok (.bipush 8, 2) := by decide +kernel
theorem dX12_isOne_4 : decode cX12_isOne 4 = .ok (.invokestatic 54, 3) := by decide +kernel
theorem dX12_isOne_7 : decode cX12_isOne 7 = .ok (.ireturn, 1) := by decide +kernel
theorem dX12_its_0 : decode cX12_its 0 = .ok (.aload_n 0, 1) := by decide +kernel
theorem dX12_its_1 : decode cX12_its 1 = .ok (.getfield 7, 3) := by decide +kernel
theorem dX12_its_4 : decode cX12_its 4 = .ok (.bipush 8, 2) := by decide +kernel
theorem dX12_its_6 : decode cX12_its 6 = .ok (.iconst 5, 1) := by decide +kernel
theorem dX12_its_7 : decode cX12_its 7 = .ok (.iload_n 1, 1) := by decide +kernel
theorem dX12_its_8 : decode cX12_its 8 = .ok (.imul, 1) := by decide +kernel
theorem dX12_its_9 : decode cX12_its 9 = .ok (.iadd, 1) := by decide +kernel
theorem dX12_its_10 : decode cX12_its 10 = .ok (.iload_n 2, 1) := by decide +kernel
theorem dX12_its_11 : decode cX12_its 11 = .ok (.iadd, 1) := by decide +kernel
theorem dX12_its_12 : decode cX12_its 12 = .ok (.iaload, 1) := by decide +kernel
theorem dX12_its_13 : decode cX12_its 13 = .ok (.ireturn, 1) := by decide +kernel
theorem dX12_lays1_0 : decode cX12_lays1 0 = .ok (.aload_n 0, 1) := by decide +kernel
theorem dX12_lays1_1 : decode cX12_lays1 1 = .ok (.getfield 7, 3) := by decide +kernel
theorem dX12_lays1_4 : decode cX12_lays1 4 = .ok (.bipush 8, 2) := by decide +kernel
theorem dX12_lays1_6 : decode cX12_lays1 6 = .ok (.iconst 5, 1) := by decide +kernel
theorem dX12_lays1_7 : decode cX12_lays1 7 = .ok (.iload_n 1, 1) := by decide +kernel
theorem dX12_lays1_8 : decode cX12_lays1 8 = .ok (.imul, 1) := by decide +kernel
theorem dX12_lays1_9 : decode cX12_lays1 9 = .ok (.iadd, 1) := by decide +kernel
theorem dX12_lays1_10 : decode cX12_lays1 10 = .ok (.iload_n 2, 1) := by decide +kernel
theorem dX12_lays1_11 : decode cX12_lays1 11 = .ok (.iadd, 1) := by decide +kernel
theorem dX12_lays1_12 : decode cX12_lays1 12 = .ok (.iload_n 3, 1) := by decide +kernel
theorem dX12_lays1_13 : decode cX12_lays1 13 = .ok (.iastore, 1) := by decide +kernel
theorem dX12_lays1_14 : decode cX12_lays1 14 = .ok (.return_, 1) := by decide +kernel
theorem dX12_change1_0 : decode cX12_change1 0 = .ok (.aload_n 0, 1) := by decide +kernel
theorem dX12_change1_1 : decode cX12_change1 1 = .ok (.getfield 7, 3) := by decide +kernel
theorem dX12_change1_4 : decode cX12_change1 4 = .ok (.iload_n 1, 1) := by decide +kernel
theorem dX12_change1_5 : decode cX12_change1 5 = .ok (.iaload, 1) := by decide +kernel
theorem dX12_change1_6 : decode cX12_change1 6 = .ok (.istore_n 3, 1) := by decide +kernel
theorem dX12_change1_7 : decode cX12_change1 7 = .ok (.aload_n 0, 1) := by decide +kernel
theorem dX12_change1_8 : decode cX12_change1 8 = .ok (.getfield 7, 3) := by decide +kernel
theorem dX12_change1_11 : decode cX12_change1 11 = .ok (.iload_n 1, 1) := by decide +kernel
theorem dX12_change1_12 : decode cX12_change1 12 = .ok (.iload_n 2, 1) := by decide +kernel
theorem dX12_change1_13 : decode cX12_change1 13 = .ok (.iastore, 1) := by decide +kernel
theorem dX12_change1_14 : decode cX12_change1 14 = .ok (.iload_n 3, 1) := by decide +kernel
theorem dX12_change1_15 : decode cX12_change1 15 = .ok (.ireturn, 1) := by decide +kernel
theorem dX12_stands_0 : decode cX12_stands 0 = .ok (.aload_n 0, 1) := by decide +kernel
theorem dX12_stands_1 : decode cX12_stands 1 = .ok (.iload_n 1, 1) := by decide +kernel
theorem dX12_stands_2 : decode cX12_stands 2 = .ok (.iconst 4, 1) := by decide +kernel
theorem dX12_stands_3 : decode cX12_stands 3 = .ok (.invokevirtual 58, 3) := by decide +kernel
theorem dX12_stands_6 : decode cX12_stands 6 = .ok (.iconst (-1), 1) := by decide +kernel
theorem dX12_stands_7 : decode cX12_stands 7 = .ok (.if_icmp .ne 7, 3) := by decide +kernel
theorem dX12_stands_10 : decode cX12_stands 10 = .ok (.iconst 1, 1) := by decide +kernel
theorem dX12_stands_11 : decode cX12_stands 11 = .ok (.goto 4, 3) := by decide +kernel
theorem dX12_stands_14 : decode cX12_stands 14 = .ok (.iconst 0, 1) := by decide +kernel
theorem dX12_stands_15 : decode cX12_stands 15 = .ok (.ireturn, 1) := by decide +kernel
theorem dX12_howMany_0 : decode cX12_howMany 0 = .ok (.iconst 0, 1) := by decide +kernel
theorem dX12_howMany_1 : decode cX12_howMany 1 = .ok (.istore_n 1, 1) := by decide +kernel
theorem dX12_howMany_2 : decode cX12_howMany 2 = .ok (.iconst 0, 1) := by decide +kernel
theorem dX12_howMany_3 : decode cX12_howMany 3 = .ok (.istore_n 2, 1) := by decide +kernel
theorem dX12_howMany_4 : decode cX12_howMany 4 = .ok (.iload_n 2, 1) := by decide +kernel
theorem dX12_howMany_5 : decode cX12_howMany 5 = .ok (.bipush 9, 2) := by decide +kernel
theorem dX12_howMany_7 : decode cX12_howMany 7 = .ok (.if_icmp .ge 25, 3) := by decide +kernel
theorem dX12_howMany_10 : decode cX12_howMany 10 = .ok (.iload_n 1, 1) := by decide +kernel
theorem dX12_howMany_11 : decode cX12_howMany 11 = .ok (.aload_n 0, 1) := by decide +kernel
theorem dX12_howMany_12 : decode cX12_howMany 12 = .ok (.iload_n 2, 1) := by decide +kernel
theorem dX12_howMany_13 : decode cX12_howMany 13 = .ok (.invokevirtual 62, 3) := by decide +kernel
theorem dX12_howMany_16 : decode cX12_howMany 16 = .ok (.ifCond .eq 7, 3) := by decide +kernel
theorem dX12_howMany_19 : decode cX12_howMany 19 = .ok (.iconst 1, 1) := by decide +kernel
theorem dX12_howMany_20 : decode cX12_howMany 20 = .ok (.goto 4, 3) := by decide +kernel
theorem dX12_howMany_23 : decode cX12_howMany 23 = .ok (.iconst 0, 1) := by decide +kernel
theorem dX12_howMany_24 : decode cX12_howMany 24 = .ok (.iadd, 1) := by decide +kernel
theorem dX12_howMany_25 : decode cX12_howMany 25 = .ok (.istore_n 1, 1) := by decide +kernel
theorem dX12_howMany_26 : decode cX12_howMany 26 = .ok (.iinc 2 1, 3) := by decide +kernel
theorem dX12_howMany_29 : decode cX12_howMany 29 = .ok (.goto (-25), 3) := by decide +kernel
theorem dX12_howMany_32 : decode cX12_howMany 32 = .ok (.iload_n 1, 1) := by decide +kernel
theorem dX12_howMany_33 : decode cX12_howMany 33 = .ok (.ireturn, 1) := by decide +kernel
theorem dX12_standsAt_0 : decode cX12_standsAt 0 = .ok (.iconst 0, 1) := by decide +kernel
theorem dX12_standsAt_1 : decode cX12_standsAt 1 = .ok (.istore_n 2, 1) := by decide +kernel
theorem dX12_standsAt_2 : decode cX12_standsAt 2 = .ok (.aload_n 0, 1) := by decide +kernel
theorem dX12_standsAt_3 : decode cX12_standsAt 3 = .ok (.iload_n 2, 1) := by decide +kernel
theorem dX12_standsAt_4 : decode cX12_standsAt 4 = .ok (.iconst 2, 1) := by decide +kernel
theorem dX12_standsAt_5 : decode cX12_standsAt 5 = .ok (.invokevirtual 58, 3) := by decide +kernel
theorem dX12_standsAt_8 : decode cX12_standsAt 8 = .ok (.iload_n 1, 1) := by decide +kernel
theorem dX12_standsAt_9 : decode cX12_standsAt 9 = .ok (.if_icmp .eq 9, 3) := by decide +kernel
theorem dX12_standsAt_12 : decode cX12_standsAt 12 = .ok (.iinc 2 1, 3) := by decide +kernel
theorem dX12_standsAt_15 : decode cX12_standsAt 15 = .ok (.goto (-13), 3) := by decide +kernel
theorem dX12_standsAt_18 : decode cX12_standsAt 18 = .ok (.iload_n 2, 1) := by decide +kernel
theorem dX12_standsAt_19 : decode cX12_standsAt 19 = .ok (.ireturn, 1) := by decide +kernel
theorem dX12_feed_0 : decode cX12_feed 0 = .ok (.iload_n 3, 1) := by decide +kernel
theorem dX12_feed_1 : decode cX12_feed 1 = .ok (.iconst 1, 1) := by decide +kernel
theorem dX12_feed_2 : decode cX12_feed 2 = .ok (.bipush 8, 2) := by decide +kernel
theorem dX12_feed_4 : decode cX12_feed 4 = .ok (.invokestatic 54, 3) := by decide +kernel
theorem dX12_feed_7 : decode cX12_feed 7 = .ok (.ifCond .ne 9, 3) := by decide +kernel
theorem dX12_feed_10 : decode cX12_feed 10 = .ok (.aload_n 0, 1) := by decide +kernel
theorem dX12_feed_11 : decode cX12_feed 11 = .ok (.iconst 1, 1) := by decide +kernel
theorem dX12_feed_12 : decode cX12_feed 12 = .ok (.invokevirtual 66, 3) := by decide +kernel
theorem dX12_feed_15 : decode cX12_feed 15 = .ok (.ireturn, 1) := by decide +kernel
theorem dX12_feed_16 : decode cX12_feed 16 = .ok (.aload_n 0, 1) := by decide +kernel
theorem dX12_feed_17 : decode cX12_feed 17 = .ok (.getfield 7, 3) := by decide +kernel
theorem dX12_feed_20 : decode cX12_feed 20 = .ok (.iconst 2, 1) := by decide +kernel
theorem dX12_feed_21 : decode cX12_feed 21 = .ok (.iaload, 1) := by decide +kernel
theorem dX12_feed_22 : decode cX12_feed 22 = .ok (.iload_n 3, 1) := by decide +kernel
theorem dX12_feed_23 : decode cX12_feed 23 = .ok (.iadd, 1) := by decide +kernel
theorem dX12_feed_24 : decode cX12_feed 24 = .ok (.bipush 60, 2) := by decide +kernel
theorem dX12_feed_26 : decode cX12_feed 26 = .ok (.if_icmp .le 9, 3) := by decide +kernel
theorem dX12_feed_29 : decode cX12_feed 29 = .ok (.aload_n 0, 1) := by decide +kernel
theorem dX12_feed_30 : decode cX12_feed 30 = .ok (.iconst 4, 1) := by decide +kernel
theorem dX12_feed_31 : decode cX12_feed 31 = .ok (.invokevirtual 66, 3) := by decide +kernel
theorem dX12_feed_34 : decode cX12_feed 34 = .ok (.ireturn, 1) := by decide +kernel
theorem dX12_feed_35 : decode cX12_feed 35 = .ok (.iconst 0, 1) := by decide +kernel
theorem dX12_feed_36 : decode cX12_feed 36 = .ok (.istore 4, 2) := by decide +kernel
theorem dX12_feed_38 : decode cX12_feed 38 = .ok (.iload 4, 2) := by decide +kernel
theorem dX12_feed_40 : decode cX12_feed 40 = .ok (.iload_n 3, 1) := by decide +kernel
theorem dX12_feed_41 : decode cX12_feed 41 = .ok (.if_icmp .ge 46, 3) := by decide +kernel
theorem dX12_feed_44 : decode cX12_feed 44 = .ok (.aload_n 0, 1) := by decide +kernel
theorem dX12_feed_45 : decode cX12_feed 45 = .ok (.getfield 7, 3) := by decide +kernel
theorem dX12_feed_48 : decode cX12_feed 48 = .ok (.sipush 303, 3) := by decide +kernel
theorem dX12_feed_51 : decode cX12_feed 51 = .ok (.aload_n 0, 1) := by decide +kernel
theorem dX12_feed_52 : decode cX12_feed 52 = .ok (.getfield 7, 3) := by decide +kernel
theorem dX12_feed_55 : decode cX12_feed 55 = .ok (.iconst 2, 1) := by decide +kernel
theorem dX12_feed_56 : decode cX12_feed 56 = .ok (.iaload, 1) := by decide +kernel
theorem dX12_feed_57 : decode cX12_feed 57 = .ok (.iadd, 1) := by decide +kernel
theorem dX12_feed_58 : decode cX12_feed 58 = .ok (.lload_n 1, 1) := by decide +kernel
theorem dX12_feed_59 : decode cX12_feed 59 = .ok (.bipush 8, 2) := by decide +kernel
theorem dX12_feed_61 : decode cX12_feed 61 = .ok (.iload 4, 2) := by decide +kernel
theorem dX12_feed_63 : decode cX12_feed 63 = .ok (.imul, 1) := by decide +kernel
theorem dX12_feed_64 : decode cX12_feed 64 = .ok (.lshr, 1) := by decide +kernel
theorem dX12_feed_65 : decode cX12_feed 65 = .ok (.ldc2_w 70, 3) := by decide +kernel
theorem dX12_feed_68 : decode cX12_feed 68 = .ok (.land, 1) := by decide +kernel
theorem dX12_feed_69 : decode cX12_feed 69 = .ok (.l2i, 1) := by decide +kernel
theorem dX12_feed_70 : decode cX12_feed 70 = .ok (.iastore, 1) := by decide +kernel
theorem dX12_feed_71 : decode cX12_feed 71 = .ok (.aload_n 0, 1) := by decide +kernel
theorem dX12_feed_72 : decode cX12_feed 72 = .ok (.getfield 7, 3) := by decide +kernel
theorem dX12_feed_75 : decode cX12_feed 75 = .ok (.iconst 2, 1) := by decide +kernel
theorem dX12_feed_76 : decode cX12_feed 76 = .ok (.dup2, 1) := by decide +kernel
theorem dX12_feed_77 : decode cX12_feed 77 = .ok (.iaload, 1) := by decide +kernel
theorem dX12_feed_78 : decode cX12_feed 78 = .ok (.iconst 1, 1) := by decide +kernel
theorem dX12_feed_79 : decode cX12_feed 79 = .ok (.iadd, 1) := by decide +kernel
theorem dX12_feed_80 : decode cX12_feed 80 = .ok (.iastore, 1) := by decide +kernel
theorem dX12_feed_81 : decode cX12_feed 81 = .ok (.iinc 4 1, 3) := by decide +kernel
theorem dX12_feed_84 : decode cX12_feed 84 = .ok (.goto (-46), 3) := by decide +kernel
theorem dX12_feed_87 : decode cX12_feed 87 = .ok (.aload_n 0, 1) := by decide +kernel
theorem dX12_feed_88 : decode cX12_feed 88 = .ok (.getfield 7, 3) := by decide +kernel
theorem dX12_feed_91 : decode cX12_feed 91 = .ok (.iconst 2, 1) := by decide +kernel
theorem dX12_feed_92 : decode cX12_feed 92 = .ok (.iaload, 1) := by decide +kernel
theorem dX12_feed_93 : decode cX12_feed 93 = .ok (.ireturn, 1) := by decide +kernel
theorem dX12_look_0 : decode cX12_look 0 = .ok (.aload_n 0, 1) := by decide +kernel
theorem dX12_look_1 : decode cX12_look 1 = .ok (.getfield 72, 3) := by decide +kernel
theorem dX12_look_4 : decode cX12_look 4 = .ok (.aload_n 0, 1) := by decide +kernel
theorem dX12_look_5 : decode cX12_look 5 = .ok (.getfield 7, 3) := by decide +kernel
theorem dX12_look_8 : decode cX12_look 8 = .ok (.iconst 2, 1) := by decide +kernel
theorem dX12_look_9 : decode cX12_look 9 = .ok (.iaload, 1) := by decide +kernel
theorem dX12_look_10 : decode cX12_look 10 = .ok (.if_icmp .ge 19, 3) := by decide +kernel
theorem dX12_look_13 : decode cX12_look 13 = .ok (.aload_n 0, 1) := by decide +kernel
theorem dX12_look_14 : decode cX12_look 14 = .ok (.getfield 7, 3) := by decide +kernel
theorem dX12_look_17 : decode cX12_look 17 = .ok (.sipush 303, 3) := by decide +kernel
theorem dX12_look_20 : decode cX12_look 20 = .ok (.aload_n 0, 1) := by decide +kernel
theorem dX12_look_21 : decode cX12_look 21 = .ok (.getfield 72, 3) := by decide +kernel
theorem dX12_look_24 : decode cX12_look 24 = .ok (.iadd, 1) := by decide +kernel
theorem dX12_look_25 : decode cX12_look 25 = .ok (.iaload, 1) := by decide +kernel
theorem dX12_look_26 : decode cX12_look 26 = .ok (.goto 4, 3) := by decide +kernel
theorem dX12_look_29 : decode cX12_look 29 = .ok (.iconst (-1), 1) := by decide +kernel
theorem dX12_look_30 : decode cX12_look 30 = .ok (.ireturn, 1) := by decide +kernel
theorem dX12_isName_0 : decode cX12_isName 0 = .ok (.iload_n 1, 1) := by decide +kernel
theorem dX12_isName_1 : decode cX12_isName 1 = .ok (.bipush 109, 2) := by decide +kernel
theorem dX12_isName_3 : decode cX12_isName 3 = .ok (.if_icmp .eq 9, 3) := by decide +kernel
theorem dX12_isName_6 : decode cX12_isName 6 = .ok (.iload_n 1, 1) := by decide +kernel
theorem dX12_isName_7 : decode cX12_isName 7 = .ok (.bipush 112, 2) := by decide +kernel
theorem dX12_isName_9 : decode cX12_isName 9 = .ok (.if_icmp .ne 5, 3) := by decide +kernel
theorem dX12_isName_12 : decode cX12_isName 12 = .ok (.iconst 1, 1) := by decide +kernel
theorem dX12_isName_13 : decode cX12_isName 13 = .ok (.ireturn, 1) := by decide +kernel
theorem dX12_isName_14 : decode cX12_isName 14 = .ok (.aload_n 0, 1) := by decide +kernel
theorem dX12_isName_15 : decode cX12_isName 15 = .ok (.getfield 76, 3) := by decide +kernel
theorem dX12_isName_18 : decode cX12_isName 18 = .ok (.ifCond .ne 17, 3) := by decide +kernel
theorem dX12_isName_21 : decode cX12_isName 21 = .ok (.iload_n 1, 1) := by decide +kernel
theorem dX12_isName_22 : decode cX12_isName 22 = .ok (.bipush 115, 2) := by decide +kernel
theorem dX12_isName_24 : decode cX12_isName 24 = .ok (.if_icmp .ne 7, 3) := by decide +kernel
theorem dX12_isName_27 : decode cX12_isName 27 = .ok (.iconst 1, 1) := by decide +kernel
theorem dX12_isName_28 : decode cX12_isName 28 = .ok (.goto 18, 3) := by decide +kernel
theorem dX12_isName_31 : decode cX12_isName 31 = .ok (.iconst 0, 1) := by decide +kernel
theorem dX12_isName_32 : decode cX12_isName 32 = .ok (.goto 14, 3) := by decide +kernel
theorem dX12_isName_35 : decode cX12_isName 35 = .ok (.iload_n 1, 1) := by decide +kernel
theorem dX12_isName_36 : decode cX12_isName 36 = .ok (.bipush 100, 2) := by decide +kernel
theorem dX12_isName_38 : decode cX12_isName 38 = .ok (.if_icmp .ne 7, 3) := by decide +kernel
theorem dX12_isName_41 : decode cX12_isName 41 = .ok (.iconst 1, 1) := by decide +kernel
theorem dX12_isName_42 : decode cX12_isName 42 = .ok (.goto 4, 3) := by decide +kernel
theorem dX12_isName_45 : decode cX12_isName 45 = .ok (.iconst 0, 1) := by decide +kernel
theorem dX12_isName_46 : decode cX12_isName 46 = .ok (.ireturn, 1) := by decide +kernel
theorem dX12_step1_0 : decode cX12_step1 0 = .ok (.aload_n 0, 1) := by decide +kernel
theorem dX12_step1_1 : decode cX12_step1 1 = .ok (.getfield 22, 3) := by decide +kernel
theorem dX12_step1_4 : decode cX12_step1 4 = .ok (.iconst 2, 1) := by decide +kernel
theorem dX12_step1_5 : decode cX12_step1 5 = .ok (.aload_n 0, 1) := by decide +kernel
theorem dX12_step1_6 : decode cX12_step1 6 = .ok (.getfield 79, 3) := by decide +kernel
theorem dX12_step1_9 : decode cX12_step1 9 = .ok (.imul, 1) := by decide +kernel
theorem dX12_step1_10 : decode cX12_step1 10 = .ok (.iload_n 1, 1) := by decide +kernel
theorem dX12_step1_11 : decode cX12_step1 11 = .ok (.iastore, 1) := by decide +kernel
theorem dX12_step1_12 : decode cX12_step1 12 = .ok (.aload_n 0, 1) := by decide +kernel
theorem dX12_step1_13 : decode cX12_step1 13 = .ok (.getfield 22, 3) := by decide +kernel
theorem dX12_step1_16 : decode cX12_step1 16 = .ok (.iconst 2, 1) := by decide +kernel
theorem dX12_step1_17 : decode cX12_step1 17 = .ok (.aload_n 0, 1) := by decide +kernel
theorem dX12_step1_18 : decode cX12_step1 18 = .ok (.getfield 79, 3) := by decide +kernel
theorem dX12_step1_21 : decode cX12_step1 21 = .ok (.imul, 1) := by decide +kernel
theorem dX12_step1_22 : decode cX12_step1 22 = .ok (.iconst 1, 1) := by decide +kernel
theorem dX12_step1_23 : decode cX12_step1 23 = .ok (.iadd, 1) := by decide +kernel
theorem dX12_step1_24 : decode cX12_step1 24 = .ok (.iload_n 2, 1) := by decide +kernel
theorem dX12_step1_25 : decode cX12_step1 25 = .ok (.iastore, 1) := by decide +kernel
theorem dX12_step1_26 : decode cX12_step1 26 = .ok (.aload_n 0, 1) := by decide +kernel
theorem dX12_step1_27 : decode cX12_step1 27 = .ok (.dup, 1) := by decide +kernel
theorem dX12_step1_28 : decode cX12_step1 28 = .ok (.getfield 79, 3) := by decide +kernel
theorem dX12_step1_31 : decode cX12_step1 31 = .ok (.iconst 1, 1) := by decide +kernel
theorem dX12_step1_32 : decode cX12_step1 32 = .ok (.iadd, 1) := by decide +kernel
theorem dX12_step1_33 : decode cX12_step1 33 = .ok (.putfield 79, 3) := by decide +kernel
theorem dX12_step1_36 : decode cX12_step1 36 = .ok (.return_, 1) := by decide +kernel
theorem dX12_whole_0 : decode cX12_whole 0 = .ok (.aload_n 0, 1) := by decide +kernel
theorem dX12_whole_1 : decode cX12_whole 1 = .ok (.invokevirtual 82, 3) := by decide +kernel
theorem dX12_whole_4 : decode cX12_whole 4 = .ok (.ifCond .ne 5, 3) := by decide +kernel
theorem dX12_whole_7 : decode cX12_whole 7 = .ok (.iconst 0, 1) := by decide +kernel
theorem dX12_whole_8 : decode cX12_whole 8 = .ok (.ireturn, 1) := by decide +kernel
theorem dX12_whole_9 : decode cX12_whole 9 = .ok (.aload_n 0, 1) := by decide +kernel
theorem dX12_whole_10 : decode cX12_whole 10 = .ok (.invokevirtual 86, 3) := by decide +kernel
theorem dX12_whole_13 : decode cX12_whole 13 = .ok (.bipush 124, 2) := by decide +kernel
theorem dX12_whole_15 : decode cX12_whole 15 = .ok (.if_icmp .ne 32, 3) := by decide +kernel
theorem dX12_whole_18 : decode cX12_whole 18 = .ok (.aload_n 0, 1) := by decide +kernel
theorem dX12_whole_19 : decode cX12_whole 19 = .ok (.dup, 1) := by decide +kernel
theorem dX12_whole_20 : decode cX12_whole 20 = .ok (.getfield 72, 3) := by decide +kernel
theorem dX12_whole_23 : decode cX12_whole 23 = .ok (.iconst 1, 1) := by decide +kernel
theorem dX12_whole_24 : decode cX12_whole 24 = .ok (.iadd, 1) := by decide +kernel
theorem dX12_whole_25 : decode cX12_whole 25 = .ok (.putfield 72, 3) := by decide +kernel
theorem dX12_whole_28 : decode cX12_whole 28 = .ok (.aload_n 0, 1) := by decide +kernel
theorem dX12_whole_29 : decode cX12_whole 29 = .ok (.invokevirtual 82, 3) := by decide +kernel
theorem dX12_whole_32 : decode cX12_whole 32 = .ok (.ifCond .ne 5, 3) := by decide +kernel
theorem dX12_whole_35 : decode cX12_whole 35 = .ok (.iconst 0, 1) := by decide +kernel
theorem dX12_whole_36 : decode cX12_whole 36 = .ok (.ireturn, 1) := by decide +kernel
theorem dX12_whole_37 : decode cX12_whole 37 = .ok (.aload_n 0, 1) := by decide +kernel
theorem dX12_whole_38 : decode cX12_whole 38 = .ok (.iconst 3, 1) := by decide +kernel
theorem dX12_whole_39 : decode cX12_whole 39 = .ok (.bipush 124, 2) := by decide +kernel
theorem dX12_whole_41 : decode cX12_whole 41 = .ok (.invokevirtual 90, 3) := by decide +kernel
theorem dX12_whole_44 : decode cX12_whole 44 = .ok (.goto (-35), 3) := by decide +kernel
theorem dX12_whole_47 : decode cX12_whole 47 = .ok (.iconst 1, 1) := by decide +kernel
theorem dX12_whole_48 : decode cX12_whole 48 = .ok (.ireturn, 1) := by decide +kernel
theorem dX12_both_0 : decode cX12_both 0 = .ok (.aload_n 0, 1) := by decide +kernel
theorem dX12_both_1 : decode cX12_both 1 = .ok (.invokevirtual 94, 3) := by decide +kernel
theorem dX12_both_4 : decode cX12_both 4 = .ok (.ifCond .ne 5, 3) := by decide +kernel
theorem dX12_both_7 : decode cX12_both 7 = .ok (.iconst 0, 1) := by decide +kernel
theorem dX12_both_8 : decode cX12_both 8 = .ok (.ireturn, 1) := by decide +kernel
theorem dX12_both_9 : decode cX12_both 9 = .ok (.aload_n 0, 1) := by decide +kernel
theorem dX12_both_10 : decode cX12_both 10 = .ok (.invokevirtual 86, 3) := by decide +kernel
theorem dX12_both_13 : decode cX12_both 13 = .ok (.bipush 38, 2) := by decide +kernel
theorem dX12_both_15 : decode cX12_both 15 = .ok (.if_icmp .ne 32, 3) := by decide +kernel
theorem dX12_both_18 : decode cX12_both 18 = .ok (.aload_n 0, 1) := by decide +kernel
theorem dX12_both_19 : decode cX12_both 19 = .ok (.dup, 1) := by decide +kernel
theorem dX12_both_20 : decode cX12_both 20 = .ok (.getfield 72, 3) := by decide +kernel
theorem dX12_both_23 : decode cX12_both 23 = .ok (.iconst 1, 1) := by decide +kernel
theorem dX12_both_24 : decode cX12_both 24 = .ok (.iadd, 1) := by decide +kernel
theorem dX12_both_25 : decode cX12_both 25 = .ok (.putfield 72, 3) := by decide +kernel
theorem dX12_both_28 : decode cX12_both 28 = .ok (.aload_n 0, 1) := by decide +kernel
theorem dX12_both_29 : decode cX12_both 29 = .ok (.invokevirtual 94, 3) := by decide +kernel
theorem dX12_both_32 : decode cX12_both 32 = .ok (.ifCond .ne 5, 3) := by decide +kernel
theorem dX12_both_35 : decode cX12_both 35 = .ok (.iconst 0, 1) := by decide +kernel
theorem dX12_both_36 : decode cX12_both 36 = .ok (.ireturn, 1) := by decide +kernel
theorem dX12_both_37 : decode cX12_both 37 = .ok (.aload_n 0, 1) := by decide +kernel
theorem dX12_both_38 : decode cX12_both 38 = .ok (.iconst 3, 1) := by decide +kernel
theorem dX12_both_39 : decode cX12_both 39 = .ok (.bipush 38, 2) := by decide +kernel
theorem dX12_both_41 : decode cX12_both 41 = .ok (.invokevirtual 90, 3) := by decide +kernel
theorem dX12_both_44 : decode cX12_both 44 = .ok (.goto (-35), 3) := by decide +kernel
theorem dX12_both_47 : decode cX12_both 47 = .ok (.iconst 1, 1) := by decide +kernel
theorem dX12_both_48 : decode cX12_both 48 = .ok (.ireturn, 1) := by decide +kernel
theorem dX12_compared_0 : decode cX12_compared 0 = .ok (.aload_n 0, 1) := by decide +kernel
theorem dX12_compared_1 : decode cX12_compared 1 = .ok (.invokevirtual 97, 3) := by decide +kernel
theorem dX12_compared_4 : decode cX12_compared 4 = .ok (.ifCond .ne 5, 3) := by decide +kernel
theorem dX12_compared_7 : decode cX12_compared 7 = .ok (.iconst 0, 1) := by decide +kernel
theorem dX12_compared_8 : decode cX12_compared 8 = .ok (.ireturn, 1) := by decide +kernel
theorem dX12_compared_9 : decode cX12_compared 9 = .ok (.aload_n 0, 1) := by decide +kernel
theorem dX12_compared_10 : decode cX12_compared 10 = .ok (.invokevirtual 86, 3) := by decide +kernel
theorem dX12_compared_13 : decode cX12_compared 13 = .ok (.istore_n 1, 1) := by decide +kernel
theorem dX12_compared_14 : decode cX12_compared 14 = .ok (.iload_n 1, 1) := by decide +kernel
theorem dX12_compared_15 : decode cX12_compared 15 = .ok (.bipush 60, 2) := by decide +kernel
theorem dX12_compared_17 : decode cX12_compared 17 = .ok (.if_icmp .eq 17, 3) := by decide +kernel
theorem dX12_compared_20 : decode cX12_compared 20 = .ok (.iload_n 1, 1) := by decide +kernel
theorem dX12_compared_21 : decode cX12_compared 21 = .ok (.bipush 61, 2) := by decide +kernel
theorem dX12_compared_23 : decode cX12_compared 23 = .ok (.if_icmp .eq 11, 3) := by decide +kernel
theorem dX12_compared_26 : decode cX12_compared 26 = .ok (.iload_n 1, 1) := by decide +kernel
theorem dX12_compared_27 : decode cX12_compared 27 = .ok (.bipush 62, 2) := by decide +kernel
theorem dX12_compared_29 : decode cX12_compared 29 = .ok (.if_icmp .eq 5, 3) := by decide +kernel
theorem dX12_compared_32 : decode cX12_compared 32 = .ok (.iconst 1, 1) := by decide +kernel
theorem dX12_compared_33 : decode cX12_compared 33 = .ok (.ireturn, 1) := by decide +kernel
theorem dX12_compared_34 : decode cX12_compared 34 = .ok (.aload_n 0, 1) := by decide +kernel
theorem dX12_compared_35 : decode cX12_compared 35 = .ok (.dup, 1) := by decide +kernel
theorem dX12_compared_36 : decode cX12_compared 36 = .ok (.getfield 72, 3) := by decide +kernel
theorem dX12_compared_39 : decode cX12_compared 39 = .ok (.iconst 1, 1) := by decide +kernel
theorem dX12_compared_40 : decode cX12_compared 40 = .ok (.iadd, 1) := by decide +kernel
theorem dX12_compared_41 : decode cX12_compared 41 = .ok (.putfield 72, 3) := by decide +kernel
theorem dX12_compared_44 : decode cX12_compared 44 = .ok (.aload_n 0, 1) := by decide +kernel
theorem dX12_compared_45 : decode cX12_compared 45 = .ok (.invokevirtual 97, 3) := by decide +kernel
theorem dX12_compared_48 : decode cX12_compared 48 = .ok (.ifCond .ne 5, 3) := by decide +kernel
theorem dX12_compared_51 : decode cX12_compared 51 = .ok (.iconst 0, 1) := by decide +kernel
theorem dX12_compared_52 : decode cX12_compared 52 = .ok (.ireturn, 1) := by decide +kernel
theorem dX12_compared_53 : decode cX12_compared 53 = .ok (.aload_n 0, 1) := by decide +kernel
theorem dX12_compared_54 : decode cX12_compared 54 = .ok (.iconst 3, 1) := by decide +kernel
theorem dX12_compared_55 : decode cX12_compared 55 = .ok (.iload_n 1, 1) := by decide +kernel
theorem dX12_compared_56 : decode cX12_compared 56 = .ok (.invokevirtual 90, 3) := by decide +kernel
theorem dX12_compared_59 : decode cX12_compared 59 = .ok (.iconst 1, 1) := by decide +kernel
theorem dX12_compared_60 : decode cX12_compared 60 = .ok (.ireturn, 1) := by decide +kernel
theorem dX12_sum_0 : decode cX12_sum 0 = .ok (.aload_n 0, 1) := by decide +kernel
theorem dX12_sum_1 : decode cX12_sum 1 = .ok (.invokevirtual 100, 3) := by decide +kernel
theorem dX12_sum_4 : decode cX12_sum 4 = .ok (.ifCond .ne 5, 3) := by decide +kernel
theorem dX12_sum_7 : decode cX12_sum 7 = .ok (.iconst 0, 1) := by decide +kernel
theorem dX12_sum_8 : decode cX12_sum 8 = .ok (.ireturn, 1) := by decide +kernel
theorem dX12_sum_9 : decode cX12_sum 9 = .ok (.aload_n 0, 1) := by decide +kernel
theorem dX12_sum_10 : decode cX12_sum 10 = .ok (.invokevirtual 86, 3) := by decide +kernel
theorem dX12_sum_13 : decode cX12_sum 13 = .ok (.bipush 43, 2) := by decide +kernel
theorem dX12_sum_15 : decode cX12_sum 15 = .ok (.if_icmp .eq 12, 3) := by decide +kernel
theorem dX12_sum_18 : decode cX12_sum 18 = .ok (.aload_n 0, 1) := by decide +kernel
theorem dX12_sum_19 : decode cX12_sum 19 = .ok (.invokevirtual 86, 3) := by decide +kernel
theorem dX12_sum_22 : decode cX12_sum 22 = .ok (.bipush 45, 2) := by decide +kernel
theorem dX12_sum_24 : decode cX12_sum 24 = .ok (.if_icmp .ne 36, 3) := by decide +kernel
theorem dX12_sum_27 : decode cX12_sum 27 = .ok (.aload_n 0, 1) := by decide +kernel
theorem dX12_sum_28 : decode cX12_sum 28 = .ok (.invokevirtual 86, 3) := by decide +kernel
theorem dX12_sum_31 : decode cX12_sum 31 = .ok (.istore_n 1, 1) := by decide +kernel
theorem dX12_sum_32 : decode cX12_sum 32 = .ok (.aload_n 0, 1) := by decide +kernel
theorem dX12_sum_33 : decode cX12_sum 33 = .ok (.dup, 1) := by decide +kernel
theorem dX12_sum_34 : decode cX12_sum 34 = .ok (.getfield 72, 3) := by decide +kernel
theorem dX12_sum_37 : decode cX12_sum 37 = .ok (.iconst 1, 1) := by decide +kernel
theorem dX12_sum_38 : decode cX12_sum 38 = .ok (.iadd, 1) := by decide +kernel
theorem dX12_sum_39 : decode cX12_sum 39 = .ok (.putfield 72, 3) := by decide +kernel
theorem dX12_sum_42 : decode cX12_sum 42 = .ok (.aload_n 0, 1) := by decide +kernel
theorem dX12_sum_43 : decode cX12_sum 43 = .ok (.invokevirtual 100, 3) := by decide +kernel
theorem dX12_sum_46 : decode cX12_sum 46 = .ok (.ifCond .ne 5, 3) := by decide +kernel
theorem dX12_sum_49 : decode cX12_sum 49 = .ok (.iconst 0, 1) := by decide +kernel
theorem dX12_sum_50 : decode cX12_sum 50 = .ok (.ireturn, 1) := by decide +kernel
theorem dX12_sum_51 : decode cX12_sum 51 = .ok (.aload_n 0, 1) := by decide +kernel
theorem dX12_sum_52 : decode cX12_sum 52 = .ok (.iconst 3, 1) := by decide +kernel
theorem dX12_sum_53 : decode cX12_sum 53 = .ok (.iload_n 1, 1) := by decide +kernel
theorem dX12_sum_54 : decode cX12_sum 54 = .ok (.invokevirtual 90, 3) := by decide +kernel
theorem dX12_sum_57 : decode cX12_sum 57 = .ok (.goto (-48), 3) := by decide +kernel
theorem dX12_sum_60 : decode cX12_sum 60 = .ok (.iconst 1, 1) := by decide +kernel
theorem dX12_sum_61 : decode cX12_sum 61 = .ok (.ireturn, 1) := by decide +kernel
theorem dX12_product_0 : decode cX12_product 0 = .ok (.aload_n 0, 1) := by decide +kernel
theorem dX12_product_1 : decode cX12_product 1 = .ok (.invokevirtual 103, 3) := by decide +kernel
theorem dX12_product_4 : decode cX12_product 4 = .ok (.ifCond .ne 5, 3) := by decide +kernel
theorem dX12_product_7 : decode cX12_product 7 = .ok (.iconst 0, 1) := by decide +kernel
theorem dX12_product_8 : decode cX12_product 8 = .ok (.ireturn, 1) := by decide +kernel
theorem dX12_product_9 : decode cX12_product 9 = .ok (.aload_n 0, 1) := by decide +kernel
theorem dX12_product_10 : decode cX12_product 10 = .ok (.invokevirtual 86, 3) := by decide +kernel
theorem dX12_product_13 : decode cX12_product 13 = .ok (.bipush 42, 2) := by decide +kernel
theorem dX12_product_15 : decode cX12_product 15 = .ok (.if_icmp .eq 21, 3) := by decide +kernel
theorem dX12_product_18 : decode cX12_product 18 = .ok (.aload_n 0, 1) := by decide +kernel
theorem dX12_product_19 : decode cX12_product 19 = .ok (.invokevirtual 86, 3) := by decide +kernel
theorem dX12_product_22 : decode cX12_product 22 = .ok (.bipush 47, 2) := by decide +kernel
theorem dX12_product_24 : decode cX12_product 24 = .ok (.if_icmp .eq 12, 3) := by decide +kernel
theorem dX12_product_27 : decode cX12_product 27 = .ok (.aload_n 0, 1) := by decide +kernel
theorem dX12_product_28 : decode cX12_product 28 = .ok (.invokevirtual 86, 3) := by decide +kernel
theorem dX12_product_31 : decode cX12_product 31 = .ok (.bipush 37, 2) := by decide +kernel
theorem dX12_product_33 : decode cX12_product 33 = .ok (.if_icmp .ne 36, 3) := by decide +kernel
theorem dX12_product_36 : decode cX12_product 36 = .ok (.aload_n 0, 1) := by decide +kernel
theorem dX12_product_37 : decode cX12_product 37 = .ok (.invokevirtual 86, 3) := by decide +kernel
theorem dX12_product_40 : decode cX12_product 40 = .ok (.istore_n 1, 1) := by decide +kernel
theorem dX12_product_41 : decode cX12_product 41 = .ok (.aload_n 0, 1) := by decide +kernel
theorem dX12_product_42 : decode cX12_product 42 = .ok (.dup, 1) := by decide +kernel
theorem dX12_product_43 : decode cX12_product 43 = .ok (.getfield 72, 3) := by decide +kernel
theorem dX12_product_46 : decode cX12_product 46 = .ok (.iconst 1, 1) := by decide +kernel
theorem dX12_product_47 : decode cX12_product 47 = .ok (.iadd, 1) := by decide +kernel
theorem dX12_product_48 : decode cX12_product 48 = .ok (.putfield 72, 3) := by decide +kernel
theorem dX12_product_51 : decode cX12_product 51 = .ok (.aload_n 0, 1) := by decide +kernel
theorem dX12_product_52 : decode cX12_product 52 = .ok (.invokevirtual 103, 3) := by decide +kernel
theorem dX12_product_55 : decode cX12_product 55 = .ok (.ifCond .ne 5, 3) := by decide +kernel
theorem dX12_product_58 : decode cX12_product 58 = .ok (.iconst 0, 1) := by decide +kernel
theorem dX12_product_59 : decode cX12_product 59 = .ok (.ireturn, 1) := by decide +kernel
theorem dX12_product_60 : decode cX12_product 60 = .ok (.aload_n 0, 1) := by decide +kernel
theorem dX12_product_61 : decode cX12_product 61 = .ok (.iconst 3, 1) := by decide +kernel
theorem dX12_product_62 : decode cX12_product 62 = .ok (.iload_n 1, 1) := by decide +kernel
theorem dX12_product_63 : decode cX12_product 63 = .ok (.invokevirtual 90, 3) := by decide +kernel
theorem dX12_product_66 : decode cX12_product 66 = .ok (.goto (-57), 3) := by decide +kernel
theorem dX12_product_69 : decode cX12_product 69 = .ok (.iconst 1, 1) := by decide +kernel
theorem dX12_product_70 : decode cX12_product 70 = .ok (.ireturn, 1) := by decide +kernel
theorem dX12_opens_0 : decode cX12_opens 0 = .ok (.aload_n 0, 1) := by decide +kernel
theorem dX12_opens_1 : decode cX12_opens 1 = .ok (.getfield 106, 3) := by decide +kernel
theorem dX12_opens_4 : decode cX12_opens 4 = .ok (.iconst 5, 1) := by decide +kernel
theorem dX12_opens_5 : decode cX12_opens 5 = .ok (.if_icmp .ne 5, 3) := by decide +kernel
theorem dX12_opens_8 : decode cX12_opens 8 = .ok (.iconst 0, 1) := by decide +kernel
theorem dX12_opens_9 : decode cX12_opens 9 = .ok (.ireturn, 1) := by decide +kernel
theorem dX12_opens_10 : decode cX12_opens 10 = .ok (.aload_n 0, 1) := by decide +kernel
theorem dX12_opens_11 : decode cX12_opens 11 = .ok (.dup, 1) := by decide +kernel
theorem dX12_opens_12 : decode cX12_opens 12 = .ok (.getfield 106, 3) := by decide +kernel
theorem dX12_opens_15 : decode cX12_opens 15 = .ok (.iconst 1, 1) := by decide +kernel
theorem dX12_opens_16 : decode cX12_opens 16 = .ok (.iadd, 1) := by decide +kernel
theorem dX12_opens_17 : decode cX12_opens 17 = .ok (.putfield 106, 3) := by decide +kernel
theorem dX12_opens_20 : decode cX12_opens 20 = .ok (.aload_n 0, 1) := by decide +kernel
theorem dX12_opens_21 : decode cX12_opens 21 = .ok (.dup, 1) := by decide +kernel
theorem dX12_opens_22 : decode cX12_opens 22 = .ok (.getfield 72, 3) := by decide +kernel
theorem dX12_opens_25 : decode cX12_opens 25 = .ok (.iconst 1, 1) := by decide +kernel
theorem dX12_opens_26 : decode cX12_opens 26 = .ok (.iadd, 1) := by decide +kernel
theorem dX12_opens_27 : decode cX12_opens 27 = .ok (.putfield 72, 3) := by decide +kernel
theorem dX12_opens_30 : decode cX12_opens 30 = .ok (.iconst 1, 1) := by decide +kernel
theorem dX12_opens_31 : decode cX12_opens 31 = .ok (.ireturn, 1) := by decide +kernel
theorem dX12_one_0 : decode cX12_one 0 = .ok (.aload_n 0, 1) := by decide +kernel
theorem dX12_one_1 : decode cX12_one 1 = .ok (.invokevirtual 86, 3) := by decide +kernel
theorem dX12_one_4 : decode cX12_one 4 = .ok (.istore_n 1, 1) := by decide +kernel
theorem dX12_one_5 : decode cX12_one 5 = .ok (.aload_n 0, 1) := by decide +kernel
theorem dX12_one_6 : decode cX12_one 6 = .ok (.iload_n 1, 1) := by decide +kernel
theorem dX12_one_7 : decode cX12_one 7 = .ok (.invokevirtual 109, 3) := by decide +kernel
theorem dX12_one_10 : decode cX12_one 10 = .ok (.ifCond .eq 21, 3) := by decide +kernel
theorem dX12_one_13 : decode cX12_one 13 = .ok (.aload_n 0, 1) := by decide +kernel
theorem dX12_one_14 : decode cX12_one 14 = .ok (.dup, 1) := by decide +kernel
theorem dX12_one_15 : decode cX12_one 15 = .ok (.getfield 72, 3) := by decide +kernel
theorem dX12_one_18 : decode cX12_one 18 = .ok (.iconst 1, 1) := by decide +kernel
theorem dX12_one_19 : decode cX12_one 19 = .ok (.iadd, 1) := by decide +kernel
theorem dX12_one_20 : decode cX12_one 20 = .ok (.putfield 72, 3) := by decide +kernel
theorem dX12_one_23 : decode cX12_one 23 = .ok (.aload_n 0, 1) := by decide +kernel
theorem dX12_one_24 : decode cX12_one 24 = .ok (.iconst 1, 1) := by decide +kernel
theorem dX12_one_25 : decode cX12_one 25 = .ok (.iload_n 1, 1) := by decide +kernel
theorem dX12_one_26 : decode cX12_one 26 = .ok (.invokevirtual 90, 3) := by decide +kernel
theorem dX12_one_29 : decode cX12_one 29 = .ok (.iconst 1, 1) := by decide +kernel
theorem dX12_one_30 : decode cX12_one 30 = .ok (.ireturn, 1) := by decide +kernel
theorem dX12_one_31 : decode cX12_one 31 = .ok (.iload_n 1, 1) := by decide +kernel
theorem dX12_one_32 : decode cX12_one 32 = .ok (.bipush 48, 2) := by decide +kernel
theorem dX12_one_34 : decode cX12_one 34 = .ok (.bipush 57, 2) := by decide +kernel
theorem dX12_one_36 : decode cX12_one 36 = .ok (.invokestatic 54, 3) := by decide +kernel
theorem dX12_one_39 : decode cX12_one 39 = .ok (.ifCond .eq 63, 3) := by decide +kernel
theorem dX12_one_42 : decode cX12_one 42 = .ok (.iconst 0, 1) := by decide +kernel
theorem dX12_one_43 : decode cX12_one 43 = .ok (.istore_n 2, 1) := by decide +kernel
theorem dX12_one_44 : decode cX12_one 44 = .ok (.iconst 0, 1) := by decide +kernel
theorem dX12_one_45 : decode cX12_one 45 = .ok (.istore_n 3, 1) := by decide +kernel
theorem dX12_one_46 : decode cX12_one 46 = .ok (.iload_n 3, 1) := by decide +kernel
theorem dX12_one_47 : decode cX12_one 47 = .ok (.iconst 4, 1) := by decide +kernel
theorem dX12_one_48 : decode cX12_one 48 = .ok (.if_icmp .ge 46, 3) := by decide +kernel
theorem dX12_one_51 : decode cX12_one 51 = .ok (.aload_n 0, 1) := by decide +kernel
theorem dX12_one_52 : decode cX12_one 52 = .ok (.invokevirtual 86, 3) := by decide +kernel
theorem dX12_one_55 : decode cX12_one 55 = .ok (.bipush 48, 2) := by decide +kernel
theorem dX12_one_57 : decode cX12_one 57 = .ok (.bipush 57, 2) := by decide +kernel
theorem dX12_one_59 : decode cX12_one 59 = .ok (.invokestatic 54, 3) := by decide +kernel
theorem dX12_one_62 : decode cX12_one 62 = .ok (.ifCond .eq 32, 3) := by decide +kernel
theorem dX12_one_65 : decode cX12_one 65 = .ok (.bipush 10, 2) := by decide +kernel
theorem dX12_one_67 : decode cX12_one 67 = .ok (.iload_n 2, 1) := by decide +kernel
theorem dX12_one_68 : decode cX12_one 68 = .ok (.imul, 1) := by decide +kernel
theorem dX12_one_69 : decode cX12_one 69 = .ok (.aload_n 0, 1) := by decide +kernel
theorem dX12_one_70 : decode cX12_one 70 = .ok (.invokevirtual 86, 3) := by decide +kernel
theorem dX12_one_73 : decode cX12_one 73 = .ok (.iadd, 1) := by decide +kernel
theorem dX12_one_74 : decode cX12_one 74 = .ok (.bipush 48, 2) := by decide +kernel
theorem dX12_one_76 : decode cX12_one 76 = .ok (.isub, 1) := by decide +kernel
theorem dX12_one_77 : decode cX12_one 77 = .ok (.istore_n 2, 1) := by decide +kernel
theorem dX12_one_78 : decode cX12_one 78 = .ok (.aload_n 0, 1) := by decide +kernel
theorem dX12_one_79 : decode cX12_one 79 = .ok (.dup, 1) := by decide +kernel
theorem dX12_one_80 : decode cX12_one 80 = .ok (.getfield 72, 3) := by decide +kernel
theorem dX12_one_83 : decode cX12_one 83 = .ok (.iconst 1, 1) := by decide +kernel
theorem dX12_one_84 : decode cX12_one 84 = .ok (.iadd, 1) := by decide +kernel
theorem dX12_one_85 : decode cX12_one 85 = .ok (.putfield 72, 3) := by decide +kernel
theorem dX12_one_88 : decode cX12_one 88 = .ok (.iinc 3 1, 3) := by decide +kernel
theorem dX12_one_91 : decode cX12_one 91 = .ok (.goto (-45), 3) := by decide +kernel
theorem dX12_one_94 : decode cX12_one 94 = .ok (.aload_n 0, 1) := by decide +kernel
theorem dX12_one_95 : decode cX12_one 95 = .ok (.iconst 0, 1) := by decide +kernel
theorem dX12_one_96 : decode cX12_one 96 = .ok (.iload_n 2, 1) := by decide +kernel
theorem dX12_one_97 : decode cX12_one 97 = .ok (.invokevirtual 90, 3) := by decide +kernel
theorem dX12_one_100 : decode cX12_one 100 = .ok (.iconst 1, 1) := by decide +kernel
theorem dX12_one_101 : decode cX12_one 101 = .ok (.ireturn, 1) := by decide +kernel
theorem dX12_one_102 : decode cX12_one 102 = .ok (.iload_n 1, 1) := by decide +kernel
theorem dX12_one_103 : decode cX12_one 103 = .ok (.bipush 33, 2) := by decide +kernel
theorem dX12_one_105 : decode cX12_one 105 = .ok (.if_icmp .ne 37, 3) := by decide +kernel
theorem dX12_one_108 : decode cX12_one 108 = .ok (.aload_n 0, 1) := by decide +kernel
theorem dX12_one_109 : decode cX12_one 109 = .ok (.invokevirtual 112, 3) := by decide +kernel
theorem dX12_one_112 : decode cX12_one 112 = .ok (.ifCond .eq 10, 3) := by decide +kernel
theorem dX12_one_115 : decode cX12_one 115 = .ok (.aload_n 0, 1) := by decide +kernel
theorem dX12_one_116 : decode cX12_one 116 = .ok (.invokevirtual 103, 3) := by decide +kernel
theorem dX12_one_119 : decode cX12_one 119 = .ok (.ifCond .ne 5, 3) := by decide +kernel
theorem dX12_one_122 : decode cX12_one 122 = .ok (.iconst 0, 1) := by decide +kernel
theorem dX12_one_123 : decode cX12_one 123 = .ok (.ireturn, 1) := by decide +kernel
theorem dX12_one_124 : decode cX12_one 124 = .ok (.aload_n 0, 1) := by decide +kernel
theorem dX12_one_125 : decode cX12_one 125 = .ok (.dup, 1) := by decide +kernel
theorem dX12_one_126 : decode cX12_one 126 = .ok (.getfield 106, 3) := by decide +kernel
theorem dX12_one_129 : decode cX12_one 129 = .ok (.iconst 1, 1) := by decide +kernel
theorem dX12_one_130 : decode cX12_one 130 = .ok (.isub, 1) := by decide +kernel
theorem dX12_one_131 : decode cX12_one 131 = .ok (.putfield 106, 3) := by decide +kernel
theorem dX12_one_134 : decode cX12_one 134 = .ok (.aload_n 0, 1) := by decide +kernel
theorem dX12_one_135 : decode cX12_one 135 = .ok (.iconst 2, 1) := by decide +kernel
theorem dX12_one_136 : decode cX12_one 136 = .ok (.iconst 0, 1) := by decide +kernel
theorem dX12_one_137 : decode cX12_one 137 = .ok (.invokevirtual 90, 3) := by decide +kernel
theorem dX12_one_140 : decode cX12_one 140 = .ok (.iconst 1, 1) := by decide +kernel
theorem dX12_one_141 : decode cX12_one 141 = .ok (.ireturn, 1) := by decide +kernel
theorem dX12_one_142 : decode cX12_one 142 = .ok (.iload_n 1, 1) := by decide +kernel
theorem dX12_one_143 : decode cX12_one 143 = .ok (.bipush 40, 2) := by decide +kernel
theorem dX12_one_145 : decode cX12_one 145 = .ok (.if_icmp .ne 26, 3) := by decide +kernel
theorem dX12_one_148 : decode cX12_one 148 = .ok (.aload_n 0, 1) := by decide +kernel
theorem dX12_one_149 : decode cX12_one 149 = .ok (.invokevirtual 112, 3) := by decide +kernel
theorem dX12_one_152 : decode cX12_one 152 = .ok (.ifCond .eq 19, 3) := by decide +kernel
theorem dX12_one_155 : decode cX12_one 155 = .ok (.aload_n 0, 1) := by decide +kernel
theorem dX12_one_156 : decode cX12_one 156 = .ok (.invokevirtual 115, 3) := by decide +kernel
theorem dX12_one_159 : decode cX12_one 159 = .ok (.ifCond .eq 12, 3) := by decide +kernel
theorem dX12_one_162 : decode cX12_one 162 = .ok (.aload_n 0, 1) := by decide +kernel
theorem dX12_one_163 : decode cX12_one 163 = .ok (.invokevirtual 86, 3) := by decide +kernel
theorem dX12_one_166 : decode cX12_one 166 = .ok (.bipush 41, 2) := by decide +kernel
theorem dX12_one_168 : decode cX12_one 168 = .ok (.if_icmp .eq 5, 3) := by decide +kernel
theorem dX12_one_171 : decode cX12_one 171 = .ok (.iconst 0, 1) := by decide +kernel
theorem dX12_one_172 : decode cX12_one 172 = .ok (.ireturn, 1) := by decide +kernel
theorem dX12_one_173 : decode cX12_one 173 = .ok (.aload_n 0, 1) := by decide +kernel
theorem dX12_one_174 : decode cX12_one 174 = .ok (.dup, 1) := by decide +kernel
theorem dX12_one_175 : decode cX12_one 175 = .ok (.getfield 72, 3) := by decide +kernel
theorem dX12_one_178 : decode cX12_one 178 = .ok (.iconst 1, 1) := by decide +kernel
theorem dX12_one_179 : decode cX12_one 179 = .ok (.iadd, 1) := by decide +kernel
theorem dX12_one_180 : decode cX12_one 180 = .ok (.putfield 72, 3) := by decide +kernel
theorem dX12_one_183 : decode cX12_one 183 = .ok (.aload_n 0, 1) := by decide +kernel
theorem dX12_one_184 : decode cX12_one 184 = .ok (.dup, 1) := by decide +kernel
theorem dX12_one_185 : decode cX12_one 185 = .ok (.getfield 106, 3) := by decide +kernel
theorem dX12_one_188 : decode cX12_one 188 = .ok (.iconst 1, 1) := by decide +kernel
theorem dX12_one_189 : decode cX12_one 189 = .ok (.isub, 1) := by decide +kernel
theorem dX12_one_190 : decode cX12_one 190 = .ok (.putfield 106, 3) := by decide +kernel
theorem dX12_one_193 : decode cX12_one 193 = .ok (.iconst 1, 1) := by decide +kernel
theorem dX12_one_194 : decode cX12_one 194 = .ok (.ireturn, 1) := by decide +kernel
theorem dX12_hasText_0 : decode cX12_hasText 0 = .ok (.aload_n 0, 1) := by decide +kernel
theorem dX12_hasText_1 : decode cX12_hasText 1 = .ok (.getfield 7, 3) := by decide +kernel
theorem dX12_hasText_4 : decode cX12_hasText 4 = .ok (.bipush 53, 2) := by decide +kernel
theorem dX12_hasText_6 : decode cX12_hasText 6 = .ok (.bipush 125, 2) := by decide +kernel
theorem dX12_hasText_8 : decode cX12_hasText 8 = .ok (.iload_n 1, 1) := by decide +kernel
theorem dX12_hasText_9 : decode cX12_hasText 9 = .ok (.imul, 1) := by decide +kernel
theorem dX12_hasText_10 : decode cX12_hasText 10 = .ok (.iadd, 1) := by decide +kernel
theorem dX12_hasText_11 : decode cX12_hasText 11 = .ok (.iaload, 1) := by decide +kernel
theorem dX12_hasText_12 : decode cX12_hasText 12 = .ok (.ifCond .le 7, 3) := by decide +kernel
theorem dX12_hasText_15 : decode cX12_hasText 15 = .ok (.iconst 1, 1) := by decide +kernel
theorem dX12_hasText_16 : decode cX12_hasText 16 = .ok (.goto 4, 3) := by decide +kernel
theorem dX12_hasText_19 : decode cX12_hasText 19 = .ok (.iconst 0, 1) := by decide +kernel
theorem dX12_hasText_20 : decode cX12_hasText 20 = .ok (.ireturn, 1) := by decide +kernel
theorem dX12_text_0 : decode cX12_text 0 = .ok (.iload_n 1, 1) := by decide +kernel
theorem dX12_text_1 : decode cX12_text 1 = .ok (.iconst 0, 1) := by decide +kernel
theorem dX12_text_2 : decode cX12_text 2 = .ok (.iconst 1, 1) := by decide +kernel
theorem dX12_text_3 : decode cX12_text 3 = .ok (.invokestatic 54, 3) := by decide +kernel
theorem dX12_text_6 : decode cX12_text 6 = .ok (.ifCond .ne 9, 3) := by decide +kernel
theorem dX12_text_9 : decode cX12_text 9 = .ok (.aload_n 0, 1) := by decide +kernel
theorem dX12_text_10 : decode cX12_text 10 = .ok (.iconst 1, 1) := by decide +kernel
theorem dX12_text_11 : decode cX12_text 11 = .ok (.invokevirtual 66, 3) := by decide +kernel
theorem dX12_text_14 : decode cX12_text 14 = .ok (.ireturn, 1) := by decide +kernel
theorem dX12_text_15 : decode cX12_text 15 = .ok (.aload_n 0, 1) := by decide +kernel
theorem dX12_text_16 : decode cX12_text 16 = .ok (.iload_n 1, 1) := by decide +kernel
theorem dX12_text_17 : decode cX12_text 17 = .ok (.putfield 76, 3) := by decide +kernel
theorem dX12_text_20 : decode cX12_text 20 = .ok (.aload_n 0, 1) := by decide +kernel
theorem dX12_text_21 : decode cX12_text 21 = .ok (.iconst 0, 1) := by decide +kernel
theorem dX12_text_22 : decode cX12_text 22 = .ok (.putfield 72, 3) := by decide +kernel
theorem dX12_text_25 : decode cX12_text 25 = .ok (.aload_n 0, 1) := by decide +kernel
theorem dX12_text_26 : decode cX12_text 26 = .ok (.iconst 0, 1) := by decide +kernel
theorem dX12_text_27 : decode cX12_text 27 = .ok (.putfield 106, 3) := by decide +kernel
theorem dX12_text_30 : decode cX12_text 30 = .ok (.aload_n 0, 1) := by decide +kernel
theorem dX12_text_31 : decode cX12_text 31 = .ok (.iconst 0, 1) := by decide +kernel
theorem dX12_text_32 : decode cX12_text 32 = .ok (.putfield 79, 3) := by decide +kernel
theorem dX12_text_35 : decode cX12_text 35 = .ok (.aload_n 0, 1) := by decide +kernel
theorem dX12_text_36 : decode cX12_text 36 = .ok (.invokevirtual 115, 3) := by decide +kernel
theorem dX12_text_39 : decode cX12_text 39 = .ok (.ifCond .eq 20, 3) := by decide +kernel
theorem dX12_text_42 : decode cX12_text 42 = .ok (.aload_n 0, 1) := by decide +kernel
theorem dX12_text_43 : decode cX12_text 43 = .ok (.getfield 72, 3) := by decide +kernel
theorem dX12_text_46 : decode cX12_text 46 = .ok (.aload_n 0, 1) := by decide +kernel
theorem dX12_text_47 : decode cX12_text 47 = .ok (.getfield 7, 3) := by decide +kernel
theorem dX12_text_50 : decode cX12_text 50 = .ok (.iconst 2, 1) := by decide +kernel
theorem dX12_text_51 : decode cX12_text 51 = .ok (.iaload, 1) := by decide +kernel
theorem dX12_text_52 : decode cX12_text 52 = .ok (.if_icmp .ne 7, 3) := by decide +kernel
theorem dX12_text_55 : decode cX12_text 55 = .ok (.iconst 1, 1) := by decide +kernel
theorem dX12_text_56 : decode cX12_text 56 = .ok (.goto 4, 3) := by decide +kernel
theorem dX12_text_59 : decode cX12_text 59 = .ok (.iconst 0, 1) := by decide +kernel
theorem dX12_text_60 : decode cX12_text 60 = .ok (.istore_n 2, 1) := by decide +kernel
theorem dX12_text_61 : decode cX12_text 61 = .ok (.aload_n 0, 1) := by decide +kernel
theorem dX12_text_62 : decode cX12_text 62 = .ok (.getfield 7, 3) := by decide +kernel
theorem dX12_text_65 : decode cX12_text 65 = .ok (.iconst 2, 1) := by decide +kernel
theorem dX12_text_66 : decode cX12_text 66 = .ok (.iconst 0, 1) := by decide +kernel
theorem dX12_text_67 : decode cX12_text 67 = .ok (.iastore, 1) := by decide +kernel
theorem dX12_text_68 : decode cX12_text 68 = .ok (.iload_n 2, 1) := by decide +kernel
theorem dX12_text_69 : decode cX12_text 69 = .ok (.ifCond .ne 11, 3) := by decide +kernel
theorem dX12_text_72 : decode cX12_text 72 = .ok (.bipush (-10), 2) := by decide +kernel
theorem dX12_text_74 : decode cX12_text 74 = .ok (.aload_n 0, 1) := by decide +kernel
theorem dX12_text_75 : decode cX12_text 75 = .ok (.getfield 72, 3) := by decide +kernel
theorem dX12_text_78 : decode cX12_text 78 = .ok (.isub, 1) := by decide +kernel
theorem dX12_text_79 : decode cX12_text 79 = .ok (.ireturn, 1) := by decide +kernel
theorem dX12_text_80 : decode cX12_text 80 = .ok (.bipush 53, 2) := by decide +kernel
theorem dX12_text_82 : decode cX12_text 82 = .ok (.bipush 125, 2) := by decide +kernel
theorem dX12_text_84 : decode cX12_text 84 = .ok (.iload_n 1, 1) := by decide +kernel
theorem dX12_text_85 : decode cX12_text 85 = .ok (.imul, 1) := by decide +kernel
theorem dX12_text_86 : decode cX12_text 86 = .ok (.iadd, 1) := by decide +kernel
theorem dX12_text_87 : decode cX12_text 87 = .ok (.istore_n 3, 1) := by decide +kernel
theorem dX12_text_88 : decode cX12_text 88 = .ok (.aload_n 0, 1) := by decide +kernel
theorem dX12_text_89 : decode cX12_text 89 = .ok (.getfield 7, 3) := by decide +kernel
theorem dX12_text_92 : decode cX12_text 92 = .ok (.iload_n 3, 1) := by decide +kernel
theorem dX12_text_93 : decode cX12_text 93 = .ok (.aload_n 0, 1) := by decide +kernel
theorem dX12_text_94 : decode cX12_text 94 = .ok (.getfield 79, 3) := by decide +kernel
theorem dX12_text_97 : decode cX12_text 97 = .ok (.iastore, 1) := by decide +kernel
theorem dX12_text_98 : decode cX12_text 98 = .ok (.iconst 0, 1) := by decide +kernel
theorem dX12_text_99 : decode cX12_text 99 = .ok (.istore 4, 2) := by decide +kernel
theorem dX12_text_101 : decode cX12_text 101 = .ok (.iload 4, 2) := by decide +kernel
theorem dX12_text_103 : decode cX12_text 103 = .ok (.iconst 2, 1) := by decide +kernel
theorem dX12_text_104 : decode cX12_text 104 = .ok (.aload_n 0, 1) := by decide +kernel
theorem dX12_text_105 : decode cX12_text 105 = .ok (.getfield 79, 3) := by decide +kernel
theorem dX12_text_108 : decode cX12_text 108 = .ok (.imul, 1) := by decide +kernel
theorem dX12_text_109 : decode cX12_text 109 = .ok (.if_icmp .ge 27, 3) := by decide +kernel
theorem dX12_text_112 : decode cX12_text 112 = .ok (.aload_n 0, 1) := by decide +kernel
theorem dX12_text_113 : decode cX12_text 113 = .ok (.getfield 7, 3) := by decide +kernel
theorem dX12_text_116 : decode cX12_text 116 = .ok (.iload_n 3, 1) := by decide +kernel
theorem dX12_text_117 : decode cX12_text 117 = .ok (.iconst 1, 1) := by decide +kernel
theorem dX12_text_118 : decode cX12_text 118 = .ok (.iadd, 1) := by decide +kernel
theorem dX12_text_119 : decode cX12_text 119 = .ok (.iload 4, 2) := by decide +kernel
theorem dX12_text_121 : decode cX12_text 121 = .ok (.iadd, 1) := by decide +kernel
theorem dX12_text_122 : decode cX12_text 122 = .ok (.aload_n 0, 1) := by decide +kernel
theorem dX12_text_123 : decode cX12_text 123 = .ok (.getfield 22, 3) := by decide +kernel
theorem dX12_text_126 : decode cX12_text 126 = .ok (.iload 4, 2) := by decide +kernel
theorem dX12_text_128 : decode cX12_text 128 = .ok (.iaload, 1) := by decide +kernel
theorem dX12_text_129 : decode cX12_text 129 = .ok (.iastore, 1) := by decide +kernel
theorem dX12_text_130 : decode cX12_text 130 = .ok (.iinc 4 1, 3) := by decide +kernel
theorem dX12_text_133 : decode cX12_text 133 = .ok (.goto (-32), 3) := by decide +kernel
theorem dX12_text_136 : decode cX12_text 136 = .ok (.iconst 1, 1) := by decide +kernel
theorem dX12_text_137 : decode cX12_text 137 = .ok (.ireturn, 1) := by decide +kernel
theorem dX12_untell_0 : decode cX12_untell 0 = .ok (.iload_n 1, 1) := by decide +kernel
theorem dX12_untell_1 : decode cX12_untell 1 = .ok (.iconst 0, 1) := by decide +kernel
theorem dX12_untell_2 : decode cX12_untell 2 = .ok (.iconst 1, 1) := by decide +kernel
theorem dX12_untell_3 : decode cX12_untell 3 = .ok (.invokestatic 54, 3) := by decide +kernel
theorem dX12_untell_6 : decode cX12_untell 6 = .ok (.ifCond .ne 9, 3) := by decide +kernel
theorem dX12_untell_9 : decode cX12_untell 9 = .ok (.aload_n 0, 1) := by decide +kernel
theorem dX12_untell_10 : decode cX12_untell 10 = .ok (.iconst 1, 1) := by decide +kernel
theorem dX12_untell_11 : decode cX12_untell 11 = .ok (.invokevirtual 66, 3) := by decide +kernel
theorem dX12_untell_14 : decode cX12_untell 14 = .ok (.ireturn, 1) := by decide +kernel
theorem dX12_untell_15 : decode cX12_untell 15 = .ok (.aload_n 0, 1) := by decide +kernel
theorem dX12_untell_16 : decode cX12_untell 16 = .ok (.iload_n 1, 1) := by decide +kernel
theorem dX12_untell_17 : decode cX12_untell 17 = .ok (.invokevirtual 118, 3) := by decide +kernel
theorem dX12_untell_20 : decode cX12_untell 20 = .ok (.ifCond .eq 7, 3) := by decide +kernel
theorem dX12_untell_23 : decode cX12_untell 23 = .ok (.iconst 1, 1) := by decide +kernel
theorem dX12_untell_24 : decode cX12_untell 24 = .ok (.goto 4, 3) := by decide +kernel
theorem dX12_untell_27 : decode cX12_untell 27 = .ok (.iconst 0, 1) := by decide +kernel
theorem dX12_untell_28 : decode cX12_untell 28 = .ok (.istore_n 2, 1) := by decide +kernel
theorem dX12_untell_29 : decode cX12_untell 29 = .ok (.aload_n 0, 1) := by decide +kernel
theorem dX12_untell_30 : decode cX12_untell 30 = .ok (.getfield 7, 3) := by decide +kernel
theorem dX12_untell_33 : decode cX12_untell 33 = .ok (.bipush 53, 2) := by decide +kernel
theorem dX12_untell_35 : decode cX12_untell 35 = .ok (.bipush 125, 2) := by decide +kernel
theorem dX12_untell_37 : decode cX12_untell 37 = .ok (.iload_n 1, 1) := by decide +kernel
theorem dX12_untell_38 : decode cX12_untell 38 = .ok (.imul, 1) := by decide +kernel
theorem dX12_untell_39 : decode cX12_untell 39 = .ok (.iadd, 1) := by decide +kernel
theorem dX12_untell_40 : decode cX12_untell 40 = .ok (.iconst 0, 1) := by decide +kernel
theorem dX12_untell_41 : decode cX12_untell 41 = .ok (.iastore, 1) := by decide +kernel
theorem dX12_untell_42 : decode cX12_untell 42 = .ok (.iload_n 2, 1) := by decide +kernel
theorem dX12_untell_43 : decode cX12_untell 43 = .ok (.ireturn, 1) := by decide +kernel
theorem dX12_joined_0 : decode cX12_joined 0 = .ok (.iload_n 0, 1) := by decide +kernel
theorem dX12_joined_1 : decode cX12_joined 1 = .ok (.tableswitch 217 37 62 #[153, 203, 217, 217, 217, 127, 119, 217, 123, 217, 131, 217, 217, 217, 217, 217, 217, 217, 217, 217, 217, 217, 217, 170, 192, 181], 119) := by decide +kernel
theorem dX12_joined_120 : decode cX12_joined 120 = .ok (.iload_n 1, 1) := by decide +kernel
theorem dX12_joined_121 : decode cX12_joined 121 = .ok (.iload_n 2, 1) := by decide +kernel
theorem dX12_joined_122 : decode cX12_joined 122 = .ok (.iadd, 1) := by decide +kernel
theorem dX12_joined_123 : decode cX12_joined 123 = .ok (.ireturn, 1) := by decide +kernel
theorem dX12_joined_124 : decode cX12_joined 124 = .ok (.iload_n 1, 1) := by decide +kernel
theorem dX12_joined_125 : decode cX12_joined 125 = .ok (.iload_n 2, 1) := by decide +kernel
theorem dX12_joined_126 : decode cX12_joined 126 = .ok (.isub, 1) := by decide +kernel
theorem dX12_joined_127 : decode cX12_joined 127 = .ok (.ireturn, 1) := by decide +kernel
theorem dX12_joined_128 : decode cX12_joined 128 = .ok (.iload_n 1, 1) := by decide +kernel
theorem dX12_joined_129 : decode cX12_joined 129 = .ok (.iload_n 2, 1) := by decide +kernel
theorem dX12_joined_130 : decode cX12_joined 130 = .ok (.imul, 1) := by decide +kernel
theorem dX12_joined_131 : decode cX12_joined 131 = .ok (.ireturn, 1) := by decide +kernel
theorem dX12_joined_132 : decode cX12_joined 132 = .ok (.iload_n 2, 1) := by decide +kernel
theorem dX12_joined_133 : decode cX12_joined 133 = .ok (.ifCond .ne 7, 3) := by decide +kernel
theorem dX12_joined_136 : decode cX12_joined 136 = .ok (.iconst 0, 1) := by decide +kernel
theorem dX12_joined_137 : decode cX12_joined 137 = .ok (.goto 16, 3) := by decide +kernel
theorem dX12_joined_140 : decode cX12_joined 140 = .ok (.iload_n 2, 1) := by decide +kernel
theorem dX12_joined_141 : decode cX12_joined 141 = .ok (.iconst (-1), 1) := by decide +kernel
theorem dX12_joined_142 : decode cX12_joined 142 = .ok (.if_icmp .ne 8, 3) := by decide +kernel
theorem dX12_joined_145 : decode cX12_joined 145 = .ok (.iload_n 1, 1) := by decide +kernel
theorem dX12_joined_146 : decode cX12_joined 146 = .ok (.ineg, 1) := by decide +kernel
theorem dX12_joined_147 : decode cX12_joined 147 = .ok (.goto 6, 3) := by decide +kernel
theorem dX12_joined_150 : decode cX12_joined 150 = .ok (.iload_n 1, 1) := by decide +kernel
theorem dX12_joined_151 : decode cX12_joined 151 = .ok (.iload_n 2, 1) := by decide +kernel
theorem dX12_joined_152 : decode cX12_joined 152 = .ok (.idiv, 1) := by decide +kernel
theorem dX12_joined_153 : decode cX12_joined 153 = .ok (.ireturn, 1) := by decide +kernel
theorem dX12_joined_154 : decode cX12_joined 154 = .ok (.iload_n 2, 1) := by decide +kernel
theorem dX12_joined_155 : decode cX12_joined 155 = .ok (.ifCond .eq 8, 3) := by decide +kernel
theorem dX12_joined_158 : decode cX12_joined 158 = .ok (.iload_n 2, 1) := by decide +kernel
theorem dX12_joined_159 : decode cX12_joined 159 = .ok (.iconst (-1), 1) := by decide +kernel
theorem dX12_joined_160 : decode cX12_joined 160 = .ok (.if_icmp .ne 7, 3) := by decide +kernel
theorem dX12_joined_163 : decode cX12_joined 163 = .ok (.iconst 0, 1) := by decide +kernel
theorem dX12_joined_164 : decode cX12_joined 164 = .ok (.goto 6, 3) := by decide +kernel
theorem dX12_joined_167 : decode cX12_joined 167 = .ok (.iload_n 1, 1) := by decide +kernel
theorem dX12_joined_168 : decode cX12_joined 168 = .ok (.iload_n 2, 1) := by decide +kernel
theorem dX12_joined_169 : decode cX12_joined 169 = .ok (.irem, 1) := by decide +kernel
theorem dX12_joined_170 : decode cX12_joined 170 = .ok (.ireturn, 1) := by decide +kernel
theorem dX12_joined_171 : decode cX12_joined 171 = .ok (.iload_n 1, 1) := by decide +kernel
theorem dX12_joined_172 : decode cX12_joined 172 = .ok (.iload_n 2, 1) := by decide +kernel
theorem dX12_joined_173 : decode cX12_joined 173 = .ok (.if_icmp .ge 7, 3) := by decide +kernel
theorem dX12_joined_176 : decode cX12_joined 176 = .ok (.iconst 1, 1) := by decide +kernel
theorem dX12_joined_177 : decode cX12_joined 177 = .ok (.goto 4, 3) := by decide +kernel
theorem dX12_joined_180 : decode cX12_joined 180 = .ok (.iconst 0, 1) := by decide +kernel
theorem dX12_joined_181 : decode cX12_joined 181 = .ok (.ireturn, 1) := by decide +kernel
theorem dX12_joined_182 : decode cX12_joined 182 = .ok (.iload_n 1, 1) := by decide +kernel
theorem dX12_joined_183 : decode cX12_joined 183 = .ok (.iload_n 2, 1) := by decide +kernel
theorem dX12_joined_184 : decode cX12_joined 184 = .ok (.if_icmp .le 7, 3) := by decide +kernel
theorem dX12_joined_187 : decode cX12_joined 187 = .ok (.iconst 1, 1) := by decide +kernel
theorem dX12_joined_188 : decode cX12_joined 188 = .ok (.goto 4, 3) := by decide +kernel
theorem dX12_joined_191 : decode cX12_joined 191 = .ok (.iconst 0, 1) := by decide +kernel
theorem dX12_joined_192 : decode cX12_joined 192 = .ok (.ireturn, 1) := by decide +kernel
theorem dX12_joined_193 : decode cX12_joined 193 = .ok (.iload_n 1, 1) := by decide +kernel
theorem dX12_joined_194 : decode cX12_joined 194 = .ok (.iload_n 2, 1) := by decide +kernel
theorem dX12_joined_195 : decode cX12_joined 195 = .ok (.if_icmp .ne 7, 3) := by decide +kernel
theorem dX12_joined_198 : decode cX12_joined 198 = .ok (.iconst 1, 1) := by decide +kernel
theorem dX12_joined_199 : decode cX12_joined 199 = .ok (.goto 4, 3) := by decide +kernel
theorem dX12_joined_202 : decode cX12_joined 202 = .ok (.iconst 0, 1) := by decide +kernel
theorem dX12_joined_203 : decode cX12_joined 203 = .ok (.ireturn, 1) := by decide +kernel
theorem dX12_joined_204 : decode cX12_joined 204 = .ok (.iload_n 1, 1) := by decide +kernel
theorem dX12_joined_205 : decode cX12_joined 205 = .ok (.ifCond .eq 11, 3) := by decide +kernel
theorem dX12_joined_208 : decode cX12_joined 208 = .ok (.iload_n 2, 1) := by decide +kernel
theorem dX12_joined_209 : decode cX12_joined 209 = .ok (.ifCond .eq 7, 3) := by decide +kernel
theorem dX12_joined_212 : decode cX12_joined 212 = .ok (.iconst 1, 1) := by decide +kernel
theorem dX12_joined_213 : decode cX12_joined 213 = .ok (.goto 4, 3) := by decide +kernel
theorem dX12_joined_216 : decode cX12_joined 216 = .ok (.iconst 0, 1) := by decide +kernel
theorem dX12_joined_217 : decode cX12_joined 217 = .ok (.ireturn, 1) := by decide +kernel
theorem dX12_joined_218 : decode cX12_joined 218 = .ok (.iload_n 1, 1) := by decide +kernel
theorem dX12_joined_219 : decode cX12_joined 219 = .ok (.ifCond .ne 7, 3) := by decide +kernel
