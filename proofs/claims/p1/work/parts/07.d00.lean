theorem dX12_error_0 : decode cX12_error 0 = .ok (.aload_n 0, 1) := by decide +kernel
theorem dX12_error_1 : decode cX12_error 1 = .ok (.getfield 19, 3) := by decide +kernel
theorem dX12_error_4 : decode cX12_error 4 = .ok (.iload_n 1, 1) := by decide +kernel
theorem dX12_error_5 : decode cX12_error 5 = .ok (.dup2, 1) := by decide +kernel
theorem dX12_error_6 : decode cX12_error 6 = .ok (.iaload, 1) := by decide +kernel
theorem dX12_error_7 : decode cX12_error 7 = .ok (.iconst 1, 1) := by decide +kernel
theorem dX12_error_8 : decode cX12_error 8 = .ok (.iadd, 1) := by decide +kernel
theorem dX12_error_9 : decode cX12_error 9 = .ok (.iastore, 1) := by decide +kernel
theorem dX12_error_10 : decode cX12_error 10 = .ok (.ldc 53, 2) := by decide +kernel
theorem dX12_error_12 : decode cX12_error 12 = .ok (.iload_n 1, 1) := by decide +kernel
theorem dX12_error_13 : decode cX12_error 13 = .ok (.isub, 1) := by decide +kernel
theorem dX12_error_14 : decode cX12_error 14 = .ok (.ireturn, 1) := by decide +kernel
theorem dX12_in_0 : decode cX12_in 0 = .ok (.iload_n 0, 1) := by decide +kernel
theorem dX12_in_1 : decode cX12_in 1 = .ok (.iload_n 1, 1) := by decide +kernel
theorem dX12_in_2 : decode cX12_in 2 = .ok (.if_icmp .lt 12, 3) := by decide +kernel
theorem dX12_in_5 : decode cX12_in 5 = .ok (.iload_n 0, 1) := by decide +kernel
theorem dX12_in_6 : decode cX12_in 6 = .ok (.iload_n 2, 1) := by decide +kernel
theorem dX12_in_7 : decode cX12_in 7 = .ok (.if_icmp .gt 7, 3) := by decide +kernel
theorem dX12_in_10 : decode cX12_in 10 = .ok (.iconst 1, 1) := by decide +kernel
theorem dX12_in_11 : decode cX12_in 11 = .ok (.goto 4, 3) := by decide +kernel
theorem dX12_in_14 : decode cX12_in 14 = .ok (.iconst 0, 1) := by decide +kernel
theorem dX12_in_15 : decode cX12_in 15 = .ok (.ireturn, 1) := by decide +kernel
theorem dX12_held_0 : decode cX12_held 0 = .ok (.iload_n 0, 1) := by decide +kernel
theorem dX12_held_1 : decode cX12_held 1 = .ok (.iload_n 1, 1) := by decide +kernel
theorem dX12_held_2 : decode cX12_held 2 = .ok (.if_icmp .ge 7, 3) := by decide +kernel
theorem dX12_held_5 : decode cX12_held 5 = .ok (.iload_n 1, 1) := by decide +kernel
theorem dX12_held_6 : decode cX12_held 6 = .ok (.goto 13, 3) := by decide +kernel
theorem dX12_held_9 : decode cX12_held 9 = .ok (.iload_n 0, 1) := by decide +kernel
theorem dX12_held_10 : decode cX12_held 10 = .ok (.iload_n 2, 1) := by decide +kernel
theorem dX12_held_11 : decode cX12_held 11 = .ok (.if_icmp .le 7, 3) := by decide +kernel
theorem dX12_held_14 : decode cX12_held 14 = .ok (.iload_n 2, 1) := by decide +kernel
theorem dX12_held_15 : decode cX12_held 15 = .ok (.goto 4, 3) := by decide +kernel
theorem dX12_held_18 : decode cX12_held 18 = .ok (.iload_n 0, 1) := by decide +kernel
theorem dX12_held_19 : decode cX12_held 19 = .ok (.ireturn, 1) := by decide +kernel
theorem dX12_layDown_0 : decode cX12_layDown 0 = .ok (.iconst 0, 1) := by decide +kernel
theorem dX12_layDown_1 : decode cX12_layDown 1 = .ok (.istore_n 2, 1) := by decide +kernel
theorem dX12_layDown_2 : decode cX12_layDown 2 = .ok (.iload_n 2, 1) := by decide +kernel
theorem dX12_layDown_3 : decode cX12_layDown 3 = .ok (.bipush 53, 2) := by decide +kernel
theorem dX12_layDown_5 : decode cX12_layDown 5 = .ok (.if_icmp .ge 26, 3) := by decide +kernel
theorem dX12_layDown_8 : decode cX12_layDown 8 = .ok (.aload_n 0, 1) := by decide +kernel
theorem dX12_layDown_9 : decode cX12_layDown 9 = .ok (.getfield 16, 3) := by decide +kernel
theorem dX12_layDown_12 : decode cX12_layDown 12 = .ok (.bipush 53, 2) := by decide +kernel
theorem dX12_layDown_14 : decode cX12_layDown 14 = .ok (.iload_n 1, 1) := by decide +kernel
theorem dX12_layDown_15 : decode cX12_layDown 15 = .ok (.imul, 1) := by decide +kernel
theorem dX12_layDown_16 : decode cX12_layDown 16 = .ok (.iload_n 2, 1) := by decide +kernel
theorem dX12_layDown_17 : decode cX12_layDown 17 = .ok (.iadd, 1) := by decide +kernel
theorem dX12_layDown_18 : decode cX12_layDown 18 = .ok (.aload_n 0, 1) := by decide +kernel
theorem dX12_layDown_19 : decode cX12_layDown 19 = .ok (.getfield 7, 3) := by decide +kernel
theorem dX12_layDown_22 : decode cX12_layDown 22 = .ok (.iload_n 2, 1) := by decide +kernel
theorem dX12_layDown_23 : decode cX12_layDown 23 = .ok (.iaload, 1) := by decide +kernel
theorem dX12_layDown_24 : decode cX12_layDown 24 = .ok (.iastore, 1) := by decide +kernel
theorem dX12_layDown_25 : decode cX12_layDown 25 = .ok (.iinc 2 1, 3) := by decide +kernel
theorem dX12_layDown_28 : decode cX12_layDown 28 = .ok (.goto (-26), 3) := by decide +kernel
theorem dX12_layDown_31 : decode cX12_layDown 31 = .ok (.return_, 1) := by decide +kernel
theorem dX12_layBack_0 : decode cX12_layBack 0 = .ok (.iconst 0, 1) := by decide +kernel
theorem dX12_layBack_1 : decode cX12_layBack 1 = .ok (.istore_n 2, 1) := by decide +kernel
theorem dX12_layBack_2 : decode cX12_layBack 2 = .ok (.iload_n 2, 1) := by decide +kernel
theorem dX12_layBack_3 : decode cX12_layBack 3 = .ok (.bipush 53, 2) := by decide +kernel
theorem dX12_layBack_5 : decode cX12_layBack 5 = .ok (.if_icmp .ge 26, 3) := by decide +kernel
theorem dX12_layBack_8 : decode cX12_layBack 8 = .ok (.aload_n 0, 1) := by decide +kernel
theorem dX12_layBack_9 : decode cX12_layBack 9 = .ok (.getfield 7, 3) := by decide +kernel
theorem dX12_layBack_12 : decode cX12_layBack 12 = .ok (.iload_n 2, 1) := by decide +kernel
theorem dX12_layBack_13 : decode cX12_layBack 13 = .ok (.aload_n 0, 1) := by decide +kernel
theorem dX12_layBack_14 : decode cX12_layBack 14 = .ok (.getfield 16, 3) := by decide +kernel
theorem dX12_layBack_17 : decode cX12_layBack 17 = .ok (.bipush 53, 2) := by decide +kernel
theorem dX12_layBack_19 : decode cX12_layBack 19 = .ok (.iload_n 1, 1) := by decide +kernel
theorem dX12_layBack_20 : decode cX12_layBack 20 = .ok (.imul, 1) := by decide +kernel
theorem dX12_layBack_21 : decode cX12_layBack 21 = .ok (.iload_n 2, 1) := by decide +kernel
theorem dX12_layBack_22 : decode cX12_layBack 22 = .ok (.iadd, 1) := by decide +kernel
theorem dX12_layBack_23 : decode cX12_layBack 23 = .ok (.iaload, 1) := by decide +kernel
theorem dX12_layBack_24 : decode cX12_layBack 24 = .ok (.iastore, 1) := by decide +kernel
theorem dX12_layBack_25 : decode cX12_layBack 25 = .ok (.iinc 2 1, 3) := by decide +kernel
theorem dX12_layBack_28 : decode cX12_layBack 28 = .ok (.goto (-26), 3) := by decide +kernel
theorem dX12_layBack_31 : decode cX12_layBack 31 = .ok (.return_, 1) := by decide +kernel
theorem dX12_isOne_0 : decode cX12_isOne 0 = .ok (.iload_n 0, 1) := by decide +kernel
theorem dX12_isOne_1 : decode cX12_isOne 1 = .ok (.iconst 0, 1) := by decide +kernel
theorem dX12_isOne_2 : decode cX12_isOne 2 = .ok (.bipush 8, 2) := by decide +kernel
theorem dX12_isOne_4 : decode cX12_isOne 4 = .ok (.invokestatic 54, 3) := by decide +kernel
theorem dX12_isOne_7 : decode cX12_isOne 7 = .ok (.ireturn, 1) := by decide +kernel
theorem dX12_its_0 : decode cX12_its 0 = .ok (.aload_n 0, 1) := by decide +kernel
theorem dX12_its_1 : decode cX12_its 1 = .ok (.getfield 7, 3) := by decide +kernel
theorem dX12_its_4 : decode cX12_its 4 = .ok (.bipush 8, 2) := by decide +kernel
theorem dX12_its_6 : decode cX12_its 6 = .ok (.iconst 5, 1) := by decide +kernel
theorem dX12_its_7 : decode cX12_its 7 = .ok (.iload_n 1, 1) := by decide +kernel
theorem dX12_its_8 : decode cX12_its 8 = .ok (.imul, 1) := by decide +kernel
theorem dX12_its_9 : decode cX12_its 9 = .ok (.iadd, 1) := by decide +kernel
theorem dX12_its_10 : decode cX12_its 10 = .ok (.iload_n 2, 1) := by decide +kernel
theorem dX12_its_11 : decode cX12_its 11 = .ok (.iadd, 1) := by decide +kernel
theorem dX12_its_12 : decode cX12_its 12 = .ok (.iaload, 1) := by decide +kernel
theorem dX12_its_13 : decode cX12_its 13 = .ok (.ireturn, 1) := by decide +kernel
theorem dX12_lays1_0 : decode cX12_lays1 0 = .ok (.aload_n 0, 1) := by decide +kernel
theorem dX12_lays1_1 : decode cX12_lays1 1 = .ok (.getfield 7, 3) := by decide +kernel
theorem dX12_lays1_4 : decode cX12_lays1 4 = .ok (.bipush 8, 2) := by decide +kernel
theorem dX12_lays1_6 : decode cX12_lays1 6 = .ok (.iconst 5, 1) := by decide +kernel
theorem dX12_lays1_7 : decode cX12_lays1 7 = .ok (.iload_n 1, 1) := by decide +kernel
theorem dX12_lays1_8 : decode cX12_lays1 8 = .ok (.imul, 1) := by decide +kernel
theorem dX12_lays1_9 : decode cX12_lays1 9 = .ok (.iadd, 1) := by decide +kernel
theorem dX12_lays1_10 : decode cX12_lays1 10 = .ok (.iload_n 2, 1) := by decide +kernel
theorem dX12_lays1_11 : decode cX12_lays1 11 = .ok (.iadd, 1) := by decide +kernel
theorem dX12_lays1_12 : decode cX12_lays1 12 = .ok (.iload_n 3, 1) := by decide +kernel
theorem dX12_lays1_13 : decode cX12_lays1 13 = .ok (.iastore, 1) := by decide +kernel
theorem dX12_lays1_14 : decode cX12_lays1 14 = .ok (.return_, 1) := by decide +kernel
theorem dX12_change1_0 : decode cX12_change1 0 = .ok (.aload_n 0, 1) := by decide +kernel
theorem dX12_change1_1 : decode cX12_change1 1 = .ok (.getfield 7, 3) := by decide +kernel
theorem dX12_change1_4 : decode cX12_change1 4 = .ok (.iload_n 1, 1) := by decide +kernel
theorem dX12_change1_5 : decode cX12_change1 5 = .ok (.iaload, 1) := by decide +kernel
theorem dX12_change1_6 : decode cX12_change1 6 = .ok (.istore_n 3, 1) := by decide +kernel
theorem dX12_change1_7 : decode cX12_change1 7 = .ok (.aload_n 0, 1) := by decide +kernel
theorem dX12_change1_8 : decode cX12_change1 8 = .ok (.getfield 7, 3) := by decide +kernel
theorem dX12_change1_11 : decode cX12_change1 11 = .ok (.iload_n 1, 1) := by decide +kernel
theorem dX12_change1_12 : decode cX12_change1 12 = .ok (.iload_n 2, 1) := by decide +kernel
theorem dX12_change1_13 : decode cX12_change1 13 = .ok (.iastore, 1) := by decide +kernel
theorem dX12_change1_14 : decode cX12_change1 14 = .ok (.iload_n 3, 1) := by decide +kernel
theorem dX12_change1_15 : decode cX12_change1 15 = .ok (.ireturn, 1) := by decide +kernel
theorem dX12_stands_0 : decode cX12_stands 0 = .ok (.aload_n 0, 1) := by decide +kernel
theorem dX12_stands_1 : decode cX12_stands 1 = .ok (.iload_n 1, 1) := by decide +kernel
theorem dX12_stands_2 : decode cX12_stands 2 = .ok (.iconst 4, 1) := by decide +kernel
theorem dX12_stands_3 : decode cX12_stands 3 = .ok (.invokevirtual 58, 3) := by decide +kernel
theorem dX12_stands_6 : decode cX12_stands 6 = .ok (.iconst (-1), 1) := by decide +kernel
theorem dX12_stands_7 : decode cX12_stands 7 = .ok (.if_icmp .ne 7, 3) := by decide +kernel
theorem dX12_stands_10 : decode cX12_stands 10 = .ok (.iconst 1, 1) := by decide +kernel
theorem dX12_stands_11 : decode cX12_stands 11 = .ok (.goto 4, 3) := by decide +kernel
theorem dX12_stands_14 : decode cX12_stands 14 = .ok (.iconst 0, 1) := by decide +kernel
theorem dX12_stands_15 : decode cX12_stands 15 = .ok (.ireturn, 1) := by decide +kernel
theorem dX12_howMany_0 : decode cX12_howMany 0 = .ok (.iconst 0, 1) := by decide +kernel
theorem dX12_howMany_1 : decode cX12_howMany 1 = .ok (.istore_n 1, 1) := by decide +kernel
theorem dX12_howMany_2 : decode cX12_howMany 2 = .ok (.iconst 0, 1) := by decide +kernel
theorem dX12_howMany_3 : decode cX12_howMany 3 = .ok (.istore_n 2, 1) := by decide +kernel
theorem dX12_howMany_4 : decode cX12_howMany 4 = .ok (.iload_n 2, 1) := by decide +kernel
theorem dX12_howMany_5 : decode cX12_howMany 5 = .ok (.bipush 9, 2) := by decide +kernel
theorem dX12_howMany_7 : decode cX12_howMany 7 = .ok (.if_icmp .ge 25, 3) := by decide +kernel
theorem dX12_howMany_10 : decode cX12_howMany 10 = .ok (.iload_n 1, 1) := by decide +kernel
theorem dX12_howMany_11 : decode cX12_howMany 11 = .ok (.aload_n 0, 1) := by decide +kernel
theorem dX12_howMany_12 : decode cX12_howMany 12 = .ok (.iload_n 2, 1) := by decide +kernel
theorem dX12_howMany_13 : decode cX12_howMany 13 = .ok (.invokevirtual 62, 3) := by decide +kernel
theorem dX12_howMany_16 : decode cX12_howMany 16 = .ok (.ifCond .eq 7, 3) := by decide +kernel
theorem dX12_howMany_19 : decode cX12_howMany 19 = .ok (.iconst 1, 1) := by decide +kernel
theorem dX12_howMany_20 : decode cX12_howMany 20 = .ok (.goto 4, 3) := by decide +kernel
theorem dX12_howMany_23 : decode cX12_howMany 23 = .ok (.iconst 0, 1) := by decide +kernel
theorem dX12_howMany_24 : decode cX12_howMany 24 = .ok (.iadd, 1) := by decide +kernel
theorem dX12_howMany_25 : decode cX12_howMany 25 = .ok (.istore_n 1, 1) := by decide +kernel
theorem dX12_howMany_26 : decode cX12_howMany 26 = .ok (.iinc 2 1, 3) := by decide +kernel
theorem dX12_howMany_29 : decode cX12_howMany 29 = .ok (.goto (-25), 3) := by decide +kernel
theorem dX12_howMany_32 : decode cX12_howMany 32 = .ok (.iload_n 1, 1) := by decide +kernel
theorem dX12_howMany_33 : decode cX12_howMany 33 = .ok (.ireturn, 1) := by decide +kernel
theorem dX12_standsAt_0 : decode cX12_standsAt 0 = .ok (.iconst 0, 1) := by decide +kernel
theorem dX12_standsAt_1 : decode cX12_standsAt 1 = .ok (.istore_n 2, 1) := by decide +kernel
theorem dX12_standsAt_2 : decode cX12_standsAt 2 = .ok (.aload_n 0, 1) := by decide +kernel
theorem dX12_standsAt_3 : decode cX12_standsAt 3 = .ok (.iload_n 2, 1) := by decide +kernel
theorem dX12_standsAt_4 : decode cX12_standsAt 4 = .ok (.iconst 2, 1) := by decide +kernel
theorem dX12_standsAt_5 : decode cX12_standsAt 5 = .ok (.invokevirtual 58, 3) := by decide +kernel
theorem dX12_standsAt_8 : decode cX12_standsAt 8 = .ok (.iload_n 1, 1) := by decide +kernel
theorem dX12_standsAt_9 : decode cX12_standsAt 9 = .ok (.if_icmp .eq 9, 3) := by decide +kernel
theorem dX12_standsAt_12 : decode cX12_standsAt 12 = .ok (.iinc 2 1, 3) := by decide +kernel
theorem dX12_standsAt_15 : decode cX12_standsAt 15 = .ok (.goto (-13), 3) := by decide +kernel
theorem dX12_standsAt_18 : decode cX12_standsAt 18 = .ok (.iload_n 2, 1) := by decide +kernel
theorem dX12_standsAt_19 : decode cX12_standsAt 19 = .ok (.ireturn, 1) := by decide +kernel
theorem dX12_feed_0 : decode cX12_feed 0 = .ok (.iload_n 3, 1) := by decide +kernel
theorem dX12_feed_1 : decode cX12_feed 1 = .ok (.iconst 1, 1) := by decide +kernel
theorem dX12_feed_2 : decode cX12_feed 2 = .ok (.bipush 8, 2) := by decide +kernel
theorem dX12_feed_4 : decode cX12_feed 4 = .ok (.invokestatic 54, 3) := by decide +kernel
theorem dX12_feed_7 : decode cX12_feed 7 = .ok (.ifCond .ne 9, 3) := by decide +kernel
theorem dX12_feed_10 : decode cX12_feed 10 = .ok (.aload_n 0, 1) := by decide +kernel
theorem dX12_feed_11 : decode cX12_feed 11 = .ok (.iconst 1, 1) := by decide +kernel
theorem dX12_feed_12 : decode cX12_feed 12 = .ok (.invokevirtual 66, 3) := by decide +kernel
theorem dX12_feed_15 : decode cX12_feed 15 = .ok (.ireturn, 1) := by decide +kernel
theorem dX12_feed_16 : decode cX12_feed 16 = .ok (.aload_n 0, 1) := by decide +kernel
theorem dX12_feed_17 : decode cX12_feed 17 = .ok (.getfield 7, 3) := by decide +kernel
theorem dX12_feed_20 : decode cX12_feed 20 = .ok (.iconst 2, 1) := by decide +kernel
theorem dX12_feed_21 : decode cX12_feed 21 = .ok (.iaload, 1) := by decide +kernel
theorem dX12_feed_22 : decode cX12_feed 22 = .ok (.iload_n 3, 1) := by decide +kernel
theorem dX12_feed_23 : decode cX12_feed 23 = .ok (.iadd, 1) := by decide +kernel
theorem dX12_feed_24 : decode cX12_feed 24 = .ok (.bipush 60, 2) := by decide +kernel
theorem dX12_feed_26 : decode cX12_feed 26 = .ok (.if_icmp .le 9, 3) := by decide +kernel
theorem dX12_feed_29 : decode cX12_feed 29 = .ok (.aload_n 0, 1) := by decide +kernel
theorem dX12_feed_30 : decode cX12_feed 30 = .ok (.iconst 4, 1) := by decide +kernel
theorem dX12_feed_31 : decode cX12_feed 31 = .ok (.invokevirtual 66, 3) := by decide +kernel
theorem dX12_feed_34 : decode cX12_feed 34 = .ok (.ireturn, 1) := by decide +kernel
theorem dX12_feed_35 : decode cX12_feed 35 = .ok (.iconst 0, 1) := by decide +kernel
theorem dX12_feed_36 : decode cX12_feed 36 = .ok (.istore 4, 2) := by decide +kernel
theorem dX12_feed_38 : decode cX12_feed 38 = .ok (.iload 4, 2) := by decide +kernel
theorem dX12_feed_40 : decode cX12_feed 40 = .ok (.iload_n 3, 1) := by decide +kernel
theorem dX12_feed_41 : decode cX12_feed 41 = .ok (.if_icmp .ge 46, 3) := by decide +kernel
theorem dX12_feed_44 : decode cX12_feed 44 = .ok (.aload_n 0, 1) := by decide +kernel
theorem dX12_feed_45 : decode cX12_feed 45 = .ok (.getfield 7, 3) := by decide +kernel
theorem dX12_feed_48 : decode cX12_feed 48 = .ok (.sipush 303, 3) := by decide +kernel
theorem dX12_feed_51 : decode cX12_feed 51 = .ok (.aload_n 0, 1) := by decide +kernel
theorem dX12_feed_52 : decode cX12_feed 52 = .ok (.getfield 7, 3) := by decide +kernel
theorem dX12_feed_55 : decode cX12_feed 55 = .ok (.iconst 2, 1) := by decide +kernel
theorem dX12_feed_56 : decode cX12_feed 56 = .ok (.iaload, 1) := by decide +kernel
theorem dX12_feed_57 : decode cX12_feed 57 = .ok (.iadd, 1) := by decide +kernel
theorem dX12_feed_58 : decode cX12_feed 58 = .ok (.lload_n 1, 1) := by decide +kernel
theorem dX12_feed_59 : decode cX12_feed 59 = .ok (.bipush 8, 2) := by decide +kernel
theorem dX12_feed_61 : decode cX12_feed 61 = .ok (.iload 4, 2) := by decide +kernel
theorem dX12_feed_63 : decode cX12_feed 63 = .ok (.imul, 1) := by decide +kernel
theorem dX12_feed_64 : decode cX12_feed 64 = .ok (.lshr, 1) := by decide +kernel
theorem dX12_feed_65 : decode cX12_feed 65 = .ok (.ldc2_w 70, 3) := by decide +kernel
theorem dX12_feed_68 : decode cX12_feed 68 = .ok (.land, 1) := by decide +kernel
theorem dX12_feed_69 : decode cX12_feed 69 = .ok (.l2i, 1) := by decide +kernel
theorem dX12_feed_70 : decode cX12_feed 70 = .ok (.iastore, 1) := by decide +kernel
theorem dX12_feed_71 : decode cX12_feed 71 = .ok (.aload_n 0, 1) := by decide +kernel
theorem dX12_feed_72 : decode cX12_feed 72 = .ok (.getfield 7, 3) := by decide +kernel
theorem dX12_feed_75 : decode cX12_feed 75 = .ok (.iconst 2, 1) := by decide +kernel
theorem dX12_feed_76 : decode cX12_feed 76 = .ok (.dup2, 1) := by decide +kernel
theorem dX12_feed_77 : decode cX12_feed 77 = .ok (.iaload, 1) := by decide +kernel
theorem dX12_feed_78 : decode cX12_feed 78 = .ok (.iconst 1, 1) := by decide +kernel
theorem dX12_feed_79 : decode cX12_feed 79 = .ok (.iadd, 1) := by decide +kernel
theorem dX12_feed_80 : decode cX12_feed 80 = .ok (.iastore, 1) := by decide +kernel
theorem dX12_feed_81 : decode cX12_feed 81 = .ok (.iinc 4 1, 3) := by decide +kernel
theorem dX12_feed_84 : decode cX12_feed 84 = .ok (.goto (-46), 3) := by decide +kernel
theorem dX12_feed_87 : decode cX12_feed 87 = .ok (.aload_n 0, 1) := by decide +kernel
theorem dX12_feed_88 : decode cX12_feed 88 = .ok (.getfield 7, 3) := by decide +kernel
theorem dX12_feed_91 : decode cX12_feed 91 = .ok (.iconst 2, 1) := by decide +kernel
theorem dX12_feed_92 : decode cX12_feed 92 = .ok (.iaload, 1) := by decide +kernel
theorem dX12_feed_93 : decode cX12_feed 93 = .ok (.ireturn, 1) := by decide +kernel
theorem dX12_look_0 : decode cX12_look 0 = .ok (.aload_n 0, 1) := by decide +kernel
theorem dX12_look_1 : decode cX12_look 1 = .ok (.getfield 72, 3) := by decide +kernel
theorem dX12_look_4 : decode cX12_look 4 = .ok (.aload_n 0, 1) := by decide +kernel
theorem dX12_look_5 : decode cX12_look 5 = .ok (.getfield 7, 3) := by decide +kernel
theorem dX12_look_8 : decode cX12_look 8 = .ok (.iconst 2, 1) := by decide +kernel
theorem dX12_look_9 : decode cX12_look 9 = .ok (.iaload, 1) := by decide +kernel
theorem dX12_look_10 : decode cX12_look 10 = .ok (.if_icmp .ge 19, 3) := by decide +kernel
theorem dX12_look_13 : decode cX12_look 13 = .ok (.aload_n 0, 1) := by decide +kernel
theorem dX12_look_14 : decode cX12_look 14 = .ok (.getfield 7, 3) := by decide +kernel
theorem dX12_look_17 : decode cX12_look 17 = .ok (.sipush 303, 3) := by decide +kernel
theorem dX12_look_20 : decode cX12_look 20 = .ok (.aload_n 0, 1) := by decide +kernel
theorem dX12_look_21 : decode cX12_look 21 = .ok (.getfield 72, 3) := by decide +kernel
theorem dX12_look_24 : decode cX12_look 24 = .ok (.iadd, 1) := by decide +kernel
theorem dX12_look_25 : decode cX12_look 25 = .ok (.iaload, 1) := by decide +kernel
theorem dX12_look_26 : decode cX12_look 26 = .ok (.goto 4, 3) := by decide +kernel
theorem dX12_look_29 : decode cX12_look 29 = .ok (.iconst (-1), 1) := by decide +kernel
theorem dX12_look_30 : decode cX12_look 30 = .ok (.ireturn, 1) := by decide +kernel
theorem dX12_isName_0 : decode cX12_isName 0 = .ok (.iload_n 1, 1) := by decide +kernel
theorem dX12_isName_1 : decode cX12_isName 1 = .ok (.bipush 109, 2) := by decide +kernel
theorem dX12_isName_3 : decode cX12_isName 3 = .ok (.if_icmp .eq 9, 3) := by decide +kernel
theorem dX12_isName_6 : decode cX12_isName 6 = .ok (.iload_n 1, 1) := by decide +kernel
theorem dX12_isName_7 : decode cX12_isName 7 = .ok (.bipush 112, 2) := by decide +kernel
theorem dX12_isName_9 : decode cX12_isName 9 = .ok (.if_icmp .ne 5, 3) := by decide +kernel
theorem dX12_isName_12 : decode cX12_isName 12 = .ok (.iconst 1, 1) := by decide +kernel
theorem dX12_isName_13 : decode cX12_isName 13 = .ok (.ireturn, 1) := by decide +kernel
theorem dX12_isName_14 : decode cX12_isName 14 = .ok (.aload_n 0, 1) := by decide +kernel
theorem dX12_isName_15 : decode cX12_isName 15 = .ok (.getfield 76, 3) := by decide +kernel
theorem dX12_isName_18 : decode cX12_isName 18 = .ok (.ifCond .ne 17, 3) := by decide +kernel
theorem dX12_isName_21 : decode cX12_isName 21 = .ok (.iload_n 1, 1) := by decide +kernel
theorem dX12_isName_22 : decode cX12_isName 22 = .ok (.bipush 115, 2) := by decide +kernel
theorem dX12_isName_24 : decode cX12_isName 24 = .ok (.if_icmp .ne 7, 3) := by decide +kernel
theorem dX12_isName_27 : decode cX12_isName 27 = .ok (.iconst 1, 1) := by decide +kernel
theorem dX12_isName_28 : decode cX12_isName 28 = .ok (.goto 18, 3) := by decide +kernel
theorem dX12_isName_31 : decode cX12_isName 31 = .ok (.iconst 0, 1) := by decide +kernel
theorem dX12_isName_32 : decode cX12_isName 32 = .ok (.goto 14, 3) := by decide +kernel
theorem dX12_isName_35 : decode cX12_isName 35 = .ok (.iload_n 1, 1) := by decide +kernel
theorem dX12_isName_36 : decode cX12_isName 36 = .ok (.bipush 100, 2) := by decide +kernel
theorem dX12_isName_38 : decode cX12_isName 38 = .ok (.if_icmp .ne 7, 3) := by decide +kernel
theorem dX12_isName_41 : decode cX12_isName 41 = .ok (.iconst 1, 1) := by decide +kernel
theorem dX12_isName_42 : decode cX12_isName 42 = .ok (.goto 4, 3) := by decide +kernel
theorem dX12_isName_45 : decode cX12_isName 45 = .ok (.iconst 0, 1) := by decide +kernel
theorem dX12_isName_46 : decode cX12_isName 46 = .ok (.ireturn, 1) := by decide +kernel
theorem dX12_step1_0 : decode cX12_step1 0 = .ok (.aload_n 0, 1) := by decide +kernel
theorem dX12_step1_1 : decode cX12_step1 1 = .ok (.getfield 22, 3) := by decide +kernel
theorem dX12_step1_4 : decode cX12_step1 4 = .ok (.iconst 2, 1) := by decide +kernel
theorem dX12_step1_5 : decode cX12_step1 5 = .ok (.aload_n 0, 1) := by decide +kernel
theorem dX12_step1_6 : decode cX12_step1 6 = .ok (.getfield 79, 3) := by decide +kernel
theorem dX12_step1_9 : decode cX12_step1 9 = .ok (.imul, 1) := by decide +kernel
theorem dX12_step1_10 : decode cX12_step1 10 = .ok (.iload_n 1, 1) := by decide +kernel
theorem dX12_step1_11 : decode cX12_step1 11 = .ok (.iastore, 1) := by decide +kernel
theorem dX12_step1_12 : decode cX12_step1 12 = .ok (.aload_n 0, 1) := by decide +kernel
theorem dX12_step1_13 : decode cX12_step1 13 = .ok (.getfield 22, 3) := by decide +kernel
theorem dX12_step1_16 : decode cX12_step1 16 = .ok (.iconst 2, 1) := by decide +kernel
theorem dX12_step1_17 : decode cX12_step1 17 = .ok (.aload_n 0, 1) := by decide +kernel
theorem dX12_step1_18 : decode cX12_step1 18 = .ok (.getfield 79, 3) := by decide +kernel
theorem dX12_step1_21 : decode cX12_step1 21 = .ok (.imul, 1) := by decide +kernel
theorem dX12_step1_22 : decode cX12_step1 22 = .ok (.iconst 1, 1) := by decide +kernel
theorem dX12_step1_23 : decode cX12_step1 23 = .ok (.iadd, 1) := by decide +kernel
theorem dX12_step1_24 : decode cX12_step1 24 = .ok (.iload_n 2, 1) := by decide +kernel
theorem dX12_step1_25 : decode cX12_step1 25 = .ok (.iastore, 1) := by decide +kernel
theorem dX12_step1_26 : decode cX12_step1 26 = .ok (.aload_n 0, 1) := by decide +kernel
theorem dX12_step1_27 : decode cX12_step1 27 = .ok (.dup, 1) := by decide +kernel
theorem dX12_step1_28 : decode cX12_step1 28 = .ok (.getfield 79, 3) := by decide +kernel
theorem dX12_step1_31 : decode cX12_step1 31 = .ok (.iconst 1, 1) := by decide +kernel
theorem dX12_step1_32 : decode cX12_step1 32 = .ok (.iadd, 1) := by decide +kernel
theorem dX12_step1_33 : decode cX12_step1 33 = .ok (.putfield 79, 3) := by decide +kernel
theorem dX12_step1_36 : decode cX12_step1 36 = .ok (.return_, 1) := by decide +kernel
theorem dX12_opens_0 : decode cX12_opens 0 = .ok (.aload_n 0, 1) := by decide +kernel
theorem dX12_opens_1 : decode cX12_opens 1 = .ok (.getfield 106, 3) := by decide +kernel
theorem dX12_opens_4 : decode cX12_opens 4 = .ok (.iconst 5, 1) := by decide +kernel
theorem dX12_opens_5 : decode cX12_opens 5 = .ok (.if_icmp .ne 5, 3) := by decide +kernel
theorem dX12_opens_8 : decode cX12_opens 8 = .ok (.iconst 0, 1) := by decide +kernel
theorem dX12_opens_9 : decode cX12_opens 9 = .ok (.ireturn, 1) := by decide +kernel
theorem dX12_opens_10 : decode cX12_opens 10 = .ok (.aload_n 0, 1) := by decide +kernel
theorem dX12_opens_11 : decode cX12_opens 11 = .ok (.dup, 1) := by decide +kernel
theorem dX12_opens_12 : decode cX12_opens 12 = .ok (.getfield 106, 3) := by decide +kernel
theorem dX12_opens_15 : decode cX12_opens 15 = .ok (.iconst 1, 1) := by decide +kernel
theorem dX12_opens_16 : decode cX12_opens 16 = .ok (.iadd, 1) := by decide +kernel
theorem dX12_opens_17 : decode cX12_opens 17 = .ok (.putfield 106, 3) := by decide +kernel
theorem dX12_opens_20 : decode cX12_opens 20 = .ok (.aload_n 0, 1) := by decide +kernel
theorem dX12_opens_21 : decode cX12_opens 21 = .ok (.dup, 1) := by decide +kernel
theorem dX12_opens_22 : decode cX12_opens 22 = .ok (.getfield 72, 3) := by decide +kernel
theorem dX12_opens_25 : decode cX12_opens 25 = .ok (.iconst 1, 1) := by decide +kernel
theorem dX12_opens_26 : decode cX12_opens 26 = .ok (.iadd, 1) := by decide +kernel
theorem dX12_opens_27 : decode cX12_opens 27 = .ok (.putfield 72, 3) := by decide +kernel
theorem dX12_opens_30 : decode cX12_opens 30 = .ok (.iconst 1, 1) := by decide +kernel
theorem dX12_opens_31 : decode cX12_opens 31 = .ok (.ireturn, 1) := by decide +kernel
theorem dX12_hasText_0 : decode cX12_hasText 0 = .ok (.aload_n 0, 1) := by decide +kernel
theorem dX12_hasText_1 : decode cX12_hasText 1 = .ok (.getfield 7, 3) := by decide +kernel
theorem dX12_hasText_4 : decode cX12_hasText 4 = .ok (.bipush 53, 2) := by decide +kernel
theorem dX12_hasText_6 : decode cX12_hasText 6 = .ok (.bipush 125, 2) := by decide +kernel
theorem dX12_hasText_8 : decode cX12_hasText 8 = .ok (.iload_n 1, 1) := by decide +kernel
theorem dX12_hasText_9 : decode cX12_hasText 9 = .ok (.imul, 1) := by decide +kernel
theorem dX12_hasText_10 : decode cX12_hasText 10 = .ok (.iadd, 1) := by decide +kernel
theorem dX12_hasText_11 : decode cX12_hasText 11 = .ok (.iaload, 1) := by decide +kernel
theorem dX12_hasText_12 : decode cX12_hasText 12 = .ok (.ifCond .le 7, 3) := by decide +kernel
theorem dX12_hasText_15 : decode cX12_hasText 15 = .ok (.iconst 1, 1) := by decide +kernel
theorem dX12_hasText_16 : decode cX12_hasText 16 = .ok (.goto 4, 3) := by decide +kernel
theorem dX12_hasText_19 : decode cX12_hasText 19 = .ok (.iconst 0, 1) := by decide +kernel
theorem dX12_hasText_20 : decode cX12_hasText 20 = .ok (.ireturn, 1) := by decide +kernel
theorem dX12_untell_0 : decode cX12_untell 0 = .ok (.iload_n 1, 1) := by decide +kernel
theorem dX12_untell_1 : decode cX12_untell 1 = .ok (.iconst 0, 1) := by decide +kernel
theorem dX12_untell_2 : decode cX12_untell 2 = .ok (.iconst 1, 1) := by decide +kernel
theorem dX12_untell_3 : decode cX12_untell 3 = .ok (.invokestatic 54, 3) := by decide +kernel
theorem dX12_untell_6 : decode cX12_untell 6 = .ok (.ifCond .ne 9, 3) := by decide +kernel
theorem dX12_untell_9 : decode cX12_untell 9 = .ok (.aload_n 0, 1) := by decide +kernel
theorem dX12_untell_10 : decode cX12_untell 10 = .ok (.iconst 1, 1) := by decide +kernel
theorem dX12_untell_11 : decode cX12_untell 11 = .ok (.invokevirtual 66, 3) := by decide +kernel
theorem dX12_untell_14 : decode cX12_untell 14 = .ok (.ireturn, 1) := by decide +kernel
theorem dX12_untell_15 : decode cX12_untell 15 = .ok (.aload_n 0, 1) := by decide +kernel
theorem dX12_untell_16 : decode cX12_untell 16 = .ok (.iload_n 1, 1) := by decide +kernel
theorem dX12_untell_17 : decode cX12_untell 17 = .ok (.invokevirtual 118, 3) := by decide +kernel
theorem dX12_untell_20 : decode cX12_untell 20 = .ok (.ifCond .eq 7, 3) := by decide +kernel
theorem dX12_untell_23 : decode cX12_untell 23 = .ok (.iconst 1, 1) := by decide +kernel
theorem dX12_untell_24 : decode cX12_untell 24 = .ok (.goto 4, 3) := by decide +kernel
theorem dX12_untell_27 : decode cX12_untell 27 = .ok (.iconst 0, 1) := by decide +kernel
theorem dX12_untell_28 : decode cX12_untell 28 = .ok (.istore_n 2, 1) := by decide +kernel
theorem dX12_untell_29 : decode cX12_untell 29 = .ok (.aload_n 0, 1) := by decide +kernel
theorem dX12_untell_30 : decode cX12_untell 30 = .ok (.getfield 7, 3) := by decide +kernel
theorem dX12_untell_33 : decode cX12_untell 33 = .ok (.bipush 53, 2) := by decide +kernel
theorem dX12_untell_35 : decode cX12_untell 35 = .ok (.bipush 125, 2) := by decide +kernel
theorem dX12_untell_37 : decode cX12_untell 37 = .ok (.iload_n 1, 1) := by decide +kernel
theorem dX12_untell_38 : decode cX12_untell 38 = .ok (.imul, 1) := by decide +kernel
theorem dX12_untell_39 : decode cX12_untell 39 = .ok (.iadd, 1) := by decide +kernel
theorem dX12_untell_40 : decode cX12_untell 40 = .ok (.iconst 0, 1) := by decide +kernel
theorem dX12_untell_41 : decode cX12_untell 41 = .ok (.iastore, 1) := by decide +kernel
theorem dX12_untell_42 : decode cX12_untell 42 = .ok (.iload_n 2, 1) := by decide +kernel
theorem dX12_untell_43 : decode cX12_untell 43 = .ok (.ireturn, 1) := by decide +kernel
theorem dX12_joined_0 : decode cX12_joined 0 = .ok (.iload_n 0, 1) := by decide +kernel
theorem dX12_joined_1 : decode cX12_joined 1 = .ok (.tableswitch 217 37 62 #[153, 203, 217, 217, 217, 127, 119, 217, 123, 217, 131, 217, 217, 217, 217, 217, 217, 217, 217, 217, 217, 217, 217, 170, 192, 181], 119) := by decide +kernel
theorem dX12_joined_120 : decode cX12_joined 120 = .ok (.iload_n 1, 1) := by decide +kernel
theorem dX12_joined_121 : decode cX12_joined 121 = .ok (.iload_n 2, 1) := by decide +kernel
theorem dX12_joined_122 : decode cX12_joined 122 = .ok (.iadd, 1) := by decide +kernel
theorem dX12_joined_123 : decode cX12_joined 123 = .ok (.ireturn, 1) := by decide +kernel
theorem dX12_joined_124 : decode cX12_joined 124 = .ok (.iload_n 1, 1) := by decide +kernel
theorem dX12_joined_125 : decode cX12_joined 125 = .ok (.iload_n 2, 1) := by decide +kernel
theorem dX12_joined_126 : decode cX12_joined 126 = .ok (.isub, 1) := by decide +kernel
theorem dX12_joined_127 : decode cX12_joined 127 = .ok (.ireturn, 1) := by decide +kernel
theorem dX12_joined_128 : decode cX12_joined 128 = .ok (.iload_n 1, 1) := by decide +kernel
theorem dX12_joined_129 : decode cX12_joined 129 = .ok (.iload_n 2, 1) := by decide +kernel
theorem dX12_joined_130 : decode cX12_joined 130 = .ok (.imul, 1) := by decide +kernel
theorem dX12_joined_131 : decode cX12_joined 131 = .ok (.ireturn, 1) := by decide +kernel
theorem dX12_joined_132 : decode cX12_joined 132 = .ok (.iload_n 2, 1) := by decide +kernel
theorem dX12_joined_133 : decode cX12_joined 133 = .ok (.ifCond .ne 7, 3) := by decide +kernel
theorem dX12_joined_136 : decode cX12_joined 136 = .ok (.iconst 0, 1) := by decide +kernel
theorem dX12_joined_137 : decode cX12_joined 137 = .ok (.goto 16, 3) := by decide +kernel
theorem dX12_joined_140 : decode cX12_joined 140 = .ok (.iload_n 2, 1) := by decide +kernel
theorem dX12_joined_141 : decode cX12_joined 141 = .ok (.iconst (-1), 1) := by decide +kernel
theorem dX12_joined_142 : decode cX12_joined 142 = .ok (.if_icmp .ne 8, 3) := by decide +kernel
theorem dX12_joined_145 : decode cX12_joined 145 = .ok (.iload_n 1, 1) := by decide +kernel
theorem dX12_joined_146 : decode cX12_joined 146 = .ok (.ineg, 1) := by decide +kernel
theorem dX12_joined_147 : decode cX12_joined 147 = .ok (.goto 6, 3) := by decide +kernel
theorem dX12_joined_150 : decode cX12_joined 150 = .ok (.iload_n 1, 1) := by decide +kernel
theorem dX12_joined_151 : decode cX12_joined 151 = .ok (.iload_n 2, 1) := by decide +kernel
theorem dX12_joined_152 : decode cX12_joined 152 = .ok (.idiv, 1) := by decide +kernel
theorem dX12_joined_153 : decode cX12_joined 153 = .ok (.ireturn, 1) := by decide +kernel
theorem dX12_joined_154 : decode cX12_joined 154 = .ok (.iload_n 2, 1) := by decide +kernel
theorem dX12_joined_155 : decode cX12_joined 155 = .ok (.ifCond .eq 8, 3) := by decide +kernel
theorem dX12_joined_158 : decode cX12_joined 158 = .ok (.iload_n 2, 1) := by decide +kernel
theorem dX12_joined_159 : decode cX12_joined 159 = .ok (.iconst (-1), 1) := by decide +kernel
theorem dX12_joined_160 : decode cX12_joined 160 = .ok (.if_icmp .ne 7, 3) := by decide +kernel
theorem dX12_joined_163 : decode cX12_joined 163 = .ok (.iconst 0, 1) := by decide +kernel
theorem dX12_joined_164 : decode cX12_joined 164 = .ok (.goto 6, 3) := by decide +kernel
theorem dX12_joined_167 : decode cX12_joined 167 = .ok (.iload_n 1, 1) := by decide +kernel
theorem dX12_joined_168 : decode cX12_joined 168 = .ok (.iload_n 2, 1) := by decide +kernel
theorem dX12_joined_169 : decode cX12_joined 169 = .ok (.irem, 1) := by decide +kernel
theorem dX12_joined_170 : decode cX12_joined 170 = .ok (.ireturn, 1) := by decide +kernel
theorem dX12_joined_171 : decode cX12_joined 171 = .ok (.iload_n 1, 1) := by decide +kernel
theorem dX12_joined_172 : decode cX12_joined 172 = .ok (.iload_n 2, 1) := by decide +kernel
theorem dX12_joined_173 : decode cX12_joined 173 = .ok (.if_icmp .ge 7, 3) := by decide +kernel
theorem dX12_joined_176 : decode cX12_joined 176 = .ok (.iconst 1, 1) := by decide +kernel
theorem dX12_joined_177 : decode cX12_joined 177 = .ok (.goto 4, 3) := by decide +kernel
theorem dX12_joined_180 : decode cX12_joined 180 = .ok (.iconst 0, 1) := by decide +kernel
theorem dX12_joined_181 : decode cX12_joined 181 = .ok (.ireturn, 1) := by decide +kernel
theorem dX12_joined_182 : decode cX12_joined 182 = .ok (.iload_n 1, 1) := by decide +kernel
theorem dX12_joined_183 : decode cX12_joined 183 = .ok (.iload_n 2, 1) := by decide +kernel
theorem dX12_joined_184 : decode cX12_joined 184 = .ok (.if_icmp .le 7, 3) := by decide +kernel
theorem dX12_joined_187 : decode cX12_joined 187 = .ok (.iconst 1, 1) := by decide +kernel
theorem dX12_joined_188 : decode cX12_joined 188 = .ok (.goto 4, 3) := by decide +kernel
theorem dX12_joined_191 : decode cX12_joined 191 = .ok (.iconst 0, 1) := by decide +kernel
theorem dX12_joined_192 : decode cX12_joined 192 = .ok (.ireturn, 1) := by decide +kernel
theorem dX12_joined_193 : decode cX12_joined 193 = .ok (.iload_n 1, 1) := by decide +kernel
theorem dX12_joined_194 : decode cX12_joined 194 = .ok (.iload_n 2, 1) := by decide +kernel
theorem dX12_joined_195 : decode cX12_joined 195 = .ok (.if_icmp .ne 7, 3) := by decide +kernel
theorem dX12_joined_198 : decode cX12_joined 198 = .ok (.iconst 1, 1) := by decide +kernel
theorem dX12_joined_199 : decode cX12_joined 199 = .ok (.goto 4, 3) := by decide +kernel
theorem dX12_joined_202 : decode cX12_joined 202 = .ok (.iconst 0, 1) := by decide +kernel
theorem dX12_joined_203 : decode cX12_joined 203 = .ok (.ireturn, 1) := by decide +kernel
theorem dX12_joined_204 : decode cX12_joined 204 = .ok (.iload_n 1, 1) := by decide +kernel
theorem dX12_joined_205 : decode cX12_joined 205 = .ok (.ifCond .eq 11, 3) := by decide +kernel
theorem dX12_joined_208 : decode cX12_joined 208 = .ok (.iload_n 2, 1) := by decide +kernel
theorem dX12_joined_209 : decode cX12_joined 209 = .ok (.ifCond .eq 7, 3) := by decide +kernel
theorem dX12_joined_212 : decode cX12_joined 212 = .ok (.iconst 1, 1) := by decide +kernel
theorem dX12_joined_213 : decode cX12_joined 213 = .ok (.goto 4, 3) := by decide +kernel
theorem dX12_joined_216 : decode cX12_joined 216 = .ok (.iconst 0, 1) := by decide +kernel
theorem dX12_joined_217 : decode cX12_joined 217 = .ok (.ireturn, 1) := by decide +kernel
theorem dX12_joined_218 : decode cX12_joined 218 = .ok (.iload_n 1, 1) := by decide +kernel
theorem dX12_joined_219 : decode cX12_joined 219 = .ok (.ifCond .ne 7, 3) := by decide +kernel
theorem dX12_joined_222 : decode cX12_joined 222 = .ok (.iload_n 2, 1) := by decide +kernel
theorem dX12_joined_223 : decode cX12_joined 223 = .ok (.ifCond .eq 7, 3) := by decide +kernel
theorem dX12_joined_226 : decode cX12_joined 226 = .ok (.iconst 1, 1) := by decide +kernel
theorem dX12_joined_227 : decode cX12_joined 227 = .ok (.goto 4, 3) := by decide +kernel
theorem dX12_joined_230 : decode cX12_joined 230 = .ok (.iconst 0, 1) := by decide +kernel
theorem dX12_joined_231 : decode cX12_joined 231 = .ok (.ireturn, 1) := by decide +kernel
theorem dX12_worked_0 : decode cX12_worked 0 = .ok (.bipush 53, 2) := by decide +kernel
theorem dX12_worked_2 : decode cX12_worked 2 = .ok (.bipush 125, 2) := by decide +kernel
theorem dX12_worked_4 : decode cX12_worked 4 = .ok (.iload_n 1, 1) := by decide +kernel
theorem dX12_worked_5 : decode cX12_worked 5 = .ok (.imul, 1) := by decide +kernel
theorem dX12_worked_6 : decode cX12_worked 6 = .ok (.iadd, 1) := by decide +kernel
theorem dX12_worked_7 : decode cX12_worked 7 = .ok (.istore_n 2, 1) := by decide +kernel
theorem dX12_worked_8 : decode cX12_worked 8 = .ok (.iconst 0, 1) := by decide +kernel
theorem dX12_worked_9 : decode cX12_worked 9 = .ok (.istore_n 3, 1) := by decide +kernel
theorem dX12_worked_10 : decode cX12_worked 10 = .ok (.iconst 0, 1) := by decide +kernel
theorem dX12_worked_11 : decode cX12_worked 11 = .ok (.istore 4, 2) := by decide +kernel
theorem dX12_worked_13 : decode cX12_worked 13 = .ok (.iload 4, 2) := by decide +kernel
theorem dX12_worked_15 : decode cX12_worked 15 = .ok (.aload_n 0, 1) := by decide +kernel
theorem dX12_worked_16 : decode cX12_worked 16 = .ok (.getfield 7, 3) := by decide +kernel
theorem dX12_worked_19 : decode cX12_worked 19 = .ok (.iload_n 2, 1) := by decide +kernel
theorem dX12_worked_20 : decode cX12_worked 20 = .ok (.iaload, 1) := by decide +kernel
theorem dX12_worked_21 : decode cX12_worked 21 = .ok (.if_icmp .ge 142, 3) := by decide +kernel
theorem dX12_worked_24 : decode cX12_worked 24 = .ok (.aload_n 0, 1) := by decide +kernel
theorem dX12_worked_25 : decode cX12_worked 25 = .ok (.getfield 7, 3) := by decide +kernel
theorem dX12_worked_28 : decode cX12_worked 28 = .ok (.iload_n 2, 1) := by decide +kernel
theorem dX12_worked_29 : decode cX12_worked 29 = .ok (.iconst 1, 1) := by decide +kernel
theorem dX12_worked_30 : decode cX12_worked 30 = .ok (.iadd, 1) := by decide +kernel
theorem dX12_worked_31 : decode cX12_worked 31 = .ok (.iconst 2, 1) := by decide +kernel
theorem dX12_worked_32 : decode cX12_worked 32 = .ok (.iload 4, 2) := by decide +kernel
theorem dX12_worked_34 : decode cX12_worked 34 = .ok (.imul, 1) := by decide +kernel
theorem dX12_worked_35 : decode cX12_worked 35 = .ok (.iadd, 1) := by decide +kernel
theorem dX12_worked_36 : decode cX12_worked 36 = .ok (.iaload, 1) := by decide +kernel
theorem dX12_worked_37 : decode cX12_worked 37 = .ok (.istore 5, 2) := by decide +kernel
theorem dX12_worked_39 : decode cX12_worked 39 = .ok (.aload_n 0, 1) := by decide +kernel
theorem dX12_worked_40 : decode cX12_worked 40 = .ok (.getfield 7, 3) := by decide +kernel
theorem dX12_worked_43 : decode cX12_worked 43 = .ok (.iload_n 2, 1) := by decide +kernel
theorem dX12_worked_44 : decode cX12_worked 44 = .ok (.iconst 2, 1) := by decide +kernel
theorem dX12_worked_45 : decode cX12_worked 45 = .ok (.iadd, 1) := by decide +kernel
theorem dX12_worked_46 : decode cX12_worked 46 = .ok (.iconst 2, 1) := by decide +kernel
theorem dX12_worked_47 : decode cX12_worked 47 = .ok (.iload 4, 2) := by decide +kernel
theorem dX12_worked_49 : decode cX12_worked 49 = .ok (.imul, 1) := by decide +kernel
theorem dX12_worked_50 : decode cX12_worked 50 = .ok (.iadd, 1) := by decide +kernel
theorem dX12_worked_51 : decode cX12_worked 51 = .ok (.iaload, 1) := by decide +kernel
theorem dX12_worked_52 : decode cX12_worked 52 = .ok (.istore 6, 2) := by decide +kernel
theorem dX12_worked_54 : decode cX12_worked 54 = .ok (.iload 5, 2) := by decide +kernel
theorem dX12_worked_56 : decode cX12_worked 56 = .ok (.ifCond .eq 9, 3) := by decide +kernel
theorem dX12_worked_59 : decode cX12_worked 59 = .ok (.iload 5, 2) := by decide +kernel
theorem dX12_worked_61 : decode cX12_worked 61 = .ok (.iconst 1, 1) := by decide +kernel
theorem dX12_worked_62 : decode cX12_worked 62 = .ok (.if_icmp .ne 32, 3) := by decide +kernel
theorem dX12_worked_65 : decode cX12_worked 65 = .ok (.aload_n 0, 1) := by decide +kernel
theorem dX12_worked_66 : decode cX12_worked 66 = .ok (.getfield 28, 3) := by decide +kernel
theorem dX12_worked_69 : decode cX12_worked 69 = .ok (.iload_n 3, 1) := by decide +kernel
theorem dX12_worked_70 : decode cX12_worked 70 = .ok (.iload 5, 2) := by decide +kernel
theorem dX12_worked_72 : decode cX12_worked 72 = .ok (.ifCond .ne 8, 3) := by decide +kernel
theorem dX12_worked_75 : decode cX12_worked 75 = .ok (.iload 6, 2) := by decide +kernel
theorem dX12_worked_77 : decode cX12_worked 77 = .ok (.goto 10, 3) := by decide +kernel
theorem dX12_worked_80 : decode cX12_worked 80 = .ok (.aload_n 0, 1) := by decide +kernel
theorem dX12_worked_81 : decode cX12_worked 81 = .ok (.getfield 25, 3) := by decide +kernel
theorem dX12_worked_84 : decode cX12_worked 84 = .ok (.iload 6, 2) := by decide +kernel
theorem dX12_worked_86 : decode cX12_worked 86 = .ok (.iaload, 1) := by decide +kernel
theorem dX12_worked_87 : decode cX12_worked 87 = .ok (.iastore, 1) := by decide +kernel
theorem dX12_worked_88 : decode cX12_worked 88 = .ok (.iinc 3 1, 3) := by decide +kernel
theorem dX12_worked_91 : decode cX12_worked 91 = .ok (.goto 66, 3) := by decide +kernel
theorem dX12_worked_94 : decode cX12_worked 94 = .ok (.iload 5, 2) := by decide +kernel
theorem dX12_worked_96 : decode cX12_worked 96 = .ok (.iconst 2, 1) := by decide +kernel
theorem dX12_worked_97 : decode cX12_worked 97 = .ok (.if_icmp .ne 30, 3) := by decide +kernel
theorem dX12_worked_100 : decode cX12_worked 100 = .ok (.aload_n 0, 1) := by decide +kernel
theorem dX12_worked_101 : decode cX12_worked 101 = .ok (.getfield 28, 3) := by decide +kernel
theorem dX12_worked_104 : decode cX12_worked 104 = .ok (.iload_n 3, 1) := by decide +kernel
theorem dX12_worked_105 : decode cX12_worked 105 = .ok (.iconst 1, 1) := by decide +kernel
theorem dX12_worked_106 : decode cX12_worked 106 = .ok (.isub, 1) := by decide +kernel
theorem dX12_worked_107 : decode cX12_worked 107 = .ok (.aload_n 0, 1) := by decide +kernel
theorem dX12_worked_108 : decode cX12_worked 108 = .ok (.getfield 28, 3) := by decide +kernel
theorem dX12_worked_111 : decode cX12_worked 111 = .ok (.iload_n 3, 1) := by decide +kernel
theorem dX12_worked_112 : decode cX12_worked 112 = .ok (.iconst 1, 1) := by decide +kernel
theorem dX12_worked_113 : decode cX12_worked 113 = .ok (.isub, 1) := by decide +kernel
theorem dX12_worked_114 : decode cX12_worked 114 = .ok (.iaload, 1) := by decide +kernel
theorem dX12_worked_115 : decode cX12_worked 115 = .ok (.ifCond .ne 7, 3) := by decide +kernel
theorem dX12_worked_118 : decode cX12_worked 118 = .ok (.iconst 1, 1) := by decide +kernel
theorem dX12_worked_119 : decode cX12_worked 119 = .ok (.goto 4, 3) := by decide +kernel
theorem dX12_worked_122 : decode cX12_worked 122 = .ok (.iconst 0, 1) := by decide +kernel
theorem dX12_worked_123 : decode cX12_worked 123 = .ok (.iastore, 1) := by decide +kernel
theorem dX12_worked_124 : decode cX12_worked 124 = .ok (.goto 33, 3) := by decide +kernel
theorem dX12_worked_127 : decode cX12_worked 127 = .ok (.iinc 3 (-1), 3) := by decide +kernel
theorem dX12_worked_130 : decode cX12_worked 130 = .ok (.aload_n 0, 1) := by decide +kernel
theorem dX12_worked_131 : decode cX12_worked 131 = .ok (.getfield 28, 3) := by decide +kernel
theorem dX12_worked_134 : decode cX12_worked 134 = .ok (.iload_n 3, 1) := by decide +kernel
theorem dX12_worked_135 : decode cX12_worked 135 = .ok (.iconst 1, 1) := by decide +kernel
theorem dX12_worked_136 : decode cX12_worked 136 = .ok (.isub, 1) := by decide +kernel
theorem dX12_worked_137 : decode cX12_worked 137 = .ok (.iload 6, 2) := by decide +kernel
theorem dX12_worked_139 : decode cX12_worked 139 = .ok (.aload_n 0, 1) := by decide +kernel
theorem dX12_worked_140 : decode cX12_worked 140 = .ok (.getfield 28, 3) := by decide +kernel
theorem dX12_worked_143 : decode cX12_worked 143 = .ok (.iload_n 3, 1) := by decide +kernel
theorem dX12_worked_144 : decode cX12_worked 144 = .ok (.iconst 1, 1) := by decide +kernel
theorem dX12_worked_145 : decode cX12_worked 145 = .ok (.isub, 1) := by decide +kernel
theorem dX12_worked_146 : decode cX12_worked 146 = .ok (.iaload, 1) := by decide +kernel
theorem dX12_worked_147 : decode cX12_worked 147 = .ok (.aload_n 0, 1) := by decide +kernel
theorem dX12_worked_148 : decode cX12_worked 148 = .ok (.getfield 28, 3) := by decide +kernel
theorem dX12_worked_151 : decode cX12_worked 151 = .ok (.iload_n 3, 1) := by decide +kernel
theorem dX12_worked_152 : decode cX12_worked 152 = .ok (.iaload, 1) := by decide +kernel
theorem dX12_worked_153 : decode cX12_worked 153 = .ok (.invokestatic 121, 3) := by decide +kernel
theorem dX12_worked_156 : decode cX12_worked 156 = .ok (.iastore, 1) := by decide +kernel
theorem dX12_worked_157 : decode cX12_worked 157 = .ok (.iinc 4 1, 3) := by decide +kernel
theorem dX12_worked_160 : decode cX12_worked 160 = .ok (.goto (-147), 3) := by decide +kernel
theorem dX12_worked_163 : decode cX12_worked 163 = .ok (.aload_n 0, 1) := by decide +kernel
theorem dX12_worked_164 : decode cX12_worked 164 = .ok (.getfield 28, 3) := by decide +kernel
theorem dX12_worked_167 : decode cX12_worked 167 = .ok (.iconst 0, 1) := by decide +kernel
theorem dX12_worked_168 : decode cX12_worked 168 = .ok (.iaload, 1) := by decide +kernel
theorem dX12_worked_169 : decode cX12_worked 169 = .ok (.ireturn, 1) := by decide +kernel
theorem dX12_spendsTold_0 : decode cX12_spendsTold 0 = .ok (.aload_n 0, 1) := by decide +kernel
theorem dX12_spendsTold_1 : decode cX12_spendsTold 1 = .ok (.iconst 0, 1) := by decide +kernel
theorem dX12_spendsTold_2 : decode cX12_spendsTold 2 = .ok (.invokevirtual 118, 3) := by decide +kernel
theorem dX12_spendsTold_5 : decode cX12_spendsTold 5 = .ok (.ifCond .ne 12, 3) := by decide +kernel
theorem dX12_spendsTold_8 : decode cX12_spendsTold 8 = .ok (.iconst 1, 1) := by decide +kernel
theorem dX12_spendsTold_9 : decode cX12_spendsTold 9 = .ok (.aload_n 0, 1) := by decide +kernel
theorem dX12_spendsTold_10 : decode cX12_spendsTold 10 = .ok (.getfield 7, 3) := by decide +kernel
theorem dX12_spendsTold_13 : decode cX12_spendsTold 13 = .ok (.iconst 1, 1) := by decide +kernel
theorem dX12_spendsTold_14 : decode cX12_spendsTold 14 = .ok (.iaload, 1) := by decide +kernel
theorem dX12_spendsTold_15 : decode cX12_spendsTold 15 = .ok (.iadd, 1) := by decide +kernel
theorem dX12_spendsTold_16 : decode cX12_spendsTold 16 = .ok (.ireturn, 1) := by decide +kernel
theorem dX12_spendsTold_17 : decode cX12_spendsTold 17 = .ok (.aload_n 0, 1) := by decide +kernel
theorem dX12_spendsTold_18 : decode cX12_spendsTold 18 = .ok (.getfield 25, 3) := by decide +kernel
theorem dX12_spendsTold_21 : decode cX12_spendsTold 21 = .ok (.bipush 115, 2) := by decide +kernel
theorem dX12_spendsTold_23 : decode cX12_spendsTold 23 = .ok (.aload_n 0, 1) := by decide +kernel
theorem dX12_spendsTold_24 : decode cX12_spendsTold 24 = .ok (.getfield 7, 3) := by decide +kernel
theorem dX12_spendsTold_27 : decode cX12_spendsTold 27 = .ok (.iconst 1, 1) := by decide +kernel
theorem dX12_spendsTold_28 : decode cX12_spendsTold 28 = .ok (.iaload, 1) := by decide +kernel
theorem dX12_spendsTold_29 : decode cX12_spendsTold 29 = .ok (.iastore, 1) := by decide +kernel
theorem dX12_spendsTold_30 : decode cX12_spendsTold 30 = .ok (.aload_n 0, 1) := by decide +kernel
theorem dX12_spendsTold_31 : decode cX12_spendsTold 31 = .ok (.getfield 25, 3) := by decide +kernel
theorem dX12_spendsTold_34 : decode cX12_spendsTold 34 = .ok (.bipush 112, 2) := by decide +kernel
theorem dX12_spendsTold_36 : decode cX12_spendsTold 36 = .ok (.aload_n 0, 1) := by decide +kernel
theorem dX12_spendsTold_37 : decode cX12_spendsTold 37 = .ok (.iload_n 1, 1) := by decide +kernel
theorem dX12_spendsTold_38 : decode cX12_spendsTold 38 = .ok (.iconst 3, 1) := by decide +kernel
theorem dX12_spendsTold_39 : decode cX12_spendsTold 39 = .ok (.invokevirtual 58, 3) := by decide +kernel
theorem dX12_spendsTold_42 : decode cX12_spendsTold 42 = .ok (.iastore, 1) := by decide +kernel
theorem dX12_spendsTold_43 : decode cX12_spendsTold 43 = .ok (.aload_n 0, 1) := by decide +kernel
theorem dX12_spendsTold_44 : decode cX12_spendsTold 44 = .ok (.getfield 25, 3) := by decide +kernel
theorem dX12_spendsTold_47 : decode cX12_spendsTold 47 = .ok (.bipush 109, 2) := by decide +kernel
theorem dX12_spendsTold_49 : decode cX12_spendsTold 49 = .ok (.aload_n 0, 1) := by decide +kernel
theorem dX12_spendsTold_50 : decode cX12_spendsTold 50 = .ok (.iload_n 1, 1) := by decide +kernel
theorem dX12_spendsTold_51 : decode cX12_spendsTold 51 = .ok (.iconst 1, 1) := by decide +kernel
theorem dX12_spendsTold_52 : decode cX12_spendsTold 52 = .ok (.invokevirtual 58, 3) := by decide +kernel
theorem dX12_spendsTold_55 : decode cX12_spendsTold 55 = .ok (.iastore, 1) := by decide +kernel
theorem dX12_spendsTold_56 : decode cX12_spendsTold 56 = .ok (.aload_n 0, 1) := by decide +kernel
theorem dX12_spendsTold_57 : decode cX12_spendsTold 57 = .ok (.iconst 0, 1) := by decide +kernel
theorem dX12_spendsTold_58 : decode cX12_spendsTold 58 = .ok (.invokevirtual 125, 3) := by decide +kernel
theorem dX12_spendsTold_61 : decode cX12_spendsTold 61 = .ok (.ireturn, 1) := by decide +kernel
theorem dX12_spends_0 : decode cX12_spends 0 = .ok (.aload_n 0, 1) := by decide +kernel
theorem dX12_spends_1 : decode cX12_spends 1 = .ok (.iload_n 1, 1) := by decide +kernel
theorem dX12_spends_2 : decode cX12_spends 2 = .ok (.iconst 1, 1) := by decide +kernel
theorem dX12_spends_3 : decode cX12_spends 3 = .ok (.invokevirtual 58, 3) := by decide +kernel
theorem dX12_spends_6 : decode cX12_spends 6 = .ok (.istore_n 2, 1) := by decide +kernel
theorem dX12_spends_7 : decode cX12_spends 7 = .ok (.iconst 1, 1) := by decide +kernel
theorem dX12_spends_8 : decode cX12_spends 8 = .ok (.aload_n 0, 1) := by decide +kernel
theorem dX12_spends_9 : decode cX12_spends 9 = .ok (.getfield 7, 3) := by decide +kernel
theorem dX12_spends_12 : decode cX12_spends 12 = .ok (.iconst 1, 1) := by decide +kernel
theorem dX12_spends_13 : decode cX12_spends 13 = .ok (.iaload, 1) := by decide +kernel
theorem dX12_spends_14 : decode cX12_spends 14 = .ok (.iadd, 1) := by decide +kernel
theorem dX12_spends_15 : decode cX12_spends 15 = .ok (.istore_n 3, 1) := by decide +kernel
theorem dX12_spends_16 : decode cX12_spends 16 = .ok (.aload_n 0, 1) := by decide +kernel
theorem dX12_spends_17 : decode cX12_spends 17 = .ok (.iload_n 1, 1) := by decide +kernel
theorem dX12_spends_18 : decode cX12_spends 18 = .ok (.iconst 0, 1) := by decide +kernel
theorem dX12_spends_19 : decode cX12_spends 19 = .ok (.invokevirtual 58, 3) := by decide +kernel
theorem dX12_spends_22 : decode cX12_spends 22 = .ok (.tableswitch 70 1 6 #[38, 43, 70, 52, 43, 61], 38) := by decide +kernel
theorem dX12_spends_60 : decode cX12_spends 60 = .ok (.iconst 1, 1) := by decide +kernel
theorem dX12_spends_61 : decode cX12_spends 61 = .ok (.istore_n 3, 1) := by decide +kernel
theorem dX12_spends_62 : decode cX12_spends 62 = .ok (.goto 30, 3) := by decide +kernel
theorem dX12_spends_65 : decode cX12_spends 65 = .ok (.iload_n 3, 1) := by decide +kernel
theorem dX12_spends_66 : decode cX12_spends 66 = .ok (.iload_n 2, 1) := by decide +kernel
theorem dX12_spends_67 : decode cX12_spends 67 = .ok (.iconst 2, 1) := by decide +kernel
theorem dX12_spends_68 : decode cX12_spends 68 = .ok (.idiv, 1) := by decide +kernel
theorem dX12_spends_69 : decode cX12_spends 69 = .ok (.isub, 1) := by decide +kernel
theorem dX12_spends_70 : decode cX12_spends 70 = .ok (.istore_n 3, 1) := by decide +kernel
theorem dX12_spends_71 : decode cX12_spends 71 = .ok (.goto 21, 3) := by decide +kernel
theorem dX12_spends_74 : decode cX12_spends 74 = .ok (.iconst 1, 1) := by decide +kernel
theorem dX12_spends_75 : decode cX12_spends 75 = .ok (.iload_n 2, 1) := by decide +kernel
theorem dX12_spends_76 : decode cX12_spends 76 = .ok (.iconst 3, 1) := by decide +kernel
theorem dX12_spends_77 : decode cX12_spends 77 = .ok (.irem, 1) := by decide +kernel
theorem dX12_spends_78 : decode cX12_spends 78 = .ok (.iadd, 1) := by decide +kernel
theorem dX12_spends_79 : decode cX12_spends 79 = .ok (.istore_n 3, 1) := by decide +kernel
theorem dX12_spends_80 : decode cX12_spends 80 = .ok (.goto 12, 3) := by decide +kernel
theorem dX12_spends_83 : decode cX12_spends 83 = .ok (.aload_n 0, 1) := by decide +kernel
theorem dX12_spends_84 : decode cX12_spends 84 = .ok (.iload_n 1, 1) := by decide +kernel
theorem dX12_spends_85 : decode cX12_spends 85 = .ok (.invokevirtual 128, 3) := by decide +kernel
theorem dX12_spends_88 : decode cX12_spends 88 = .ok (.istore_n 3, 1) := by decide +kernel
theorem dX12_spends_89 : decode cX12_spends 89 = .ok (.goto 3, 3) := by decide +kernel
theorem dX12_spends_92 : decode cX12_spends 92 = .ok (.iload_n 3, 1) := by decide +kernel
theorem dX12_spends_93 : decode cX12_spends 93 = .ok (.iconst 0, 1) := by decide +kernel
theorem dX12_spends_94 : decode cX12_spends 94 = .ok (.bipush 99, 2) := by decide +kernel
theorem dX12_spends_96 : decode cX12_spends 96 = .ok (.invokestatic 131, 3) := by decide +kernel
theorem dX12_spends_99 : decode cX12_spends 99 = .ok (.ireturn, 1) := by decide +kernel
theorem dX12_bite_0 : decode cX12_bite 0 = .ok (.aload_n 0, 1) := by decide +kernel
theorem dX12_bite_1 : decode cX12_bite 1 = .ok (.iload_n 1, 1) := by decide +kernel
theorem dX12_bite_2 : decode cX12_bite 2 = .ok (.iconst 0, 1) := by decide +kernel
theorem dX12_bite_3 : decode cX12_bite 3 = .ok (.invokevirtual 58, 3) := by decide +kernel
theorem dX12_bite_6 : decode cX12_bite 6 = .ok (.tableswitch 53 1 5 #[34, 53, 36, 48, 50], 34) := by decide +kernel
theorem dX12_bite_40 : decode cX12_bite 40 = .ok (.iconst 0, 1) := by decide +kernel
theorem dX12_bite_41 : decode cX12_bite 41 = .ok (.ireturn, 1) := by decide +kernel
theorem dX12_bite_42 : decode cX12_bite 42 = .ok (.bipush 10, 2) := by decide +kernel
theorem dX12_bite_44 : decode cX12_bite 44 = .ok (.iconst 3, 1) := by decide +kernel
theorem dX12_bite_45 : decode cX12_bite 45 = .ok (.aload_n 0, 1) := by decide +kernel
theorem dX12_bite_46 : decode cX12_bite 46 = .ok (.iload_n 1, 1) := by decide +kernel
theorem dX12_bite_47 : decode cX12_bite 47 = .ok (.iconst 1, 1) := by decide +kernel
theorem dX12_bite_48 : decode cX12_bite 48 = .ok (.invokevirtual 58, 3) := by decide +kernel
theorem dX12_bite_51 : decode cX12_bite 51 = .ok (.imul, 1) := by decide +kernel
theorem dX12_bite_52 : decode cX12_bite 52 = .ok (.iadd, 1) := by decide +kernel
theorem dX12_bite_53 : decode cX12_bite 53 = .ok (.ireturn, 1) := by decide +kernel
theorem dX12_bite_54 : decode cX12_bite 54 = .ok (.iconst 2, 1) := by decide +kernel
theorem dX12_bite_55 : decode cX12_bite 55 = .ok (.ireturn, 1) := by decide +kernel
theorem dX12_bite_56 : decode cX12_bite 56 = .ok (.bipush 20, 2) := by decide +kernel
theorem dX12_bite_58 : decode cX12_bite 58 = .ok (.ireturn, 1) := by decide +kernel
theorem dX12_bite_59 : decode cX12_bite 59 = .ok (.bipush 10, 2) := by decide +kernel
theorem dX12_bite_61 : decode cX12_bite 61 = .ok (.ireturn, 1) := by decide +kernel
theorem dX12_shaken_0 : decode cX12_shaken 0 = .ok (.iload_n 2, 1) := by decide +kernel
theorem dX12_shaken_1 : decode cX12_shaken 1 = .ok (.iconst 1, 1) := by decide +kernel
theorem dX12_shaken_2 : decode cX12_shaken 2 = .ok (.if_icmp .ne 8, 3) := by decide +kernel
theorem dX12_shaken_5 : decode cX12_shaken 5 = .ok (.bipush 8, 2) := by decide +kernel
theorem dX12_shaken_7 : decode cX12_shaken 7 = .ok (.goto 4, 3) := by decide +kernel
theorem dX12_shaken_10 : decode cX12_shaken 10 = .ok (.iconst 0, 1) := by decide +kernel
theorem dX12_shaken_11 : decode cX12_shaken 11 = .ok (.istore_n 3, 1) := by decide +kernel
theorem dX12_shaken_12 : decode cX12_shaken 12 = .ok (.aload_n 0, 1) := by decide +kernel
theorem dX12_shaken_13 : decode cX12_shaken 13 = .ok (.iconst 1, 1) := by decide +kernel
theorem dX12_shaken_14 : decode cX12_shaken 14 = .ok (.invokevirtual 118, 3) := by decide +kernel
theorem dX12_shaken_17 : decode cX12_shaken 17 = .ok (.ifCond .eq 43, 3) := by decide +kernel
theorem dX12_shaken_20 : decode cX12_shaken 20 = .ok (.aload_n 0, 1) := by decide +kernel
theorem dX12_shaken_21 : decode cX12_shaken 21 = .ok (.getfield 25, 3) := by decide +kernel
theorem dX12_shaken_24 : decode cX12_shaken 24 = .ok (.bipush 100, 2) := by decide +kernel
theorem dX12_shaken_26 : decode cX12_shaken 26 = .ok (.iload_n 2, 1) := by decide +kernel
theorem dX12_shaken_27 : decode cX12_shaken 27 = .ok (.iastore, 1) := by decide +kernel
theorem dX12_shaken_28 : decode cX12_shaken 28 = .ok (.aload_n 0, 1) := by decide +kernel
theorem dX12_shaken_29 : decode cX12_shaken 29 = .ok (.getfield 25, 3) := by decide +kernel
theorem dX12_shaken_32 : decode cX12_shaken 32 = .ok (.bipush 109, 2) := by decide +kernel
theorem dX12_shaken_34 : decode cX12_shaken 34 = .ok (.aload_n 0, 1) := by decide +kernel
theorem dX12_shaken_35 : decode cX12_shaken 35 = .ok (.iload_n 1, 1) := by decide +kernel
theorem dX12_shaken_36 : decode cX12_shaken 36 = .ok (.iconst 1, 1) := by decide +kernel
theorem dX12_shaken_37 : decode cX12_shaken 37 = .ok (.invokevirtual 58, 3) := by decide +kernel
theorem dX12_shaken_40 : decode cX12_shaken 40 = .ok (.iastore, 1) := by decide +kernel
theorem dX12_shaken_41 : decode cX12_shaken 41 = .ok (.aload_n 0, 1) := by decide +kernel
theorem dX12_shaken_42 : decode cX12_shaken 42 = .ok (.getfield 25, 3) := by decide +kernel
theorem dX12_shaken_45 : decode cX12_shaken 45 = .ok (.bipush 112, 2) := by decide +kernel
theorem dX12_shaken_47 : decode cX12_shaken 47 = .ok (.aload_n 0, 1) := by decide +kernel
theorem dX12_shaken_48 : decode cX12_shaken 48 = .ok (.iload_n 1, 1) := by decide +kernel
theorem dX12_shaken_49 : decode cX12_shaken 49 = .ok (.iconst 3, 1) := by decide +kernel
theorem dX12_shaken_50 : decode cX12_shaken 50 = .ok (.invokevirtual 58, 3) := by decide +kernel
theorem dX12_shaken_53 : decode cX12_shaken 53 = .ok (.iastore, 1) := by decide +kernel
theorem dX12_shaken_54 : decode cX12_shaken 54 = .ok (.aload_n 0, 1) := by decide +kernel
theorem dX12_shaken_55 : decode cX12_shaken 55 = .ok (.iconst 1, 1) := by decide +kernel
theorem dX12_shaken_56 : decode cX12_shaken 56 = .ok (.invokevirtual 125, 3) := by decide +kernel
theorem dX12_shaken_59 : decode cX12_shaken 59 = .ok (.istore_n 3, 1) := by decide +kernel
theorem dX12_shaken_60 : decode cX12_shaken 60 = .ok (.iload_n 3, 1) := by decide +kernel
theorem dX12_shaken_61 : decode cX12_shaken 61 = .ok (.iconst 0, 1) := by decide +kernel
theorem dX12_shaken_62 : decode cX12_shaken 62 = .ok (.bipush 99, 2) := by decide +kernel
theorem dX12_shaken_64 : decode cX12_shaken 64 = .ok (.invokestatic 131, 3) := by decide +kernel
theorem dX12_shaken_67 : decode cX12_shaken 67 = .ok (.ireturn, 1) := by decide +kernel
theorem dX12_loses_0 : decode cX12_loses 0 = .ok (.aload_n 0, 1) := by decide +kernel
theorem dX12_loses_1 : decode cX12_loses 1 = .ok (.iload_n 1, 1) := by decide +kernel
theorem dX12_loses_2 : decode cX12_loses 2 = .ok (.iconst 3, 1) := by decide +kernel
theorem dX12_loses_3 : decode cX12_loses 3 = .ok (.aload_n 0, 1) := by decide +kernel
theorem dX12_loses_4 : decode cX12_loses 4 = .ok (.iload_n 1, 1) := by decide +kernel
theorem dX12_loses_5 : decode cX12_loses 5 = .ok (.iconst 3, 1) := by decide +kernel
theorem dX12_loses_6 : decode cX12_loses 6 = .ok (.invokevirtual 58, 3) := by decide +kernel
theorem dX12_loses_9 : decode cX12_loses 9 = .ok (.iload_n 2, 1) := by decide +kernel
theorem dX12_loses_10 : decode cX12_loses 10 = .ok (.isub, 1) := by decide +kernel
theorem dX12_loses_11 : decode cX12_loses 11 = .ok (.iconst 0, 1) := by decide +kernel
theorem dX12_loses_12 : decode cX12_loses 12 = .ok (.sipush 999, 3) := by decide +kernel
theorem dX12_loses_15 : decode cX12_loses 15 = .ok (.invokestatic 131, 3) := by decide +kernel
theorem dX12_loses_18 : decode cX12_loses 18 = .ok (.invokevirtual 49, 3) := by decide +kernel
theorem dX12_loses_21 : decode cX12_loses 21 = .ok (.return_, 1) := by decide +kernel
theorem dX12_stirs_0 : decode cX12_stirs 0 = .ok (.aload_n 0, 1) := by decide +kernel
theorem dX12_stirs_1 : decode cX12_stirs 1 = .ok (.iload_n 1, 1) := by decide +kernel
theorem dX12_stirs_2 : decode cX12_stirs 2 = .ok (.iconst 4, 1) := by decide +kernel
theorem dX12_stirs_3 : decode cX12_stirs 3 = .ok (.aload_n 0, 1) := by decide +kernel
theorem dX12_stirs_4 : decode cX12_stirs 4 = .ok (.getfield 7, 3) := by decide +kernel
theorem dX12_stirs_7 : decode cX12_stirs 7 = .ok (.iconst 0, 1) := by decide +kernel
theorem dX12_stirs_8 : decode cX12_stirs 8 = .ok (.iaload, 1) := by decide +kernel
theorem dX12_stirs_9 : decode cX12_stirs 9 = .ok (.invokevirtual 49, 3) := by decide +kernel
theorem dX12_stirs_12 : decode cX12_stirs 12 = .ok (.iconst 0, 1) := by decide +kernel
theorem dX12_stirs_13 : decode cX12_stirs 13 = .ok (.istore_n 2, 1) := by decide +kernel
theorem dX12_stirs_14 : decode cX12_stirs 14 = .ok (.iload_n 2, 1) := by decide +kernel
theorem dX12_stirs_15 : decode cX12_stirs 15 = .ok (.bipush 9, 2) := by decide +kernel
theorem dX12_stirs_17 : decode cX12_stirs 17 = .ok (.if_icmp .ge 51, 3) := by decide +kernel
theorem dX12_stirs_20 : decode cX12_stirs 20 = .ok (.aload_n 0, 1) := by decide +kernel
theorem dX12_stirs_21 : decode cX12_stirs 21 = .ok (.iload_n 2, 1) := by decide +kernel
theorem dX12_stirs_22 : decode cX12_stirs 22 = .ok (.invokevirtual 62, 3) := by decide +kernel
theorem dX12_stirs_25 : decode cX12_stirs 25 = .ok (.ifCond .eq 37, 3) := by decide +kernel
theorem dX12_stirs_28 : decode cX12_stirs 28 = .ok (.aload_n 0, 1) := by decide +kernel
