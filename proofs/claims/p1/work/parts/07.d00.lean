theorem dX12_error_0 : decode cX12_error 0 = .ok (.aload_n 0, 1) := by decide +kernel
theorem dX12_error_1 : decode cX12_error 1 = .ok (.getfield 19, 3) := by decide +kernel
theorem dX12_error_4 : decode cX12_error 4 = .ok (.iload_n 1, 1) := by decide +kernel
theorem dX12_error_5 : decode cX12_error 5 = .ok (.dup2, 1) := by decide +kernel
theorem dX12_error_6 : decode cX12_error 6 = .ok (.iaload, 1) := by decide +kernel
theorem dX12_error_7 : decode cX12_error 7 = .ok (.iconst 1, 1) := by decide +kernel
theorem dX12_error_8 : decode cX12_error 8 = .ok (.iadd, 1) := by decide +kernel
theorem dX12_error_9 : decode cX12_error 9 = .ok (.iastore, 1) := by decide +kernel
theorem dX12_error_10 : decode cX12_error 10 = .ok (.ldc 53, 2) := by decide +kernel
theorem dX12_error_12 : decode cX12_error 12 = .ok (.iload_n 1, 1) := by decide +kernel
theorem dX12_error_13 : decode cX12_error 13 = .ok (.isub, 1) := by decide +kernel
theorem dX12_error_14 : decode cX12_error 14 = .ok (.ireturn, 1) := by decide +kernel
theorem dX12_in_0 : decode cX12_in 0 = .ok (.iload_n 0, 1) := by decide +kernel
theorem dX12_in_1 : decode cX12_in 1 = .ok (.iload_n 1, 1) := by decide +kernel
theorem dX12_in_2 : decode cX12_in 2 = .ok (.if_icmp .lt 12, 3) := by decide +kernel
theorem dX12_in_5 : decode cX12_in 5 = .ok (.iload_n 0, 1) := by decide +kernel
theorem dX12_in_6 : decode cX12_in 6 = .ok (.iload_n 2, 1) := by decide +kernel
theorem dX12_in_7 : decode cX12_in 7 = .ok (.if_icmp .gt 7, 3) := by decide +kernel
theorem dX12_in_10 : decode cX12_in 10 = .ok (.iconst 1, 1) := by decide +kernel
theorem dX12_in_11 : decode cX12_in 11 = .ok (.goto 4, 3) := by decide +kernel
theorem dX12_in_14 : decode cX12_in 14 = .ok (.iconst 0, 1) := by decide +kernel
theorem dX12_in_15 : decode cX12_in 15 = .ok (.ireturn, 1) := by decide +kernel
theorem dX12_held_0 : decode cX12_held 0 = .ok (.iload_n 0, 1) := by decide +kernel
theorem dX12_held_1 : decode cX12_held 1 = .ok (.iload_n 1, 1) := by decide +kernel
theorem dX12_held_2 : decode cX12_held 2 = .ok (.if_icmp .ge 7, 3) := by decide +kernel
theorem dX12_held_5 : decode cX12_held 5 = .ok (.iload_n 1, 1) := by decide +kernel
theorem dX12_held_6 : decode cX12_held 6 = .ok (.goto 13, 3) := by decide +kernel
theorem dX12_held_9 : decode cX12_held 9 = .ok (.iload_n 0, 1) := by decide +kernel
theorem dX12_held_10 : decode cX12_held 10 = .ok (.iload_n 2, 1) := by decide +kernel
theorem dX12_held_11 : decode cX12_held 11 = .ok (.if_icmp .le 7, 3) := by decide +kernel
theorem dX12_held_14 : decode cX12_held 14 = .ok (.iload_n 2, 1) := by decide +kernel
theorem dX12_held_15 : decode cX12_held 15 = .ok (.goto 4, 3) := by decide +kernel
theorem dX12_held_18 : decode cX12_held 18 = .ok (.iload_n 0, 1) := by decide +kernel
theorem dX12_held_19 : decode cX12_held 19 = .ok (.ireturn, 1) := by decide +kernel
theorem dX12_layDown_0 : decode cX12_layDown 0 = .ok (.iconst 0, 1) := by decide +kernel
theorem dX12_layDown_1 : decode cX12_layDown 1 = .ok (.istore_n 2, 1) := by decide +kernel
theorem dX12_layDown_2 : decode cX12_layDown 2 = .ok (.iload_n 2, 1) := by decide +kernel
theorem dX12_layDown_3 : decode cX12_layDown 3 = .ok (.bipush 53, 2) := by decide +kernel
theorem dX12_layDown_5 : decode cX12_layDown 5 = .ok (.if_icmp .ge 26, 3) := by decide +kernel
theorem dX12_layDown_8 : decode cX12_layDown 8 = .ok (.aload_n 0, 1) := by decide +kernel
theorem dX12_layDown_9 : decode cX12_layDown 9 = .ok (.getfield 16, 3) := by decide +kernel
theorem dX12_layDown_12 : decode cX12_layDown 12 = .ok (.bipush 53, 2) := by decide +kernel
theorem dX12_layDown_14 : decode cX12_layDown 14 = .ok (.iload_n 1, 1) := by decide +kernel
theorem dX12_layDown_15 : decode cX12_layDown 15 = .ok (.imul, 1) := by decide +kernel
theorem dX12_layDown_16 : decode cX12_layDown 16 = .ok (.iload_n 2, 1) := by decide +kernel
theorem dX12_layDown_17 : decode cX12_layDown 17 = .ok (.iadd, 1) := by decide +kernel
theorem dX12_layDown_18 : decode cX12_layDown 18 = .ok (.aload_n 0, 1) := by decide +kernel
theorem dX12_layDown_19 : decode cX12_layDown 19 = .ok (.getfield 7, 3) := by decide +kernel
theorem dX12_layDown_22 : decode cX12_layDown 22 = .ok (.iload_n 2, 1) := by decide +kernel
theorem dX12_layDown_23 : decode cX12_layDown 23 = .ok (.iaload, 1) := by decide +kernel
theorem dX12_layDown_24 : decode cX12_layDown 24 = .ok (.iastore, 1) := by decide +kernel
theorem dX12_layDown_25 : decode cX12_layDown 25 = .ok (.iinc 2 1, 3) := by decide +kernel
theorem dX12_layDown_28 : decode cX12_layDown 28 = .ok (.goto (-26), 3) := by decide +kernel
theorem dX12_layDown_31 : decode cX12_layDown 31 = .ok (.return_, 1) := by decide +kernel
theorem dX12_its_0 : decode cX12_its 0 = .ok (.aload_n 0, 1) := by decide +kernel
theorem dX12_its_1 : decode cX12_its 1 = .ok (.getfield 7, 3) := by decide +kernel
theorem dX12_its_4 : decode cX12_its 4 = .ok (.bipush 8, 2) := by decide +kernel
theorem dX12_its_6 : decode cX12_its 6 = .ok (.iconst 5, 1) := by decide +kernel
theorem dX12_its_7 : decode cX12_its 7 = .ok (.iload_n 1, 1) := by decide +kernel
theorem dX12_its_8 : decode cX12_its 8 = .ok (.imul, 1) := by decide +kernel
theorem dX12_its_9 : decode cX12_its 9 = .ok (.iadd, 1) := by decide +kernel
theorem dX12_its_10 : decode cX12_its 10 = .ok (.iload_n 2, 1) := by decide +kernel
theorem dX12_its_11 : decode cX12_its 11 = .ok (.iadd, 1) := by decide +kernel
theorem dX12_its_12 : decode cX12_its 12 = .ok (.iaload, 1) := by decide +kernel
theorem dX12_its_13 : decode cX12_its 13 = .ok (.ireturn, 1) := by decide +kernel
theorem dX12_lays1_0 : decode cX12_lays1 0 = .ok (.aload_n 0, 1) := by decide +kernel
theorem dX12_lays1_1 : decode cX12_lays1 1 = .ok (.getfield 7, 3) := by decide +kernel
theorem dX12_lays1_4 : decode cX12_lays1 4 = .ok (.bipush 8, 2) := by decide +kernel
theorem dX12_lays1_6 : decode cX12_lays1 6 = .ok (.iconst 5, 1) := by decide +kernel
theorem dX12_lays1_7 : decode cX12_lays1 7 = .ok (.iload_n 1, 1) := by decide +kernel
theorem dX12_lays1_8 : decode cX12_lays1 8 = .ok (.imul, 1) := by decide +kernel
theorem dX12_lays1_9 : decode cX12_lays1 9 = .ok (.iadd, 1) := by decide +kernel
theorem dX12_lays1_10 : decode cX12_lays1 10 = .ok (.iload_n 2, 1) := by decide +kernel
theorem dX12_lays1_11 : decode cX12_lays1 11 = .ok (.iadd, 1) := by decide +kernel
theorem dX12_lays1_12 : decode cX12_lays1 12 = .ok (.iload_n 3, 1) := by decide +kernel
theorem dX12_lays1_13 : decode cX12_lays1 13 = .ok (.iastore, 1) := by decide +kernel
theorem dX12_lays1_14 : decode cX12_lays1 14 = .ok (.return_, 1) := by decide +kernel
theorem dX12_stands_0 : decode cX12_stands 0 = .ok (.aload_n 0, 1) := by decide +kernel
theorem dX12_stands_1 : decode cX12_stands 1 = .ok (.iload_n 1, 1) := by decide +kernel
theorem dX12_stands_2 : decode cX12_stands 2 = .ok (.iconst 4, 1) := by decide +kernel
theorem dX12_stands_3 : decode cX12_stands 3 = .ok (.invokevirtual 58, 3) := by decide +kernel
theorem dX12_stands_6 : decode cX12_stands 6 = .ok (.iconst (-1), 1) := by decide +kernel
theorem dX12_stands_7 : decode cX12_stands 7 = .ok (.if_icmp .ne 7, 3) := by decide +kernel
theorem dX12_stands_10 : decode cX12_stands 10 = .ok (.iconst 1, 1) := by decide +kernel
theorem dX12_stands_11 : decode cX12_stands 11 = .ok (.goto 4, 3) := by decide +kernel
theorem dX12_stands_14 : decode cX12_stands 14 = .ok (.iconst 0, 1) := by decide +kernel
theorem dX12_stands_15 : decode cX12_stands 15 = .ok (.ireturn, 1) := by decide +kernel
theorem dX12_howMany_0 : decode cX12_howMany 0 = .ok (.iconst 0, 1) := by decide +kernel
theorem dX12_howMany_1 : decode cX12_howMany 1 = .ok (.istore_n 1, 1) := by decide +kernel
theorem dX12_howMany_2 : decode cX12_howMany 2 = .ok (.iconst 0, 1) := by decide +kernel
theorem dX12_howMany_3 : decode cX12_howMany 3 = .ok (.istore_n 2, 1) := by decide +kernel
theorem dX12_howMany_4 : decode cX12_howMany 4 = .ok (.iload_n 2, 1) := by decide +kernel
theorem dX12_howMany_5 : decode cX12_howMany 5 = .ok (.bipush 9, 2) := by decide +kernel
theorem dX12_howMany_7 : decode cX12_howMany 7 = .ok (.if_icmp .ge 25, 3) := by decide +kernel
theorem dX12_howMany_10 : decode cX12_howMany 10 = .ok (.iload_n 1, 1) := by decide +kernel
theorem dX12_howMany_11 : decode cX12_howMany 11 = .ok (.aload_n 0, 1) := by decide +kernel
theorem dX12_howMany_12 : decode cX12_howMany 12 = .ok (.iload_n 2, 1) := by decide +kernel
theorem dX12_howMany_13 : decode cX12_howMany 13 = .ok (.invokevirtual 62, 3) := by decide +kernel
theorem dX12_howMany_16 : decode cX12_howMany 16 = .ok (.ifCond .eq 7, 3) := by decide +kernel
theorem dX12_howMany_19 : decode cX12_howMany 19 = .ok (.iconst 1, 1) := by decide +kernel
theorem dX12_howMany_20 : decode cX12_howMany 20 = .ok (.goto 4, 3) := by decide +kernel
theorem dX12_howMany_23 : decode cX12_howMany 23 = .ok (.iconst 0, 1) := by decide +kernel
theorem dX12_howMany_24 : decode cX12_howMany 24 = .ok (.iadd, 1) := by decide +kernel
theorem dX12_howMany_25 : decode cX12_howMany 25 = .ok (.istore_n 1, 1) := by decide +kernel
theorem dX12_howMany_26 : decode cX12_howMany 26 = .ok (.iinc 2 1, 3) := by decide +kernel
theorem dX12_howMany_29 : decode cX12_howMany 29 = .ok (.goto (-25), 3) := by decide +kernel
theorem dX12_howMany_32 : decode cX12_howMany 32 = .ok (.iload_n 1, 1) := by decide +kernel
theorem dX12_howMany_33 : decode cX12_howMany 33 = .ok (.ireturn, 1) := by decide +kernel
theorem dX12_standsAt_0 : decode cX12_standsAt 0 = .ok (.iconst 0, 1) := by decide +kernel
theorem dX12_standsAt_1 : decode cX12_standsAt 1 = .ok (.istore_n 2, 1) := by decide +kernel
theorem dX12_standsAt_2 : decode cX12_standsAt 2 = .ok (.aload_n 0, 1) := by decide +kernel
theorem dX12_standsAt_3 : decode cX12_standsAt 3 = .ok (.iload_n 2, 1) := by decide +kernel
theorem dX12_standsAt_4 : decode cX12_standsAt 4 = .ok (.iconst 2, 1) := by decide +kernel
theorem dX12_standsAt_5 : decode cX12_standsAt 5 = .ok (.invokevirtual 58, 3) := by decide +kernel
theorem dX12_standsAt_8 : decode cX12_standsAt 8 = .ok (.iload_n 1, 1) := by decide +kernel
theorem dX12_standsAt_9 : decode cX12_standsAt 9 = .ok (.if_icmp .eq 9, 3) := by decide +kernel
theorem dX12_standsAt_12 : decode cX12_standsAt 12 = .ok (.iinc 2 1, 3) := by decide +kernel
theorem dX12_standsAt_15 : decode cX12_standsAt 15 = .ok (.goto (-13), 3) := by decide +kernel
theorem dX12_standsAt_18 : decode cX12_standsAt 18 = .ok (.iload_n 2, 1) := by decide +kernel
theorem dX12_standsAt_19 : decode cX12_standsAt 19 = .ok (.ireturn, 1) := by decide +kernel
