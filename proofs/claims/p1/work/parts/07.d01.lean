theorem dX12_stirs_29 : decode cX12_stirs 29 = .ok (.iload_n 2, 1) := by decide +kernel
theorem dX12_stirs_30 : decode cX12_stirs 30 = .ok (.iconst 2, 1) := by decide +kernel
theorem dX12_stirs_31 : decode cX12_stirs 31 = .ok (.invokevirtual 58, 3) := by decide +kernel
theorem dX12_stirs_34 : decode cX12_stirs 34 = .ok (.aload_n 0, 1) := by decide +kernel
theorem dX12_stirs_35 : decode cX12_stirs 35 = .ok (.iload_n 1, 1) := by decide +kernel
theorem dX12_stirs_36 : decode cX12_stirs 36 = .ok (.iconst 2, 1) := by decide +kernel
theorem dX12_stirs_37 : decode cX12_stirs 37 = .ok (.invokevirtual 58, 3) := by decide +kernel
theorem dX12_stirs_40 : decode cX12_stirs 40 = .ok (.isub, 1) := by decide +kernel
theorem dX12_stirs_41 : decode cX12_stirs 41 = .ok (.istore_n 3, 1) := by decide +kernel
theorem dX12_stirs_42 : decode cX12_stirs 42 = .ok (.aload_n 0, 1) := by decide +kernel
theorem dX12_stirs_43 : decode cX12_stirs 43 = .ok (.iload_n 2, 1) := by decide +kernel
theorem dX12_stirs_44 : decode cX12_stirs 44 = .ok (.aload_n 0, 1) := by decide +kernel
theorem dX12_stirs_45 : decode cX12_stirs 45 = .ok (.iload_n 2, 1) := by decide +kernel
theorem dX12_stirs_46 : decode cX12_stirs 46 = .ok (.iload_n 3, 1) := by decide +kernel
theorem dX12_stirs_47 : decode cX12_stirs 47 = .ok (.ifCond .ge 8, 3) := by decide +kernel
theorem dX12_stirs_50 : decode cX12_stirs 50 = .ok (.iload_n 3, 1) := by decide +kernel
theorem dX12_stirs_51 : decode cX12_stirs 51 = .ok (.ineg, 1) := by decide +kernel
theorem dX12_stirs_52 : decode cX12_stirs 52 = .ok (.goto 4, 3) := by decide +kernel
theorem dX12_stirs_55 : decode cX12_stirs 55 = .ok (.iload_n 3, 1) := by decide +kernel
theorem dX12_stirs_56 : decode cX12_stirs 56 = .ok (.invokevirtual 134, 3) := by decide +kernel
theorem dX12_stirs_59 : decode cX12_stirs 59 = .ok (.invokevirtual 137, 3) := by decide +kernel
theorem dX12_stirs_62 : decode cX12_stirs 62 = .ok (.iinc 2 1, 3) := by decide +kernel
theorem dX12_stirs_65 : decode cX12_stirs 65 = .ok (.goto (-51), 3) := by decide +kernel
theorem dX12_stirs_68 : decode cX12_stirs 68 = .ok (.return_, 1) := by decide +kernel
theorem dX12_settle_0 : decode cX12_settle 0 = .ok (.iconst 0, 1) := by decide +kernel
theorem dX12_settle_1 : decode cX12_settle 1 = .ok (.istore_n 1, 1) := by decide +kernel
theorem dX12_settle_2 : decode cX12_settle 2 = .ok (.iconst 0, 1) := by decide +kernel
theorem dX12_settle_3 : decode cX12_settle 3 = .ok (.istore_n 2, 1) := by decide +kernel
theorem dX12_settle_4 : decode cX12_settle 4 = .ok (.iload_n 2, 1) := by decide +kernel
theorem dX12_settle_5 : decode cX12_settle 5 = .ok (.bipush 9, 2) := by decide +kernel
theorem dX12_settle_7 : decode cX12_settle 7 = .ok (.if_icmp .ge 39, 3) := by decide +kernel
theorem dX12_settle_10 : decode cX12_settle 10 = .ok (.aload_n 0, 1) := by decide +kernel
theorem dX12_settle_11 : decode cX12_settle 11 = .ok (.iload_n 2, 1) := by decide +kernel
theorem dX12_settle_12 : decode cX12_settle 12 = .ok (.invokevirtual 62, 3) := by decide +kernel
theorem dX12_settle_15 : decode cX12_settle 15 = .ok (.ifCond .eq 25, 3) := by decide +kernel
theorem dX12_settle_18 : decode cX12_settle 18 = .ok (.aload_n 0, 1) := by decide +kernel
theorem dX12_settle_19 : decode cX12_settle 19 = .ok (.iload_n 2, 1) := by decide +kernel
theorem dX12_settle_20 : decode cX12_settle 20 = .ok (.iconst 3, 1) := by decide +kernel
theorem dX12_settle_21 : decode cX12_settle 21 = .ok (.invokevirtual 58, 3) := by decide +kernel
theorem dX12_settle_24 : decode cX12_settle 24 = .ok (.ifCond .ne 16, 3) := by decide +kernel
theorem dX12_settle_27 : decode cX12_settle 27 = .ok (.aload_n 0, 1) := by decide +kernel
theorem dX12_settle_28 : decode cX12_settle 28 = .ok (.iload_n 2, 1) := by decide +kernel
theorem dX12_settle_29 : decode cX12_settle 29 = .ok (.invokevirtual 140, 3) := by decide +kernel
theorem dX12_settle_32 : decode cX12_settle 32 = .ok (.iinc 1 1, 3) := by decide +kernel
theorem dX12_settle_35 : decode cX12_settle 35 = .ok (.iconst 0, 1) := by decide +kernel
theorem dX12_settle_36 : decode cX12_settle 36 = .ok (.istore_n 2, 1) := by decide +kernel
theorem dX12_settle_37 : decode cX12_settle 37 = .ok (.goto (-33), 3) := by decide +kernel
theorem dX12_settle_40 : decode cX12_settle 40 = .ok (.iinc 2 1, 3) := by decide +kernel
theorem dX12_settle_43 : decode cX12_settle 43 = .ok (.goto (-39), 3) := by decide +kernel
theorem dX12_settle_46 : decode cX12_settle 46 = .ok (.iload_n 1, 1) := by decide +kernel
theorem dX12_settle_47 : decode cX12_settle 47 = .ok (.ireturn, 1) := by decide +kernel
theorem dX12_minute_0 : decode cX12_minute 0 = .ok (.aload_n 0, 1) := by decide +kernel
theorem dX12_minute_1 : decode cX12_minute 1 = .ok (.getfield 7, 3) := by decide +kernel
theorem dX12_minute_4 : decode cX12_minute 4 = .ok (.iconst 0, 1) := by decide +kernel
theorem dX12_minute_5 : decode cX12_minute 5 = .ok (.dup2, 1) := by decide +kernel
theorem dX12_minute_6 : decode cX12_minute 6 = .ok (.iaload, 1) := by decide +kernel
theorem dX12_minute_7 : decode cX12_minute 7 = .ok (.iconst 1, 1) := by decide +kernel
theorem dX12_minute_8 : decode cX12_minute 8 = .ok (.iadd, 1) := by decide +kernel
theorem dX12_minute_9 : decode cX12_minute 9 = .ok (.iastore, 1) := by decide +kernel
theorem dX12_minute_10 : decode cX12_minute 10 = .ok (.iconst 0, 1) := by decide +kernel
theorem dX12_minute_11 : decode cX12_minute 11 = .ok (.istore_n 1, 1) := by decide +kernel
theorem dX12_minute_12 : decode cX12_minute 12 = .ok (.iload_n 1, 1) := by decide +kernel
theorem dX12_minute_13 : decode cX12_minute 13 = .ok (.bipush 9, 2) := by decide +kernel
theorem dX12_minute_15 : decode cX12_minute 15 = .ok (.if_icmp .ge 27, 3) := by decide +kernel
theorem dX12_minute_18 : decode cX12_minute 18 = .ok (.aload_n 0, 1) := by decide +kernel
theorem dX12_minute_19 : decode cX12_minute 19 = .ok (.iload_n 1, 1) := by decide +kernel
theorem dX12_minute_20 : decode cX12_minute 20 = .ok (.invokevirtual 62, 3) := by decide +kernel
theorem dX12_minute_23 : decode cX12_minute 23 = .ok (.ifCond .eq 13, 3) := by decide +kernel
theorem dX12_minute_26 : decode cX12_minute 26 = .ok (.aload_n 0, 1) := by decide +kernel
theorem dX12_minute_27 : decode cX12_minute 27 = .ok (.iload_n 1, 1) := by decide +kernel
theorem dX12_minute_28 : decode cX12_minute 28 = .ok (.aload_n 0, 1) := by decide +kernel
theorem dX12_minute_29 : decode cX12_minute 29 = .ok (.iload_n 1, 1) := by decide +kernel
theorem dX12_minute_30 : decode cX12_minute 30 = .ok (.invokevirtual 144, 3) := by decide +kernel
theorem dX12_minute_33 : decode cX12_minute 33 = .ok (.invokevirtual 137, 3) := by decide +kernel
theorem dX12_minute_36 : decode cX12_minute 36 = .ok (.iinc 1 1, 3) := by decide +kernel
theorem dX12_minute_39 : decode cX12_minute 39 = .ok (.goto (-27), 3) := by decide +kernel
theorem dX12_minute_42 : decode cX12_minute 42 = .ok (.aload_n 0, 1) := by decide +kernel
theorem dX12_minute_43 : decode cX12_minute 43 = .ok (.invokevirtual 147, 3) := by decide +kernel
theorem dX12_minute_46 : decode cX12_minute 46 = .ok (.ireturn, 1) := by decide +kernel
theorem dX12_flyAt_0 : decode cX12_flyAt 0 = .ok (.aload_n 0, 1) := by decide +kernel
theorem dX12_flyAt_1 : decode cX12_flyAt 1 = .ok (.iload_n 1, 1) := by decide +kernel
theorem dX12_flyAt_2 : decode cX12_flyAt 2 = .ok (.invokevirtual 150, 3) := by decide +kernel
theorem dX12_flyAt_5 : decode cX12_flyAt 5 = .ok (.istore_n 2, 1) := by decide +kernel
theorem dX12_flyAt_6 : decode cX12_flyAt 6 = .ok (.aload_n 0, 1) := by decide +kernel
theorem dX12_flyAt_7 : decode cX12_flyAt 7 = .ok (.iload_n 2, 1) := by decide +kernel
theorem dX12_flyAt_8 : decode cX12_flyAt 8 = .ok (.invokevirtual 62, 3) := by decide +kernel
theorem dX12_flyAt_11 : decode cX12_flyAt 11 = .ok (.ifCond .ne 5, 3) := by decide +kernel
theorem dX12_flyAt_14 : decode cX12_flyAt 14 = .ok (.iconst 0, 1) := by decide +kernel
theorem dX12_flyAt_15 : decode cX12_flyAt 15 = .ok (.ireturn, 1) := by decide +kernel
theorem dX12_flyAt_16 : decode cX12_flyAt 16 = .ok (.aload_n 0, 1) := by decide +kernel
theorem dX12_flyAt_17 : decode cX12_flyAt 17 = .ok (.iload_n 2, 1) := by decide +kernel
theorem dX12_flyAt_18 : decode cX12_flyAt 18 = .ok (.aload_n 0, 1) := by decide +kernel
theorem dX12_flyAt_19 : decode cX12_flyAt 19 = .ok (.iload_n 2, 1) := by decide +kernel
theorem dX12_flyAt_20 : decode cX12_flyAt 20 = .ok (.invokevirtual 153, 3) := by decide +kernel
theorem dX12_flyAt_23 : decode cX12_flyAt 23 = .ok (.invokevirtual 137, 3) := by decide +kernel
theorem dX12_flyAt_26 : decode cX12_flyAt 26 = .ok (.aload_n 0, 1) := by decide +kernel
theorem dX12_flyAt_27 : decode cX12_flyAt 27 = .ok (.invokevirtual 147, 3) := by decide +kernel
theorem dX12_flyAt_30 : decode cX12_flyAt 30 = .ok (.ireturn, 1) := by decide +kernel
theorem dX12_pokes_0 : decode cX12_pokes 0 = .ok (.aload_n 0, 1) := by decide +kernel
theorem dX12_pokes_1 : decode cX12_pokes 1 = .ok (.iload_n 1, 1) := by decide +kernel
theorem dX12_pokes_2 : decode cX12_pokes 2 = .ok (.iconst 3, 1) := by decide +kernel
theorem dX12_pokes_3 : decode cX12_pokes 3 = .ok (.iconst 0, 1) := by decide +kernel
theorem dX12_pokes_4 : decode cX12_pokes 4 = .ok (.invokevirtual 49, 3) := by decide +kernel
theorem dX12_pokes_7 : decode cX12_pokes 7 = .ok (.aload_n 0, 1) := by decide +kernel
theorem dX12_pokes_8 : decode cX12_pokes 8 = .ok (.invokevirtual 147, 3) := by decide +kernel
theorem dX12_pokes_11 : decode cX12_pokes 11 = .ok (.ireturn, 1) := by decide +kernel
theorem dX12_go_0 : decode cX12_go 0 = .ok (.iconst 0, 1) := by decide +kernel
theorem dX12_go_1 : decode cX12_go 1 = .ok (.istore_n 2, 1) := by decide +kernel
theorem dX12_go_2 : decode cX12_go 2 = .ok (.iconst 0, 1) := by decide +kernel
theorem dX12_go_3 : decode cX12_go 3 = .ok (.istore_n 3, 1) := by decide +kernel
theorem dX12_go_4 : decode cX12_go 4 = .ok (.iload_n 3, 1) := by decide +kernel
theorem dX12_go_5 : decode cX12_go 5 = .ok (.iload_n 1, 1) := by decide +kernel
theorem dX12_go_6 : decode cX12_go 6 = .ok (.if_icmp .ge 16, 3) := by decide +kernel
theorem dX12_go_9 : decode cX12_go 9 = .ok (.iload_n 2, 1) := by decide +kernel
theorem dX12_go_10 : decode cX12_go 10 = .ok (.aload_n 0, 1) := by decide +kernel
theorem dX12_go_11 : decode cX12_go 11 = .ok (.invokevirtual 156, 3) := by decide +kernel
theorem dX12_go_14 : decode cX12_go 14 = .ok (.iadd, 1) := by decide +kernel
theorem dX12_go_15 : decode cX12_go 15 = .ok (.istore_n 2, 1) := by decide +kernel
theorem dX12_go_16 : decode cX12_go 16 = .ok (.iinc 3 1, 3) := by decide +kernel
theorem dX12_go_19 : decode cX12_go 19 = .ok (.goto (-15), 3) := by decide +kernel
theorem dX12_go_22 : decode cX12_go 22 = .ok (.iload_n 2, 1) := by decide +kernel
theorem dX12_go_23 : decode cX12_go 23 = .ok (.ireturn, 1) := by decide +kernel
theorem dX12_stander_0 : decode cX12_stander 0 = .ok (.iload_n 1, 1) := by decide +kernel
theorem dX12_stander_1 : decode cX12_stander 1 = .ok (.invokestatic 159, 3) := by decide +kernel
theorem dX12_stander_4 : decode cX12_stander 4 = .ok (.ifCond .eq 13, 3) := by decide +kernel
theorem dX12_stander_7 : decode cX12_stander 7 = .ok (.iload_n 2, 1) := by decide +kernel
theorem dX12_stander_8 : decode cX12_stander 8 = .ok (.iconst 0, 1) := by decide +kernel
theorem dX12_stander_9 : decode cX12_stander 9 = .ok (.bipush 69, 2) := by decide +kernel
theorem dX12_stander_11 : decode cX12_stander 11 = .ok (.invokestatic 54, 3) := by decide +kernel
theorem dX12_stander_14 : decode cX12_stander 14 = .ok (.ifCond .ne 9, 3) := by decide +kernel
theorem dX12_stander_17 : decode cX12_stander 17 = .ok (.aload_n 0, 1) := by decide +kernel
theorem dX12_stander_18 : decode cX12_stander 18 = .ok (.iconst 1, 1) := by decide +kernel
theorem dX12_stander_19 : decode cX12_stander 19 = .ok (.invokevirtual 66, 3) := by decide +kernel
theorem dX12_stander_22 : decode cX12_stander 22 = .ok (.ireturn, 1) := by decide +kernel
theorem dX12_stander_23 : decode cX12_stander 23 = .ok (.bipush 10, 2) := by decide +kernel
theorem dX12_stander_25 : decode cX12_stander 25 = .ok (.aload_n 0, 1) := by decide +kernel
theorem dX12_stander_26 : decode cX12_stander 26 = .ok (.iload_n 1, 1) := by decide +kernel
theorem dX12_stander_27 : decode cX12_stander 27 = .ok (.iconst 0, 1) := by decide +kernel
theorem dX12_stander_28 : decode cX12_stander 28 = .ok (.invokevirtual 58, 3) := by decide +kernel
theorem dX12_stander_31 : decode cX12_stander 31 = .ok (.imul, 1) := by decide +kernel
theorem dX12_stander_32 : decode cX12_stander 32 = .ok (.aload_n 0, 1) := by decide +kernel
theorem dX12_stander_33 : decode cX12_stander 33 = .ok (.iload_n 1, 1) := by decide +kernel
theorem dX12_stander_34 : decode cX12_stander 34 = .ok (.iconst 1, 1) := by decide +kernel
theorem dX12_stander_35 : decode cX12_stander 35 = .ok (.invokevirtual 58, 3) := by decide +kernel
theorem dX12_stander_38 : decode cX12_stander 38 = .ok (.iadd, 1) := by decide +kernel
theorem dX12_stander_39 : decode cX12_stander 39 = .ok (.istore_n 3, 1) := by decide +kernel
theorem dX12_stander_40 : decode cX12_stander 40 = .ok (.aload_n 0, 1) := by decide +kernel
theorem dX12_stander_41 : decode cX12_stander 41 = .ok (.iload_n 1, 1) := by decide +kernel
theorem dX12_stander_42 : decode cX12_stander 42 = .ok (.iconst 0, 1) := by decide +kernel
theorem dX12_stander_43 : decode cX12_stander 43 = .ok (.iload_n 2, 1) := by decide +kernel
theorem dX12_stander_44 : decode cX12_stander 44 = .ok (.bipush 10, 2) := by decide +kernel
theorem dX12_stander_46 : decode cX12_stander 46 = .ok (.idiv, 1) := by decide +kernel
theorem dX12_stander_47 : decode cX12_stander 47 = .ok (.invokevirtual 49, 3) := by decide +kernel
theorem dX12_stander_50 : decode cX12_stander 50 = .ok (.aload_n 0, 1) := by decide +kernel
theorem dX12_stander_51 : decode cX12_stander 51 = .ok (.iload_n 1, 1) := by decide +kernel
theorem dX12_stander_52 : decode cX12_stander 52 = .ok (.iconst 1, 1) := by decide +kernel
theorem dX12_stander_53 : decode cX12_stander 53 = .ok (.iload_n 2, 1) := by decide +kernel
theorem dX12_stander_54 : decode cX12_stander 54 = .ok (.bipush 10, 2) := by decide +kernel
theorem dX12_stander_56 : decode cX12_stander 56 = .ok (.irem, 1) := by decide +kernel
theorem dX12_stander_57 : decode cX12_stander 57 = .ok (.invokevirtual 49, 3) := by decide +kernel
theorem dX12_stander_60 : decode cX12_stander 60 = .ok (.iload_n 3, 1) := by decide +kernel
theorem dX12_stander_61 : decode cX12_stander 61 = .ok (.ireturn, 1) := by decide +kernel
theorem dX12_standerIs_0 : decode cX12_standerIs 0 = .ok (.iload_n 1, 1) := by decide +kernel
theorem dX12_standerIs_1 : decode cX12_standerIs 1 = .ok (.invokestatic 159, 3) := by decide +kernel
theorem dX12_standerIs_4 : decode cX12_standerIs 4 = .ok (.ifCond .eq 13, 3) := by decide +kernel
theorem dX12_standerIs_7 : decode cX12_standerIs 7 = .ok (.iload_n 2, 1) := by decide +kernel
theorem dX12_standerIs_8 : decode cX12_standerIs 8 = .ok (.iconst 0, 1) := by decide +kernel
theorem dX12_standerIs_9 : decode cX12_standerIs 9 = .ok (.bipush 6, 2) := by decide +kernel
theorem dX12_standerIs_11 : decode cX12_standerIs 11 = .ok (.invokestatic 54, 3) := by decide +kernel
theorem dX12_standerIs_14 : decode cX12_standerIs 14 = .ok (.ifCond .ne 9, 3) := by decide +kernel
theorem dX12_standerIs_17 : decode cX12_standerIs 17 = .ok (.aload_n 0, 1) := by decide +kernel
theorem dX12_standerIs_18 : decode cX12_standerIs 18 = .ok (.iconst 1, 1) := by decide +kernel
theorem dX12_standerIs_19 : decode cX12_standerIs 19 = .ok (.invokevirtual 66, 3) := by decide +kernel
theorem dX12_standerIs_22 : decode cX12_standerIs 22 = .ok (.ireturn, 1) := by decide +kernel
theorem dX12_standerIs_23 : decode cX12_standerIs 23 = .ok (.iload_n 2, 1) := by decide +kernel
theorem dX12_standerIs_24 : decode cX12_standerIs 24 = .ok (.iconst 5, 1) := by decide +kernel
theorem dX12_standerIs_25 : decode cX12_standerIs 25 = .ok (.if_icmp .ge 12, 3) := by decide +kernel
theorem dX12_standerIs_28 : decode cX12_standerIs 28 = .ok (.aload_n 0, 1) := by decide +kernel
theorem dX12_standerIs_29 : decode cX12_standerIs 29 = .ok (.iload_n 1, 1) := by decide +kernel
theorem dX12_standerIs_30 : decode cX12_standerIs 30 = .ok (.iload_n 2, 1) := by decide +kernel
theorem dX12_standerIs_31 : decode cX12_standerIs 31 = .ok (.invokevirtual 58, 3) := by decide +kernel
theorem dX12_standerIs_34 : decode cX12_standerIs 34 = .ok (.goto 21, 3) := by decide +kernel
theorem dX12_standerIs_37 : decode cX12_standerIs 37 = .ok (.iload_n 2, 1) := by decide +kernel
theorem dX12_standerIs_38 : decode cX12_standerIs 38 = .ok (.iconst 5, 1) := by decide +kernel
theorem dX12_standerIs_39 : decode cX12_standerIs 39 = .ok (.if_icmp .ne 11, 3) := by decide +kernel
theorem dX12_standerIs_42 : decode cX12_standerIs 42 = .ok (.aload_n 0, 1) := by decide +kernel
theorem dX12_standerIs_43 : decode cX12_standerIs 43 = .ok (.iload_n 1, 1) := by decide +kernel
theorem dX12_standerIs_44 : decode cX12_standerIs 44 = .ok (.invokevirtual 144, 3) := by decide +kernel
theorem dX12_standerIs_47 : decode cX12_standerIs 47 = .ok (.goto 8, 3) := by decide +kernel
theorem dX12_standerIs_50 : decode cX12_standerIs 50 = .ok (.aload_n 0, 1) := by decide +kernel
theorem dX12_standerIs_51 : decode cX12_standerIs 51 = .ok (.iload_n 1, 1) := by decide +kernel
theorem dX12_standerIs_52 : decode cX12_standerIs 52 = .ok (.invokevirtual 153, 3) := by decide +kernel
theorem dX12_standerIs_55 : decode cX12_standerIs 55 = .ok (.ireturn, 1) := by decide +kernel
theorem dX12_isUnder_0 : decode cX12_isUnder 0 = .ok (.iload_n 1, 1) := by decide +kernel
theorem dX12_isUnder_1 : decode cX12_isUnder 1 = .ok (.ifCond .eq 28, 3) := by decide +kernel
theorem dX12_isUnder_4 : decode cX12_isUnder 4 = .ok (.iload_n 0, 1) := by decide +kernel
theorem dX12_isUnder_5 : decode cX12_isUnder 5 = .ok (.iload_n 1, 1) := by decide +kernel
theorem dX12_isUnder_6 : decode cX12_isUnder 6 = .ok (.if_icmp .eq 23, 3) := by decide +kernel
theorem dX12_isUnder_9 : decode cX12_isUnder 9 = .ok (.iload_n 1, 1) := by decide +kernel
theorem dX12_isUnder_10 : decode cX12_isUnder 10 = .ok (.iconst 1, 1) := by decide +kernel
theorem dX12_isUnder_11 : decode cX12_isUnder 11 = .ok (.if_icmp .ne 8, 3) := by decide +kernel
theorem dX12_isUnder_14 : decode cX12_isUnder 14 = .ok (.iload_n 0, 1) := by decide +kernel
theorem dX12_isUnder_15 : decode cX12_isUnder 15 = .ok (.iconst 4, 1) := by decide +kernel
theorem dX12_isUnder_16 : decode cX12_isUnder 16 = .ok (.if_icmp .eq 13, 3) := by decide +kernel
theorem dX12_isUnder_19 : decode cX12_isUnder 19 = .ok (.iload_n 1, 1) := by decide +kernel
theorem dX12_isUnder_20 : decode cX12_isUnder 20 = .ok (.iconst 2, 1) := by decide +kernel
theorem dX12_isUnder_21 : decode cX12_isUnder 21 = .ok (.if_icmp .ne 12, 3) := by decide +kernel
theorem dX12_isUnder_24 : decode cX12_isUnder 24 = .ok (.iload_n 0, 1) := by decide +kernel
theorem dX12_isUnder_25 : decode cX12_isUnder 25 = .ok (.iconst 5, 1) := by decide +kernel
theorem dX12_isUnder_26 : decode cX12_isUnder 26 = .ok (.if_icmp .ne 7, 3) := by decide +kernel
theorem dX12_isUnder_29 : decode cX12_isUnder 29 = .ok (.iconst 1, 1) := by decide +kernel
theorem dX12_isUnder_30 : decode cX12_isUnder 30 = .ok (.goto 4, 3) := by decide +kernel
theorem dX12_isUnder_33 : decode cX12_isUnder 33 = .ok (.iconst 0, 1) := by decide +kernel
theorem dX12_isUnder_34 : decode cX12_isUnder 34 = .ok (.ireturn, 1) := by decide +kernel
theorem dX12_as_0 : decode cX12_as 0 = .ok (.iload_n 1, 1) := by decide +kernel
theorem dX12_as_1 : decode cX12_as 1 = .ok (.invokestatic 159, 3) := by decide +kernel
theorem dX12_as_4 : decode cX12_as 4 = .ok (.ifCond .eq 13, 3) := by decide +kernel
theorem dX12_as_7 : decode cX12_as 7 = .ok (.iload_n 2, 1) := by decide +kernel
theorem dX12_as_8 : decode cX12_as 8 = .ok (.iconst 0, 1) := by decide +kernel
theorem dX12_as_9 : decode cX12_as 9 = .ok (.bipush 6, 2) := by decide +kernel
theorem dX12_as_11 : decode cX12_as 11 = .ok (.invokestatic 54, 3) := by decide +kernel
theorem dX12_as_14 : decode cX12_as 14 = .ok (.ifCond .ne 9, 3) := by decide +kernel
theorem dX12_as_17 : decode cX12_as 17 = .ok (.aload_n 0, 1) := by decide +kernel
theorem dX12_as_18 : decode cX12_as 18 = .ok (.iconst 1, 1) := by decide +kernel
theorem dX12_as_19 : decode cX12_as 19 = .ok (.invokevirtual 66, 3) := by decide +kernel
theorem dX12_as_22 : decode cX12_as 22 = .ok (.ireturn, 1) := by decide +kernel
theorem dX12_as_23 : decode cX12_as 23 = .ok (.aload_n 0, 1) := by decide +kernel
theorem dX12_as_24 : decode cX12_as 24 = .ok (.iload_n 1, 1) := by decide +kernel
theorem dX12_as_25 : decode cX12_as 25 = .ok (.iconst 0, 1) := by decide +kernel
theorem dX12_as_26 : decode cX12_as 26 = .ok (.invokevirtual 58, 3) := by decide +kernel
theorem dX12_as_29 : decode cX12_as 29 = .ok (.iload_n 2, 1) := by decide +kernel
theorem dX12_as_30 : decode cX12_as 30 = .ok (.invokestatic 162, 3) := by decide +kernel
theorem dX12_as_33 : decode cX12_as 33 = .ok (.ifCond .eq 12, 3) := by decide +kernel
theorem dX12_as_36 : decode cX12_as 36 = .ok (.aload_n 0, 1) := by decide +kernel
theorem dX12_as_37 : decode cX12_as 37 = .ok (.iload_n 1, 1) := by decide +kernel
theorem dX12_as_38 : decode cX12_as 38 = .ok (.iconst 1, 1) := by decide +kernel
theorem dX12_as_39 : decode cX12_as 39 = .ok (.invokevirtual 58, 3) := by decide +kernel
theorem dX12_as_42 : decode cX12_as 42 = .ok (.goto 8, 3) := by decide +kernel
theorem dX12_as_45 : decode cX12_as 45 = .ok (.aload_n 0, 1) := by decide +kernel
theorem dX12_as_46 : decode cX12_as 46 = .ok (.iconst 5, 1) := by decide +kernel
theorem dX12_as_47 : decode cX12_as 47 = .ok (.invokevirtual 66, 3) := by decide +kernel
theorem dX12_as_50 : decode cX12_as 50 = .ok (.ireturn, 1) := by decide +kernel
theorem dX12_patience_0 : decode cX12_patience 0 = .ok (.iload_n 1, 1) := by decide +kernel
theorem dX12_patience_1 : decode cX12_patience 1 = .ok (.invokestatic 159, 3) := by decide +kernel
theorem dX12_patience_4 : decode cX12_patience 4 = .ok (.ifCond .eq 14, 3) := by decide +kernel
theorem dX12_patience_7 : decode cX12_patience 7 = .ok (.iload_n 2, 1) := by decide +kernel
theorem dX12_patience_8 : decode cX12_patience 8 = .ok (.iconst 0, 1) := by decide +kernel
theorem dX12_patience_9 : decode cX12_patience 9 = .ok (.sipush 999, 3) := by decide +kernel
theorem dX12_patience_12 : decode cX12_patience 12 = .ok (.invokestatic 54, 3) := by decide +kernel
theorem dX12_patience_15 : decode cX12_patience 15 = .ok (.ifCond .ne 9, 3) := by decide +kernel
theorem dX12_patience_18 : decode cX12_patience 18 = .ok (.aload_n 0, 1) := by decide +kernel
theorem dX12_patience_19 : decode cX12_patience 19 = .ok (.iconst 1, 1) := by decide +kernel
theorem dX12_patience_20 : decode cX12_patience 20 = .ok (.invokevirtual 66, 3) := by decide +kernel
theorem dX12_patience_23 : decode cX12_patience 23 = .ok (.ireturn, 1) := by decide +kernel
theorem dX12_patience_24 : decode cX12_patience 24 = .ok (.aload_n 0, 1) := by decide +kernel
theorem dX12_patience_25 : decode cX12_patience 25 = .ok (.iload_n 1, 1) := by decide +kernel
theorem dX12_patience_26 : decode cX12_patience 26 = .ok (.invokevirtual 62, 3) := by decide +kernel
theorem dX12_patience_29 : decode cX12_patience 29 = .ok (.ifCond .ne 9, 3) := by decide +kernel
theorem dX12_patience_32 : decode cX12_patience 32 = .ok (.aload_n 0, 1) := by decide +kernel
theorem dX12_patience_33 : decode cX12_patience 33 = .ok (.iconst 3, 1) := by decide +kernel
theorem dX12_patience_34 : decode cX12_patience 34 = .ok (.invokevirtual 66, 3) := by decide +kernel
theorem dX12_patience_37 : decode cX12_patience 37 = .ok (.ireturn, 1) := by decide +kernel
theorem dX12_patience_38 : decode cX12_patience 38 = .ok (.aload_n 0, 1) := by decide +kernel
theorem dX12_patience_39 : decode cX12_patience 39 = .ok (.iload_n 1, 1) := by decide +kernel
theorem dX12_patience_40 : decode cX12_patience 40 = .ok (.iconst 3, 1) := by decide +kernel
theorem dX12_patience_41 : decode cX12_patience 41 = .ok (.invokevirtual 58, 3) := by decide +kernel
theorem dX12_patience_44 : decode cX12_patience 44 = .ok (.istore_n 3, 1) := by decide +kernel
theorem dX12_patience_45 : decode cX12_patience 45 = .ok (.aload_n 0, 1) := by decide +kernel
theorem dX12_patience_46 : decode cX12_patience 46 = .ok (.iload_n 1, 1) := by decide +kernel
theorem dX12_patience_47 : decode cX12_patience 47 = .ok (.iconst 3, 1) := by decide +kernel
theorem dX12_patience_48 : decode cX12_patience 48 = .ok (.iload_n 2, 1) := by decide +kernel
theorem dX12_patience_49 : decode cX12_patience 49 = .ok (.invokevirtual 49, 3) := by decide +kernel
theorem dX12_patience_52 : decode cX12_patience 52 = .ok (.aload_n 0, 1) := by decide +kernel
theorem dX12_patience_53 : decode cX12_patience 53 = .ok (.invokevirtual 147, 3) := by decide +kernel
theorem dX12_patience_56 : decode cX12_patience 56 = .ok (.istore 4, 2) := by decide +kernel
theorem dX12_patience_58 : decode cX12_patience 58 = .ok (.iload_n 3, 1) := by decide +kernel
theorem dX12_patience_59 : decode cX12_patience 59 = .ok (.ireturn, 1) := by decide +kernel
theorem dX12_swaps_0 : decode cX12_swaps 0 = .ok (.aload_n 0, 1) := by decide +kernel
theorem dX12_swaps_1 : decode cX12_swaps 1 = .ok (.iload_n 1, 1) := by decide +kernel
theorem dX12_swaps_2 : decode cX12_swaps 2 = .ok (.iconst 2, 1) := by decide +kernel
theorem dX12_swaps_3 : decode cX12_swaps 3 = .ok (.invokevirtual 58, 3) := by decide +kernel
theorem dX12_swaps_6 : decode cX12_swaps 6 = .ok (.istore_n 3, 1) := by decide +kernel
theorem dX12_swaps_7 : decode cX12_swaps 7 = .ok (.aload_n 0, 1) := by decide +kernel
theorem dX12_swaps_8 : decode cX12_swaps 8 = .ok (.iload_n 1, 1) := by decide +kernel
theorem dX12_swaps_9 : decode cX12_swaps 9 = .ok (.iconst 2, 1) := by decide +kernel
theorem dX12_swaps_10 : decode cX12_swaps 10 = .ok (.aload_n 0, 1) := by decide +kernel
theorem dX12_swaps_11 : decode cX12_swaps 11 = .ok (.iload_n 2, 1) := by decide +kernel
theorem dX12_swaps_12 : decode cX12_swaps 12 = .ok (.iconst 2, 1) := by decide +kernel
theorem dX12_swaps_13 : decode cX12_swaps 13 = .ok (.invokevirtual 58, 3) := by decide +kernel
theorem dX12_swaps_16 : decode cX12_swaps 16 = .ok (.invokevirtual 49, 3) := by decide +kernel
theorem dX12_swaps_19 : decode cX12_swaps 19 = .ok (.aload_n 0, 1) := by decide +kernel
theorem dX12_swaps_20 : decode cX12_swaps 20 = .ok (.iload_n 2, 1) := by decide +kernel
theorem dX12_swaps_21 : decode cX12_swaps 21 = .ok (.iconst 2, 1) := by decide +kernel
theorem dX12_swaps_22 : decode cX12_swaps 22 = .ok (.iload_n 3, 1) := by decide +kernel
theorem dX12_swaps_23 : decode cX12_swaps 23 = .ok (.invokevirtual 49, 3) := by decide +kernel
theorem dX12_swaps_26 : decode cX12_swaps 26 = .ok (.return_, 1) := by decide +kernel
theorem dX12_swap_0 : decode cX12_swap 0 = .ok (.iload_n 1, 1) := by decide +kernel
theorem dX12_swap_1 : decode cX12_swap 1 = .ok (.invokestatic 159, 3) := by decide +kernel
theorem dX12_swap_4 : decode cX12_swap 4 = .ok (.ifCond .eq 10, 3) := by decide +kernel
theorem dX12_swap_7 : decode cX12_swap 7 = .ok (.iload_n 2, 1) := by decide +kernel
theorem dX12_swap_8 : decode cX12_swap 8 = .ok (.invokestatic 159, 3) := by decide +kernel
theorem dX12_swap_11 : decode cX12_swap 11 = .ok (.ifCond .ne 9, 3) := by decide +kernel
theorem dX12_swap_14 : decode cX12_swap 14 = .ok (.aload_n 0, 1) := by decide +kernel
theorem dX12_swap_15 : decode cX12_swap 15 = .ok (.iconst 1, 1) := by decide +kernel
theorem dX12_swap_16 : decode cX12_swap 16 = .ok (.invokevirtual 66, 3) := by decide +kernel
theorem dX12_swap_19 : decode cX12_swap 19 = .ok (.ireturn, 1) := by decide +kernel
theorem dX12_swap_20 : decode cX12_swap 20 = .ok (.aload_n 0, 1) := by decide +kernel
theorem dX12_swap_21 : decode cX12_swap 21 = .ok (.iload_n 1, 1) := by decide +kernel
theorem dX12_swap_22 : decode cX12_swap 22 = .ok (.invokevirtual 62, 3) := by decide +kernel
theorem dX12_swap_25 : decode cX12_swap 25 = .ok (.ifCond .eq 11, 3) := by decide +kernel
theorem dX12_swap_28 : decode cX12_swap 28 = .ok (.aload_n 0, 1) := by decide +kernel
theorem dX12_swap_29 : decode cX12_swap 29 = .ok (.iload_n 2, 1) := by decide +kernel
theorem dX12_swap_30 : decode cX12_swap 30 = .ok (.invokevirtual 62, 3) := by decide +kernel
theorem dX12_swap_33 : decode cX12_swap 33 = .ok (.ifCond .ne 9, 3) := by decide +kernel
theorem dX12_swap_36 : decode cX12_swap 36 = .ok (.aload_n 0, 1) := by decide +kernel
theorem dX12_swap_37 : decode cX12_swap 37 = .ok (.iconst 3, 1) := by decide +kernel
theorem dX12_swap_38 : decode cX12_swap 38 = .ok (.invokevirtual 66, 3) := by decide +kernel
theorem dX12_swap_41 : decode cX12_swap 41 = .ok (.ireturn, 1) := by decide +kernel
theorem dX12_swap_42 : decode cX12_swap 42 = .ok (.aload_n 0, 1) := by decide +kernel
theorem dX12_swap_43 : decode cX12_swap 43 = .ok (.iload_n 1, 1) := by decide +kernel
theorem dX12_swap_44 : decode cX12_swap 44 = .ok (.iload_n 2, 1) := by decide +kernel
theorem dX12_swap_45 : decode cX12_swap 45 = .ok (.invokevirtual 166, 3) := by decide +kernel
theorem dX12_swap_48 : decode cX12_swap 48 = .ok (.aload_n 0, 1) := by decide +kernel
theorem dX12_swap_49 : decode cX12_swap 49 = .ok (.iload_n 1, 1) := by decide +kernel
theorem dX12_swap_50 : decode cX12_swap 50 = .ok (.iconst 2, 1) := by decide +kernel
theorem dX12_swap_51 : decode cX12_swap 51 = .ok (.invokevirtual 58, 3) := by decide +kernel
theorem dX12_swap_54 : decode cX12_swap 54 = .ok (.ireturn, 1) := by decide +kernel
theorem dX12_again_0 : decode cX12_again 0 = .ok (.iload_n 1, 1) := by decide +kernel
theorem dX12_again_1 : decode cX12_again 1 = .ok (.invokestatic 159, 3) := by decide +kernel
theorem dX12_again_4 : decode cX12_again 4 = .ok (.ifCond .eq 14, 3) := by decide +kernel
theorem dX12_again_7 : decode cX12_again 7 = .ok (.iload_n 2, 1) := by decide +kernel
theorem dX12_again_8 : decode cX12_again 8 = .ok (.iconst 1, 1) := by decide +kernel
theorem dX12_again_9 : decode cX12_again 9 = .ok (.sipush 999, 3) := by decide +kernel
theorem dX12_again_12 : decode cX12_again 12 = .ok (.invokestatic 54, 3) := by decide +kernel
theorem dX12_again_15 : decode cX12_again 15 = .ok (.ifCond .ne 9, 3) := by decide +kernel
theorem dX12_again_18 : decode cX12_again 18 = .ok (.aload_n 0, 1) := by decide +kernel
theorem dX12_again_19 : decode cX12_again 19 = .ok (.iconst 1, 1) := by decide +kernel
theorem dX12_again_20 : decode cX12_again 20 = .ok (.invokevirtual 66, 3) := by decide +kernel
theorem dX12_again_23 : decode cX12_again 23 = .ok (.ireturn, 1) := by decide +kernel
theorem dX12_again_24 : decode cX12_again 24 = .ok (.aload_n 0, 1) := by decide +kernel
theorem dX12_again_25 : decode cX12_again 25 = .ok (.iload_n 1, 1) := by decide +kernel
theorem dX12_again_26 : decode cX12_again 26 = .ok (.invokevirtual 62, 3) := by decide +kernel
theorem dX12_again_29 : decode cX12_again 29 = .ok (.ifCond .eq 9, 3) := by decide +kernel
theorem dX12_again_32 : decode cX12_again 32 = .ok (.aload_n 0, 1) := by decide +kernel
theorem dX12_again_33 : decode cX12_again 33 = .ok (.iconst 3, 1) := by decide +kernel
theorem dX12_again_34 : decode cX12_again 34 = .ok (.invokevirtual 66, 3) := by decide +kernel
theorem dX12_again_37 : decode cX12_again 37 = .ok (.ireturn, 1) := by decide +kernel
theorem dX12_again_38 : decode cX12_again 38 = .ok (.aload_n 0, 1) := by decide +kernel
theorem dX12_again_39 : decode cX12_again 39 = .ok (.iload_n 1, 1) := by decide +kernel
theorem dX12_again_40 : decode cX12_again 40 = .ok (.iconst 3, 1) := by decide +kernel
theorem dX12_again_41 : decode cX12_again 41 = .ok (.iload_n 2, 1) := by decide +kernel
theorem dX12_again_42 : decode cX12_again 42 = .ok (.invokevirtual 49, 3) := by decide +kernel
theorem dX12_again_45 : decode cX12_again 45 = .ok (.aload_n 0, 1) := by decide +kernel
theorem dX12_again_46 : decode cX12_again 46 = .ok (.iload_n 1, 1) := by decide +kernel
theorem dX12_again_47 : decode cX12_again 47 = .ok (.iconst 4, 1) := by decide +kernel
theorem dX12_again_48 : decode cX12_again 48 = .ok (.iconst (-1), 1) := by decide +kernel
theorem dX12_again_49 : decode cX12_again 49 = .ok (.invokevirtual 49, 3) := by decide +kernel
theorem dX12_again_52 : decode cX12_again 52 = .ok (.iconst 1, 1) := by decide +kernel
theorem dX12_again_53 : decode cX12_again 53 = .ok (.ireturn, 1) := by decide +kernel
theorem dX12_sun_0 : decode cX12_sun 0 = .ok (.iload_n 1, 1) := by decide +kernel
theorem dX12_sun_1 : decode cX12_sun 1 = .ok (.iconst 0, 1) := by decide +kernel
theorem dX12_sun_2 : decode cX12_sun 2 = .ok (.bipush 9, 2) := by decide +kernel
theorem dX12_sun_4 : decode cX12_sun 4 = .ok (.invokestatic 54, 3) := by decide +kernel
theorem dX12_sun_7 : decode cX12_sun 7 = .ok (.ifCond .eq 12, 3) := by decide +kernel
theorem dX12_sun_10 : decode cX12_sun 10 = .ok (.aload_n 0, 1) := by decide +kernel
theorem dX12_sun_11 : decode cX12_sun 11 = .ok (.iconst 1, 1) := by decide +kernel
theorem dX12_sun_12 : decode cX12_sun 12 = .ok (.iload_n 1, 1) := by decide +kernel
theorem dX12_sun_13 : decode cX12_sun 13 = .ok (.invokevirtual 169, 3) := by decide +kernel
theorem dX12_sun_16 : decode cX12_sun 16 = .ok (.goto 8, 3) := by decide +kernel
theorem dX12_sun_19 : decode cX12_sun 19 = .ok (.aload_n 0, 1) := by decide +kernel
theorem dX12_sun_20 : decode cX12_sun 20 = .ok (.iconst 1, 1) := by decide +kernel
theorem dX12_sun_21 : decode cX12_sun 21 = .ok (.invokevirtual 66, 3) := by decide +kernel
theorem dX12_sun_24 : decode cX12_sun 24 = .ok (.ireturn, 1) := by decide +kernel
theorem dX12_at_0 : decode cX12_at 0 = .ok (.iload_n 1, 1) := by decide +kernel
theorem dX12_at_1 : decode cX12_at 1 = .ok (.invokestatic 159, 3) := by decide +kernel
theorem dX12_at_4 : decode cX12_at 4 = .ok (.ifCond .eq 11, 3) := by decide +kernel
theorem dX12_at_7 : decode cX12_at 7 = .ok (.aload_n 0, 1) := by decide +kernel
theorem dX12_at_8 : decode cX12_at 8 = .ok (.iload_n 1, 1) := by decide +kernel
theorem dX12_at_9 : decode cX12_at 9 = .ok (.invokevirtual 150, 3) := by decide +kernel
theorem dX12_at_12 : decode cX12_at 12 = .ok (.goto 8, 3) := by decide +kernel
theorem dX12_at_15 : decode cX12_at 15 = .ok (.aload_n 0, 1) := by decide +kernel
theorem dX12_at_16 : decode cX12_at 16 = .ok (.iconst 1, 1) := by decide +kernel
theorem dX12_at_17 : decode cX12_at 17 = .ok (.invokevirtual 66, 3) := by decide +kernel
theorem dX12_at_20 : decode cX12_at 20 = .ok (.ireturn, 1) := by decide +kernel
theorem dX12_minutes_0 : decode cX12_minutes 0 = .ok (.iload_n 1, 1) := by decide +kernel
theorem dX12_minutes_1 : decode cX12_minutes 1 = .ok (.iconst 1, 1) := by decide +kernel
theorem dX12_minutes_2 : decode cX12_minutes 2 = .ok (.sipush 200, 3) := by decide +kernel
theorem dX12_minutes_5 : decode cX12_minutes 5 = .ok (.invokestatic 54, 3) := by decide +kernel
theorem dX12_minutes_8 : decode cX12_minutes 8 = .ok (.ifCond .ne 7, 3) := by decide +kernel
theorem dX12_minutes_11 : decode cX12_minutes 11 = .ok (.iconst 1, 1) := by decide +kernel
theorem dX12_minutes_12 : decode cX12_minutes 12 = .ok (.goto 22, 3) := by decide +kernel
theorem dX12_minutes_15 : decode cX12_minutes 15 = .ok (.aload_n 0, 1) := by decide +kernel
theorem dX12_minutes_16 : decode cX12_minutes 16 = .ok (.getfield 7, 3) := by decide +kernel
theorem dX12_minutes_19 : decode cX12_minutes 19 = .ok (.iconst 0, 1) := by decide +kernel
theorem dX12_minutes_20 : decode cX12_minutes 20 = .ok (.iaload, 1) := by decide +kernel
theorem dX12_minutes_21 : decode cX12_minutes 21 = .ok (.iload_n 1, 1) := by decide +kernel
theorem dX12_minutes_22 : decode cX12_minutes 22 = .ok (.iadd, 1) := by decide +kernel
theorem dX12_minutes_23 : decode cX12_minutes 23 = .ok (.sipush 9999, 3) := by decide +kernel
theorem dX12_minutes_26 : decode cX12_minutes 26 = .ok (.if_icmp .le 7, 3) := by decide +kernel
theorem dX12_minutes_29 : decode cX12_minutes 29 = .ok (.iconst 3, 1) := by decide +kernel
theorem dX12_minutes_30 : decode cX12_minutes 30 = .ok (.goto 4, 3) := by decide +kernel
theorem dX12_minutes_33 : decode cX12_minutes 33 = .ok (.iconst 0, 1) := by decide +kernel
theorem dX12_minutes_34 : decode cX12_minutes 34 = .ok (.istore_n 2, 1) := by decide +kernel
theorem dX12_minutes_35 : decode cX12_minutes 35 = .ok (.iload_n 2, 1) := by decide +kernel
theorem dX12_minutes_36 : decode cX12_minutes 36 = .ok (.ifCond .le 11, 3) := by decide +kernel
theorem dX12_minutes_39 : decode cX12_minutes 39 = .ok (.aload_n 0, 1) := by decide +kernel
theorem dX12_minutes_40 : decode cX12_minutes 40 = .ok (.iload_n 2, 1) := by decide +kernel
theorem dX12_minutes_41 : decode cX12_minutes 41 = .ok (.invokevirtual 66, 3) := by decide +kernel
theorem dX12_minutes_44 : decode cX12_minutes 44 = .ok (.goto 8, 3) := by decide +kernel
theorem dX12_minutes_47 : decode cX12_minutes 47 = .ok (.aload_n 0, 1) := by decide +kernel
theorem dX12_minutes_48 : decode cX12_minutes 48 = .ok (.iload_n 1, 1) := by decide +kernel
theorem dX12_minutes_49 : decode cX12_minutes 49 = .ok (.invokevirtual 172, 3) := by decide +kernel
theorem dX12_minutes_52 : decode cX12_minutes 52 = .ok (.ireturn, 1) := by decide +kernel
theorem dX12_fly_0 : decode cX12_fly 0 = .ok (.iload_n 1, 1) := by decide +kernel
theorem dX12_fly_1 : decode cX12_fly 1 = .ok (.invokestatic 159, 3) := by decide +kernel
theorem dX12_fly_4 : decode cX12_fly 4 = .ok (.ifCond .eq 11, 3) := by decide +kernel
theorem dX12_fly_7 : decode cX12_fly 7 = .ok (.aload_n 0, 1) := by decide +kernel
theorem dX12_fly_8 : decode cX12_fly 8 = .ok (.iload_n 1, 1) := by decide +kernel
theorem dX12_fly_9 : decode cX12_fly 9 = .ok (.invokevirtual 175, 3) := by decide +kernel
theorem dX12_fly_12 : decode cX12_fly 12 = .ok (.goto 8, 3) := by decide +kernel
theorem dX12_fly_15 : decode cX12_fly 15 = .ok (.aload_n 0, 1) := by decide +kernel
theorem dX12_fly_16 : decode cX12_fly 16 = .ok (.iconst 1, 1) := by decide +kernel
theorem dX12_fly_17 : decode cX12_fly 17 = .ok (.invokevirtual 66, 3) := by decide +kernel
theorem dX12_fly_20 : decode cX12_fly 20 = .ok (.ireturn, 1) := by decide +kernel
theorem dX12_poke_0 : decode cX12_poke 0 = .ok (.iload_n 1, 1) := by decide +kernel
theorem dX12_poke_1 : decode cX12_poke 1 = .ok (.invokestatic 159, 3) := by decide +kernel
theorem dX12_poke_4 : decode cX12_poke 4 = .ok (.ifCond .ne 7, 3) := by decide +kernel
theorem dX12_poke_7 : decode cX12_poke 7 = .ok (.iconst 1, 1) := by decide +kernel
theorem dX12_poke_8 : decode cX12_poke 8 = .ok (.goto 16, 3) := by decide +kernel
theorem dX12_poke_11 : decode cX12_poke 11 = .ok (.aload_n 0, 1) := by decide +kernel
theorem dX12_poke_12 : decode cX12_poke 12 = .ok (.iload_n 1, 1) := by decide +kernel
theorem dX12_poke_13 : decode cX12_poke 13 = .ok (.invokevirtual 62, 3) := by decide +kernel
theorem dX12_poke_16 : decode cX12_poke 16 = .ok (.ifCond .eq 7, 3) := by decide +kernel
theorem dX12_poke_19 : decode cX12_poke 19 = .ok (.iconst 0, 1) := by decide +kernel
theorem dX12_poke_20 : decode cX12_poke 20 = .ok (.goto 4, 3) := by decide +kernel
theorem dX12_poke_23 : decode cX12_poke 23 = .ok (.iconst 3, 1) := by decide +kernel
theorem dX12_poke_24 : decode cX12_poke 24 = .ok (.istore_n 2, 1) := by decide +kernel
theorem dX12_poke_25 : decode cX12_poke 25 = .ok (.iload_n 2, 1) := by decide +kernel
theorem dX12_poke_26 : decode cX12_poke 26 = .ok (.ifCond .le 11, 3) := by decide +kernel
theorem dX12_poke_29 : decode cX12_poke 29 = .ok (.aload_n 0, 1) := by decide +kernel
theorem dX12_poke_30 : decode cX12_poke 30 = .ok (.iload_n 2, 1) := by decide +kernel
theorem dX12_poke_31 : decode cX12_poke 31 = .ok (.invokevirtual 66, 3) := by decide +kernel
theorem dX12_poke_34 : decode cX12_poke 34 = .ok (.goto 8, 3) := by decide +kernel
theorem dX12_poke_37 : decode cX12_poke 37 = .ok (.aload_n 0, 1) := by decide +kernel
theorem dX12_poke_38 : decode cX12_poke 38 = .ok (.iload_n 1, 1) := by decide +kernel
theorem dX12_poke_39 : decode cX12_poke 39 = .ok (.invokevirtual 178, 3) := by decide +kernel
theorem dX12_poke_42 : decode cX12_poke 42 = .ok (.ireturn, 1) := by decide +kernel
theorem dX12_draw_0 : decode cX12_draw 0 = .ok (.aload_n 0, 1) := by decide +kernel
theorem dX12_draw_1 : decode cX12_draw 1 = .ok (.getfield 7, 3) := by decide +kernel
theorem dX12_draw_4 : decode cX12_draw 4 = .ok (.iconst 4, 1) := by decide +kernel
theorem dX12_draw_5 : decode cX12_draw 5 = .ok (.aload_n 0, 1) := by decide +kernel
theorem dX12_draw_6 : decode cX12_draw 6 = .ok (.getfield 7, 3) := by decide +kernel
theorem dX12_draw_9 : decode cX12_draw 9 = .ok (.iconst 4, 1) := by decide +kernel
theorem dX12_draw_10 : decode cX12_draw 10 = .ok (.iaload, 1) := by decide +kernel
theorem dX12_draw_11 : decode cX12_draw 11 = .ok (.ldc 181, 2) := by decide +kernel
theorem dX12_draw_13 : decode cX12_draw 13 = .ok (.imul, 1) := by decide +kernel
theorem dX12_draw_14 : decode cX12_draw 14 = .ok (.sipush 12345, 3) := by decide +kernel
theorem dX12_draw_17 : decode cX12_draw 17 = .ok (.iadd, 1) := by decide +kernel
theorem dX12_draw_18 : decode cX12_draw 18 = .ok (.iastore, 1) := by decide +kernel
theorem dX12_draw_19 : decode cX12_draw 19 = .ok (.aload_n 0, 1) := by decide +kernel
theorem dX12_draw_20 : decode cX12_draw 20 = .ok (.getfield 7, 3) := by decide +kernel
theorem dX12_draw_23 : decode cX12_draw 23 = .ok (.iconst 4, 1) := by decide +kernel
theorem dX12_draw_24 : decode cX12_draw 24 = .ok (.iaload, 1) := by decide +kernel
theorem dX12_draw_25 : decode cX12_draw 25 = .ok (.bipush 8, 2) := by decide +kernel
theorem dX12_draw_27 : decode cX12_draw 27 = .ok (.iushr, 1) := by decide +kernel
theorem dX12_draw_28 : decode cX12_draw 28 = .ok (.ireturn, 1) := by decide +kernel
theorem dX12_draws_0 : decode cX12_draws 0 = .ok (.iload_n 1, 1) := by decide +kernel
theorem dX12_draws_1 : decode cX12_draws 1 = .ok (.iconst 1, 1) := by decide +kernel
theorem dX12_draws_2 : decode cX12_draws 2 = .ok (.bipush 60, 2) := by decide +kernel
theorem dX12_draws_4 : decode cX12_draws 4 = .ok (.invokestatic 54, 3) := by decide +kernel
theorem dX12_draws_7 : decode cX12_draws 7 = .ok (.ifCond .ne 9, 3) := by decide +kernel
theorem dX12_draws_10 : decode cX12_draws 10 = .ok (.aload_n 0, 1) := by decide +kernel
theorem dX12_draws_11 : decode cX12_draws 11 = .ok (.iconst 1, 1) := by decide +kernel
theorem dX12_draws_12 : decode cX12_draws 12 = .ok (.invokevirtual 66, 3) := by decide +kernel
theorem dX12_draws_15 : decode cX12_draws 15 = .ok (.ireturn, 1) := by decide +kernel
theorem dX12_draws_16 : decode cX12_draws 16 = .ok (.iconst 0, 1) := by decide +kernel
theorem dX12_draws_17 : decode cX12_draws 17 = .ok (.istore_n 2, 1) := by decide +kernel
theorem dX12_draws_18 : decode cX12_draws 18 = .ok (.iconst 0, 1) := by decide +kernel
theorem dX12_draws_19 : decode cX12_draws 19 = .ok (.istore_n 3, 1) := by decide +kernel
theorem dX12_draws_20 : decode cX12_draws 20 = .ok (.iload_n 3, 1) := by decide +kernel
theorem dX12_draws_21 : decode cX12_draws 21 = .ok (.iload_n 1, 1) := by decide +kernel
theorem dX12_draws_22 : decode cX12_draws 22 = .ok (.if_icmp .ge 23, 3) := by decide +kernel
theorem dX12_draws_25 : decode cX12_draws 25 = .ok (.iload_n 2, 1) := by decide +kernel
theorem dX12_draws_26 : decode cX12_draws 26 = .ok (.aload_n 0, 1) := by decide +kernel
theorem dX12_draws_27 : decode cX12_draws 27 = .ok (.aload_n 0, 1) := by decide +kernel
theorem dX12_draws_28 : decode cX12_draws 28 = .ok (.invokevirtual 182, 3) := by decide +kernel
theorem dX12_draws_31 : decode cX12_draws 31 = .ok (.bipush 9, 2) := by decide +kernel
theorem dX12_draws_33 : decode cX12_draws 33 = .ok (.irem, 1) := by decide +kernel
theorem dX12_draws_34 : decode cX12_draws 34 = .ok (.invokevirtual 175, 3) := by decide +kernel
theorem dX12_draws_37 : decode cX12_draws 37 = .ok (.iadd, 1) := by decide +kernel
theorem dX12_draws_38 : decode cX12_draws 38 = .ok (.istore_n 2, 1) := by decide +kernel
theorem dX12_draws_39 : decode cX12_draws 39 = .ok (.iinc 3 1, 3) := by decide +kernel
theorem dX12_draws_42 : decode cX12_draws 42 = .ok (.goto (-22), 3) := by decide +kernel
theorem dX12_draws_45 : decode cX12_draws 45 = .ok (.iload_n 2, 1) := by decide +kernel
theorem dX12_draws_46 : decode cX12_draws 46 = .ok (.ireturn, 1) := by decide +kernel
theorem dX12_seed_0 : decode cX12_seed 0 = .ok (.aload_n 0, 1) := by decide +kernel
theorem dX12_seed_1 : decode cX12_seed 1 = .ok (.iconst 4, 1) := by decide +kernel
theorem dX12_seed_2 : decode cX12_seed 2 = .ok (.iload_n 1, 1) := by decide +kernel
theorem dX12_seed_3 : decode cX12_seed 3 = .ok (.invokevirtual 169, 3) := by decide +kernel
theorem dX12_seed_6 : decode cX12_seed 6 = .ok (.ireturn, 1) := by decide +kernel
theorem dX12_then_0 : decode cX12_then 0 = .ok (.iload_n 1, 1) := by decide +kernel
theorem dX12_then_1 : decode cX12_then 1 = .ok (.iconst 0, 1) := by decide +kernel
theorem dX12_then_2 : decode cX12_then 2 = .ok (.sipush 200, 3) := by decide +kernel
theorem dX12_then_5 : decode cX12_then 5 = .ok (.invokestatic 54, 3) := by decide +kernel
theorem dX12_then_8 : decode cX12_then 8 = .ok (.ifCond .eq 19, 3) := by decide +kernel
theorem dX12_then_11 : decode cX12_then 11 = .ok (.iload_n 2, 1) := by decide +kernel
theorem dX12_then_12 : decode cX12_then 12 = .ok (.invokestatic 159, 3) := by decide +kernel
theorem dX12_then_15 : decode cX12_then 15 = .ok (.ifCond .eq 12, 3) := by decide +kernel
theorem dX12_then_18 : decode cX12_then 18 = .ok (.iload_n 3, 1) := by decide +kernel
theorem dX12_then_19 : decode cX12_then 19 = .ok (.iconst 2, 1) := by decide +kernel
theorem dX12_then_20 : decode cX12_then 20 = .ok (.iconst 4, 1) := by decide +kernel
theorem dX12_then_21 : decode cX12_then 21 = .ok (.invokestatic 54, 3) := by decide +kernel
theorem dX12_then_24 : decode cX12_then 24 = .ok (.ifCond .ne 9, 3) := by decide +kernel
theorem dX12_then_27 : decode cX12_then 27 = .ok (.aload_n 0, 1) := by decide +kernel
theorem dX12_then_28 : decode cX12_then 28 = .ok (.iconst 1, 1) := by decide +kernel
theorem dX12_then_29 : decode cX12_then 29 = .ok (.invokevirtual 66, 3) := by decide +kernel
theorem dX12_then_32 : decode cX12_then 32 = .ok (.ireturn, 1) := by decide +kernel
theorem dX12_then_33 : decode cX12_then 33 = .ok (.aload_n 0, 1) := by decide +kernel
theorem dX12_then_34 : decode cX12_then 34 = .ok (.iconst 0, 1) := by decide +kernel
theorem dX12_then_35 : decode cX12_then 35 = .ok (.invokevirtual 185, 3) := by decide +kernel
theorem dX12_then_38 : decode cX12_then 38 = .ok (.aload_n 0, 1) := by decide +kernel
theorem dX12_then_39 : decode cX12_then 39 = .ok (.iload_n 1, 1) := by decide +kernel
theorem dX12_then_40 : decode cX12_then 40 = .ok (.invokevirtual 172, 3) := by decide +kernel
theorem dX12_then_43 : decode cX12_then 43 = .ok (.istore 4, 2) := by decide +kernel
theorem dX12_then_45 : decode cX12_then 45 = .ok (.aload_n 0, 1) := by decide +kernel
theorem dX12_then_46 : decode cX12_then 46 = .ok (.iload_n 2, 1) := by decide +kernel
theorem dX12_then_47 : decode cX12_then 47 = .ok (.iload_n 3, 1) := by decide +kernel
theorem dX12_then_48 : decode cX12_then 48 = .ok (.invokevirtual 58, 3) := by decide +kernel
theorem dX12_then_51 : decode cX12_then 51 = .ok (.istore 5, 2) := by decide +kernel
theorem dX12_then_53 : decode cX12_then 53 = .ok (.aload_n 0, 1) := by decide +kernel
theorem dX12_then_54 : decode cX12_then 54 = .ok (.iconst 0, 1) := by decide +kernel
theorem dX12_then_55 : decode cX12_then 55 = .ok (.invokevirtual 188, 3) := by decide +kernel
theorem dX12_then_58 : decode cX12_then 58 = .ok (.iload 5, 2) := by decide +kernel
theorem dX12_then_60 : decode cX12_then 60 = .ok (.ireturn, 1) := by decide +kernel
theorem dX12_standing_0 : decode cX12_standing 0 = .ok (.iload_n 1, 1) := by decide +kernel
theorem dX12_standing_1 : decode cX12_standing 1 = .ok (.iconst 0, 1) := by decide +kernel
theorem dX12_standing_2 : decode cX12_standing 2 = .ok (.sipush 200, 3) := by decide +kernel
theorem dX12_standing_5 : decode cX12_standing 5 = .ok (.invokestatic 54, 3) := by decide +kernel
theorem dX12_standing_8 : decode cX12_standing 8 = .ok (.ifCond .ne 9, 3) := by decide +kernel
theorem dX12_standing_11 : decode cX12_standing 11 = .ok (.aload_n 0, 1) := by decide +kernel
theorem dX12_standing_12 : decode cX12_standing 12 = .ok (.iconst 1, 1) := by decide +kernel
theorem dX12_standing_13 : decode cX12_standing 13 = .ok (.invokevirtual 66, 3) := by decide +kernel
theorem dX12_standing_16 : decode cX12_standing 16 = .ok (.ireturn, 1) := by decide +kernel
theorem dX12_standing_17 : decode cX12_standing 17 = .ok (.aload_n 0, 1) := by decide +kernel
theorem dX12_standing_18 : decode cX12_standing 18 = .ok (.iconst 0, 1) := by decide +kernel
theorem dX12_standing_19 : decode cX12_standing 19 = .ok (.invokevirtual 185, 3) := by decide +kernel
theorem dX12_standing_22 : decode cX12_standing 22 = .ok (.aload_n 0, 1) := by decide +kernel
theorem dX12_standing_23 : decode cX12_standing 23 = .ok (.iload_n 1, 1) := by decide +kernel
theorem dX12_standing_24 : decode cX12_standing 24 = .ok (.invokevirtual 172, 3) := by decide +kernel
theorem dX12_standing_27 : decode cX12_standing 27 = .ok (.istore_n 2, 1) := by decide +kernel
theorem dX12_standing_28 : decode cX12_standing 28 = .ok (.aload_n 0, 1) := by decide +kernel
theorem dX12_standing_29 : decode cX12_standing 29 = .ok (.invokevirtual 191, 3) := by decide +kernel
theorem dX12_standing_32 : decode cX12_standing 32 = .ok (.istore_n 3, 1) := by decide +kernel
theorem dX12_standing_33 : decode cX12_standing 33 = .ok (.aload_n 0, 1) := by decide +kernel
theorem dX12_standing_34 : decode cX12_standing 34 = .ok (.iconst 0, 1) := by decide +kernel
theorem dX12_standing_35 : decode cX12_standing 35 = .ok (.invokevirtual 188, 3) := by decide +kernel
theorem dX12_standing_38 : decode cX12_standing 38 = .ok (.iload_n 3, 1) := by decide +kernel
theorem dX12_standing_39 : decode cX12_standing 39 = .ok (.ireturn, 1) := by decide +kernel
theorem dX12_lastAll_0 : decode cX12_lastAll 0 = .ok (.aload_n 0, 1) := by decide +kernel
theorem dX12_lastAll_1 : decode cX12_lastAll 1 = .ok (.iconst 0, 1) := by decide +kernel
theorem dX12_lastAll_2 : decode cX12_lastAll 2 = .ok (.invokevirtual 185, 3) := by decide +kernel
theorem dX12_lastAll_5 : decode cX12_lastAll 5 = .ok (.iconst 0, 1) := by decide +kernel
theorem dX12_lastAll_6 : decode cX12_lastAll 6 = .ok (.istore_n 1, 1) := by decide +kernel
theorem dX12_lastAll_7 : decode cX12_lastAll 7 = .ok (.iload_n 1, 1) := by decide +kernel
theorem dX12_lastAll_8 : decode cX12_lastAll 8 = .ok (.bipush 9, 2) := by decide +kernel
theorem dX12_lastAll_10 : decode cX12_lastAll 10 = .ok (.if_icmp .ge 18, 3) := by decide +kernel
theorem dX12_lastAll_13 : decode cX12_lastAll 13 = .ok (.aload_n 0, 1) := by decide +kernel
theorem dX12_lastAll_14 : decode cX12_lastAll 14 = .ok (.getfield 31, 3) := by decide +kernel
theorem dX12_lastAll_17 : decode cX12_lastAll 17 = .ok (.iload_n 1, 1) := by decide +kernel
theorem dX12_lastAll_18 : decode cX12_lastAll 18 = .ok (.sipush 201, 3) := by decide +kernel
theorem dX12_lastAll_21 : decode cX12_lastAll 21 = .ok (.iastore, 1) := by decide +kernel
theorem dX12_lastAll_22 : decode cX12_lastAll 22 = .ok (.iinc 1 1, 3) := by decide +kernel
theorem dX12_lastAll_25 : decode cX12_lastAll 25 = .ok (.goto (-18), 3) := by decide +kernel
theorem dX12_lastAll_28 : decode cX12_lastAll 28 = .ok (.iconst 1, 1) := by decide +kernel
theorem dX12_lastAll_29 : decode cX12_lastAll 29 = .ok (.istore_n 1, 1) := by decide +kernel
theorem dX12_lastAll_30 : decode cX12_lastAll 30 = .ok (.iload_n 1, 1) := by decide +kernel
theorem dX12_lastAll_31 : decode cX12_lastAll 31 = .ok (.sipush 200, 3) := by decide +kernel
theorem dX12_lastAll_34 : decode cX12_lastAll 34 = .ok (.if_icmp .gt 68, 3) := by decide +kernel
theorem dX12_lastAll_37 : decode cX12_lastAll 37 = .ok (.aload_n 0, 1) := by decide +kernel
theorem dX12_lastAll_38 : decode cX12_lastAll 38 = .ok (.invokevirtual 156, 3) := by decide +kernel
theorem dX12_lastAll_41 : decode cX12_lastAll 41 = .ok (.istore_n 2, 1) := by decide +kernel
theorem dX12_lastAll_42 : decode cX12_lastAll 42 = .ok (.iconst 0, 1) := by decide +kernel
theorem dX12_lastAll_43 : decode cX12_lastAll 43 = .ok (.istore_n 3, 1) := by decide +kernel
theorem dX12_lastAll_44 : decode cX12_lastAll 44 = .ok (.iload_n 3, 1) := by decide +kernel
theorem dX12_lastAll_45 : decode cX12_lastAll 45 = .ok (.bipush 9, 2) := by decide +kernel
theorem dX12_lastAll_47 : decode cX12_lastAll 47 = .ok (.if_icmp .ge 49, 3) := by decide +kernel
theorem dX12_lastAll_50 : decode cX12_lastAll 50 = .ok (.iload_n 2, 1) := by decide +kernel
theorem dX12_lastAll_51 : decode cX12_lastAll 51 = .ok (.ifCond .le 45, 3) := by decide +kernel
theorem dX12_lastAll_54 : decode cX12_lastAll 54 = .ok (.aload_n 0, 1) := by decide +kernel
theorem dX12_lastAll_55 : decode cX12_lastAll 55 = .ok (.getfield 31, 3) := by decide +kernel
theorem dX12_lastAll_58 : decode cX12_lastAll 58 = .ok (.iload_n 3, 1) := by decide +kernel
theorem dX12_lastAll_59 : decode cX12_lastAll 59 = .ok (.aload_n 0, 1) := by decide +kernel
theorem dX12_lastAll_60 : decode cX12_lastAll 60 = .ok (.iload_n 3, 1) := by decide +kernel
theorem dX12_lastAll_61 : decode cX12_lastAll 61 = .ok (.invokevirtual 62, 3) := by decide +kernel
theorem dX12_lastAll_64 : decode cX12_lastAll 64 = .ok (.ifCond .ne 19, 3) := by decide +kernel
theorem dX12_lastAll_67 : decode cX12_lastAll 67 = .ok (.aload_n 0, 1) := by decide +kernel
theorem dX12_lastAll_68 : decode cX12_lastAll 68 = .ok (.getfield 31, 3) := by decide +kernel
theorem dX12_lastAll_71 : decode cX12_lastAll 71 = .ok (.iload_n 3, 1) := by decide +kernel
theorem dX12_lastAll_72 : decode cX12_lastAll 72 = .ok (.iaload, 1) := by decide +kernel
theorem dX12_lastAll_73 : decode cX12_lastAll 73 = .ok (.sipush 201, 3) := by decide +kernel
theorem dX12_lastAll_76 : decode cX12_lastAll 76 = .ok (.if_icmp .ne 7, 3) := by decide +kernel
theorem dX12_lastAll_79 : decode cX12_lastAll 79 = .ok (.iload_n 1, 1) := by decide +kernel
theorem dX12_lastAll_80 : decode cX12_lastAll 80 = .ok (.goto 9, 3) := by decide +kernel
theorem dX12_lastAll_83 : decode cX12_lastAll 83 = .ok (.aload_n 0, 1) := by decide +kernel
theorem dX12_lastAll_84 : decode cX12_lastAll 84 = .ok (.getfield 31, 3) := by decide +kernel
theorem dX12_lastAll_87 : decode cX12_lastAll 87 = .ok (.iload_n 3, 1) := by decide +kernel
theorem dX12_lastAll_88 : decode cX12_lastAll 88 = .ok (.iaload, 1) := by decide +kernel
theorem dX12_lastAll_89 : decode cX12_lastAll 89 = .ok (.iastore, 1) := by decide +kernel
theorem dX12_lastAll_90 : decode cX12_lastAll 90 = .ok (.iinc 3 1, 3) := by decide +kernel
theorem dX12_lastAll_93 : decode cX12_lastAll 93 = .ok (.goto (-49), 3) := by decide +kernel
theorem dX12_lastAll_96 : decode cX12_lastAll 96 = .ok (.iinc 1 1, 3) := by decide +kernel
theorem dX12_lastAll_99 : decode cX12_lastAll 99 = .ok (.goto (-69), 3) := by decide +kernel
theorem dX12_lastAll_102 : decode cX12_lastAll 102 = .ok (.aload_n 0, 1) := by decide +kernel
theorem dX12_lastAll_103 : decode cX12_lastAll 103 = .ok (.iconst 0, 1) := by decide +kernel
theorem dX12_lastAll_104 : decode cX12_lastAll 104 = .ok (.invokevirtual 188, 3) := by decide +kernel
theorem dX12_lastAll_107 : decode cX12_lastAll 107 = .ok (.return_, 1) := by decide +kernel
theorem dX12_lasts_0 : decode cX12_lasts 0 = .ok (.iload_n 1, 1) := by decide +kernel
theorem dX12_lasts_1 : decode cX12_lasts 1 = .ok (.invokestatic 159, 3) := by decide +kernel
theorem dX12_lasts_4 : decode cX12_lasts 4 = .ok (.ifCond .ne 7, 3) := by decide +kernel
theorem dX12_lasts_7 : decode cX12_lasts 7 = .ok (.iconst 1, 1) := by decide +kernel
theorem dX12_lasts_8 : decode cX12_lasts 8 = .ok (.goto 16, 3) := by decide +kernel
theorem dX12_lasts_11 : decode cX12_lasts 11 = .ok (.aload_n 0, 1) := by decide +kernel
theorem dX12_lasts_12 : decode cX12_lasts 12 = .ok (.iload_n 1, 1) := by decide +kernel
theorem dX12_lasts_13 : decode cX12_lasts 13 = .ok (.invokevirtual 62, 3) := by decide +kernel
theorem dX12_lasts_16 : decode cX12_lasts 16 = .ok (.ifCond .eq 7, 3) := by decide +kernel
theorem dX12_lasts_19 : decode cX12_lasts 19 = .ok (.iconst 0, 1) := by decide +kernel
theorem dX12_lasts_20 : decode cX12_lasts 20 = .ok (.goto 4, 3) := by decide +kernel
theorem dX12_lasts_23 : decode cX12_lasts 23 = .ok (.iconst 3, 1) := by decide +kernel
theorem dX12_lasts_24 : decode cX12_lasts 24 = .ok (.istore_n 2, 1) := by decide +kernel
theorem dX12_lasts_25 : decode cX12_lasts 25 = .ok (.iload_n 2, 1) := by decide +kernel
theorem dX12_lasts_26 : decode cX12_lasts 26 = .ok (.ifCond .le 9, 3) := by decide +kernel
theorem dX12_lasts_29 : decode cX12_lasts 29 = .ok (.aload_n 0, 1) := by decide +kernel
theorem dX12_lasts_30 : decode cX12_lasts 30 = .ok (.iload_n 2, 1) := by decide +kernel
theorem dX12_lasts_31 : decode cX12_lasts 31 = .ok (.invokevirtual 66, 3) := by decide +kernel
theorem dX12_lasts_34 : decode cX12_lasts 34 = .ok (.ireturn, 1) := by decide +kernel
theorem dX12_lasts_35 : decode cX12_lasts 35 = .ok (.aload_n 0, 1) := by decide +kernel
theorem dX12_lasts_36 : decode cX12_lasts 36 = .ok (.invokevirtual 194, 3) := by decide +kernel
theorem dX12_lasts_39 : decode cX12_lasts 39 = .ok (.aload_n 0, 1) := by decide +kernel
theorem dX12_lasts_40 : decode cX12_lasts 40 = .ok (.getfield 31, 3) := by decide +kernel
theorem dX12_lasts_43 : decode cX12_lasts 43 = .ok (.iload_n 1, 1) := by decide +kernel
theorem dX12_lasts_44 : decode cX12_lasts 44 = .ok (.iaload, 1) := by decide +kernel
theorem dX12_lasts_45 : decode cX12_lasts 45 = .ok (.sipush 201, 3) := by decide +kernel
theorem dX12_lasts_48 : decode cX12_lasts 48 = .ok (.if_icmp .ne 11, 3) := by decide +kernel
theorem dX12_lasts_51 : decode cX12_lasts 51 = .ok (.aload_n 0, 1) := by decide +kernel
theorem dX12_lasts_52 : decode cX12_lasts 52 = .ok (.iconst 2, 1) := by decide +kernel
theorem dX12_lasts_53 : decode cX12_lasts 53 = .ok (.invokevirtual 66, 3) := by decide +kernel
theorem dX12_lasts_56 : decode cX12_lasts 56 = .ok (.goto 9, 3) := by decide +kernel
theorem dX12_lasts_59 : decode cX12_lasts 59 = .ok (.aload_n 0, 1) := by decide +kernel
theorem dX12_lasts_60 : decode cX12_lasts 60 = .ok (.getfield 31, 3) := by decide +kernel
theorem dX12_lasts_63 : decode cX12_lasts 63 = .ok (.iload_n 1, 1) := by decide +kernel
theorem dX12_lasts_64 : decode cX12_lasts 64 = .ok (.iaload, 1) := by decide +kernel
theorem dX12_lasts_65 : decode cX12_lasts 65 = .ok (.ireturn, 1) := by decide +kernel
theorem dX12_lastOne_0 : decode cX12_lastOne 0 = .ok (.iconst (-1), 1) := by decide +kernel
theorem dX12_lastOne_1 : decode cX12_lastOne 1 = .ok (.istore_n 1, 1) := by decide +kernel
theorem dX12_lastOne_2 : decode cX12_lastOne 2 = .ok (.aload_n 0, 1) := by decide +kernel
theorem dX12_lastOne_3 : decode cX12_lastOne 3 = .ok (.invokevirtual 194, 3) := by decide +kernel
theorem dX12_lastOne_6 : decode cX12_lastOne 6 = .ok (.iconst 0, 1) := by decide +kernel
theorem dX12_lastOne_7 : decode cX12_lastOne 7 = .ok (.istore_n 2, 1) := by decide +kernel
theorem dX12_lastOne_8 : decode cX12_lastOne 8 = .ok (.iload_n 2, 1) := by decide +kernel
theorem dX12_lastOne_9 : decode cX12_lastOne 9 = .ok (.bipush 9, 2) := by decide +kernel
theorem dX12_lastOne_11 : decode cX12_lastOne 11 = .ok (.if_icmp .ge 43, 3) := by decide +kernel
theorem dX12_lastOne_14 : decode cX12_lastOne 14 = .ok (.aload_n 0, 1) := by decide +kernel
theorem dX12_lastOne_15 : decode cX12_lastOne 15 = .ok (.iload_n 2, 1) := by decide +kernel
theorem dX12_lastOne_16 : decode cX12_lastOne 16 = .ok (.invokevirtual 62, 3) := by decide +kernel
theorem dX12_lastOne_19 : decode cX12_lastOne 19 = .ok (.ifCond .eq 27, 3) := by decide +kernel
theorem dX12_lastOne_22 : decode cX12_lastOne 22 = .ok (.iload_n 1, 1) := by decide +kernel
theorem dX12_lastOne_23 : decode cX12_lastOne 23 = .ok (.iconst (-1), 1) := by decide +kernel
theorem dX12_lastOne_24 : decode cX12_lastOne 24 = .ok (.if_icmp .eq 18, 3) := by decide +kernel
theorem dX12_lastOne_27 : decode cX12_lastOne 27 = .ok (.aload_n 0, 1) := by decide +kernel
theorem dX12_lastOne_28 : decode cX12_lastOne 28 = .ok (.getfield 31, 3) := by decide +kernel
theorem dX12_lastOne_31 : decode cX12_lastOne 31 = .ok (.iload_n 2, 1) := by decide +kernel
theorem dX12_lastOne_32 : decode cX12_lastOne 32 = .ok (.iaload, 1) := by decide +kernel
theorem dX12_lastOne_33 : decode cX12_lastOne 33 = .ok (.aload_n 0, 1) := by decide +kernel
theorem dX12_lastOne_34 : decode cX12_lastOne 34 = .ok (.getfield 31, 3) := by decide +kernel
theorem dX12_lastOne_37 : decode cX12_lastOne 37 = .ok (.iload_n 1, 1) := by decide +kernel
theorem dX12_lastOne_38 : decode cX12_lastOne 38 = .ok (.iaload, 1) := by decide +kernel
theorem dX12_lastOne_39 : decode cX12_lastOne 39 = .ok (.if_icmp .le 7, 3) := by decide +kernel
theorem dX12_lastOne_42 : decode cX12_lastOne 42 = .ok (.iload_n 2, 1) := by decide +kernel
theorem dX12_lastOne_43 : decode cX12_lastOne 43 = .ok (.goto 4, 3) := by decide +kernel
theorem dX12_lastOne_46 : decode cX12_lastOne 46 = .ok (.iload_n 1, 1) := by decide +kernel
theorem dX12_lastOne_47 : decode cX12_lastOne 47 = .ok (.istore_n 1, 1) := by decide +kernel
theorem dX12_lastOne_48 : decode cX12_lastOne 48 = .ok (.iinc 2 1, 3) := by decide +kernel
theorem dX12_lastOne_51 : decode cX12_lastOne 51 = .ok (.goto (-43), 3) := by decide +kernel
theorem dX12_lastOne_54 : decode cX12_lastOne 54 = .ok (.iload_n 1, 1) := by decide +kernel
theorem dX12_lastOne_55 : decode cX12_lastOne 55 = .ok (.iconst (-1), 1) := by decide +kernel
theorem dX12_lastOne_56 : decode cX12_lastOne 56 = .ok (.if_icmp .ne 11, 3) := by decide +kernel
theorem dX12_lastOne_59 : decode cX12_lastOne 59 = .ok (.aload_n 0, 1) := by decide +kernel
theorem dX12_lastOne_60 : decode cX12_lastOne 60 = .ok (.iconst 2, 1) := by decide +kernel
theorem dX12_lastOne_61 : decode cX12_lastOne 61 = .ok (.invokevirtual 66, 3) := by decide +kernel
theorem dX12_lastOne_64 : decode cX12_lastOne 64 = .ok (.goto 4, 3) := by decide +kernel
theorem dX12_lastOne_67 : decode cX12_lastOne 67 = .ok (.iload_n 1, 1) := by decide +kernel
theorem dX12_lastOne_68 : decode cX12_lastOne 68 = .ok (.ireturn, 1) := by decide +kernel
theorem dX12_round_0 : decode cX12_round 0 = .ok (.iload_n 1, 1) := by decide +kernel
theorem dX12_round_1 : decode cX12_round 1 = .ok (.invokestatic 159, 3) := by decide +kernel
theorem dX12_round_4 : decode cX12_round 4 = .ok (.ifCond .eq 21, 3) := by decide +kernel
theorem dX12_round_7 : decode cX12_round 7 = .ok (.iload_n 2, 1) := by decide +kernel
theorem dX12_round_8 : decode cX12_round 8 = .ok (.iconst 1, 1) := by decide +kernel
theorem dX12_round_9 : decode cX12_round 9 = .ok (.iconst 3, 1) := by decide +kernel
theorem dX12_round_10 : decode cX12_round 10 = .ok (.invokestatic 54, 3) := by decide +kernel
theorem dX12_round_13 : decode cX12_round 13 = .ok (.ifCond .eq 12, 3) := by decide +kernel
