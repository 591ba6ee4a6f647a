theorem dX12_fly_0 : decode cX12_fly 0 = .ok (.iload_n 1, 1) := by decide +kernel
theorem dX12_fly_1 : decode cX12_fly 1 = .ok (.invokestatic 159, 3) := by decide +kernel
theorem dX12_fly_4 : decode cX12_fly 4 = .ok (.ifCond .eq 11, 3) := by decide +kernel
theorem dX12_fly_7 : decode cX12_fly 7 = .ok (.aload_n 0, 1) := by decide +kernel
theorem dX12_fly_8 : decode cX12_fly 8 = .ok (.iload_n 1, 1) := by decide +kernel
theorem dX12_fly_9 : decode cX12_fly 9 = .ok (.invokevirtual 175, 3) := by decide +kernel
theorem dX12_fly_12 : decode cX12_fly 12 = .ok (.goto 8, 3) := by decide +kernel
theorem dX12_fly_15 : decode cX12_fly 15 = .ok (.aload_n 0, 1) := by decide +kernel
theorem dX12_fly_16 : decode cX12_fly 16 = .ok (.iconst 1, 1) := by decide +kernel
theorem dX12_fly_17 : decode cX12_fly 17 = .ok (.invokevirtual 66, 3) := by decide +kernel
theorem dX12_fly_20 : decode cX12_fly 20 = .ok (.ireturn, 1) := by decide +kernel
theorem dX12_poke_0 : decode cX12_poke 0 = .ok (.iload_n 1, 1) := by decide +kernel
theorem dX12_poke_1 : decode cX12_poke 1 = .ok (.invokestatic 159, 3) := by decide +kernel
theorem dX12_poke_4 : decode cX12_poke 4 = .ok (.ifCond .ne 7, 3) := by decide +kernel
theorem dX12_poke_7 : decode cX12_poke 7 = .ok (.iconst 1, 1) := by decide +kernel
theorem dX12_poke_8 : decode cX12_poke 8 = .ok (.goto 16, 3) := by decide +kernel
theorem dX12_poke_11 : decode cX12_poke 11 = .ok (.aload_n 0, 1) := by decide +kernel
theorem dX12_poke_12 : decode cX12_poke 12 = .ok (.iload_n 1, 1) := by decide +kernel
theorem dX12_poke_13 : decode cX12_poke 13 = .ok (.invokevirtual 62, 3) := by decide +kernel
theorem dX12_poke_16 : decode cX12_poke 16 = .ok (.ifCond .eq 7, 3) := by decide +kernel
theorem dX12_poke_19 : decode cX12_poke 19 = .ok (.iconst 0, 1) := by decide +kernel
theorem dX12_poke_20 : decode cX12_poke 20 = .ok (.goto 4, 3) := by decide +kernel
theorem dX12_poke_23 : decode cX12_poke 23 = .ok (.iconst 3, 1) := by decide +kernel
theorem dX12_poke_24 : decode cX12_poke 24 = .ok (.istore_n 2, 1) := by decide +kernel
theorem dX12_poke_25 : decode cX12_poke 25 = .ok (.iload_n 2, 1) := by decide +kernel
theorem dX12_poke_26 : decode cX12_poke 26 = .ok (.ifCond .le 11, 3) := by decide +kernel
theorem dX12_poke_29 : decode cX12_poke 29 = .ok (.aload_n 0, 1) := by decide +kernel
theorem dX12_poke_30 : decode cX12_poke 30 = .ok (.iload_n 2, 1) := by decide +kernel
theorem dX12_poke_31 : decode cX12_poke 31 = .ok (.invokevirtual 66, 3) := by decide +kernel
theorem dX12_poke_34 : decode cX12_poke 34 = .ok (.goto 8, 3) := by decide +kernel
theorem dX12_poke_37 : decode cX12_poke 37 = .ok (.aload_n 0, 1) := by decide +kernel
theorem dX12_poke_38 : decode cX12_poke 38 = .ok (.iload_n 1, 1) := by decide +kernel
theorem dX12_poke_39 : decode cX12_poke 39 = .ok (.invokevirtual 178, 3) := by decide +kernel
theorem dX12_poke_42 : decode cX12_poke 42 = .ok (.ireturn, 1) := by decide +kernel
theorem dX12_draw_0 : decode cX12_draw 0 = .ok (.aload_n 0, 1) := by decide +kernel
theorem dX12_draw_1 : decode cX12_draw 1 = .ok (.getfield 7, 3) := by decide +kernel
theorem dX12_draw_4 : decode cX12_draw 4 = .ok (.iconst 4, 1) := by decide +kernel
theorem dX12_draw_5 : decode cX12_draw 5 = .ok (.aload_n 0, 1) := by decide +kernel
theorem dX12_draw_6 : decode cX12_draw 6 = .ok (.getfield 7, 3) := by decide +kernel
theorem dX12_draw_9 : decode cX12_draw 9 = .ok (.iconst 4, 1) := by decide +kernel
theorem dX12_draw_10 : decode cX12_draw 10 = .ok (.iaload, 1) := by decide +kernel
theorem dX12_draw_11 : decode cX12_draw 11 = .ok (.ldc 181, 2) := by decide +kernel
theorem dX12_draw_13 : decode cX12_draw 13 = .ok (.imul, 1) := by decide +kernel
theorem dX12_draw_14 : decode cX12_draw 14 = .ok (.sipush 12345, 3) := by decide +kernel
theorem dX12_draw_17 : decode cX12_draw 17 = .ok (.iadd, 1) := by decide +kernel
theorem dX12_draw_18 : decode cX12_draw 18 = .ok (.iastore, 1) := by decide +kernel
theorem dX12_draw_19 : decode cX12_draw 19 = .ok (.aload_n 0, 1) := by decide +kernel
theorem dX12_draw_20 : decode cX12_draw 20 = .ok (.getfield 7, 3) := by decide +kernel
theorem dX12_draw_23 : decode cX12_draw 23 = .ok (.iconst 4, 1) := by decide +kernel
theorem dX12_draw_24 : decode cX12_draw 24 = .ok (.iaload, 1) := by decide +kernel
theorem dX12_draw_25 : decode cX12_draw 25 = .ok (.bipush 8, 2) := by decide +kernel
theorem dX12_draw_27 : decode cX12_draw 27 = .ok (.iushr, 1) := by decide +kernel
theorem dX12_draw_28 : decode cX12_draw 28 = .ok (.ireturn, 1) := by decide +kernel
theorem dX12_draws_0 : decode cX12_draws 0 = .ok (.iload_n 1, 1) := by decide +kernel
theorem dX12_draws_1 : decode cX12_draws 1 = .ok (.iconst 1, 1) := by decide +kernel
theorem dX12_draws_2 : decode cX12_draws 2 = .ok (.bipush 60, 2) := by decide +kernel
theorem dX12_draws_4 : decode cX12_draws 4 = .ok (.invokestatic 54, 3) := by decide +kernel
theorem dX12_draws_7 : decode cX12_draws 7 = .ok (.ifCond .ne 9, 3) := by decide +kernel
theorem dX12_draws_10 : decode cX12_draws 10 = .ok (.aload_n 0, 1) := by decide +kernel
theorem dX12_draws_11 : decode cX12_draws 11 = .ok (.iconst 1, 1) := by decide +kernel
theorem dX12_draws_12 : decode cX12_draws 12 = .ok (.invokevirtual 66, 3) := by decide +kernel
theorem dX12_draws_15 : decode cX12_draws 15 = .ok (.ireturn, 1) := by decide +kernel
theorem dX12_draws_16 : decode cX12_draws 16 = .ok (.iconst 0, 1) := by decide +kernel
theorem dX12_draws_17 : decode cX12_draws 17 = .ok (.istore_n 2, 1) := by decide +kernel
theorem dX12_draws_18 : decode cX12_draws 18 = .ok (.iconst 0, 1) := by decide +kernel
theorem dX12_draws_19 : decode cX12_draws 19 = .ok (.istore_n 3, 1) := by decide +kernel
theorem dX12_draws_20 : decode cX12_draws 20 = .ok (.iload_n 3, 1) := by decide +kernel
theorem dX12_draws_21 : decode cX12_draws 21 = .ok (.iload_n 1, 1) := by decide +kernel
theorem dX12_draws_22 : decode cX12_draws 22 = .ok (.if_icmp .ge 23, 3) := by decide +kernel
theorem dX12_draws_25 : decode cX12_draws 25 = .ok (.iload_n 2, 1) := by decide +kernel
theorem dX12_draws_26 : decode cX12_draws 26 = .ok (.aload_n 0, 1) := by decide +kernel
theorem dX12_draws_27 : decode cX12_draws 27 = .ok (.aload_n 0, 1) := by decide +kernel
theorem dX12_draws_28 : decode cX12_draws 28 = .ok (.invokevirtual 182, 3) := by decide +kernel
theorem dX12_draws_31 : decode cX12_draws 31 = .ok (.bipush 9, 2) := by decide +kernel
theorem dX12_draws_33 : decode cX12_draws 33 = .ok (.irem, 1) := by decide +kernel
theorem dX12_draws_34 : decode cX12_draws 34 = .ok (.invokevirtual 175, 3) := by decide +kernel
theorem dX12_draws_37 : decode cX12_draws 37 = .ok (.iadd, 1) := by decide +kernel
theorem dX12_draws_38 : decode cX12_draws 38 = .ok (.istore_n 2, 1) := by decide +kernel
theorem dX12_draws_39 : decode cX12_draws 39 = .ok (.iinc 3 1, 3) := by decide +kernel
theorem dX12_draws_42 : decode cX12_draws 42 = .ok (.goto (-22), 3) := by decide +kernel
theorem dX12_draws_45 : decode cX12_draws 45 = .ok (.iload_n 2, 1) := by decide +kernel
theorem dX12_draws_46 : decode cX12_draws 46 = .ok (.ireturn, 1) := by decide +kernel
theorem dX12_seed_0 : decode cX12_seed 0 = .ok (.aload_n 0, 1) := by decide +kernel
theorem dX12_seed_1 : decode cX12_seed 1 = .ok (.iconst 4, 1) := by decide +kernel
theorem dX12_seed_2 : decode cX12_seed 2 = .ok (.iload_n 1, 1) := by decide +kernel
theorem dX12_seed_3 : decode cX12_seed 3 = .ok (.invokevirtual 169, 3) := by decide +kernel
theorem dX12_seed_6 : decode cX12_seed 6 = .ok (.ireturn, 1) := by decide +kernel
theorem dX12_then_0 : decode cX12_then 0 = .ok (.iload_n 1, 1) := by decide +kernel
theorem dX12_then_1 : decode cX12_then 1 = .ok (.iconst 0, 1) := by decide +kernel
theorem dX12_then_2 : decode cX12_then 2 = .ok (.sipush 200, 3) := by decide +kernel
theorem dX12_then_5 : decode cX12_then 5 = .ok (.invokestatic 54, 3) := by decide +kernel
theorem dX12_then_8 : decode cX12_then 8 = .ok (.ifCond .eq 19, 3) := by decide +kernel
theorem dX12_then_11 : decode cX12_then 11 = .ok (.iload_n 2, 1) := by decide +kernel
theorem dX12_then_12 : decode cX12_then 12 = .ok (.invokestatic 159, 3) := by decide +kernel
theorem dX12_then_15 : decode cX12_then 15 = .ok (.ifCond .eq 12, 3) := by decide +kernel
theorem dX12_then_18 : decode cX12_then 18 = .ok (.iload_n 3, 1) := by decide +kernel
theorem dX12_then_19 : decode cX12_then 19 = .ok (.iconst 2, 1) := by decide +kernel
theorem dX12_then_20 : decode cX12_then 20 = .ok (.iconst 4, 1) := by decide +kernel
theorem dX12_then_21 : decode cX12_then 21 = .ok (.invokestatic 54, 3) := by decide +kernel
theorem dX12_then_24 : decode cX12_then 24 = .ok (.ifCond .ne 9, 3) := by decide +kernel
theorem dX12_then_27 : decode cX12_then 27 = .ok (.aload_n 0, 1) := by decide +kernel
theorem dX12_then_28 : decode cX12_then 28 = .ok (.iconst 1, 1) := by decide +kernel
theorem dX12_then_29 : decode cX12_then 29 = .ok (.invokevirtual 66, 3) := by decide +kernel
theorem dX12_then_32 : decode cX12_then 32 = .ok (.ireturn, 1) := by decide +kernel
theorem dX12_then_33 : decode cX12_then 33 = .ok (.aload_n 0, 1) := by decide +kernel
theorem dX12_then_34 : decode cX12_then 34 = .ok (.iconst 0, 1) := by decide +kernel
theorem dX12_then_35 : decode cX12_then 35 = .ok (.invokevirtual 185, 3) := by decide +kernel
theorem dX12_then_38 : decode cX12_then 38 = .ok (.aload_n 0, 1) := by decide +kernel
theorem dX12_then_39 : decode cX12_then 39 = .ok (.iload_n 1, 1) := by decide +kernel
theorem dX12_then_40 : decode cX12_then 40 = .ok (.invokevirtual 172, 3) := by decide +kernel
theorem dX12_then_43 : decode cX12_then 43 = .ok (.istore 4, 2) := by decide +kernel
theorem dX12_then_45 : decode cX12_then 45 = .ok (.aload_n 0, 1) := by decide +kernel
theorem dX12_then_46 : decode cX12_then 46 = .ok (.iload_n 2, 1) := by decide +kernel
theorem dX12_then_47 : decode cX12_then 47 = .ok (.iload_n 3, 1) := by decide +kernel
theorem dX12_then_48 : decode cX12_then 48 = .ok (.invokevirtual 58, 3) := by decide +kernel
theorem dX12_then_51 : decode cX12_then 51 = .ok (.istore 5, 2) := by decide +kernel
theorem dX12_then_53 : decode cX12_then 53 = .ok (.aload_n 0, 1) := by decide +kernel
theorem dX12_then_54 : decode cX12_then 54 = .ok (.iconst 0, 1) := by decide +kernel
theorem dX12_then_55 : decode cX12_then 55 = .ok (.invokevirtual 188, 3) := by decide +kernel
theorem dX12_then_58 : decode cX12_then 58 = .ok (.iload 5, 2) := by decide +kernel
theorem dX12_then_60 : decode cX12_then 60 = .ok (.ireturn, 1) := by decide +kernel
theorem dX12_standing_0 : decode cX12_standing 0 = .ok (.iload_n 1, 1) := by decide +kernel
theorem dX12_standing_1 : decode cX12_standing 1 = .ok (.iconst 0, 1) := by decide +kernel
theorem dX12_standing_2 : decode cX12_standing 2 = .ok (.sipush 200, 3) := by decide +kernel
theorem dX12_standing_5 : decode cX12_standing 5 = .ok (.invokestatic 54, 3) := by decide +kernel
theorem dX12_standing_8 : decode cX12_standing 8 = .ok (.ifCond .ne 9, 3) := by decide +kernel
theorem dX12_standing_11 : decode cX12_standing 11 = .ok (.aload_n 0, 1) := by decide +kernel
theorem dX12_standing_12 : decode cX12_standing 12 = .ok (.iconst 1, 1) := by decide +kernel
theorem dX12_standing_13 : decode cX12_standing 13 = .ok (.invokevirtual 66, 3) := by decide +kernel
theorem dX12_standing_16 : decode cX12_standing 16 = .ok (.ireturn, 1) := by decide +kernel
theorem dX12_standing_17 : decode cX12_standing 17 = .ok (.aload_n 0, 1) := by decide +kernel
theorem dX12_standing_18 : decode cX12_standing 18 = .ok (.iconst 0, 1) := by decide +kernel
theorem dX12_standing_19 : decode cX12_standing 19 = .ok (.invokevirtual 185, 3) := by decide +kernel
theorem dX12_standing_22 : decode cX12_standing 22 = .ok (.aload_n 0, 1) := by decide +kernel
theorem dX12_standing_23 : decode cX12_standing 23 = .ok (.iload_n 1, 1) := by decide +kernel
theorem dX12_standing_24 : decode cX12_standing 24 = .ok (.invokevirtual 172, 3) := by decide +kernel
theorem dX12_standing_27 : decode cX12_standing 27 = .ok (.istore_n 2, 1) := by decide +kernel
theorem dX12_standing_28 : decode cX12_standing 28 = .ok (.aload_n 0, 1) := by decide +kernel
theorem dX12_standing_29 : decode cX12_standing 29 = .ok (.invokevirtual 191, 3) := by decide +kernel
theorem dX12_standing_32 : decode cX12_standing 32 = .ok (.istore_n 3, 1) := by decide +kernel
theorem dX12_standing_33 : decode cX12_standing 33 = .ok (.aload_n 0, 1) := by decide +kernel
theorem dX12_standing_34 : decode cX12_standing 34 = .ok (.iconst 0, 1) := by decide +kernel
theorem dX12_standing_35 : decode cX12_standing 35 = .ok (.invokevirtual 188, 3) := by decide +kernel
theorem dX12_standing_38 : decode cX12_standing 38 = .ok (.iload_n 3, 1) := by decide +kernel
theorem dX12_standing_39 : decode cX12_standing 39 = .ok (.ireturn, 1) := by decide +kernel
theorem dX12_lastAll_0 : decode cX12_lastAll 0 = .ok (.aload_n 0, 1) := by decide +kernel
theorem dX12_lastAll_1 : decode cX12_lastAll 1 = .ok (.iconst 0, 1) := by decide +kernel
theorem dX12_lastAll_2 : decode cX12_lastAll 2 = .ok (.invokevirtual 185, 3) := by decide +kernel
theorem dX12_lastAll_5 : decode cX12_lastAll 5 = .ok (.iconst 0, 1) := by decide +kernel
theorem dX12_lastAll_6 : decode cX12_lastAll 6 = .ok (.istore_n 1, 1) := by decide +kernel
theorem dX12_lastAll_7 : decode cX12_lastAll 7 = .ok (.iload_n 1, 1) := by decide +kernel
theorem dX12_lastAll_8 : decode cX12_lastAll 8 = .ok (.bipush 9, 2) := by decide +kernel
theorem dX12_lastAll_10 : decode cX12_lastAll 10 = .ok (.if_icmp .ge 18, 3) := by decide +kernel
theorem dX12_lastAll_13 : decode cX12_lastAll 13 = .ok (.aload_n 0, 1) := by decide +kernel
theorem dX12_lastAll_14 : decode cX12_lastAll 14 = .ok (.getfield 31, 3) := by decide +kernel
theorem dX12_lastAll_17 : decode cX12_lastAll 17 = .ok (.iload_n 1, 1) := by decide +kernel
theorem dX12_lastAll_18 : decode cX12_lastAll 18 = .ok (.sipush 201, 3) := by decide +kernel
theorem dX12_lastAll_21 : decode cX12_lastAll 21 = .ok (.iastore, 1) := by decide +kernel
theorem dX12_lastAll_22 : decode cX12_lastAll 22 = .ok (.iinc 1 1, 3) := by decide +kernel
theorem dX12_lastAll_25 : decode cX12_lastAll 25 = .ok (.goto (-18), 3) := by decide +kernel
theorem dX12_lastAll_28 : decode cX12_lastAll 28 = .ok (.iconst 1, 1) := by decide +kernel
theorem dX12_lastAll_29 : decode cX12_lastAll 29 = .ok (.istore_n 1, 1) := by decide +kernel
theorem dX12_lastAll_30 : decode cX12_lastAll 30 = .ok (.iload_n 1, 1) := by decide +kernel
theorem dX12_lastAll_31 : decode cX12_lastAll 31 = .ok (.sipush 200, 3) := by decide +kernel
theorem dX12_lastAll_34 : decode cX12_lastAll 34 = .ok (.if_icmp .gt 68, 3) := by decide +kernel
theorem dX12_lastAll_37 : decode cX12_lastAll 37 = .ok (.aload_n 0, 1) := by decide +kernel
theorem dX12_lastAll_38 : decode cX12_lastAll 38 = .ok (.invokevirtual 156, 3) := by decide +kernel
theorem dX12_lastAll_41 : decode cX12_lastAll 41 = .ok (.istore_n 2, 1) := by decide +kernel
theorem dX12_lastAll_42 : decode cX12_lastAll 42 = .ok (.iconst 0, 1) := by decide +kernel
theorem dX12_lastAll_43 : decode cX12_lastAll 43 = .ok (.istore_n 3, 1) := by decide +kernel
theorem dX12_lastAll_44 : decode cX12_lastAll 44 = .ok (.iload_n 3, 1) := by decide +kernel
theorem dX12_lastAll_45 : decode cX12_lastAll 45 = .ok (.bipush 9, 2) := by decide +kernel
theorem dX12_lastAll_47 : decode cX12_lastAll 47 = .ok (.if_icmp .ge 49, 3) := by decide +kernel
theorem dX12_lastAll_50 : decode cX12_lastAll 50 = .ok (.iload_n 2, 1) := by decide +kernel
theorem dX12_lastAll_51 : decode cX12_lastAll 51 = .ok (.ifCond .le 45, 3) := by decide +kernel
theorem dX12_lastAll_54 : decode cX12_lastAll 54 = .ok (.aload_n 0, 1) := by decide +kernel
theorem dX12_lastAll_55 : decode cX12_lastAll 55 = .ok (.getfield 31, 3) := by decide +kernel
theorem dX12_lastAll_58 : decode cX12_lastAll 58 = .ok (.iload_n 3, 1) := by decide +kernel
theorem dX12_lastAll_59 : decode cX12_lastAll 59 = .ok (.aload_n 0, 1) := by decide +kernel
theorem dX12_lastAll_60 : decode cX12_lastAll 60 = .ok (.iload_n 3, 1) := by decide +kernel
theorem dX12_lastAll_61 : decode cX12_lastAll 61 = .ok (.invokevirtual 62, 3) := by decide +kernel
theorem dX12_lastAll_64 : decode cX12_lastAll 64 = .ok (.ifCond .ne 19, 3) := by decide +kernel
theorem dX12_lastAll_67 : decode cX12_lastAll 67 = .ok (.aload_n 0, 1) := by decide +kernel
theorem dX12_lastAll_68 : decode cX12_lastAll 68 = .ok (.getfield 31, 3) := by decide +kernel
theorem dX12_lastAll_71 : decode cX12_lastAll 71 = .ok (.iload_n 3, 1) := by decide +kernel
theorem dX12_lastAll_72 : decode cX12_lastAll 72 = .ok (.iaload, 1) := by decide +kernel
theorem dX12_lastAll_73 : decode cX12_lastAll 73 = .ok (.sipush 201, 3) := by decide +kernel
theorem dX12_lastAll_76 : decode cX12_lastAll 76 = .ok (.if_icmp .ne 7, 3) := by decide +kernel
theorem dX12_lastAll_79 : decode cX12_lastAll 79 = .ok (.iload_n 1, 1) := by decide +kernel
theorem dX12_lastAll_80 : decode cX12_lastAll 80 = .ok (.goto 9, 3) := by decide +kernel
theorem dX12_lastAll_83 : decode cX12_lastAll 83 = .ok (.aload_n 0, 1) := by decide +kernel
theorem dX12_lastAll_84 : decode cX12_lastAll 84 = .ok (.getfield 31, 3) := by decide +kernel
theorem dX12_lastAll_87 : decode cX12_lastAll 87 = .ok (.iload_n 3, 1) := by decide +kernel
theorem dX12_lastAll_88 : decode cX12_lastAll 88 = .ok (.iaload, 1) := by decide +kernel
theorem dX12_lastAll_89 : decode cX12_lastAll 89 = .ok (.iastore, 1) := by decide +kernel
theorem dX12_lastAll_90 : decode cX12_lastAll 90 = .ok (.iinc 3 1, 3) := by decide +kernel
theorem dX12_lastAll_93 : decode cX12_lastAll 93 = .ok (.goto (-49), 3) := by decide +kernel
theorem dX12_lastAll_96 : decode cX12_lastAll 96 = .ok (.iinc 1 1, 3) := by decide +kernel
theorem dX12_lastAll_99 : decode cX12_lastAll 99 = .ok (.goto (-69), 3) := by decide +kernel
theorem dX12_lastAll_102 : decode cX12_lastAll 102 = .ok (.aload_n 0, 1) := by decide +kernel
theorem dX12_lastAll_103 : decode cX12_lastAll 103 = .ok (.iconst 0, 1) := by decide +kernel
theorem dX12_lastAll_104 : decode cX12_lastAll 104 = .ok (.invokevirtual 188, 3) := by decide +kernel
theorem dX12_lastAll_107 : decode cX12_lastAll 107 = .ok (.return_, 1) := by decide +kernel
theorem dX12_lasts_0 : decode cX12_lasts 0 = .ok (.iload_n 1, 1) := by decide +kernel
theorem dX12_lasts_1 : decode cX12_lasts 1 = .ok (.invokestatic 159, 3) := by decide +kernel
theorem dX12_lasts_4 : decode cX12_lasts 4 = .ok (.ifCond .ne 7, 3) := by decide +kernel
theorem dX12_lasts_7 : decode cX12_lasts 7 = .ok (.iconst 1, 1) := by decide +kernel
theorem dX12_lasts_8 : decode cX12_lasts 8 = .ok (.goto 16, 3) := by decide +kernel
theorem dX12_lasts_11 : decode cX12_lasts 11 = .ok (.aload_n 0, 1) := by decide +kernel
theorem dX12_lasts_12 : decode cX12_lasts 12 = .ok (.iload_n 1, 1) := by decide +kernel
theorem dX12_lasts_13 : decode cX12_lasts 13 = .ok (.invokevirtual 62, 3) := by decide +kernel
theorem dX12_lasts_16 : decode cX12_lasts 16 = .ok (.ifCond .eq 7, 3) := by decide +kernel
theorem dX12_lasts_19 : decode cX12_lasts 19 = .ok (.iconst 0, 1) := by decide +kernel
theorem dX12_lasts_20 : decode cX12_lasts 20 = .ok (.goto 4, 3) := by decide +kernel
theorem dX12_lasts_23 : decode cX12_lasts 23 = .ok (.iconst 3, 1) := by decide +kernel
theorem dX12_lasts_24 : decode cX12_lasts 24 = .ok (.istore_n 2, 1) := by decide +kernel
theorem dX12_lasts_25 : decode cX12_lasts 25 = .ok (.iload_n 2, 1) := by decide +kernel
theorem dX12_lasts_26 : decode cX12_lasts 26 = .ok (.ifCond .le 9, 3) := by decide +kernel
theorem dX12_lasts_29 : decode cX12_lasts 29 = .ok (.aload_n 0, 1) := by decide +kernel
theorem dX12_lasts_30 : decode cX12_lasts 30 = .ok (.iload_n 2, 1) := by decide +kernel
theorem dX12_lasts_31 : decode cX12_lasts 31 = .ok (.invokevirtual 66, 3) := by decide +kernel
theorem dX12_lasts_34 : decode cX12_lasts 34 = .ok (.ireturn, 1) := by decide +kernel
theorem dX12_lasts_35 : decode cX12_lasts 35 = .ok (.aload_n 0, 1) := by decide +kernel
theorem dX12_lasts_36 : decode cX12_lasts 36 = .ok (.invokevirtual 194, 3) := by decide +kernel
theorem dX12_lasts_39 : decode cX12_lasts 39 = .ok (.aload_n 0, 1) := by decide +kernel
theorem dX12_lasts_40 : decode cX12_lasts 40 = .ok (.getfield 31, 3) := by decide +kernel
theorem dX12_lasts_43 : decode cX12_lasts 43 = .ok (.iload_n 1, 1) := by decide +kernel
theorem dX12_lasts_44 : decode cX12_lasts 44 = .ok (.iaload, 1) := by decide +kernel
theorem dX12_lasts_45 : decode cX12_lasts 45 = .ok (.sipush 201, 3) := by decide +kernel
theorem dX12_lasts_48 : decode cX12_lasts 48 = .ok (.if_icmp .ne 11, 3) := by decide +kernel
theorem dX12_lasts_51 : decode cX12_lasts 51 = .ok (.aload_n 0, 1) := by decide +kernel
theorem dX12_lasts_52 : decode cX12_lasts 52 = .ok (.iconst 2, 1) := by decide +kernel
theorem dX12_lasts_53 : decode cX12_lasts 53 = .ok (.invokevirtual 66, 3) := by decide +kernel
theorem dX12_lasts_56 : decode cX12_lasts 56 = .ok (.goto 9, 3) := by decide +kernel
theorem dX12_lasts_59 : decode cX12_lasts 59 = .ok (.aload_n 0, 1) := by decide +kernel
theorem dX12_lasts_60 : decode cX12_lasts 60 = .ok (.getfield 31, 3) := by decide +kernel
theorem dX12_lasts_63 : decode cX12_lasts 63 = .ok (.iload_n 1, 1) := by decide +kernel
theorem dX12_lasts_64 : decode cX12_lasts 64 = .ok (.iaload, 1) := by decide +kernel
theorem dX12_lasts_65 : decode cX12_lasts 65 = .ok (.ireturn, 1) := by decide +kernel
theorem dX12_lastOne_0 : decode cX12_lastOne 0 = .ok (.iconst (-1), 1) := by decide +kernel
theorem dX12_lastOne_1 : decode cX12_lastOne 1 = .ok (.istore_n 1, 1) := by decide +kernel
theorem dX12_lastOne_2 : decode cX12_lastOne 2 = .ok (.aload_n 0, 1) := by decide +kernel
theorem dX12_lastOne_3 : decode cX12_lastOne 3 = .ok (.invokevirtual 194, 3) := by decide +kernel
theorem dX12_lastOne_6 : decode cX12_lastOne 6 = .ok (.iconst 0, 1) := by decide +kernel
theorem dX12_lastOne_7 : decode cX12_lastOne 7 = .ok (.istore_n 2, 1) := by decide +kernel
theorem dX12_lastOne_8 : decode cX12_lastOne 8 = .ok (.iload_n 2, 1) := by decide +kernel
theorem dX12_lastOne_9 : decode cX12_lastOne 9 = .ok (.bipush 9, 2) := by decide +kernel
theorem dX12_lastOne_11 : decode cX12_lastOne 11 = .ok (.if_icmp .ge 43, 3) := by decide +kernel
theorem dX12_lastOne_14 : decode cX12_lastOne 14 = .ok (.aload_n 0, 1) := by decide +kernel
theorem dX12_lastOne_15 : decode cX12_lastOne 15 = .ok (.iload_n 2, 1) := by decide +kernel
theorem dX12_lastOne_16 : decode cX12_lastOne 16 = .ok (.invokevirtual 62, 3) := by decide +kernel
theorem dX12_lastOne_19 : decode cX12_lastOne 19 = .ok (.ifCond .eq 27, 3) := by decide +kernel
theorem dX12_lastOne_22 : decode cX12_lastOne 22 = .ok (.iload_n 1, 1) := by decide +kernel
theorem dX12_lastOne_23 : decode cX12_lastOne 23 = .ok (.iconst (-1), 1) := by decide +kernel
theorem dX12_lastOne_24 : decode cX12_lastOne 24 = .ok (.if_icmp .eq 18, 3) := by decide +kernel
theorem dX12_lastOne_27 : decode cX12_lastOne 27 = .ok (.aload_n 0, 1) := by decide +kernel
theorem dX12_lastOne_28 : decode cX12_lastOne 28 = .ok (.getfield 31, 3) := by decide +kernel
theorem dX12_lastOne_31 : decode cX12_lastOne 31 = .ok (.iload_n 2, 1) := by decide +kernel
theorem dX12_lastOne_32 : decode cX12_lastOne 32 = .ok (.iaload, 1) := by decide +kernel
theorem dX12_lastOne_33 : decode cX12_lastOne 33 = .ok (.aload_n 0, 1) := by decide +kernel
theorem dX12_lastOne_34 : decode cX12_lastOne 34 = .ok (.getfield 31, 3) := by decide +kernel
theorem dX12_lastOne_37 : decode cX12_lastOne 37 = .ok (.iload_n 1, 1) := by decide +kernel
theorem dX12_lastOne_38 : decode cX12_lastOne 38 = .ok (.iaload, 1) := by decide +kernel
theorem dX12_lastOne_39 : decode cX12_lastOne 39 = .ok (.if_icmp .le 7, 3) := by decide +kernel
theorem dX12_lastOne_42 : decode cX12_lastOne 42 = .ok (.iload_n 2, 1) := by decide +kernel
theorem dX12_lastOne_43 : decode cX12_lastOne 43 = .ok (.goto 4, 3) := by decide +kernel
theorem dX12_lastOne_46 : decode cX12_lastOne 46 = .ok (.iload_n 1, 1) := by decide +kernel
theorem dX12_lastOne_47 : decode cX12_lastOne 47 = .ok (.istore_n 1, 1) := by decide +kernel
theorem dX12_lastOne_48 : decode cX12_lastOne 48 = .ok (.iinc 2 1, 3) := by decide +kernel
theorem dX12_lastOne_51 : decode cX12_lastOne 51 = .ok (.goto (-43), 3) := by decide +kernel
theorem dX12_lastOne_54 : decode cX12_lastOne 54 = .ok (.iload_n 1, 1) := by decide +kernel
theorem dX12_lastOne_55 : decode cX12_lastOne 55 = .ok (.iconst (-1), 1) := by decide +kernel
theorem dX12_lastOne_56 : decode cX12_lastOne 56 = .ok (.if_icmp .ne 11, 3) := by decide +kernel
theorem dX12_lastOne_59 : decode cX12_lastOne 59 = .ok (.aload_n 0, 1) := by decide +kernel
theorem dX12_lastOne_60 : decode cX12_lastOne 60 = .ok (.iconst 2, 1) := by decide +kernel
theorem dX12_lastOne_61 : decode cX12_lastOne 61 = .ok (.invokevirtual 66, 3) := by decide +kernel
theorem dX12_lastOne_64 : decode cX12_lastOne 64 = .ok (.goto 4, 3) := by decide +kernel
theorem dX12_lastOne_67 : decode cX12_lastOne 67 = .ok (.iload_n 1, 1) := by decide +kernel
theorem dX12_lastOne_68 : decode cX12_lastOne 68 = .ok (.ireturn, 1) := by decide +kernel
theorem dX12_round_0 : decode cX12_round 0 = .ok (.iload_n 1, 1) := by decide +kernel
theorem dX12_round_1 : decode cX12_round 1 = .ok (.invokestatic 159, 3) := by decide +kernel
theorem dX12_round_4 : decode cX12_round 4 = .ok (.ifCond .eq 21, 3) := by decide +kernel
theorem dX12_round_7 : decode cX12_round 7 = .ok (.iload_n 2, 1) := by decide +kernel
theorem dX12_round_8 : decode cX12_round 8 = .ok (.iconst 1, 1) := by decide +kernel
theorem dX12_round_9 : decode cX12_round 9 = .ok (.iconst 3, 1) := by decide +kernel
theorem dX12_round_10 : decode cX12_round 10 = .ok (.invokestatic 54, 3) := by decide +kernel
theorem dX12_round_13 : decode cX12_round 13 = .ok (.ifCond .eq 12, 3) := by decide +kernel
theorem dX12_round_16 : decode cX12_round 16 = .ok (.iload_n 3, 1) := by decide +kernel
theorem dX12_round_17 : decode cX12_round 17 = .ok (.iconst 0, 1) := by decide +kernel
theorem dX12_round_18 : decode cX12_round 18 = .ok (.iconst 1, 1) := by decide +kernel
theorem dX12_round_19 : decode cX12_round 19 = .ok (.invokestatic 54, 3) := by decide +kernel
theorem dX12_round_22 : decode cX12_round 22 = .ok (.ifCond .ne 9, 3) := by decide +kernel
theorem dX12_round_25 : decode cX12_round 25 = .ok (.aload_n 0, 1) := by decide +kernel
theorem dX12_round_26 : decode cX12_round 26 = .ok (.iconst 1, 1) := by decide +kernel
theorem dX12_round_27 : decode cX12_round 27 = .ok (.invokevirtual 66, 3) := by decide +kernel
theorem dX12_round_30 : decode cX12_round 30 = .ok (.ireturn, 1) := by decide +kernel
theorem dX12_round_31 : decode cX12_round 31 = .ok (.aload_n 0, 1) := by decide +kernel
theorem dX12_round_32 : decode cX12_round 32 = .ok (.iload_n 1, 1) := by decide +kernel
theorem dX12_round_33 : decode cX12_round 33 = .ok (.invokevirtual 62, 3) := by decide +kernel
theorem dX12_round_36 : decode cX12_round 36 = .ok (.ifCond .ne 9, 3) := by decide +kernel
theorem dX12_round_39 : decode cX12_round 39 = .ok (.aload_n 0, 1) := by decide +kernel
theorem dX12_round_40 : decode cX12_round 40 = .ok (.iconst 3, 1) := by decide +kernel
theorem dX12_round_41 : decode cX12_round 41 = .ok (.invokevirtual 66, 3) := by decide +kernel
theorem dX12_round_44 : decode cX12_round 44 = .ok (.ireturn, 1) := by decide +kernel
theorem dX12_round_45 : decode cX12_round 45 = .ok (.iload_n 2, 1) := by decide +kernel
theorem dX12_round_46 : decode cX12_round 46 = .ok (.iconst 1, 1) := by decide +kernel
theorem dX12_round_47 : decode cX12_round 47 = .ok (.if_icmp .ne 8, 3) := by decide +kernel
theorem dX12_round_50 : decode cX12_round 50 = .ok (.bipush 9, 2) := by decide +kernel
theorem dX12_round_52 : decode cX12_round 52 = .ok (.goto 16, 3) := by decide +kernel
theorem dX12_round_55 : decode cX12_round 55 = .ok (.iload_n 2, 1) := by decide +kernel
theorem dX12_round_56 : decode cX12_round 56 = .ok (.iconst 2, 1) := by decide +kernel
theorem dX12_round_57 : decode cX12_round 57 = .ok (.if_icmp .ne 8, 3) := by decide +kernel
theorem dX12_round_60 : decode cX12_round 60 = .ok (.bipush 81, 2) := by decide +kernel
theorem dX12_round_62 : decode cX12_round 62 = .ok (.goto 6, 3) := by decide +kernel
theorem dX12_round_65 : decode cX12_round 65 = .ok (.sipush 729, 3) := by decide +kernel
theorem dX12_round_68 : decode cX12_round 68 = .ok (.istore 4, 2) := by decide +kernel
theorem dX12_round_70 : decode cX12_round 70 = .ok (.iconst (-1), 1) := by decide +kernel
theorem dX12_round_71 : decode cX12_round 71 = .ok (.istore 5, 2) := by decide +kernel
theorem dX12_round_73 : decode cX12_round 73 = .ok (.iconst 0, 1) := by decide +kernel
theorem dX12_round_74 : decode cX12_round 74 = .ok (.istore 6, 2) := by decide +kernel
theorem dX12_round_76 : decode cX12_round 76 = .ok (.aload_n 0, 1) := by decide +kernel
theorem dX12_round_77 : decode cX12_round 77 = .ok (.iconst 0, 1) := by decide +kernel
theorem dX12_round_78 : decode cX12_round 78 = .ok (.invokevirtual 185, 3) := by decide +kernel
theorem dX12_round_81 : decode cX12_round 81 = .ok (.iconst 0, 1) := by decide +kernel
theorem dX12_round_82 : decode cX12_round 82 = .ok (.istore 7, 2) := by decide +kernel
theorem dX12_round_84 : decode cX12_round 84 = .ok (.iload 7, 2) := by decide +kernel
theorem dX12_round_86 : decode cX12_round 86 = .ok (.iload 4, 2) := by decide +kernel
theorem dX12_round_88 : decode cX12_round 88 = .ok (.if_icmp .ge 89, 3) := by decide +kernel
theorem dX12_round_91 : decode cX12_round 91 = .ok (.iconst 0, 1) := by decide +kernel
theorem dX12_round_92 : decode cX12_round 92 = .ok (.istore 8, 2) := by decide +kernel
theorem dX12_round_94 : decode cX12_round 94 = .ok (.iload 4, 2) := by decide +kernel
theorem dX12_round_96 : decode cX12_round 96 = .ok (.bipush 9, 2) := by decide +kernel
theorem dX12_round_98 : decode cX12_round 98 = .ok (.idiv, 1) := by decide +kernel
theorem dX12_round_99 : decode cX12_round 99 = .ok (.istore 9, 2) := by decide +kernel
theorem dX12_round_101 : decode cX12_round 101 = .ok (.iload 9, 2) := by decide +kernel
theorem dX12_round_103 : decode cX12_round 103 = .ok (.ifCond .le 30, 3) := by decide +kernel
theorem dX12_round_106 : decode cX12_round 106 = .ok (.iload 8, 2) := by decide +kernel
theorem dX12_round_108 : decode cX12_round 108 = .ok (.aload_n 0, 1) := by decide +kernel
theorem dX12_round_109 : decode cX12_round 109 = .ok (.iload 7, 2) := by decide +kernel
theorem dX12_round_111 : decode cX12_round 111 = .ok (.iload 9, 2) := by decide +kernel
theorem dX12_round_113 : decode cX12_round 113 = .ok (.idiv, 1) := by decide +kernel
theorem dX12_round_114 : decode cX12_round 114 = .ok (.bipush 9, 2) := by decide +kernel
theorem dX12_round_116 : decode cX12_round 116 = .ok (.irem, 1) := by decide +kernel
theorem dX12_round_117 : decode cX12_round 117 = .ok (.invokevirtual 175, 3) := by decide +kernel
theorem dX12_round_120 : decode cX12_round 120 = .ok (.iadd, 1) := by decide +kernel
theorem dX12_round_121 : decode cX12_round 121 = .ok (.istore 8, 2) := by decide +kernel
theorem dX12_round_123 : decode cX12_round 123 = .ok (.iload 9, 2) := by decide +kernel
theorem dX12_round_125 : decode cX12_round 125 = .ok (.bipush 9, 2) := by decide +kernel
theorem dX12_round_127 : decode cX12_round 127 = .ok (.idiv, 1) := by decide +kernel
theorem dX12_round_128 : decode cX12_round 128 = .ok (.istore 9, 2) := by decide +kernel
theorem dX12_round_130 : decode cX12_round 130 = .ok (.goto (-29), 3) := by decide +kernel
theorem dX12_round_133 : decode cX12_round 133 = .ok (.aload_n 0, 1) := by decide +kernel
theorem dX12_round_134 : decode cX12_round 134 = .ok (.iload_n 1, 1) := by decide +kernel
theorem dX12_round_135 : decode cX12_round 135 = .ok (.invokevirtual 62, 3) := by decide +kernel
theorem dX12_round_138 : decode cX12_round 138 = .ok (.ifCond .ne 28, 3) := by decide +kernel
theorem dX12_round_141 : decode cX12_round 141 = .ok (.iload 5, 2) := by decide +kernel
theorem dX12_round_143 : decode cX12_round 143 = .ok (.iconst (-1), 1) := by decide +kernel
theorem dX12_round_144 : decode cX12_round 144 = .ok (.if_icmp .eq 12, 3) := by decide +kernel
theorem dX12_round_147 : decode cX12_round 147 = .ok (.iload 8, 2) := by decide +kernel
theorem dX12_round_149 : decode cX12_round 149 = .ok (.iconst 1, 1) := by decide +kernel
theorem dX12_round_150 : decode cX12_round 150 = .ok (.isub, 1) := by decide +kernel
theorem dX12_round_151 : decode cX12_round 151 = .ok (.iload 5, 2) := by decide +kernel
theorem dX12_round_153 : decode cX12_round 153 = .ok (.if_icmp .ge 13, 3) := by decide +kernel
theorem dX12_round_156 : decode cX12_round 156 = .ok (.iload 8, 2) := by decide +kernel
theorem dX12_round_158 : decode cX12_round 158 = .ok (.iconst 1, 1) := by decide +kernel
theorem dX12_round_159 : decode cX12_round 159 = .ok (.isub, 1) := by decide +kernel
theorem dX12_round_160 : decode cX12_round 160 = .ok (.istore 5, 2) := by decide +kernel
theorem dX12_round_162 : decode cX12_round 162 = .ok (.iload 7, 2) := by decide +kernel
theorem dX12_round_164 : decode cX12_round 164 = .ok (.istore 6, 2) := by decide +kernel
theorem dX12_round_166 : decode cX12_round 166 = .ok (.aload_n 0, 1) := by decide +kernel
theorem dX12_round_167 : decode cX12_round 167 = .ok (.iconst 0, 1) := by decide +kernel
theorem dX12_round_168 : decode cX12_round 168 = .ok (.invokevirtual 188, 3) := by decide +kernel
theorem dX12_round_171 : decode cX12_round 171 = .ok (.iinc 7 1, 3) := by decide +kernel
theorem dX12_round_174 : decode cX12_round 174 = .ok (.goto (-90), 3) := by decide +kernel
theorem dX12_round_177 : decode cX12_round 177 = .ok (.iload 5, 2) := by decide +kernel
theorem dX12_round_179 : decode cX12_round 179 = .ok (.iconst (-1), 1) := by decide +kernel
theorem dX12_round_180 : decode cX12_round 180 = .ok (.if_icmp .ne 9, 3) := by decide +kernel
theorem dX12_round_183 : decode cX12_round 183 = .ok (.aload_n 0, 1) := by decide +kernel
theorem dX12_round_184 : decode cX12_round 184 = .ok (.iconst 2, 1) := by decide +kernel
theorem dX12_round_185 : decode cX12_round 185 = .ok (.invokevirtual 66, 3) := by decide +kernel
theorem dX12_round_188 : decode cX12_round 188 = .ok (.ireturn, 1) := by decide +kernel
theorem dX12_round_189 : decode cX12_round 189 = .ok (.iconst 0, 1) := by decide +kernel
theorem dX12_round_190 : decode cX12_round 190 = .ok (.istore 7, 2) := by decide +kernel
theorem dX12_round_192 : decode cX12_round 192 = .ok (.iload 4, 2) := by decide +kernel
theorem dX12_round_194 : decode cX12_round 194 = .ok (.bipush 9, 2) := by decide +kernel
theorem dX12_round_196 : decode cX12_round 196 = .ok (.idiv, 1) := by decide +kernel
theorem dX12_round_197 : decode cX12_round 197 = .ok (.istore 8, 2) := by decide +kernel
theorem dX12_round_199 : decode cX12_round 199 = .ok (.iload 8, 2) := by decide +kernel
theorem dX12_round_201 : decode cX12_round 201 = .ok (.ifCond .le 31, 3) := by decide +kernel
theorem dX12_round_204 : decode cX12_round 204 = .ok (.bipush 10, 2) := by decide +kernel
theorem dX12_round_206 : decode cX12_round 206 = .ok (.iload 7, 2) := by decide +kernel
theorem dX12_round_208 : decode cX12_round 208 = .ok (.imul, 1) := by decide +kernel
theorem dX12_round_209 : decode cX12_round 209 = .ok (.iload 6, 2) := by decide +kernel
theorem dX12_round_211 : decode cX12_round 211 = .ok (.iload 8, 2) := by decide +kernel
theorem dX12_round_213 : decode cX12_round 213 = .ok (.idiv, 1) := by decide +kernel
theorem dX12_round_214 : decode cX12_round 214 = .ok (.bipush 9, 2) := by decide +kernel
theorem dX12_round_216 : decode cX12_round 216 = .ok (.irem, 1) := by decide +kernel
theorem dX12_round_217 : decode cX12_round 217 = .ok (.iadd, 1) := by decide +kernel
theorem dX12_round_218 : decode cX12_round 218 = .ok (.iconst 1, 1) := by decide +kernel
theorem dX12_round_219 : decode cX12_round 219 = .ok (.iadd, 1) := by decide +kernel
theorem dX12_round_220 : decode cX12_round 220 = .ok (.istore 7, 2) := by decide +kernel
theorem dX12_round_222 : decode cX12_round 222 = .ok (.iload 8, 2) := by decide +kernel
theorem dX12_round_224 : decode cX12_round 224 = .ok (.bipush 9, 2) := by decide +kernel
theorem dX12_round_226 : decode cX12_round 226 = .ok (.idiv, 1) := by decide +kernel
theorem dX12_round_227 : decode cX12_round 227 = .ok (.istore 8, 2) := by decide +kernel
theorem dX12_round_229 : decode cX12_round 229 = .ok (.goto (-30), 3) := by decide +kernel
theorem dX12_round_232 : decode cX12_round 232 = .ok (.iload_n 3, 1) := by decide +kernel
theorem dX12_round_233 : decode cX12_round 233 = .ok (.ifCond .ne 8, 3) := by decide +kernel
theorem dX12_round_236 : decode cX12_round 236 = .ok (.iload 5, 2) := by decide +kernel
theorem dX12_round_238 : decode cX12_round 238 = .ok (.goto 5, 3) := by decide +kernel
theorem dX12_round_241 : decode cX12_round 241 = .ok (.iload 7, 2) := by decide +kernel
theorem dX12_round_243 : decode cX12_round 243 = .ok (.ireturn, 1) := by decide +kernel
theorem dX12_change_0 : decode cX12_change 0 = .ok (.iload_n 1, 1) := by decide +kernel
theorem dX12_change_1 : decode cX12_change 1 = .ok (.invokestatic 159, 3) := by decide +kernel
theorem dX12_change_4 : decode cX12_change 4 = .ok (.ifCond .eq 12, 3) := by decide +kernel
theorem dX12_change_7 : decode cX12_change 7 = .ok (.iload_n 2, 1) := by decide +kernel
theorem dX12_change_8 : decode cX12_change 8 = .ok (.iconst 0, 1) := by decide +kernel
theorem dX12_change_9 : decode cX12_change 9 = .ok (.iconst 1, 1) := by decide +kernel
theorem dX12_change_10 : decode cX12_change 10 = .ok (.invokestatic 54, 3) := by decide +kernel
theorem dX12_change_13 : decode cX12_change 13 = .ok (.ifCond .ne 9, 3) := by decide +kernel
theorem dX12_change_16 : decode cX12_change 16 = .ok (.aload_n 0, 1) := by decide +kernel
theorem dX12_change_17 : decode cX12_change 17 = .ok (.iconst 1, 1) := by decide +kernel
theorem dX12_change_18 : decode cX12_change 18 = .ok (.invokevirtual 66, 3) := by decide +kernel
theorem dX12_change_21 : decode cX12_change 21 = .ok (.ireturn, 1) := by decide +kernel
theorem dX12_change_22 : decode cX12_change 22 = .ok (.aload_n 0, 1) := by decide +kernel
theorem dX12_change_23 : decode cX12_change 23 = .ok (.iload_n 1, 1) := by decide +kernel
theorem dX12_change_24 : decode cX12_change 24 = .ok (.invokevirtual 62, 3) := by decide +kernel
theorem dX12_change_27 : decode cX12_change 27 = .ok (.ifCond .ne 9, 3) := by decide +kernel
theorem dX12_change_30 : decode cX12_change 30 = .ok (.aload_n 0, 1) := by decide +kernel
theorem dX12_change_31 : decode cX12_change 31 = .ok (.iconst 3, 1) := by decide +kernel
theorem dX12_change_32 : decode cX12_change 32 = .ok (.invokevirtual 66, 3) := by decide +kernel
theorem dX12_change_35 : decode cX12_change 35 = .ok (.ireturn, 1) := by decide +kernel
theorem dX12_change_36 : decode cX12_change 36 = .ok (.iconst (-1), 1) := by decide +kernel
theorem dX12_change_37 : decode cX12_change 37 = .ok (.istore_n 3, 1) := by decide +kernel
theorem dX12_change_38 : decode cX12_change 38 = .ok (.iconst 0, 1) := by decide +kernel
theorem dX12_change_39 : decode cX12_change 39 = .ok (.istore 4, 2) := by decide +kernel
theorem dX12_change_41 : decode cX12_change 41 = .ok (.iconst 0, 1) := by decide +kernel
theorem dX12_change_42 : decode cX12_change 42 = .ok (.istore 5, 2) := by decide +kernel
theorem dX12_change_44 : decode cX12_change 44 = .ok (.iload 5, 2) := by decide +kernel
theorem dX12_change_46 : decode cX12_change 46 = .ok (.bipush 9, 2) := by decide +kernel
theorem dX12_change_48 : decode cX12_change 48 = .ok (.if_icmp .ge 63, 3) := by decide +kernel
theorem dX12_change_51 : decode cX12_change 51 = .ok (.aload_n 0, 1) := by decide +kernel
theorem dX12_change_52 : decode cX12_change 52 = .ok (.iload 5, 2) := by decide +kernel
theorem dX12_change_54 : decode cX12_change 54 = .ok (.invokevirtual 62, 3) := by decide +kernel
theorem dX12_change_57 : decode cX12_change 57 = .ok (.ifCond .eq 48, 3) := by decide +kernel
theorem dX12_change_60 : decode cX12_change 60 = .ok (.aload_n 0, 1) := by decide +kernel
theorem dX12_change_61 : decode cX12_change 61 = .ok (.iload_n 1, 1) := by decide +kernel
theorem dX12_change_62 : decode cX12_change 62 = .ok (.iload 5, 2) := by decide +kernel
theorem dX12_change_64 : decode cX12_change 64 = .ok (.invokevirtual 166, 3) := by decide +kernel
theorem dX12_change_67 : decode cX12_change 67 = .ok (.aload_n 0, 1) := by decide +kernel
theorem dX12_change_68 : decode cX12_change 68 = .ok (.invokevirtual 194, 3) := by decide +kernel
theorem dX12_change_71 : decode cX12_change 71 = .ok (.aload_n 0, 1) := by decide +kernel
theorem dX12_change_72 : decode cX12_change 72 = .ok (.iload_n 1, 1) := by decide +kernel
theorem dX12_change_73 : decode cX12_change 73 = .ok (.iload 5, 2) := by decide +kernel
theorem dX12_change_75 : decode cX12_change 75 = .ok (.invokevirtual 166, 3) := by decide +kernel
theorem dX12_change_78 : decode cX12_change 78 = .ok (.iload_n 3, 1) := by decide +kernel
theorem dX12_change_79 : decode cX12_change 79 = .ok (.iconst (-1), 1) := by decide +kernel
theorem dX12_change_80 : decode cX12_change 80 = .ok (.if_icmp .eq 14, 3) := by decide +kernel
theorem dX12_change_83 : decode cX12_change 83 = .ok (.aload_n 0, 1) := by decide +kernel
theorem dX12_change_84 : decode cX12_change 84 = .ok (.getfield 31, 3) := by decide +kernel
theorem dX12_change_87 : decode cX12_change 87 = .ok (.iload_n 1, 1) := by decide +kernel
theorem dX12_change_88 : decode cX12_change 88 = .ok (.iaload, 1) := by decide +kernel
theorem dX12_change_89 : decode cX12_change 89 = .ok (.iload 4, 2) := by decide +kernel
theorem dX12_change_91 : decode cX12_change 91 = .ok (.if_icmp .le 14, 3) := by decide +kernel
theorem dX12_change_94 : decode cX12_change 94 = .ok (.iload 5, 2) := by decide +kernel
theorem dX12_change_96 : decode cX12_change 96 = .ok (.istore_n 3, 1) := by decide +kernel
theorem dX12_change_97 : decode cX12_change 97 = .ok (.aload_n 0, 1) := by decide +kernel
theorem dX12_change_98 : decode cX12_change 98 = .ok (.getfield 31, 3) := by decide +kernel
theorem dX12_change_101 : decode cX12_change 101 = .ok (.iload_n 1, 1) := by decide +kernel
theorem dX12_change_102 : decode cX12_change 102 = .ok (.iaload, 1) := by decide +kernel
theorem dX12_change_103 : decode cX12_change 103 = .ok (.istore 4, 2) := by decide +kernel
theorem dX12_change_105 : decode cX12_change 105 = .ok (.iinc 5 1, 3) := by decide +kernel
theorem dX12_change_108 : decode cX12_change 108 = .ok (.goto (-64), 3) := by decide +kernel
theorem dX12_change_111 : decode cX12_change 111 = .ok (.iload_n 2, 1) := by decide +kernel
theorem dX12_change_112 : decode cX12_change 112 = .ok (.ifCond .ne 7, 3) := by decide +kernel
theorem dX12_change_115 : decode cX12_change 115 = .ok (.iload_n 3, 1) := by decide +kernel
theorem dX12_change_116 : decode cX12_change 116 = .ok (.goto 5, 3) := by decide +kernel
theorem dX12_change_119 : decode cX12_change 119 = .ok (.iload 4, 2) := by decide +kernel
theorem dX12_change_121 : decode cX12_change 121 = .ok (.ireturn, 1) := by decide +kernel
theorem dX12_bitsOf_0 : decode cX12_bitsOf 0 = .ok (.iconst 0, 1) := by decide +kernel
theorem dX12_bitsOf_1 : decode cX12_bitsOf 1 = .ok (.istore_n 1, 1) := by decide +kernel
theorem dX12_bitsOf_2 : decode cX12_bitsOf 2 = .ok (.iload_n 0, 1) := by decide +kernel
theorem dX12_bitsOf_3 : decode cX12_bitsOf 3 = .ok (.istore_n 2, 1) := by decide +kernel
theorem dX12_bitsOf_4 : decode cX12_bitsOf 4 = .ok (.iload_n 2, 1) := by decide +kernel
theorem dX12_bitsOf_5 : decode cX12_bitsOf 5 = .ok (.ifCond .eq 15, 3) := by decide +kernel
theorem dX12_bitsOf_8 : decode cX12_bitsOf 8 = .ok (.iinc 1 1, 3) := by decide +kernel
theorem dX12_bitsOf_11 : decode cX12_bitsOf 11 = .ok (.iload_n 2, 1) := by decide +kernel
theorem dX12_bitsOf_12 : decode cX12_bitsOf 12 = .ok (.iload_n 2, 1) := by decide +kernel
theorem dX12_bitsOf_13 : decode cX12_bitsOf 13 = .ok (.iconst 1, 1) := by decide +kernel
theorem dX12_bitsOf_14 : decode cX12_bitsOf 14 = .ok (.isub, 1) := by decide +kernel
theorem dX12_bitsOf_15 : decode cX12_bitsOf 15 = .ok (.iand, 1) := by decide +kernel
theorem dX12_bitsOf_16 : decode cX12_bitsOf 16 = .ok (.istore_n 2, 1) := by decide +kernel
theorem dX12_bitsOf_17 : decode cX12_bitsOf 17 = .ok (.goto (-13), 3) := by decide +kernel
theorem dX12_bitsOf_20 : decode cX12_bitsOf 20 = .ok (.iload_n 1, 1) := by decide +kernel
theorem dX12_bitsOf_21 : decode cX12_bitsOf 21 = .ok (.ireturn, 1) := by decide +kernel
theorem dX12_standSet_0 : decode cX12_standSet 0 = .ok (.iconst 0, 1) := by decide +kernel
theorem dX12_standSet_1 : decode cX12_standSet 1 = .ok (.istore_n 1, 1) := by decide +kernel
theorem dX12_standSet_2 : decode cX12_standSet 2 = .ok (.iconst 0, 1) := by decide +kernel
theorem dX12_standSet_3 : decode cX12_standSet 3 = .ok (.istore_n 2, 1) := by decide +kernel
theorem dX12_standSet_4 : decode cX12_standSet 4 = .ok (.iload_n 2, 1) := by decide +kernel
theorem dX12_standSet_5 : decode cX12_standSet 5 = .ok (.bipush 9, 2) := by decide +kernel
theorem dX12_standSet_7 : decode cX12_standSet 7 = .ok (.if_icmp .ge 27, 3) := by decide +kernel
theorem dX12_standSet_10 : decode cX12_standSet 10 = .ok (.iload_n 1, 1) := by decide +kernel
theorem dX12_standSet_11 : decode cX12_standSet 11 = .ok (.aload_n 0, 1) := by decide +kernel
theorem dX12_standSet_12 : decode cX12_standSet 12 = .ok (.iload_n 2, 1) := by decide +kernel
theorem dX12_standSet_13 : decode cX12_standSet 13 = .ok (.invokevirtual 62, 3) := by decide +kernel
theorem dX12_standSet_16 : decode cX12_standSet 16 = .ok (.ifCond .eq 9, 3) := by decide +kernel
theorem dX12_standSet_19 : decode cX12_standSet 19 = .ok (.iconst 1, 1) := by decide +kernel
theorem dX12_standSet_20 : decode cX12_standSet 20 = .ok (.iload_n 2, 1) := by decide +kernel
theorem dX12_standSet_21 : decode cX12_standSet 21 = .ok (.ishl, 1) := by decide +kernel
theorem dX12_standSet_22 : decode cX12_standSet 22 = .ok (.goto 4, 3) := by decide +kernel
theorem dX12_standSet_25 : decode cX12_standSet 25 = .ok (.iconst 0, 1) := by decide +kernel
theorem dX12_standSet_26 : decode cX12_standSet 26 = .ok (.ior, 1) := by decide +kernel
theorem dX12_standSet_27 : decode cX12_standSet 27 = .ok (.istore_n 1, 1) := by decide +kernel
theorem dX12_standSet_28 : decode cX12_standSet 28 = .ok (.iinc 2 1, 3) := by decide +kernel
theorem dX12_standSet_31 : decode cX12_standSet 31 = .ok (.goto (-27), 3) := by decide +kernel
theorem dX12_standSet_34 : decode cX12_standSet 34 = .ok (.iload_n 1, 1) := by decide +kernel
theorem dX12_standSet_35 : decode cX12_standSet 35 = .ok (.ireturn, 1) := by decide +kernel
theorem dX12_empties_0 : decode cX12_empties 0 = .ok (.iload_n 1, 1) := by decide +kernel
theorem dX12_empties_1 : decode cX12_empties 1 = .ok (.iconst 0, 1) := by decide +kernel
theorem dX12_empties_2 : decode cX12_empties 2 = .ok (.iconst 1, 1) := by decide +kernel
theorem dX12_empties_3 : decode cX12_empties 3 = .ok (.invokestatic 54, 3) := by decide +kernel
theorem dX12_empties_6 : decode cX12_empties 6 = .ok (.ifCond .ne 9, 3) := by decide +kernel
theorem dX12_empties_9 : decode cX12_empties 9 = .ok (.aload_n 0, 1) := by decide +kernel
theorem dX12_empties_10 : decode cX12_empties 10 = .ok (.iconst 1, 1) := by decide +kernel
theorem dX12_empties_11 : decode cX12_empties 11 = .ok (.invokevirtual 66, 3) := by decide +kernel
theorem dX12_empties_14 : decode cX12_empties 14 = .ok (.ireturn, 1) := by decide +kernel
theorem dX12_empties_15 : decode cX12_empties 15 = .ok (.aload_n 0, 1) := by decide +kernel
theorem dX12_empties_16 : decode cX12_empties 16 = .ok (.invokevirtual 197, 3) := by decide +kernel
theorem dX12_empties_19 : decode cX12_empties 19 = .ok (.istore_n 2, 1) := by decide +kernel
theorem dX12_empties_20 : decode cX12_empties 20 = .ok (.iload_n 2, 1) := by decide +kernel
theorem dX12_empties_21 : decode cX12_empties 21 = .ok (.istore_n 3, 1) := by decide +kernel
theorem dX12_empties_22 : decode cX12_empties 22 = .ok (.aload_n 0, 1) := by decide +kernel
theorem dX12_empties_23 : decode cX12_empties 23 = .ok (.iconst 0, 1) := by decide +kernel
theorem dX12_empties_24 : decode cX12_empties 24 = .ok (.invokevirtual 185, 3) := by decide +kernel
theorem dX12_empties_27 : decode cX12_empties 27 = .ok (.iconst 0, 1) := by decide +kernel
theorem dX12_empties_28 : decode cX12_empties 28 = .ok (.istore 4, 2) := by decide +kernel
theorem dX12_empties_30 : decode cX12_empties 30 = .ok (.iload 4, 2) := by decide +kernel
theorem dX12_empties_32 : decode cX12_empties 32 = .ok (.sipush 511, 3) := by decide +kernel
theorem dX12_empties_35 : decode cX12_empties 35 = .ok (.if_icmp .gt 122, 3) := by decide +kernel
theorem dX12_empties_38 : decode cX12_empties 38 = .ok (.iload 4, 2) := by decide +kernel
theorem dX12_empties_40 : decode cX12_empties 40 = .ok (.iload_n 2, 1) := by decide +kernel
theorem dX12_empties_41 : decode cX12_empties 41 = .ok (.iconst (-1), 1) := by decide +kernel
theorem dX12_empties_42 : decode cX12_empties 42 = .ok (.ixor, 1) := by decide +kernel
theorem dX12_empties_43 : decode cX12_empties 43 = .ok (.iand, 1) := by decide +kernel
theorem dX12_empties_44 : decode cX12_empties 44 = .ok (.ifCond .ne 107, 3) := by decide +kernel
theorem dX12_empties_47 : decode cX12_empties 47 = .ok (.iconst 0, 1) := by decide +kernel
theorem dX12_empties_48 : decode cX12_empties 48 = .ok (.istore 5, 2) := by decide +kernel
theorem dX12_empties_50 : decode cX12_empties 50 = .ok (.iload 5, 2) := by decide +kernel
theorem dX12_empties_52 : decode cX12_empties 52 = .ok (.bipush 9, 2) := by decide +kernel
theorem dX12_empties_54 : decode cX12_empties 54 = .ok (.if_icmp .ge 41, 3) := by decide +kernel
theorem dX12_empties_57 : decode cX12_empties 57 = .ok (.iload 4, 2) := by decide +kernel
theorem dX12_empties_59 : decode cX12_empties 59 = .ok (.iload 5, 2) := by decide +kernel
theorem dX12_empties_61 : decode cX12_empties 61 = .ok (.ishr, 1) := by decide +kernel
theorem dX12_empties_62 : decode cX12_empties 62 = .ok (.iconst 1, 1) := by decide +kernel
theorem dX12_empties_63 : decode cX12_empties 63 = .ok (.iand, 1) := by decide +kernel
theorem dX12_empties_64 : decode cX12_empties 64 = .ok (.iconst 1, 1) := by decide +kernel
theorem dX12_empties_65 : decode cX12_empties 65 = .ok (.if_icmp .ne 21, 3) := by decide +kernel
theorem dX12_empties_68 : decode cX12_empties 68 = .ok (.aload_n 0, 1) := by decide +kernel
theorem dX12_empties_69 : decode cX12_empties 69 = .ok (.iload 5, 2) := by decide +kernel
theorem dX12_empties_71 : decode cX12_empties 71 = .ok (.invokevirtual 62, 3) := by decide +kernel
theorem dX12_empties_74 : decode cX12_empties 74 = .ok (.ifCond .eq 12, 3) := by decide +kernel
theorem dX12_empties_77 : decode cX12_empties 77 = .ok (.aload_n 0, 1) := by decide +kernel
theorem dX12_empties_78 : decode cX12_empties 78 = .ok (.iload 5, 2) := by decide +kernel
theorem dX12_empties_80 : decode cX12_empties 80 = .ok (.invokevirtual 178, 3) := by decide +kernel
theorem dX12_empties_83 : decode cX12_empties 83 = .ok (.goto 4, 3) := by decide +kernel
theorem dX12_empties_86 : decode cX12_empties 86 = .ok (.iconst 0, 1) := by decide +kernel
theorem dX12_empties_87 : decode cX12_empties 87 = .ok (.istore 6, 2) := by decide +kernel
theorem dX12_empties_89 : decode cX12_empties 89 = .ok (.iinc 5 1, 3) := by decide +kernel
theorem dX12_empties_92 : decode cX12_empties 92 = .ok (.goto (-42), 3) := by decide +kernel
theorem dX12_empties_95 : decode cX12_empties 95 = .ok (.aload_n 0, 1) := by decide +kernel
theorem dX12_empties_96 : decode cX12_empties 96 = .ok (.invokevirtual 191, 3) := by decide +kernel
theorem dX12_empties_99 : decode cX12_empties 99 = .ok (.ifCond .ne 15, 3) := by decide +kernel
theorem dX12_empties_102 : decode cX12_empties 102 = .ok (.iload 4, 2) := by decide +kernel
theorem dX12_empties_104 : decode cX12_empties 104 = .ok (.invokestatic 200, 3) := by decide +kernel
theorem dX12_empties_107 : decode cX12_empties 107 = .ok (.iload_n 3, 1) := by decide +kernel
theorem dX12_empties_108 : decode cX12_empties 108 = .ok (.invokestatic 200, 3) := by decide +kernel
theorem dX12_empties_111 : decode cX12_empties 111 = .ok (.if_icmp .lt 28, 3) := by decide +kernel
theorem dX12_empties_114 : decode cX12_empties 114 = .ok (.aload_n 0, 1) := by decide +kernel
theorem dX12_empties_115 : decode cX12_empties 115 = .ok (.invokevirtual 191, 3) := by decide +kernel
theorem dX12_empties_118 : decode cX12_empties 118 = .ok (.ifCond .ne 26, 3) := by decide +kernel
theorem dX12_empties_121 : decode cX12_empties 121 = .ok (.iload 4, 2) := by decide +kernel
theorem dX12_empties_123 : decode cX12_empties 123 = .ok (.invokestatic 200, 3) := by decide +kernel
theorem dX12_empties_126 : decode cX12_empties 126 = .ok (.iload_n 3, 1) := by decide +kernel
theorem dX12_empties_127 : decode cX12_empties 127 = .ok (.invokestatic 200, 3) := by decide +kernel
theorem dX12_empties_130 : decode cX12_empties 130 = .ok (.if_icmp .ne 14, 3) := by decide +kernel
theorem dX12_empties_133 : decode cX12_empties 133 = .ok (.iload 4, 2) := by decide +kernel
theorem dX12_empties_135 : decode cX12_empties 135 = .ok (.iload_n 3, 1) := by decide +kernel
theorem dX12_empties_136 : decode cX12_empties 136 = .ok (.if_icmp .ge 8, 3) := by decide +kernel
theorem dX12_empties_139 : decode cX12_empties 139 = .ok (.iload 4, 2) := by decide +kernel
theorem dX12_empties_141 : decode cX12_empties 141 = .ok (.goto 4, 3) := by decide +kernel
theorem dX12_empties_144 : decode cX12_empties 144 = .ok (.iload_n 3, 1) := by decide +kernel
theorem dX12_empties_145 : decode cX12_empties 145 = .ok (.istore_n 3, 1) := by decide +kernel
theorem dX12_empties_146 : decode cX12_empties 146 = .ok (.aload_n 0, 1) := by decide +kernel
theorem dX12_empties_147 : decode cX12_empties 147 = .ok (.iconst 0, 1) := by decide +kernel
theorem dX12_empties_148 : decode cX12_empties 148 = .ok (.invokevirtual 188, 3) := by decide +kernel
theorem dX12_empties_151 : decode cX12_empties 151 = .ok (.iinc 4 1, 3) := by decide +kernel
theorem dX12_empties_154 : decode cX12_empties 154 = .ok (.goto (-124), 3) := by decide +kernel
theorem dX12_empties_157 : decode cX12_empties 157 = .ok (.iload_n 1, 1) := by decide +kernel
theorem dX12_empties_158 : decode cX12_empties 158 = .ok (.ifCond .ne 10, 3) := by decide +kernel
theorem dX12_empties_161 : decode cX12_empties 161 = .ok (.iload_n 3, 1) := by decide +kernel
theorem dX12_empties_162 : decode cX12_empties 162 = .ok (.invokestatic 200, 3) := by decide +kernel
theorem dX12_empties_165 : decode cX12_empties 165 = .ok (.goto 4, 3) := by decide +kernel
theorem dX12_empties_168 : decode cX12_empties 168 = .ok (.iload_n 3, 1) := by decide +kernel
theorem dX12_empties_169 : decode cX12_empties 169 = .ok (.ireturn, 1) := by decide +kernel
theorem dX12_whose_0 : decode cX12_whose 0 = .ok (.iload_n 1, 1) := by decide +kernel
theorem dX12_whose_1 : decode cX12_whose 1 = .ok (.iconst 0, 1) := by decide +kernel
theorem dX12_whose_2 : decode cX12_whose 2 = .ok (.sipush 511, 3) := by decide +kernel
theorem dX12_whose_5 : decode cX12_whose 5 = .ok (.invokestatic 54, 3) := by decide +kernel
theorem dX12_whose_8 : decode cX12_whose 8 = .ok (.ifCond .ne 9, 3) := by decide +kernel
theorem dX12_whose_11 : decode cX12_whose 11 = .ok (.aload_n 0, 1) := by decide +kernel
theorem dX12_whose_12 : decode cX12_whose 12 = .ok (.iconst 1, 1) := by decide +kernel
theorem dX12_whose_13 : decode cX12_whose 13 = .ok (.invokevirtual 66, 3) := by decide +kernel
theorem dX12_whose_16 : decode cX12_whose 16 = .ok (.ireturn, 1) := by decide +kernel
theorem dX12_whose_17 : decode cX12_whose 17 = .ok (.aload_n 0, 1) := by decide +kernel
theorem dX12_whose_18 : decode cX12_whose 18 = .ok (.invokevirtual 197, 3) := by decide +kernel
theorem dX12_whose_21 : decode cX12_whose 21 = .ok (.istore_n 2, 1) := by decide +kernel
theorem dX12_whose_22 : decode cX12_whose 22 = .ok (.iconst 0, 1) := by decide +kernel
theorem dX12_whose_23 : decode cX12_whose 23 = .ok (.istore_n 3, 1) := by decide +kernel
theorem dX12_whose_24 : decode cX12_whose 24 = .ok (.aload_n 0, 1) := by decide +kernel
theorem dX12_whose_25 : decode cX12_whose 25 = .ok (.iconst 0, 1) := by decide +kernel
theorem dX12_whose_26 : decode cX12_whose 26 = .ok (.invokevirtual 185, 3) := by decide +kernel
theorem dX12_whose_29 : decode cX12_whose 29 = .ok (.iconst 0, 1) := by decide +kernel
theorem dX12_whose_30 : decode cX12_whose 30 = .ok (.istore 4, 2) := by decide +kernel
theorem dX12_whose_32 : decode cX12_whose 32 = .ok (.iload 4, 2) := by decide +kernel
theorem dX12_whose_34 : decode cX12_whose 34 = .ok (.bipush 9, 2) := by decide +kernel
theorem dX12_whose_36 : decode cX12_whose 36 = .ok (.if_icmp .ge 55, 3) := by decide +kernel
theorem dX12_whose_39 : decode cX12_whose 39 = .ok (.iload_n 2, 1) := by decide +kernel
theorem dX12_whose_40 : decode cX12_whose 40 = .ok (.iload 4, 2) := by decide +kernel
theorem dX12_whose_42 : decode cX12_whose 42 = .ok (.ishr, 1) := by decide +kernel
theorem dX12_whose_43 : decode cX12_whose 43 = .ok (.iconst 1, 1) := by decide +kernel
theorem dX12_whose_44 : decode cX12_whose 44 = .ok (.iand, 1) := by decide +kernel
theorem dX12_whose_45 : decode cX12_whose 45 = .ok (.iconst 1, 1) := by decide +kernel
theorem dX12_whose_46 : decode cX12_whose 46 = .ok (.if_icmp .ne 39, 3) := by decide +kernel
theorem dX12_whose_49 : decode cX12_whose 49 = .ok (.aload_n 0, 1) := by decide +kernel
theorem dX12_whose_50 : decode cX12_whose 50 = .ok (.iload 4, 2) := by decide +kernel
theorem dX12_whose_52 : decode cX12_whose 52 = .ok (.invokevirtual 178, 3) := by decide +kernel
theorem dX12_whose_55 : decode cX12_whose 55 = .ok (.istore 5, 2) := by decide +kernel
theorem dX12_whose_57 : decode cX12_whose 57 = .ok (.iload_n 3, 1) := by decide +kernel
theorem dX12_whose_58 : decode cX12_whose 58 = .ok (.iload_n 2, 1) := by decide +kernel
theorem dX12_whose_59 : decode cX12_whose 59 = .ok (.aload_n 0, 1) := by decide +kernel
theorem dX12_whose_60 : decode cX12_whose 60 = .ok (.invokevirtual 197, 3) := by decide +kernel
theorem dX12_whose_63 : decode cX12_whose 63 = .ok (.iconst (-1), 1) := by decide +kernel
theorem dX12_whose_64 : decode cX12_whose 64 = .ok (.ixor, 1) := by decide +kernel
theorem dX12_whose_65 : decode cX12_whose 65 = .ok (.iand, 1) := by decide +kernel
theorem dX12_whose_66 : decode cX12_whose 66 = .ok (.iload_n 1, 1) := by decide +kernel
theorem dX12_whose_67 : decode cX12_whose 67 = .ok (.if_icmp .ne 10, 3) := by decide +kernel
theorem dX12_whose_70 : decode cX12_whose 70 = .ok (.iconst 1, 1) := by decide +kernel
theorem dX12_whose_71 : decode cX12_whose 71 = .ok (.iload 4, 2) := by decide +kernel
theorem dX12_whose_73 : decode cX12_whose 73 = .ok (.ishl, 1) := by decide +kernel
theorem dX12_whose_74 : decode cX12_whose 74 = .ok (.goto 4, 3) := by decide +kernel
theorem dX12_whose_77 : decode cX12_whose 77 = .ok (.iconst 0, 1) := by decide +kernel
theorem dX12_whose_78 : decode cX12_whose 78 = .ok (.ior, 1) := by decide +kernel
theorem dX12_whose_79 : decode cX12_whose 79 = .ok (.istore_n 3, 1) := by decide +kernel
theorem dX12_whose_80 : decode cX12_whose 80 = .ok (.aload_n 0, 1) := by decide +kernel
theorem dX12_whose_81 : decode cX12_whose 81 = .ok (.iconst 0, 1) := by decide +kernel
theorem dX12_whose_82 : decode cX12_whose 82 = .ok (.invokevirtual 188, 3) := by decide +kernel
theorem dX12_whose_85 : decode cX12_whose 85 = .ok (.iinc 4 1, 3) := by decide +kernel
theorem dX12_whose_88 : decode cX12_whose 88 = .ok (.goto (-56), 3) := by decide +kernel
theorem dX12_whose_91 : decode cX12_whose 91 = .ok (.iload_n 3, 1) := by decide +kernel
theorem dX12_whose_92 : decode cX12_whose 92 = .ok (.ireturn, 1) := by decide +kernel
theorem dX12_divisor_0 : decode cX12_divisor 0 = .ok (.lload_n 0, 1) := by decide +kernel
theorem dX12_divisor_1 : decode cX12_divisor 1 = .ok (.lstore 4, 2) := by decide +kernel
theorem dX12_divisor_3 : decode cX12_divisor 3 = .ok (.lload_n 2, 1) := by decide +kernel
theorem dX12_divisor_4 : decode cX12_divisor 4 = .ok (.lstore 6, 2) := by decide +kernel
theorem dX12_divisor_6 : decode cX12_divisor 6 = .ok (.lload 6, 2) := by decide +kernel
theorem dX12_divisor_8 : decode cX12_divisor 8 = .ok (.lconst 0, 1) := by decide +kernel
theorem dX12_divisor_9 : decode cX12_divisor 9 = .ok (.lcmp, 1) := by decide +kernel
theorem dX12_divisor_10 : decode cX12_divisor 10 = .ok (.ifCond .eq 21, 3) := by decide +kernel
theorem dX12_divisor_13 : decode cX12_divisor 13 = .ok (.lload 4, 2) := by decide +kernel
theorem dX12_divisor_15 : decode cX12_divisor 15 = .ok (.lload 6, 2) := by decide +kernel
theorem dX12_divisor_17 : decode cX12_divisor 17 = .ok (.lrem, 1) := by decide +kernel
theorem dX12_divisor_18 : decode cX12_divisor 18 = .ok (.lstore 8, 2) := by decide +kernel
theorem dX12_divisor_20 : decode cX12_divisor 20 = .ok (.lload 6, 2) := by decide +kernel
theorem dX12_divisor_22 : decode cX12_divisor 22 = .ok (.lstore 4, 2) := by decide +kernel
theorem dX12_divisor_24 : decode cX12_divisor 24 = .ok (.lload 8, 2) := by decide +kernel
theorem dX12_divisor_26 : decode cX12_divisor 26 = .ok (.lstore 6, 2) := by decide +kernel
theorem dX12_divisor_28 : decode cX12_divisor 28 = .ok (.goto (-22), 3) := by decide +kernel
theorem dX12_divisor_31 : decode cX12_divisor 31 = .ok (.lload 4, 2) := by decide +kernel
theorem dX12_divisor_33 : decode cX12_divisor 33 = .ok (.lreturn, 1) := by decide +kernel
theorem dX12_slate_0 : decode cX12_slate 0 = .ok (.iload_n 1, 1) := by decide +kernel
theorem dX12_slate_1 : decode cX12_slate 1 = .ok (.invokestatic 203, 3) := by decide +kernel
theorem dX12_slate_4 : decode cX12_slate 4 = .ok (.ifCond .eq 12, 3) := by decide +kernel
theorem dX12_slate_7 : decode cX12_slate 7 = .ok (.iload_n 2, 1) := by decide +kernel
theorem dX12_slate_8 : decode cX12_slate 8 = .ok (.iconst 0, 1) := by decide +kernel
theorem dX12_slate_9 : decode cX12_slate 9 = .ok (.iconst 1, 1) := by decide +kernel
theorem dX12_slate_10 : decode cX12_slate 10 = .ok (.invokestatic 54, 3) := by decide +kernel
theorem dX12_slate_13 : decode cX12_slate 13 = .ok (.ifCond .ne 10, 3) := by decide +kernel
theorem dX12_slate_16 : decode cX12_slate 16 = .ok (.aload_n 0, 1) := by decide +kernel
theorem dX12_slate_17 : decode cX12_slate 17 = .ok (.iconst 1, 1) := by decide +kernel
theorem dX12_slate_18 : decode cX12_slate 18 = .ok (.invokevirtual 66, 3) := by decide +kernel
theorem dX12_slate_21 : decode cX12_slate 21 = .ok (.i2l, 1) := by decide +kernel
theorem dX12_slate_22 : decode cX12_slate 22 = .ok (.lreturn, 1) := by decide +kernel
theorem dX12_slate_23 : decode cX12_slate 23 = .ok (.aload_n 0, 1) := by decide +kernel
theorem dX12_slate_24 : decode cX12_slate 24 = .ok (.getfield 37, 3) := by decide +kernel
theorem dX12_slate_27 : decode cX12_slate 27 = .ok (.iload_n 1, 1) := by decide +kernel
theorem dX12_slate_28 : decode cX12_slate 28 = .ok (.iaload, 1) := by decide +kernel
theorem dX12_slate_29 : decode cX12_slate 29 = .ok (.ifCond .eq 14, 3) := by decide +kernel
theorem dX12_slate_32 : decode cX12_slate 32 = .ok (.aload_n 0, 1) := by decide +kernel
theorem dX12_slate_33 : decode cX12_slate 33 = .ok (.getfield 40, 3) := by decide +kernel
