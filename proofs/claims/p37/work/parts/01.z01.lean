theorem dX4_init_5 : decode cX4_init 5 = .ok (.aload_n 1, 1) := by decide +kernel
theorem dX4_init_6 : decode cX4_init 6 = .ok (.putfield 9, 3) := by decide +kernel
theorem dX4_init_9 : decode cX4_init 9 = .ok (.aload_n 0, 1) := by decide +kernel
theorem dX4_init_10 : decode cX4_init 10 = .ok (.aload_n 2, 1) := by decide +kernel
theorem dX4_init_11 : decode cX4_init 11 = .ok (.putfield 15, 3) := by decide +kernel
theorem dX4_init_14 : decode cX4_init 14 = .ok (.aload_n 0, 1) := by decide +kernel
theorem dX4_init_15 : decode cX4_init 15 = .ok (.aload_n 3, 1) := by decide +kernel
theorem dX4_init_16 : decode cX4_init 16 = .ok (.putfield 19, 3) := by decide +kernel
theorem dX4_init_19 : decode cX4_init 19 = .ok (.aload_n 0, 1) := by decide +kernel
theorem dX4_init_20 : decode cX4_init 20 = .ok (.bipush 9, 2) := by decide +kernel
theorem dX4_init_22 : decode cX4_init 22 = .ok (.newarray .int, 2) := by decide +kernel
theorem dX4_init_24 : decode cX4_init 24 = .ok (.putfield 22, 3) := by decide +kernel
theorem dX4_init_27 : decode cX4_init 27 = .ok (.aload_n 0, 1) := by decide +kernel
theorem dX4_init_28 : decode cX4_init 28 = .ok (.bipush 9, 2) := by decide +kernel
theorem dX4_init_30 : decode cX4_init 30 = .ok (.newarray .int, 2) := by decide +kernel
theorem dX4_init_32 : decode cX4_init 32 = .ok (.putfield 26, 3) := by decide +kernel
theorem dX4_init_35 : decode cX4_init 35 = .ok (.aload_n 0, 1) := by decide +kernel
theorem dX4_init_36 : decode cX4_init 36 = .ok (.bipush 9, 2) := by decide +kernel
theorem dX4_init_38 : decode cX4_init 38 = .ok (.newarray .int, 2) := by decide +kernel
theorem dX4_init_40 : decode cX4_init 40 = .ok (.putfield 29, 3) := by decide +kernel
theorem dX4_init_43 : decode cX4_init 43 = .ok (.aload_n 0, 1) := by decide +kernel
theorem dX4_init_44 : decode cX4_init 44 = .ok (.bipush 9, 2) := by decide +kernel
theorem dX4_init_46 : decode cX4_init 46 = .ok (.newarray .int, 2) := by decide +kernel
theorem dX4_init_48 : decode cX4_init 48 = .ok (.putfield 32, 3) := by decide +kernel
theorem dX4_init_51 : decode cX4_init 51 = .ok (.aload_n 0, 1) := by decide +kernel
theorem dX4_init_52 : decode cX4_init 52 = .ok (.bipush 9, 2) := by decide +kernel
theorem dX4_init_54 : decode cX4_init 54 = .ok (.newarray .int, 2) := by decide +kernel
theorem dX4_init_56 : decode cX4_init 56 = .ok (.putfield 35, 3) := by decide +kernel
theorem dX4_init_59 : decode cX4_init 59 = .ok (.iconst 0, 1) := by decide +kernel
theorem dX4_init_60 : decode cX4_init 60 = .ok (.istore 4, 2) := by decide +kernel
theorem dX4_init_62 : decode cX4_init 62 = .ok (.iload 4, 2) := by decide +kernel
theorem dX4_init_64 : decode cX4_init 64 = .ok (.bipush 9, 2) := by decide +kernel
theorem dX4_init_66 : decode cX4_init 66 = .ok (.if_icmp .ge 35, 3) := by decide +kernel
theorem dX4_init_69 : decode cX4_init 69 = .ok (.aload_n 0, 1) := by decide +kernel
theorem dX4_init_70 : decode cX4_init 70 = .ok (.getfield 29, 3) := by decide +kernel
theorem dX4_init_73 : decode cX4_init 73 = .ok (.iload 4, 2) := by decide +kernel
theorem dX4_init_75 : decode cX4_init 75 = .ok (.iload 4, 2) := by decide +kernel
theorem dX4_init_77 : decode cX4_init 77 = .ok (.iastore, 1) := by decide +kernel
theorem dX4_init_78 : decode cX4_init 78 = .ok (.aload_n 0, 1) := by decide +kernel
theorem dX4_init_79 : decode cX4_init 79 = .ok (.getfield 32, 3) := by decide +kernel
theorem dX4_init_82 : decode cX4_init 82 = .ok (.iload 4, 2) := by decide +kernel
theorem dX4_init_84 : decode cX4_init 84 = .ok (.bipush 60, 2) := by decide +kernel
theorem dX4_init_86 : decode cX4_init 86 = .ok (.iastore, 1) := by decide +kernel
theorem dX4_init_87 : decode cX4_init 87 = .ok (.aload_n 0, 1) := by decide +kernel
theorem dX4_init_88 : decode cX4_init 88 = .ok (.getfield 35, 3) := by decide +kernel
theorem dX4_init_91 : decode cX4_init 91 = .ok (.iload 4, 2) := by decide +kernel
theorem dX4_init_93 : decode cX4_init 93 = .ok (.iconst (-1), 1) := by decide +kernel
theorem dX4_init_94 : decode cX4_init 94 = .ok (.iastore, 1) := by decide +kernel
theorem dX4_init_95 : decode cX4_init 95 = .ok (.iinc 4 1, 3) := by decide +kernel
theorem dX4_init_98 : decode cX4_init 98 = .ok (.goto (-36), 3) := by decide +kernel
theorem dX4_init_101 : decode cX4_init 101 = .ok (.aload_n 0, 1) := by decide +kernel
theorem dX4_init_102 : decode cX4_init 102 = .ok (.iconst 1, 1) := by decide +kernel
theorem dX4_init_103 : decode cX4_init 103 = .ok (.putfield 38, 3) := by decide +kernel
theorem dX4_init_106 : decode cX4_init 106 = .ok (.return_, 1) := by decide +kernel
theorem dX4_copyFrom_0 : decode cX4_copyFrom 0 = .ok (.aload_n 1, 1) := by decide +kernel
theorem dX4_copyFrom_1 : decode cX4_copyFrom 1 = .ok (.getfield 22, 3) := by decide +kernel
theorem dX4_copyFrom_4 : decode cX4_copyFrom 4 = .ok (.iconst 0, 1) := by decide +kernel
theorem dX4_copyFrom_5 : decode cX4_copyFrom 5 = .ok (.aload_n 0, 1) := by decide +kernel
theorem dX4_copyFrom_6 : decode cX4_copyFrom 6 = .ok (.getfield 22, 3) := by decide +kernel
theorem dX4_copyFrom_9 : decode cX4_copyFrom 9 = .ok (.iconst 0, 1) := by decide +kernel
theorem dX4_copyFrom_10 : decode cX4_copyFrom 10 = .ok (.bipush 9, 2) := by decide +kernel
theorem dX4_copyFrom_12 : decode cX4_copyFrom 12 = .ok (.invokestatic 42, 3) := by decide +kernel
theorem dX4_copyFrom_15 : decode cX4_copyFrom 15 = .ok (.aload_n 1, 1) := by decide +kernel
theorem dX4_copyFrom_16 : decode cX4_copyFrom 16 = .ok (.getfield 26, 3) := by decide +kernel
theorem dX4_copyFrom_19 : decode cX4_copyFrom 19 = .ok (.iconst 0, 1) := by decide +kernel
theorem dX4_copyFrom_20 : decode cX4_copyFrom 20 = .ok (.aload_n 0, 1) := by decide +kernel
theorem dX4_copyFrom_21 : decode cX4_copyFrom 21 = .ok (.getfield 26, 3) := by decide +kernel
theorem dX4_copyFrom_24 : decode cX4_copyFrom 24 = .ok (.iconst 0, 1) := by decide +kernel
theorem dX4_copyFrom_25 : decode cX4_copyFrom 25 = .ok (.bipush 9, 2) := by decide +kernel
theorem dX4_copyFrom_27 : decode cX4_copyFrom 27 = .ok (.invokestatic 42, 3) := by decide +kernel
theorem dX4_copyFrom_30 : decode cX4_copyFrom 30 = .ok (.aload_n 1, 1) := by decide +kernel
theorem dX4_copyFrom_31 : decode cX4_copyFrom 31 = .ok (.getfield 29, 3) := by decide +kernel
theorem dX4_copyFrom_34 : decode cX4_copyFrom 34 = .ok (.iconst 0, 1) := by decide +kernel
theorem dX4_copyFrom_35 : decode cX4_copyFrom 35 = .ok (.aload_n 0, 1) := by decide +kernel
theorem dX4_copyFrom_36 : decode cX4_copyFrom 36 = .ok (.getfield 29, 3) := by decide +kernel
theorem dX4_copyFrom_39 : decode cX4_copyFrom 39 = .ok (.iconst 0, 1) := by decide +kernel
theorem dX4_copyFrom_40 : decode cX4_copyFrom 40 = .ok (.bipush 9, 2) := by decide +kernel
theorem dX4_copyFrom_42 : decode cX4_copyFrom 42 = .ok (.invokestatic 42, 3) := by decide +kernel
theorem dX4_copyFrom_45 : decode cX4_copyFrom 45 = .ok (.aload_n 1, 1) := by decide +kernel
theorem dX4_copyFrom_46 : decode cX4_copyFrom 46 = .ok (.getfield 32, 3) := by decide +kernel
theorem dX4_copyFrom_49 : decode cX4_copyFrom 49 = .ok (.iconst 0, 1) := by decide +kernel
theorem dX4_copyFrom_50 : decode cX4_copyFrom 50 = .ok (.aload_n 0, 1) := by decide +kernel
theorem dX4_copyFrom_51 : decode cX4_copyFrom 51 = .ok (.getfield 32, 3) := by decide +kernel
theorem dX4_copyFrom_54 : decode cX4_copyFrom 54 = .ok (.iconst 0, 1) := by decide +kernel
theorem dX4_copyFrom_55 : decode cX4_copyFrom 55 = .ok (.bipush 9, 2) := by decide +kernel
theorem dX4_copyFrom_57 : decode cX4_copyFrom 57 = .ok (.invokestatic 42, 3) := by decide +kernel
theorem dX4_copyFrom_60 : decode cX4_copyFrom 60 = .ok (.aload_n 1, 1) := by decide +kernel
theorem dX4_copyFrom_61 : decode cX4_copyFrom 61 = .ok (.getfield 35, 3) := by decide +kernel
theorem dX4_copyFrom_64 : decode cX4_copyFrom 64 = .ok (.iconst 0, 1) := by decide +kernel
theorem dX4_copyFrom_65 : decode cX4_copyFrom 65 = .ok (.aload_n 0, 1) := by decide +kernel
theorem dX4_copyFrom_66 : decode cX4_copyFrom 66 = .ok (.getfield 35, 3) := by decide +kernel
theorem dX4_copyFrom_69 : decode cX4_copyFrom 69 = .ok (.iconst 0, 1) := by decide +kernel
theorem dX4_copyFrom_70 : decode cX4_copyFrom 70 = .ok (.bipush 9, 2) := by decide +kernel
theorem dX4_copyFrom_72 : decode cX4_copyFrom 72 = .ok (.invokestatic 42, 3) := by decide +kernel
theorem dX4_copyFrom_75 : decode cX4_copyFrom 75 = .ok (.aload_n 0, 1) := by decide +kernel
theorem dX4_copyFrom_76 : decode cX4_copyFrom 76 = .ok (.aload_n 1, 1) := by decide +kernel
theorem dX4_copyFrom_77 : decode cX4_copyFrom 77 = .ok (.getfield 38, 3) := by decide +kernel
theorem dX4_copyFrom_80 : decode cX4_copyFrom 80 = .ok (.putfield 38, 3) := by decide +kernel
theorem dX4_copyFrom_83 : decode cX4_copyFrom 83 = .ok (.aload_n 0, 1) := by decide +kernel
theorem dX4_copyFrom_84 : decode cX4_copyFrom 84 = .ok (.aload_n 1, 1) := by decide +kernel
theorem dX4_copyFrom_85 : decode cX4_copyFrom 85 = .ok (.getfield 48, 3) := by decide +kernel
theorem dX4_copyFrom_88 : decode cX4_copyFrom 88 = .ok (.putfield 48, 3) := by decide +kernel
theorem dX4_copyFrom_91 : decode cX4_copyFrom 91 = .ok (.return_, 1) := by decide +kernel
theorem dX4_kindOf_0 : decode cX4_kindOf 0 = .ok (.aload_n 0, 1) := by decide +kernel
theorem dX4_kindOf_1 : decode cX4_kindOf 1 = .ok (.getfield 9, 3) := by decide +kernel
theorem dX4_kindOf_4 : decode cX4_kindOf 4 = .ok (.aload_n 0, 1) := by decide +kernel
theorem dX4_kindOf_5 : decode cX4_kindOf 5 = .ok (.getfield 22, 3) := by decide +kernel
theorem dX4_kindOf_8 : decode cX4_kindOf 8 = .ok (.iload_n 1, 1) := by decide +kernel
theorem dX4_kindOf_9 : decode cX4_kindOf 9 = .ok (.iaload, 1) := by decide +kernel
theorem dX4_kindOf_10 : decode cX4_kindOf 10 = .ok (.aaload, 1) := by decide +kernel
theorem dX4_kindOf_11 : decode cX4_kindOf 11 = .ok (.areturn, 1) := by decide +kernel
theorem dX4_stands_0 : decode cX4_stands 0 = .ok (.aload_n 0, 1) := by decide +kernel
theorem dX4_stands_1 : decode cX4_stands 1 = .ok (.getfield 35, 3) := by decide +kernel
theorem dX4_stands_4 : decode cX4_stands 4 = .ok (.iload_n 1, 1) := by decide +kernel
theorem dX4_stands_5 : decode cX4_stands 5 = .ok (.iaload, 1) := by decide +kernel
theorem dX4_stands_6 : decode cX4_stands 6 = .ok (.ifCond .ge 7, 3) := by decide +kernel
theorem dX4_stands_9 : decode cX4_stands 9 = .ok (.iconst 1, 1) := by decide +kernel
theorem dX4_stands_10 : decode cX4_stands 10 = .ok (.goto 4, 3) := by decide +kernel
theorem dX4_stands_13 : decode cX4_stands 13 = .ok (.iconst 0, 1) := by decide +kernel
theorem dX4_stands_14 : decode cX4_stands 14 = .ok (.ireturn, 1) := by decide +kernel
theorem dX4_is_0 : decode cX4_is 0 = .ok (.iload_n 2, 1) := by decide +kernel
theorem dX4_is_1 : decode cX4_is 1 = .ok (.lookupswitch 41 #[(2, 27), (3, 34)], 27) := by decide +kernel
theorem dX4_is_28 : decode cX4_is 28 = .ok (.aload_n 0, 1) := by decide +kernel
theorem dX4_is_29 : decode cX4_is 29 = .ok (.getfield 29, 3) := by decide +kernel
theorem dX4_is_32 : decode cX4_is 32 = .ok (.iload_n 1, 1) := by decide +kernel
theorem dX4_is_33 : decode cX4_is 33 = .ok (.iaload, 1) := by decide +kernel
theorem dX4_is_34 : decode cX4_is 34 = .ok (.ireturn, 1) := by decide +kernel
theorem dX4_is_35 : decode cX4_is 35 = .ok (.aload_n 0, 1) := by decide +kernel
theorem dX4_is_36 : decode cX4_is 36 = .ok (.getfield 32, 3) := by decide +kernel
theorem dX4_is_39 : decode cX4_is 39 = .ok (.iload_n 1, 1) := by decide +kernel
theorem dX4_is_40 : decode cX4_is 40 = .ok (.iaload, 1) := by decide +kernel
theorem dX4_is_41 : decode cX4_is 41 = .ok (.ireturn, 1) := by decide +kernel
theorem dX4_is_42 : decode cX4_is 42 = .ok (.aload_n 0, 1) := by decide +kernel
theorem dX4_is_43 : decode cX4_is 43 = .ok (.getfield 35, 3) := by decide +kernel
theorem dX4_is_46 : decode cX4_is 46 = .ok (.iload_n 1, 1) := by decide +kernel
theorem dX4_is_47 : decode cX4_is 47 = .ok (.iaload, 1) := by decide +kernel
theorem dX4_is_48 : decode cX4_is 48 = .ok (.ireturn, 1) := by decide +kernel
theorem dX4_spends_0 : decode cX4_spends 0 = .ok (.aload_n 0, 1) := by decide +kernel
theorem dX4_spends_1 : decode cX4_spends 1 = .ok (.iload_n 1, 1) := by decide +kernel
theorem dX4_spends_2 : decode cX4_spends 2 = .ok (.invokevirtual 51, 3) := by decide +kernel
theorem dX4_spends_5 : decode cX4_spends 5 = .ok (.aload_n 0, 1) := by decide +kernel
theorem dX4_spends_6 : decode cX4_spends 6 = .ok (.iload_n 1, 1) := by decide +kernel
theorem dX4_spends_7 : decode cX4_spends 7 = .ok (.invokevirtual 55, 3) := by decide +kernel
theorem dX4_spends_10 : decode cX4_spends 10 = .ok (.invokestatic 60, 3) := by decide +kernel
theorem dX4_spends_13 : decode cX4_spends 13 = .ok (.ireturn, 1) := by decide +kernel
theorem dX4_bite_0 : decode cX4_bite 0 = .ok (.aload_n 0, 1) := by decide +kernel
theorem dX4_bite_1 : decode cX4_bite 1 = .ok (.iload_n 1, 1) := by decide +kernel
theorem dX4_bite_2 : decode cX4_bite 2 = .ok (.invokevirtual 51, 3) := by decide +kernel
theorem dX4_bite_5 : decode cX4_bite 5 = .ok (.aload_n 0, 1) := by decide +kernel
theorem dX4_bite_6 : decode cX4_bite 6 = .ok (.getfield 26, 3) := by decide +kernel
theorem dX4_bite_9 : decode cX4_bite 9 = .ok (.iload_n 1, 1) := by decide +kernel
theorem dX4_bite_10 : decode cX4_bite 10 = .ok (.iaload, 1) := by decide +kernel
theorem dX4_bite_11 : decode cX4_bite 11 = .ok (.invokevirtual 64, 3) := by decide +kernel
theorem dX4_bite_14 : decode cX4_bite 14 = .ok (.ireturn, 1) := by decide +kernel
theorem dX4_whoIsAt_0 : decode cX4_whoIsAt 0 = .ok (.iconst 0, 1) := by decide +kernel
theorem dX4_whoIsAt_1 : decode cX4_whoIsAt 1 = .ok (.istore_n 2, 1) := by decide +kernel
theorem dX4_whoIsAt_2 : decode cX4_whoIsAt 2 = .ok (.iload_n 2, 1) := by decide +kernel
theorem dX4_whoIsAt_3 : decode cX4_whoIsAt 3 = .ok (.bipush 9, 2) := by decide +kernel
theorem dX4_whoIsAt_5 : decode cX4_whoIsAt 5 = .ok (.if_icmp .ge 21, 3) := by decide +kernel
theorem dX4_whoIsAt_8 : decode cX4_whoIsAt 8 = .ok (.aload_n 0, 1) := by decide +kernel
theorem dX4_whoIsAt_9 : decode cX4_whoIsAt 9 = .ok (.getfield 29, 3) := by decide +kernel
theorem dX4_whoIsAt_12 : decode cX4_whoIsAt 12 = .ok (.iload_n 2, 1) := by decide +kernel
theorem dX4_whoIsAt_13 : decode cX4_whoIsAt 13 = .ok (.iaload, 1) := by decide +kernel
theorem dX4_whoIsAt_14 : decode cX4_whoIsAt 14 = .ok (.iload_n 1, 1) := by decide +kernel
theorem dX4_whoIsAt_15 : decode cX4_whoIsAt 15 = .ok (.if_icmp .ne 5, 3) := by decide +kernel
theorem dX4_whoIsAt_18 : decode cX4_whoIsAt 18 = .ok (.iload_n 2, 1) := by decide +kernel
theorem dX4_whoIsAt_19 : decode cX4_whoIsAt 19 = .ok (.ireturn, 1) := by decide +kernel
theorem dX4_whoIsAt_20 : decode cX4_whoIsAt 20 = .ok (.iinc 2 1, 3) := by decide +kernel
theorem dX4_whoIsAt_23 : decode cX4_whoIsAt 23 = .ok (.goto (-21), 3) := by decide +kernel
theorem dX4_whoIsAt_26 : decode cX4_whoIsAt 26 = .ok (.iconst (-1), 1) := by decide +kernel
theorem dX4_whoIsAt_27 : decode cX4_whoIsAt 27 = .ok (.ireturn, 1) := by decide +kernel
theorem dX4_bits_0 : decode cX4_bits 0 = .ok (.iconst 0, 1) := by decide +kernel
theorem dX4_bits_1 : decode cX4_bits 1 = .ok (.istore_n 1, 1) := by decide +kernel
theorem dX4_bits_2 : decode cX4_bits 2 = .ok (.iconst 0, 1) := by decide +kernel
theorem dX4_bits_3 : decode cX4_bits 3 = .ok (.istore_n 2, 1) := by decide +kernel
theorem dX4_bits_4 : decode cX4_bits 4 = .ok (.iload_n 2, 1) := by decide +kernel
theorem dX4_bits_5 : decode cX4_bits 5 = .ok (.bipush 9, 2) := by decide +kernel
theorem dX4_bits_7 : decode cX4_bits 7 = .ok (.if_icmp .ge 23, 3) := by decide +kernel
theorem dX4_bits_10 : decode cX4_bits 10 = .ok (.aload_n 0, 1) := by decide +kernel
theorem dX4_bits_11 : decode cX4_bits 11 = .ok (.iload_n 2, 1) := by decide +kernel
theorem dX4_bits_12 : decode cX4_bits 12 = .ok (.invokevirtual 67, 3) := by decide +kernel
theorem dX4_bits_15 : decode cX4_bits 15 = .ok (.ifCond .eq 9, 3) := by decide +kernel
theorem dX4_bits_18 : decode cX4_bits 18 = .ok (.iload_n 1, 1) := by decide +kernel
theorem dX4_bits_19 : decode cX4_bits 19 = .ok (.iconst 1, 1) := by decide +kernel
theorem dX4_bits_20 : decode cX4_bits 20 = .ok (.iload_n 2, 1) := by decide +kernel
theorem dX4_bits_21 : decode cX4_bits 21 = .ok (.ishl, 1) := by decide +kernel
theorem dX4_bits_22 : decode cX4_bits 22 = .ok (.ior, 1) := by decide +kernel
theorem dX4_bits_23 : decode cX4_bits 23 = .ok (.istore_n 1, 1) := by decide +kernel
theorem dX4_bits_24 : decode cX4_bits 24 = .ok (.iinc 2 1, 3) := by decide +kernel
theorem dX4_bits_27 : decode cX4_bits 27 = .ok (.goto (-23), 3) := by decide +kernel
theorem dX4_bits_30 : decode cX4_bits 30 = .ok (.iload_n 1, 1) := by decide +kernel
theorem dX4_bits_31 : decode cX4_bits 31 = .ok (.ireturn, 1) := by decide +kernel
theorem dX4_howMany_0 : decode cX4_howMany 0 = .ok (.aload_n 0, 1) := by decide +kernel
theorem dX4_howMany_1 : decode cX4_howMany 1 = .ok (.invokevirtual 71, 3) := by decide +kernel
theorem dX4_howMany_4 : decode cX4_howMany 4 = .ok (.invokestatic 75, 3) := by decide +kernel
theorem dX4_howMany_7 : decode cX4_howMany 7 = .ok (.ireturn, 1) := by decide +kernel
theorem dX4_allPatience_0 : decode cX4_allPatience 0 = .ok (.iconst 0, 1) := by decide +kernel
theorem dX4_allPatience_1 : decode cX4_allPatience 1 = .ok (.istore_n 1, 1) := by decide +kernel
theorem dX4_allPatience_2 : decode cX4_allPatience 2 = .ok (.iconst 0, 1) := by decide +kernel
theorem dX4_allPatience_3 : decode cX4_allPatience 3 = .ok (.istore_n 2, 1) := by decide +kernel
theorem dX4_allPatience_4 : decode cX4_allPatience 4 = .ok (.iload_n 2, 1) := by decide +kernel
theorem dX4_allPatience_5 : decode cX4_allPatience 5 = .ok (.bipush 9, 2) := by decide +kernel
theorem dX4_allPatience_7 : decode cX4_allPatience 7 = .ok (.if_icmp .ge 26, 3) := by decide +kernel
theorem dX4_allPatience_10 : decode cX4_allPatience 10 = .ok (.aload_n 0, 1) := by decide +kernel
theorem dX4_allPatience_11 : decode cX4_allPatience 11 = .ok (.iload_n 2, 1) := by decide +kernel
theorem dX4_allPatience_12 : decode cX4_allPatience 12 = .ok (.invokevirtual 67, 3) := by decide +kernel
theorem dX4_allPatience_15 : decode cX4_allPatience 15 = .ok (.ifCond .eq 12, 3) := by decide +kernel
theorem dX4_allPatience_18 : decode cX4_allPatience 18 = .ok (.iload_n 1, 1) := by decide +kernel
theorem dX4_allPatience_19 : decode cX4_allPatience 19 = .ok (.aload_n 0, 1) := by decide +kernel
theorem dX4_allPatience_20 : decode cX4_allPatience 20 = .ok (.getfield 32, 3) := by decide +kernel
theorem dX4_allPatience_23 : decode cX4_allPatience 23 = .ok (.iload_n 2, 1) := by decide +kernel
theorem dX4_allPatience_24 : decode cX4_allPatience 24 = .ok (.iaload, 1) := by decide +kernel
theorem dX4_allPatience_25 : decode cX4_allPatience 25 = .ok (.iadd, 1) := by decide +kernel
theorem dX4_allPatience_26 : decode cX4_allPatience 26 = .ok (.istore_n 1, 1) := by decide +kernel
theorem dX4_allPatience_27 : decode cX4_allPatience 27 = .ok (.iinc 2 1, 3) := by decide +kernel
theorem dX4_allPatience_30 : decode cX4_allPatience 30 = .ok (.goto (-26), 3) := by decide +kernel
theorem dX4_allPatience_33 : decode cX4_allPatience 33 = .ok (.iload_n 1, 1) := by decide +kernel
theorem dX4_allPatience_34 : decode cX4_allPatience 34 = .ok (.ireturn, 1) := by decide +kernel
theorem dX4_changePosts_0 : decode cX4_changePosts 0 = .ok (.aload_n 0, 1) := by decide +kernel
theorem dX4_changePosts_1 : decode cX4_changePosts 1 = .ok (.getfield 29, 3) := by decide +kernel
theorem dX4_changePosts_4 : decode cX4_changePosts 4 = .ok (.iload_n 1, 1) := by decide +kernel
theorem dX4_changePosts_5 : decode cX4_changePosts 5 = .ok (.iaload, 1) := by decide +kernel
theorem dX4_changePosts_6 : decode cX4_changePosts 6 = .ok (.istore_n 3, 1) := by decide +kernel
theorem dX4_changePosts_7 : decode cX4_changePosts 7 = .ok (.aload_n 0, 1) := by decide +kernel
theorem dX4_changePosts_8 : decode cX4_changePosts 8 = .ok (.getfield 29, 3) := by decide +kernel
theorem dX4_changePosts_11 : decode cX4_changePosts 11 = .ok (.iload_n 1, 1) := by decide +kernel
theorem dX4_changePosts_12 : decode cX4_changePosts 12 = .ok (.aload_n 0, 1) := by decide +kernel
theorem dX4_changePosts_13 : decode cX4_changePosts 13 = .ok (.getfield 29, 3) := by decide +kernel
theorem dX4_changePosts_16 : decode cX4_changePosts 16 = .ok (.iload_n 2, 1) := by decide +kernel
theorem dX4_changePosts_17 : decode cX4_changePosts 17 = .ok (.iaload, 1) := by decide +kernel
theorem dX4_changePosts_18 : decode cX4_changePosts 18 = .ok (.iastore, 1) := by decide +kernel
theorem dX4_changePosts_19 : decode cX4_changePosts 19 = .ok (.aload_n 0, 1) := by decide +kernel
theorem dX4_changePosts_20 : decode cX4_changePosts 20 = .ok (.getfield 29, 3) := by decide +kernel
theorem dX4_changePosts_23 : decode cX4_changePosts 23 = .ok (.iload_n 2, 1) := by decide +kernel
theorem dX4_changePosts_24 : decode cX4_changePosts 24 = .ok (.iload_n 3, 1) := by decide +kernel
theorem dX4_changePosts_25 : decode cX4_changePosts 25 = .ok (.iastore, 1) := by decide +kernel
theorem dX4_changePosts_26 : decode cX4_changePosts 26 = .ok (.return_, 1) := by decide +kernel
theorem dX4_pass_0 : decode cX4_pass 0 = .ok (.iconst 0, 1) := by decide +kernel
theorem dX4_pass_1 : decode cX4_pass 1 = .ok (.istore_n 2, 1) := by decide +kernel
theorem dX4_pass_2 : decode cX4_pass 2 = .ok (.iconst 0, 1) := by decide +kernel
theorem dX4_pass_3 : decode cX4_pass 3 = .ok (.istore_n 3, 1) := by decide +kernel
theorem dX4_pass_4 : decode cX4_pass 4 = .ok (.iload_n 3, 1) := by decide +kernel
theorem dX4_pass_5 : decode cX4_pass 5 = .ok (.iload_n 1, 1) := by decide +kernel
theorem dX4_pass_6 : decode cX4_pass 6 = .ok (.if_icmp .ge 16, 3) := by decide +kernel
theorem dX4_pass_9 : decode cX4_pass 9 = .ok (.iload_n 2, 1) := by decide +kernel
theorem dX4_pass_10 : decode cX4_pass 10 = .ok (.aload_n 0, 1) := by decide +kernel
theorem dX4_pass_11 : decode cX4_pass 11 = .ok (.invokevirtual 80, 3) := by decide +kernel
theorem dX4_pass_14 : decode cX4_pass 14 = .ok (.iadd, 1) := by decide +kernel
theorem dX4_pass_15 : decode cX4_pass 15 = .ok (.istore_n 2, 1) := by decide +kernel
theorem dX4_pass_16 : decode cX4_pass 16 = .ok (.iinc 3 1, 3) := by decide +kernel
theorem dX4_pass_19 : decode cX4_pass 19 = .ok (.goto (-15), 3) := by decide +kernel
theorem dX4_pass_22 : decode cX4_pass 22 = .ok (.iload_n 2, 1) := by decide +kernel
theorem dX4_pass_23 : decode cX4_pass 23 = .ok (.ireturn, 1) := by decide +kernel
theorem dX4_passMinute_0 : decode cX4_passMinute 0 = .ok (.aload_n 0, 1) := by decide +kernel
theorem dX4_passMinute_1 : decode cX4_passMinute 1 = .ok (.dup, 1) := by decide +kernel
theorem dX4_passMinute_2 : decode cX4_passMinute 2 = .ok (.getfield 48, 3) := by decide +kernel
theorem dX4_passMinute_5 : decode cX4_passMinute 5 = .ok (.iconst 1, 1) := by decide +kernel
theorem dX4_passMinute_6 : decode cX4_passMinute 6 = .ok (.iadd, 1) := by decide +kernel
theorem dX4_passMinute_7 : decode cX4_passMinute 7 = .ok (.putfield 48, 3) := by decide +kernel
theorem dX4_passMinute_10 : decode cX4_passMinute 10 = .ok (.iconst 0, 1) := by decide +kernel
theorem dX4_passMinute_11 : decode cX4_passMinute 11 = .ok (.istore_n 1, 1) := by decide +kernel
theorem dX4_passMinute_12 : decode cX4_passMinute 12 = .ok (.iload_n 1, 1) := by decide +kernel
theorem dX4_passMinute_13 : decode cX4_passMinute 13 = .ok (.bipush 9, 2) := by decide +kernel
theorem dX4_passMinute_15 : decode cX4_passMinute 15 = .ok (.if_icmp .ge 27, 3) := by decide +kernel
theorem dX4_passMinute_18 : decode cX4_passMinute 18 = .ok (.aload_n 0, 1) := by decide +kernel
theorem dX4_passMinute_19 : decode cX4_passMinute 19 = .ok (.iload_n 1, 1) := by decide +kernel
theorem dX4_passMinute_20 : decode cX4_passMinute 20 = .ok (.invokevirtual 67, 3) := by decide +kernel
theorem dX4_passMinute_23 : decode cX4_passMinute 23 = .ok (.ifCond .eq 13, 3) := by decide +kernel
theorem dX4_passMinute_26 : decode cX4_passMinute 26 = .ok (.aload_n 0, 1) := by decide +kernel
theorem dX4_passMinute_27 : decode cX4_passMinute 27 = .ok (.iload_n 1, 1) := by decide +kernel
theorem dX4_passMinute_28 : decode cX4_passMinute 28 = .ok (.aload_n 0, 1) := by decide +kernel
theorem dX4_passMinute_29 : decode cX4_passMinute 29 = .ok (.iload_n 1, 1) := by decide +kernel
theorem dX4_passMinute_30 : decode cX4_passMinute 30 = .ok (.invokevirtual 83, 3) := by decide +kernel
theorem dX4_passMinute_33 : decode cX4_passMinute 33 = .ok (.invokevirtual 86, 3) := by decide +kernel
theorem dX4_passMinute_36 : decode cX4_passMinute 36 = .ok (.iinc 1 1, 3) := by decide +kernel
theorem dX4_passMinute_39 : decode cX4_passMinute 39 = .ok (.goto (-27), 3) := by decide +kernel
theorem dX4_passMinute_42 : decode cX4_passMinute 42 = .ok (.aload_n 0, 1) := by decide +kernel
theorem dX4_passMinute_43 : decode cX4_passMinute 43 = .ok (.invokevirtual 90, 3) := by decide +kernel
theorem dX4_passMinute_46 : decode cX4_passMinute 46 = .ok (.ireturn, 1) := by decide +kernel
theorem dX4_flyAt_0 : decode cX4_flyAt 0 = .ok (.aload_n 0, 1) := by decide +kernel
theorem dX4_flyAt_1 : decode cX4_flyAt 1 = .ok (.iload_n 1, 1) := by decide +kernel
theorem dX4_flyAt_2 : decode cX4_flyAt 2 = .ok (.invokevirtual 93, 3) := by decide +kernel
theorem dX4_flyAt_5 : decode cX4_flyAt 5 = .ok (.istore_n 2, 1) := by decide +kernel
theorem dX4_flyAt_6 : decode cX4_flyAt 6 = .ok (.iload_n 2, 1) := by decide +kernel
theorem dX4_flyAt_7 : decode cX4_flyAt 7 = .ok (.ifCond .lt 21, 3) := by decide +kernel
theorem dX4_flyAt_10 : decode cX4_flyAt 10 = .ok (.aload_n 0, 1) := by decide +kernel
theorem dX4_flyAt_11 : decode cX4_flyAt 11 = .ok (.iload_n 2, 1) := by decide +kernel
theorem dX4_flyAt_12 : decode cX4_flyAt 12 = .ok (.invokevirtual 67, 3) := by decide +kernel
theorem dX4_flyAt_15 : decode cX4_flyAt 15 = .ok (.ifCond .eq 13, 3) := by decide +kernel
theorem dX4_flyAt_18 : decode cX4_flyAt 18 = .ok (.aload_n 0, 1) := by decide +kernel
theorem dX4_flyAt_19 : decode cX4_flyAt 19 = .ok (.iload_n 2, 1) := by decide +kernel
theorem dX4_flyAt_20 : decode cX4_flyAt 20 = .ok (.aload_n 0, 1) := by decide +kernel
theorem dX4_flyAt_21 : decode cX4_flyAt 21 = .ok (.iload_n 2, 1) := by decide +kernel
theorem dX4_flyAt_22 : decode cX4_flyAt 22 = .ok (.invokevirtual 96, 3) := by decide +kernel
theorem dX4_flyAt_25 : decode cX4_flyAt 25 = .ok (.invokevirtual 86, 3) := by decide +kernel
theorem dX4_flyAt_28 : decode cX4_flyAt 28 = .ok (.aload_n 0, 1) := by decide +kernel
theorem dX4_flyAt_29 : decode cX4_flyAt 29 = .ok (.invokevirtual 90, 3) := by decide +kernel
theorem dX4_flyAt_32 : decode cX4_flyAt 32 = .ok (.ireturn, 1) := by decide +kernel
theorem dX4_pokeOne_0 : decode cX4_pokeOne 0 = .ok (.aload_n 0, 1) := by decide +kernel
theorem dX4_pokeOne_1 : decode cX4_pokeOne 1 = .ok (.getfield 32, 3) := by decide +kernel
theorem dX4_pokeOne_4 : decode cX4_pokeOne 4 = .ok (.iload_n 1, 1) := by decide +kernel
theorem dX4_pokeOne_5 : decode cX4_pokeOne 5 = .ok (.iconst 0, 1) := by decide +kernel
theorem dX4_pokeOne_6 : decode cX4_pokeOne 6 = .ok (.iastore, 1) := by decide +kernel
theorem dX4_pokeOne_7 : decode cX4_pokeOne 7 = .ok (.aload_n 0, 1) := by decide +kernel
theorem dX4_pokeOne_8 : decode cX4_pokeOne 8 = .ok (.invokevirtual 90, 3) := by decide +kernel
theorem dX4_pokeOne_11 : decode cX4_pokeOne 11 = .ok (.ireturn, 1) := by decide +kernel
theorem dX4_lastsFor_0 : decode cX4_lastsFor 0 = .ok (.iconst 1, 1) := by decide +kernel
theorem dX4_lastsFor_1 : decode cX4_lastsFor 1 = .ok (.istore_n 2, 1) := by decide +kernel
theorem dX4_lastsFor_2 : decode cX4_lastsFor 2 = .ok (.iload_n 2, 1) := by decide +kernel
theorem dX4_lastsFor_3 : decode cX4_lastsFor 3 = .ok (.sipush 200, 3) := by decide +kernel
theorem dX4_lastsFor_6 : decode cX4_lastsFor 6 = .ok (.if_icmp .gt 24, 3) := by decide +kernel
theorem dX4_lastsFor_9 : decode cX4_lastsFor 9 = .ok (.aload_n 0, 1) := by decide +kernel
theorem dX4_lastsFor_10 : decode cX4_lastsFor 10 = .ok (.invokevirtual 80, 3) := by decide +kernel
theorem dX4_lastsFor_13 : decode cX4_lastsFor 13 = .ok (.pop, 1) := by decide +kernel
theorem dX4_lastsFor_14 : decode cX4_lastsFor 14 = .ok (.aload_n 0, 1) := by decide +kernel
theorem dX4_lastsFor_15 : decode cX4_lastsFor 15 = .ok (.iload_n 1, 1) := by decide +kernel
theorem dX4_lastsFor_16 : decode cX4_lastsFor 16 = .ok (.invokevirtual 67, 3) := by decide +kernel
theorem dX4_lastsFor_19 : decode cX4_lastsFor 19 = .ok (.ifCond .ne 5, 3) := by decide +kernel
theorem dX4_lastsFor_22 : decode cX4_lastsFor 22 = .ok (.iload_n 2, 1) := by decide +kernel
theorem dX4_lastsFor_23 : decode cX4_lastsFor 23 = .ok (.ireturn, 1) := by decide +kernel
theorem dX4_lastsFor_24 : decode cX4_lastsFor 24 = .ok (.iinc 2 1, 3) := by decide +kernel
theorem dX4_lastsFor_27 : decode cX4_lastsFor 27 = .ok (.goto (-25), 3) := by decide +kernel
theorem dX4_lastsFor_30 : decode cX4_lastsFor 30 = .ok (.sipush 201, 3) := by decide +kernel
theorem dX4_lastsFor_33 : decode cX4_lastsFor 33 = .ok (.ireturn, 1) := by decide +kernel
theorem dX4_settle_0 : decode cX4_settle 0 = .ok (.iconst 0, 1) := by decide +kernel
theorem dX4_settle_1 : decode cX4_settle 1 = .ok (.istore_n 1, 1) := by decide +kernel
theorem dX4_settle_2 : decode cX4_settle 2 = .ok (.aload_n 0, 1) := by decide +kernel
theorem dX4_settle_3 : decode cX4_settle 3 = .ok (.invokevirtual 99, 3) := by decide +kernel
theorem dX4_settle_6 : decode cX4_settle 6 = .ok (.istore_n 2, 1) := by decide +kernel
theorem dX4_settle_7 : decode cX4_settle 7 = .ok (.iload_n 2, 1) := by decide +kernel
theorem dX4_settle_8 : decode cX4_settle 8 = .ok (.ifCond .lt 25, 3) := by decide +kernel
theorem dX4_settle_11 : decode cX4_settle 11 = .ok (.iload_n 1, 1) := by decide +kernel
theorem dX4_settle_12 : decode cX4_settle 12 = .ok (.bipush 9, 2) := by decide +kernel
theorem dX4_settle_14 : decode cX4_settle 14 = .ok (.if_icmp .ge 19, 3) := by decide +kernel
theorem dX4_settle_17 : decode cX4_settle 17 = .ok (.aload_n 0, 1) := by decide +kernel
theorem dX4_settle_18 : decode cX4_settle 18 = .ok (.iload_n 2, 1) := by decide +kernel
theorem dX4_settle_19 : decode cX4_settle 19 = .ok (.invokevirtual 102, 3) := by decide +kernel
theorem dX4_settle_22 : decode cX4_settle 22 = .ok (.iinc 1 1, 3) := by decide +kernel
theorem dX4_settle_25 : decode cX4_settle 25 = .ok (.aload_n 0, 1) := by decide +kernel
theorem dX4_settle_26 : decode cX4_settle 26 = .ok (.invokevirtual 99, 3) := by decide +kernel
theorem dX4_settle_29 : decode cX4_settle 29 = .ok (.istore_n 2, 1) := by decide +kernel
theorem dX4_settle_30 : decode cX4_settle 30 = .ok (.goto (-23), 3) := by decide +kernel
theorem dX4_settle_33 : decode cX4_settle 33 = .ok (.iload_n 1, 1) := by decide +kernel
theorem dX4_settle_34 : decode cX4_settle 34 = .ok (.ireturn, 1) := by decide +kernel
theorem dX4_leastAtZero_0 : decode cX4_leastAtZero 0 = .ok (.iconst 0, 1) := by decide +kernel
theorem dX4_leastAtZero_1 : decode cX4_leastAtZero 1 = .ok (.istore_n 1, 1) := by decide +kernel
theorem dX4_leastAtZero_2 : decode cX4_leastAtZero 2 = .ok (.iload_n 1, 1) := by decide +kernel
theorem dX4_leastAtZero_3 : decode cX4_leastAtZero 3 = .ok (.bipush 9, 2) := by decide +kernel
theorem dX4_leastAtZero_5 : decode cX4_leastAtZero 5 = .ok (.if_icmp .ge 28, 3) := by decide +kernel
theorem dX4_leastAtZero_8 : decode cX4_leastAtZero 8 = .ok (.aload_n 0, 1) := by decide +kernel
theorem dX4_leastAtZero_9 : decode cX4_leastAtZero 9 = .ok (.iload_n 1, 1) := by decide +kernel
theorem dX4_leastAtZero_10 : decode cX4_leastAtZero 10 = .ok (.invokevirtual 67, 3) := by decide +kernel
theorem dX4_leastAtZero_13 : decode cX4_leastAtZero 13 = .ok (.ifCond .eq 14, 3) := by decide +kernel
theorem dX4_leastAtZero_16 : decode cX4_leastAtZero 16 = .ok (.aload_n 0, 1) := by decide +kernel
theorem dX4_leastAtZero_17 : decode cX4_leastAtZero 17 = .ok (.getfield 32, 3) := by decide +kernel
theorem dX4_leastAtZero_20 : decode cX4_leastAtZero 20 = .ok (.iload_n 1, 1) := by decide +kernel
theorem dX4_leastAtZero_21 : decode cX4_leastAtZero 21 = .ok (.iaload, 1) := by decide +kernel
theorem dX4_leastAtZero_22 : decode cX4_leastAtZero 22 = .ok (.ifCond .ne 5, 3) := by decide +kernel
theorem dX4_leastAtZero_25 : decode cX4_leastAtZero 25 = .ok (.iload_n 1, 1) := by decide +kernel
theorem dX4_leastAtZero_26 : decode cX4_leastAtZero 26 = .ok (.ireturn, 1) := by decide +kernel
theorem dX4_leastAtZero_27 : decode cX4_leastAtZero 27 = .ok (.iinc 1 1, 3) := by decide +kernel
theorem dX4_leastAtZero_30 : decode cX4_leastAtZero 30 = .ok (.goto (-28), 3) := by decide +kernel
theorem dX4_leastAtZero_33 : decode cX4_leastAtZero 33 = .ok (.iconst (-1), 1) := by decide +kernel
theorem dX4_leastAtZero_34 : decode cX4_leastAtZero 34 = .ok (.ireturn, 1) := by decide +kernel
theorem dX4_stir_0 : decode cX4_stir 0 = .ok (.aload_n 0, 1) := by decide +kernel
theorem dX4_stir_1 : decode cX4_stir 1 = .ok (.getfield 35, 3) := by decide +kernel
theorem dX4_stir_4 : decode cX4_stir 4 = .ok (.iload_n 1, 1) := by decide +kernel
theorem dX4_stir_5 : decode cX4_stir 5 = .ok (.aload_n 0, 1) := by decide +kernel
theorem dX4_stir_6 : decode cX4_stir 6 = .ok (.getfield 48, 3) := by decide +kernel
theorem dX4_stir_9 : decode cX4_stir 9 = .ok (.iastore, 1) := by decide +kernel
theorem dX4_stir_10 : decode cX4_stir 10 = .ok (.iconst 0, 1) := by decide +kernel
theorem dX4_stir_11 : decode cX4_stir 11 = .ok (.istore_n 2, 1) := by decide +kernel
theorem dX4_stir_12 : decode cX4_stir 12 = .ok (.iload_n 2, 1) := by decide +kernel
theorem dX4_stir_13 : decode cX4_stir 13 = .ok (.bipush 9, 2) := by decide +kernel
theorem dX4_stir_15 : decode cX4_stir 15 = .ok (.if_icmp .ge 90, 3) := by decide +kernel
theorem dX4_stir_18 : decode cX4_stir 18 = .ok (.aload_n 0, 1) := by decide +kernel
theorem dX4_stir_19 : decode cX4_stir 19 = .ok (.iload_n 2, 1) := by decide +kernel
theorem dX4_stir_20 : decode cX4_stir 20 = .ok (.invokevirtual 67, 3) := by decide +kernel
theorem dX4_stir_23 : decode cX4_stir 23 = .ok (.ifCond .ne 6, 3) := by decide +kernel
theorem dX4_stir_26 : decode cX4_stir 26 = .ok (.goto 73, 3) := by decide +kernel
theorem dX4_stir_29 : decode cX4_stir 29 = .ok (.aload_n 0, 1) := by decide +kernel
theorem dX4_stir_30 : decode cX4_stir 30 = .ok (.getfield 29, 3) := by decide +kernel
theorem dX4_stir_33 : decode cX4_stir 33 = .ok (.iload_n 2, 1) := by decide +kernel
theorem dX4_stir_34 : decode cX4_stir 34 = .ok (.iaload, 1) := by decide +kernel
theorem dX4_stir_35 : decode cX4_stir 35 = .ok (.aload_n 0, 1) := by decide +kernel
theorem dX4_stir_36 : decode cX4_stir 36 = .ok (.getfield 29, 3) := by decide +kernel
theorem dX4_stir_39 : decode cX4_stir 39 = .ok (.iload_n 1, 1) := by decide +kernel
theorem dX4_stir_40 : decode cX4_stir 40 = .ok (.iaload, 1) := by decide +kernel
theorem dX4_stir_41 : decode cX4_stir 41 = .ok (.isub, 1) := by decide +kernel
theorem dX4_stir_42 : decode cX4_stir 42 = .ok (.invokestatic 106, 3) := by decide +kernel
theorem dX4_stir_45 : decode cX4_stir 45 = .ok (.istore_n 3, 1) := by decide +kernel
theorem dX4_stir_46 : decode cX4_stir 46 = .ok (.aload_n 0, 1) := by decide +kernel
theorem dX4_stir_47 : decode cX4_stir 47 = .ok (.getfield 19, 3) := by decide +kernel
theorem dX4_stir_50 : decode cX4_stir 50 = .ok (.invokevirtual 111, 3) := by decide +kernel
theorem dX4_stir_53 : decode cX4_stir 53 = .ok (.ifCond .ne 34, 3) := by decide +kernel
theorem dX4_stir_56 : decode cX4_stir 56 = .ok (.aload_n 0, 1) := by decide +kernel
theorem dX4_stir_57 : decode cX4_stir 57 = .ok (.iload_n 2, 1) := by decide +kernel
theorem dX4_stir_58 : decode cX4_stir 58 = .ok (.aload_n 0, 1) := by decide +kernel
theorem dX4_stir_59 : decode cX4_stir 59 = .ok (.getfield 19, 3) := by decide +kernel
theorem dX4_stir_62 : decode cX4_stir 62 = .ok (.iload_n 3, 1) := by decide +kernel
theorem dX4_stir_63 : decode cX4_stir 63 = .ok (.aload_n 0, 1) := by decide +kernel
theorem dX4_stir_64 : decode cX4_stir 64 = .ok (.getfield 32, 3) := by decide +kernel
theorem dX4_stir_67 : decode cX4_stir 67 = .ok (.iload_n 2, 1) := by decide +kernel
theorem dX4_stir_68 : decode cX4_stir 68 = .ok (.iaload, 1) := by decide +kernel
theorem dX4_stir_69 : decode cX4_stir 69 = .ok (.aload_n 0, 1) := by decide +kernel
theorem dX4_stir_70 : decode cX4_stir 70 = .ok (.getfield 26, 3) := by decide +kernel
theorem dX4_stir_73 : decode cX4_stir 73 = .ok (.iload_n 2, 1) := by decide +kernel
theorem dX4_stir_74 : decode cX4_stir 74 = .ok (.iaload, 1) := by decide +kernel
theorem dX4_stir_75 : decode cX4_stir 75 = .ok (.invokevirtual 117, 3) := by decide +kernel
theorem dX4_stir_78 : decode cX4_stir 78 = .ok (.invokestatic 60, 3) := by decide +kernel
theorem dX4_stir_81 : decode cX4_stir 81 = .ok (.invokevirtual 86, 3) := by decide +kernel
theorem dX4_stir_84 : decode cX4_stir 84 = .ok (.goto 15, 3) := by decide +kernel
theorem dX4_stir_87 : decode cX4_stir 87 = .ok (.iload_n 3, 1) := by decide +kernel
theorem dX4_stir_88 : decode cX4_stir 88 = .ok (.iconst 1, 1) := by decide +kernel
theorem dX4_stir_89 : decode cX4_stir 89 = .ok (.if_icmp .ne 10, 3) := by decide +kernel
theorem dX4_stir_92 : decode cX4_stir 92 = .ok (.aload_n 0, 1) := by decide +kernel
theorem dX4_stir_93 : decode cX4_stir 93 = .ok (.iload_n 2, 1) := by decide +kernel
theorem dX4_stir_94 : decode cX4_stir 94 = .ok (.bipush 8, 2) := by decide +kernel
theorem dX4_stir_96 : decode cX4_stir 96 = .ok (.invokevirtual 86, 3) := by decide +kernel
theorem dX4_stir_99 : decode cX4_stir 99 = .ok (.iinc 2 1, 3) := by decide +kernel
theorem dX4_stir_102 : decode cX4_stir 102 = .ok (.goto (-90), 3) := by decide +kernel
theorem dX4_stir_105 : decode cX4_stir 105 = .ok (.return_, 1) := by decide +kernel
theorem dX4_lessen_0 : decode cX4_lessen 0 = .ok (.aload_n 0, 1) := by decide +kernel
theorem dX4_lessen_1 : decode cX4_lessen 1 = .ok (.getfield 32, 3) := by decide +kernel
theorem dX4_lessen_4 : decode cX4_lessen 4 = .ok (.iload_n 1, 1) := by decide +kernel
theorem dX4_lessen_5 : decode cX4_lessen 5 = .ok (.iconst 0, 1) := by decide +kernel
theorem dX4_lessen_6 : decode cX4_lessen 6 = .ok (.aload_n 0, 1) := by decide +kernel
theorem dX4_lessen_7 : decode cX4_lessen 7 = .ok (.getfield 32, 3) := by decide +kernel
theorem dX4_lessen_10 : decode cX4_lessen 10 = .ok (.iload_n 1, 1) := by decide +kernel
theorem dX4_lessen_11 : decode cX4_lessen 11 = .ok (.iaload, 1) := by decide +kernel
theorem dX4_lessen_12 : decode cX4_lessen 12 = .ok (.iload_n 2, 1) := by decide +kernel
theorem dX4_lessen_13 : decode cX4_lessen 13 = .ok (.isub, 1) := by decide +kernel
theorem dX4_lessen_14 : decode cX4_lessen 14 = .ok (.invokestatic 121, 3) := by decide +kernel
theorem dX4_lessen_17 : decode cX4_lessen 17 = .ok (.iastore, 1) := by decide +kernel
theorem dX4_lessen_18 : decode cX4_lessen 18 = .ok (.return_, 1) := by decide +kernel
theorem dX4_held_0 : decode cX4_held 0 = .ok (.iconst 0, 1) := by decide +kernel
theorem dX4_held_1 : decode cX4_held 1 = .ok (.bipush 99, 2) := by decide +kernel
theorem dX4_held_3 : decode cX4_held 3 = .ok (.iload_n 0, 1) := by decide +kernel
theorem dX4_held_4 : decode cX4_held 4 = .ok (.invokestatic 125, 3) := by decide +kernel
theorem dX4_held_7 : decode cX4_held 7 = .ok (.invokestatic 121, 3) := by decide +kernel
theorem dX4_held_10 : decode cX4_held 10 = .ok (.ireturn, 1) := by decide +kernel
theorem dX5_init_0 : decode cX5_init 0 = .ok (.aload_n 0, 1) := by decide +kernel
theorem dX5_init_1 : decode cX5_init 1 = .ok (.invokespecial 3, 3) := by decide +kernel
theorem dX5_init_4 : decode cX5_init 4 = .ok (.aload_n 0, 1) := by decide +kernel
theorem dX5_init_5 : decode cX5_init 5 = .ok (.new 9, 3) := by decide +kernel
theorem dX5_init_8 : decode cX5_init 8 = .ok (.dup, 1) := by decide +kernel
theorem dX5_init_9 : decode cX5_init 9 = .ok (.bipush 115, 2) := by decide +kernel
theorem dX5_init_11 : decode cX5_init 11 = .ok (.invokespecial 11, 3) := by decide +kernel
theorem dX5_init_14 : decode cX5_init 14 = .ok (.putfield 14, 3) := by decide +kernel
theorem dX5_init_17 : decode cX5_init 17 = .ok (.aload_n 0, 1) := by decide +kernel
theorem dX5_init_18 : decode cX5_init 18 = .ok (.new 9, 3) := by decide +kernel
theorem dX5_init_21 : decode cX5_init 21 = .ok (.dup, 1) := by decide +kernel
theorem dX5_init_22 : decode cX5_init 22 = .ok (.bipush 100, 2) := by decide +kernel
theorem dX5_init_24 : decode cX5_init 24 = .ok (.invokespecial 11, 3) := by decide +kernel
theorem dX5_init_27 : decode cX5_init 27 = .ok (.putfield 20, 3) := by decide +kernel
theorem dX5_init_30 : decode cX5_init 30 = .ok (.aload_n 0, 1) := by decide +kernel
theorem dX5_init_31 : decode cX5_init 31 = .ok (.new 23, 3) := by decide +kernel
theorem dX5_init_34 : decode cX5_init 34 = .ok (.dup, 1) := by decide +kernel
theorem dX5_init_35 : decode cX5_init 35 = .ok (.aload_n 1, 1) := by decide +kernel
theorem dX5_init_36 : decode cX5_init 36 = .ok (.aload_n 0, 1) := by decide +kernel
theorem dX5_init_37 : decode cX5_init 37 = .ok (.getfield 14, 3) := by decide +kernel
theorem dX5_init_40 : decode cX5_init 40 = .ok (.aload_n 0, 1) := by decide +kernel
theorem dX5_init_41 : decode cX5_init 41 = .ok (.getfield 20, 3) := by decide +kernel
theorem dX5_init_44 : decode cX5_init 44 = .ok (.invokespecial 25, 3) := by decide +kernel
theorem dX5_init_47 : decode cX5_init 47 = .ok (.putfield 28, 3) := by decide +kernel
theorem dX5_init_50 : decode cX5_init 50 = .ok (.aload_n 0, 1) := by decide +kernel
theorem dX5_init_51 : decode cX5_init 51 = .ok (.bipush 60, 2) := by decide +kernel
theorem dX5_init_53 : decode cX5_init 53 = .ok (.newarray .byte, 2) := by decide +kernel
theorem dX5_init_55 : decode cX5_init 55 = .ok (.putfield 32, 3) := by decide +kernel
theorem dX5_init_58 : decode cX5_init 58 = .ok (.aload_n 0, 1) := by decide +kernel
theorem dX5_init_59 : decode cX5_init 59 = .ok (.bipush 24, 2) := by decide +kernel
theorem dX5_init_61 : decode cX5_init 61 = .ok (.newarray .int, 2) := by decide +kernel
theorem dX5_init_63 : decode cX5_init 63 = .ok (.putfield 36, 3) := by decide +kernel
theorem dX5_init_66 : decode cX5_init 66 = .ok (.aload_n 0, 1) := by decide +kernel
theorem dX5_init_67 : decode cX5_init 67 = .ok (.iconst 1, 1) := by decide +kernel
theorem dX5_init_68 : decode cX5_init 68 = .ok (.putfield 40, 3) := by decide +kernel
theorem dX5_init_71 : decode cX5_init 71 = .ok (.return_, 1) := by decide +kernel
theorem dX5_copyFrom_0 : decode cX5_copyFrom 0 = .ok (.aload_n 0, 1) := by decide +kernel
theorem dX5_copyFrom_1 : decode cX5_copyFrom 1 = .ok (.getfield 14, 3) := by decide +kernel
theorem dX5_copyFrom_4 : decode cX5_copyFrom 4 = .ok (.aload_n 1, 1) := by decide +kernel
theorem dX5_copyFrom_5 : decode cX5_copyFrom 5 = .ok (.getfield 14, 3) := by decide +kernel
theorem dX5_copyFrom_8 : decode cX5_copyFrom 8 = .ok (.invokevirtual 44, 3) := by decide +kernel
theorem dX5_copyFrom_11 : decode cX5_copyFrom 11 = .ok (.aload_n 0, 1) := by decide +kernel
theorem dX5_copyFrom_12 : decode cX5_copyFrom 12 = .ok (.getfield 20, 3) := by decide +kernel
theorem dX5_copyFrom_15 : decode cX5_copyFrom 15 = .ok (.aload_n 1, 1) := by decide +kernel
theorem dX5_copyFrom_16 : decode cX5_copyFrom 16 = .ok (.getfield 20, 3) := by decide +kernel
theorem dX5_copyFrom_19 : decode cX5_copyFrom 19 = .ok (.invokevirtual 44, 3) := by decide +kernel
theorem dX5_copyFrom_22 : decode cX5_copyFrom 22 = .ok (.aload_n 0, 1) := by decide +kernel
theorem dX5_copyFrom_23 : decode cX5_copyFrom 23 = .ok (.getfield 28, 3) := by decide +kernel
theorem dX5_copyFrom_26 : decode cX5_copyFrom 26 = .ok (.aload_n 1, 1) := by decide +kernel
theorem dX5_copyFrom_27 : decode cX5_copyFrom 27 = .ok (.getfield 28, 3) := by decide +kernel
theorem dX5_copyFrom_30 : decode cX5_copyFrom 30 = .ok (.invokevirtual 48, 3) := by decide +kernel
theorem dX5_copyFrom_33 : decode cX5_copyFrom 33 = .ok (.aload_n 1, 1) := by decide +kernel
theorem dX5_copyFrom_34 : decode cX5_copyFrom 34 = .ok (.getfield 32, 3) := by decide +kernel
theorem dX5_copyFrom_37 : decode cX5_copyFrom 37 = .ok (.iconst 0, 1) := by decide +kernel
theorem dX5_copyFrom_38 : decode cX5_copyFrom 38 = .ok (.aload_n 0, 1) := by decide +kernel
theorem dX5_copyFrom_39 : decode cX5_copyFrom 39 = .ok (.getfield 32, 3) := by decide +kernel
theorem dX5_copyFrom_42 : decode cX5_copyFrom 42 = .ok (.iconst 0, 1) := by decide +kernel
theorem dX5_copyFrom_43 : decode cX5_copyFrom 43 = .ok (.bipush 60, 2) := by decide +kernel
theorem dX5_copyFrom_45 : decode cX5_copyFrom 45 = .ok (.invokestatic 51, 3) := by decide +kernel
theorem dX5_copyFrom_48 : decode cX5_copyFrom 48 = .ok (.aload_n 1, 1) := by decide +kernel
theorem dX5_copyFrom_49 : decode cX5_copyFrom 49 = .ok (.getfield 36, 3) := by decide +kernel
theorem dX5_copyFrom_52 : decode cX5_copyFrom 52 = .ok (.iconst 0, 1) := by decide +kernel
theorem dX5_copyFrom_53 : decode cX5_copyFrom 53 = .ok (.aload_n 0, 1) := by decide +kernel
theorem dX5_copyFrom_54 : decode cX5_copyFrom 54 = .ok (.getfield 36, 3) := by decide +kernel
theorem dX5_copyFrom_57 : decode cX5_copyFrom 57 = .ok (.iconst 0, 1) := by decide +kernel
theorem dX5_copyFrom_58 : decode cX5_copyFrom 58 = .ok (.bipush 24, 2) := by decide +kernel
theorem dX5_copyFrom_60 : decode cX5_copyFrom 60 = .ok (.invokestatic 51, 3) := by decide +kernel
theorem dX5_copyFrom_63 : decode cX5_copyFrom 63 = .ok (.aload_n 0, 1) := by decide +kernel
theorem dX5_copyFrom_64 : decode cX5_copyFrom 64 = .ok (.aload_n 1, 1) := by decide +kernel
theorem dX5_copyFrom_65 : decode cX5_copyFrom 65 = .ok (.getfield 57, 3) := by decide +kernel
theorem dX5_copyFrom_68 : decode cX5_copyFrom 68 = .ok (.putfield 57, 3) := by decide +kernel
theorem dX5_copyFrom_71 : decode cX5_copyFrom 71 = .ok (.aload_n 0, 1) := by decide +kernel
theorem dX5_copyFrom_72 : decode cX5_copyFrom 72 = .ok (.aload_n 1, 1) := by decide +kernel
theorem dX5_copyFrom_73 : decode cX5_copyFrom 73 = .ok (.getfield 60, 3) := by decide +kernel
theorem dX5_copyFrom_76 : decode cX5_copyFrom 76 = .ok (.putfield 60, 3) := by decide +kernel
theorem dX5_copyFrom_79 : decode cX5_copyFrom 79 = .ok (.aload_n 0, 1) := by decide +kernel
theorem dX5_copyFrom_80 : decode cX5_copyFrom 80 = .ok (.aload_n 1, 1) := by decide +kernel
theorem dX5_copyFrom_81 : decode cX5_copyFrom 81 = .ok (.getfield 40, 3) := by decide +kernel
theorem dX5_copyFrom_84 : decode cX5_copyFrom 84 = .ok (.putfield 40, 3) := by decide +kernel
theorem dX5_copyFrom_87 : decode cX5_copyFrom 87 = .ok (.return_, 1) := by decide +kernel
theorem dX5_lawOf_0 : decode cX5_lawOf 0 = .ok (.iload_n 1, 1) := by decide +kernel
theorem dX5_lawOf_1 : decode cX5_lawOf 1 = .ok (.ifCond .ne 10, 3) := by decide +kernel
theorem dX5_lawOf_4 : decode cX5_lawOf 4 = .ok (.aload_n 0, 1) := by decide +kernel
theorem dX5_lawOf_5 : decode cX5_lawOf 5 = .ok (.getfield 14, 3) := by decide +kernel
theorem dX5_lawOf_8 : decode cX5_lawOf 8 = .ok (.goto 7, 3) := by decide +kernel
theorem dX5_lawOf_11 : decode cX5_lawOf 11 = .ok (.aload_n 0, 1) := by decide +kernel
theorem dX5_lawOf_12 : decode cX5_lawOf 12 = .ok (.getfield 20, 3) := by decide +kernel
theorem dX5_lawOf_15 : decode cX5_lawOf 15 = .ok (.areturn, 1) := by decide +kernel
theorem dX5_draw_0 : decode cX5_draw 0 = .ok (.aload_n 0, 1) := by decide +kernel
theorem dX5_draw_1 : decode cX5_draw 1 = .ok (.aload_n 0, 1) := by decide +kernel
theorem dX5_draw_2 : decode cX5_draw 2 = .ok (.getfield 40, 3) := by decide +kernel
theorem dX5_draw_5 : decode cX5_draw 5 = .ok (.ldc 63, 2) := by decide +kernel
theorem dX5_draw_7 : decode cX5_draw 7 = .ok (.imul, 1) := by decide +kernel
theorem dX5_draw_8 : decode cX5_draw 8 = .ok (.sipush 12345, 3) := by decide +kernel
theorem dX5_draw_11 : decode cX5_draw 11 = .ok (.iadd, 1) := by decide +kernel
theorem dX5_draw_12 : decode cX5_draw 12 = .ok (.putfield 40, 3) := by decide +kernel
theorem dX5_draw_15 : decode cX5_draw 15 = .ok (.aload_n 0, 1) := by decide +kernel
theorem dX5_draw_16 : decode cX5_draw 16 = .ok (.getfield 40, 3) := by decide +kernel
theorem dX5_draw_19 : decode cX5_draw 19 = .ok (.bipush 8, 2) := by decide +kernel
theorem dX5_draw_21 : decode cX5_draw 21 = .ok (.iushr, 1) := by decide +kernel
theorem dX5_draw_22 : decode cX5_draw 22 = .ok (.ireturn, 1) := by decide +kernel
theorem dX6_init_0 : decode cX6_init 0 = .ok (.aload_n 0, 1) := by decide +kernel
theorem dX6_init_1 : decode cX6_init 1 = .ok (.invokespecial 3, 3) := by decide +kernel
theorem dX6_init_4 : decode cX6_init 4 = .ok (.aload_n 0, 1) := by decide +kernel
theorem dX6_init_5 : decode cX6_init 5 = .ok (.bipush 30, 2) := by decide +kernel
theorem dX6_init_7 : decode cX6_init 7 = .ok (.newarray .int, 2) := by decide +kernel
theorem dX6_init_9 : decode cX6_init 9 = .ok (.putfield 9, 3) := by decide +kernel
theorem dX6_init_12 : decode cX6_init 12 = .ok (.aload_n 0, 1) := by decide +kernel
theorem dX6_init_13 : decode cX6_init 13 = .ok (.bipush 30, 2) := by decide +kernel
theorem dX6_init_15 : decode cX6_init 15 = .ok (.newarray .int, 2) := by decide +kernel
theorem dX6_init_17 : decode cX6_init 17 = .ok (.putfield 15, 3) := by decide +kernel
theorem dX6_init_20 : decode cX6_init 20 = .ok (.return_, 1) := by decide +kernel
theorem dX6_starts_0 : decode cX6_starts 0 = .ok (.aload_n 0, 1) := by decide +kernel
theorem dX6_starts_1 : decode cX6_starts 1 = .ok (.iload_n 1, 1) := by decide +kernel
theorem dX6_starts_2 : decode cX6_starts 2 = .ok (.putfield 18, 3) := by decide +kernel
theorem dX6_starts_5 : decode cX6_starts 5 = .ok (.aload_n 0, 1) := by decide +kernel
theorem dX6_starts_6 : decode cX6_starts 6 = .ok (.iload_n 2, 1) := by decide +kernel
theorem dX6_starts_7 : decode cX6_starts 7 = .ok (.putfield 22, 3) := by decide +kernel
theorem dX6_starts_10 : decode cX6_starts 10 = .ok (.aload_n 0, 1) := by decide +kernel
theorem dX6_starts_11 : decode cX6_starts 11 = .ok (.iconst 0, 1) := by decide +kernel
theorem dX6_starts_12 : decode cX6_starts 12 = .ok (.putfield 25, 3) := by decide +kernel
theorem dX6_starts_15 : decode cX6_starts 15 = .ok (.aload_n 0, 1) := by decide +kernel
theorem dX6_starts_16 : decode cX6_starts 16 = .ok (.iconst 0, 1) := by decide +kernel
theorem dX6_starts_17 : decode cX6_starts 17 = .ok (.putfield 29, 3) := by decide +kernel
theorem dX6_starts_20 : decode cX6_starts 20 = .ok (.return_, 1) := by decide +kernel
theorem dX6_begins_0 : decode cX6_begins 0 = .ok (.aload_n 0, 1) := by decide +kernel
theorem dX6_begins_1 : decode cX6_begins 1 = .ok (.getfield 29, 3) := by decide +kernel
theorem dX6_begins_4 : decode cX6_begins 4 = .ok (.bipush 30, 2) := by decide +kernel
theorem dX6_begins_6 : decode cX6_begins 6 = .ok (.if_icmp .ge 23, 3) := by decide +kernel
theorem dX6_begins_9 : decode cX6_begins 9 = .ok (.aload_n 0, 1) := by decide +kernel
theorem dX6_begins_10 : decode cX6_begins 10 = .ok (.getfield 15, 3) := by decide +kernel
theorem dX6_begins_13 : decode cX6_begins 13 = .ok (.aload_n 0, 1) := by decide +kernel
theorem dX6_begins_14 : decode cX6_begins 14 = .ok (.getfield 29, 3) := by decide +kernel
theorem dX6_begins_17 : decode cX6_begins 17 = .ok (.iload_n 1, 1) := by decide +kernel
theorem dX6_begins_18 : decode cX6_begins 18 = .ok (.iastore, 1) := by decide +kernel
theorem dX6_begins_19 : decode cX6_begins 19 = .ok (.aload_n 0, 1) := by decide +kernel
theorem dX6_begins_20 : decode cX6_begins 20 = .ok (.dup, 1) := by decide +kernel
theorem dX6_begins_21 : decode cX6_begins 21 = .ok (.getfield 29, 3) := by decide +kernel
theorem dX6_begins_24 : decode cX6_begins 24 = .ok (.iconst 1, 1) := by decide +kernel
theorem dX6_begins_25 : decode cX6_begins 25 = .ok (.iadd, 1) := by decide +kernel
theorem dX6_begins_26 : decode cX6_begins 26 = .ok (.putfield 29, 3) := by decide +kernel
theorem dX6_begins_29 : decode cX6_begins 29 = .ok (.return_, 1) := by decide +kernel
theorem dX6_keep_0 : decode cX6_keep 0 = .ok (.aload_n 0, 1) := by decide +kernel
theorem dX6_keep_1 : decode cX6_keep 1 = .ok (.getfield 15, 3) := by decide +kernel
theorem dX6_keep_4 : decode cX6_keep 4 = .ok (.iconst 0, 1) := by decide +kernel
theorem dX6_keep_5 : decode cX6_keep 5 = .ok (.aload_n 0, 1) := by decide +kernel
theorem dX6_keep_6 : decode cX6_keep 6 = .ok (.getfield 9, 3) := by decide +kernel
theorem dX6_keep_9 : decode cX6_keep 9 = .ok (.iconst 0, 1) := by decide +kernel
theorem dX6_keep_10 : decode cX6_keep 10 = .ok (.aload_n 0, 1) := by decide +kernel
theorem dX6_keep_11 : decode cX6_keep 11 = .ok (.getfield 29, 3) := by decide +kernel
theorem dX6_keep_14 : decode cX6_keep 14 = .ok (.invokestatic 32, 3) := by decide +kernel
theorem dX6_keep_17 : decode cX6_keep 17 = .ok (.aload_n 0, 1) := by decide +kernel
theorem dX6_keep_18 : decode cX6_keep 18 = .ok (.aload_n 0, 1) := by decide +kernel
theorem dX6_keep_19 : decode cX6_keep 19 = .ok (.getfield 29, 3) := by decide +kernel
theorem dX6_keep_22 : decode cX6_keep 22 = .ok (.putfield 38, 3) := by decide +kernel
theorem dX6_keep_25 : decode cX6_keep 25 = .ok (.return_, 1) := by decide +kernel
theorem dX7_init_0 : decode cX7_init 0 = .ok (.aload_n 0, 1) := by decide +kernel
theorem dX7_init_1 : decode cX7_init 1 = .ok (.invokespecial 1, 3) := by decide +kernel
theorem dX7_init_4 : decode cX7_init 4 = .ok (.return_, 1) := by decide +kernel
theorem dX7_spending_0 : decode cX7_spending 0 = .ok (.iconst 1, 1) := by decide +kernel
theorem dX7_spending_1 : decode cX7_spending 1 = .ok (.aload_n 1, 1) := by decide +kernel
theorem dX7_spending_2 : decode cX7_spending 2 = .ok (.getfield 7, 3) := by decide +kernel
theorem dX7_spending_5 : decode cX7_spending 5 = .ok (.iadd, 1) := by decide +kernel
theorem dX7_spending_6 : decode cX7_spending 6 = .ok (.ireturn, 1) := by decide +kernel
theorem dX7_biting_0 : decode cX7_biting 0 = .ok (.bipush 10, 2) := by decide +kernel
theorem dX7_biting_2 : decode cX7_biting 2 = .ok (.ireturn, 1) := by decide +kernel
theorem dX7_holds_0 : decode cX7_holds 0 = .ok (.aload_n 1, 1) := by decide +kernel
theorem dX7_holds_1 : decode cX7_holds 1 = .ok (.bipush 10, 2) := by decide +kernel
theorem dX7_holds_3 : decode cX7_holds 3 = .ok (.invokevirtual 13, 3) := by decide +kernel
theorem dX7_holds_6 : decode cX7_holds 6 = .ok (.iload_n 2, 1) := by decide +kernel
theorem dX7_holds_7 : decode cX7_holds 7 = .ok (.aload_n 1, 1) := by decide +kernel
theorem dX7_holds_8 : decode cX7_holds 8 = .ok (.getfield 19, 3) := by decide +kernel
theorem dX7_holds_11 : decode cX7_holds 11 = .ok (.iadd, 1) := by decide +kernel
theorem dX7_holds_12 : decode cX7_holds 12 = .ok (.ireturn, 1) := by decide +kernel
theorem dX7_leans_0 : decode cX7_leans 0 = .ok (.aload_n 1, 1) := by decide +kernel
theorem dX7_leans_1 : decode cX7_leans 1 = .ok (.bipush 11, 2) := by decide +kernel
theorem dX7_leans_3 : decode cX7_leans 3 = .ok (.invokevirtual 13, 3) := by decide +kernel
theorem dX7_leans_6 : decode cX7_leans 6 = .ok (.aload_n 0, 1) := by decide +kernel
theorem dX7_leans_7 : decode cX7_leans 7 = .ok (.aload_n 1, 1) := by decide +kernel
theorem dX7_leans_8 : decode cX7_leans 8 = .ok (.iload_n 2, 1) := by decide +kernel
theorem dX7_leans_9 : decode cX7_leans 9 = .ok (.invokevirtual 22, 3) := by decide +kernel
theorem dX7_leans_12 : decode cX7_leans 12 = .ok (.iconst 2, 1) := by decide +kernel
theorem dX7_leans_13 : decode cX7_leans 13 = .ok (.imul, 1) := by decide +kernel
theorem dX7_leans_14 : decode cX7_leans 14 = .ok (.ireturn, 1) := by decide +kernel
theorem dX7_sways_0 : decode cX7_sways 0 = .ok (.aload_n 1, 1) := by decide +kernel
theorem dX7_sways_1 : decode cX7_sways 1 = .ok (.bipush 12, 2) := by decide +kernel
theorem dX7_sways_3 : decode cX7_sways 3 = .ok (.invokevirtual 13, 3) := by decide +kernel
theorem dX7_sways_6 : decode cX7_sways 6 = .ok (.aload_n 0, 1) := by decide +kernel
theorem dX7_sways_7 : decode cX7_sways 7 = .ok (.aload_n 1, 1) := by decide +kernel
theorem dX7_sways_8 : decode cX7_sways 8 = .ok (.iload_n 2, 1) := by decide +kernel
theorem dX7_sways_9 : decode cX7_sways 9 = .ok (.invokevirtual 28, 3) := by decide +kernel
theorem dX7_sways_12 : decode cX7_sways 12 = .ok (.aload_n 1, 1) := by decide +kernel
theorem dX7_sways_13 : decode cX7_sways 13 = .ok (.getfield 31, 3) := by decide +kernel
theorem dX7_sways_16 : decode cX7_sways 16 = .ok (.isub, 1) := by decide +kernel
theorem dX7_sways_17 : decode cX7_sways 17 = .ok (.ireturn, 1) := by decide +kernel
theorem dX7_parts_0 : decode cX7_parts 0 = .ok (.aload_n 1, 1) := by decide +kernel
theorem dX7_parts_1 : decode cX7_parts 1 = .ok (.bipush 13, 2) := by decide +kernel
theorem dX7_parts_3 : decode cX7_parts 3 = .ok (.invokevirtual 13, 3) := by decide +kernel
theorem dX7_parts_6 : decode cX7_parts 6 = .ok (.aload_n 1, 1) := by decide +kernel
theorem dX7_parts_7 : decode cX7_parts 7 = .ok (.getfield 31, 3) := by decide +kernel
theorem dX7_parts_10 : decode cX7_parts 10 = .ok (.aload_n 1, 1) := by decide +kernel
theorem dX7_parts_11 : decode cX7_parts 11 = .ok (.getfield 19, 3) := by decide +kernel
theorem dX7_parts_14 : decode cX7_parts 14 = .ok (.isub, 1) := by decide +kernel
theorem dX7_parts_15 : decode cX7_parts 15 = .ok (.istore_n 3, 1) := by decide +kernel
theorem dX7_parts_16 : decode cX7_parts 16 = .ok (.iload_n 3, 1) := by decide +kernel
theorem dX7_parts_17 : decode cX7_parts 17 = .ok (.ifCond .ne 10, 3) := by decide +kernel
theorem dX7_parts_20 : decode cX7_parts 20 = .ok (.aload_n 1, 1) := by decide +kernel
theorem dX7_parts_21 : decode cX7_parts 21 = .ok (.iconst 1, 1) := by decide +kernel
theorem dX7_parts_22 : decode cX7_parts 22 = .ok (.putfield 34, 3) := by decide +kernel
theorem dX7_parts_25 : decode cX7_parts 25 = .ok (.iconst 0, 1) := by decide +kernel
theorem dX7_parts_26 : decode cX7_parts 26 = .ok (.ireturn, 1) := by decide +kernel
theorem dX7_parts_27 : decode cX7_parts 27 = .ok (.iload_n 2, 1) := by decide +kernel
theorem dX7_parts_28 : decode cX7_parts 28 = .ok (.iload_n 3, 1) := by decide +kernel
theorem dX7_parts_29 : decode cX7_parts 29 = .ok (.idiv, 1) := by decide +kernel
theorem dX7_parts_30 : decode cX7_parts 30 = .ok (.ireturn, 1) := by decide +kernel
theorem dX8_init_0 : decode cX8_init 0 = .ok (.aload_n 0, 1) := by decide +kernel
theorem dX8_init_1 : decode cX8_init 1 = .ok (.invokespecial 1, 3) := by decide +kernel
theorem dX8_init_4 : decode cX8_init 4 = .ok (.return_, 1) := by decide +kernel
theorem dX8_biting_0 : decode cX8_biting 0 = .ok (.aload_n 0, 1) := by decide +kernel
theorem dX8_biting_1 : decode cX8_biting 1 = .ok (.iload_n 1, 1) := by decide +kernel
theorem dX8_biting_2 : decode cX8_biting 2 = .ok (.invokespecial 7, 3) := by decide +kernel
theorem dX8_biting_5 : decode cX8_biting 5 = .ok (.iconst 3, 1) := by decide +kernel
theorem dX8_biting_6 : decode cX8_biting 6 = .ok (.iload_n 1, 1) := by decide +kernel
theorem dX8_biting_7 : decode cX8_biting 7 = .ok (.imul, 1) := by decide +kernel
theorem dX8_biting_8 : decode cX8_biting 8 = .ok (.iadd, 1) := by decide +kernel
theorem dX8_biting_9 : decode cX8_biting 9 = .ok (.ireturn, 1) := by decide +kernel
theorem dX8_sways_0 : decode cX8_sways 0 = .ok (.aload_n 1, 1) := by decide +kernel
theorem dX8_sways_1 : decode cX8_sways 1 = .ok (.bipush 40, 2) := by decide +kernel
theorem dX8_sways_3 : decode cX8_sways 3 = .ok (.invokevirtual 11, 3) := by decide +kernel
theorem dX8_sways_6 : decode cX8_sways 6 = .ok (.aload_n 0, 1) := by decide +kernel
theorem dX8_sways_7 : decode cX8_sways 7 = .ok (.aload_n 1, 1) := by decide +kernel
theorem dX8_sways_8 : decode cX8_sways 8 = .ok (.iload_n 2, 1) := by decide +kernel
theorem dX8_sways_9 : decode cX8_sways 9 = .ok (.iconst 2, 1) := by decide +kernel
theorem dX8_sways_10 : decode cX8_sways 10 = .ok (.idiv, 1) := by decide +kernel
theorem dX8_sways_11 : decode cX8_sways 11 = .ok (.invokespecial 17, 3) := by decide +kernel
theorem dX8_sways_14 : decode cX8_sways 14 = .ok (.ireturn, 1) := by decide +kernel
theorem dX9_init_0 : decode cX9_init 0 = .ok (.aload_n 0, 1) := by decide +kernel
theorem dX9_init_1 : decode cX9_init 1 = .ok (.invokespecial 1, 3) := by decide +kernel
theorem dX9_init_4 : decode cX9_init 4 = .ok (.return_, 1) := by decide +kernel
theorem dX9_spending_0 : decode cX9_spending 0 = .ok (.aload_n 1, 1) := by decide +kernel
theorem dX9_spending_1 : decode cX9_spending 1 = .ok (.getfield 7, 3) := by decide +kernel
theorem dX9_spending_4 : decode cX9_spending 4 = .ok (.astore_n 3, 1) := by decide +kernel
theorem dX9_spending_5 : decode cX9_spending 5 = .ok (.aload_n 3, 1) := by decide +kernel
theorem dX9_spending_6 : decode cX9_spending 6 = .ok (.invokevirtual 13, 3) := by decide +kernel
theorem dX9_spending_9 : decode cX9_spending 9 = .ok (.ifCond .eq 12, 3) := by decide +kernel
theorem dX9_spending_12 : decode cX9_spending 12 = .ok (.aload_n 0, 1) := by decide +kernel
theorem dX9_spending_13 : decode cX9_spending 13 = .ok (.aload_n 1, 1) := by decide +kernel
theorem dX9_spending_14 : decode cX9_spending 14 = .ok (.iload_n 2, 1) := by decide +kernel
theorem dX9_spending_15 : decode cX9_spending 15 = .ok (.invokespecial 19, 3) := by decide +kernel
theorem dX9_spending_18 : decode cX9_spending 18 = .ok (.goto 23, 3) := by decide +kernel
theorem dX9_spending_21 : decode cX9_spending 21 = .ok (.aload_n 3, 1) := by decide +kernel
theorem dX9_spending_22 : decode cX9_spending 22 = .ok (.aload_n 1, 1) := by decide +kernel
theorem dX9_spending_23 : decode cX9_spending 23 = .ok (.getfield 22, 3) := by decide +kernel
theorem dX9_spending_26 : decode cX9_spending 26 = .ok (.aload_n 1, 1) := by decide +kernel
theorem dX9_spending_27 : decode cX9_spending 27 = .ok (.getfield 26, 3) := by decide +kernel
theorem dX9_spending_30 : decode cX9_spending 30 = .ok (.iload_n 2, 1) := by decide +kernel
theorem dX9_spending_31 : decode cX9_spending 31 = .ok (.iaload, 1) := by decide +kernel
theorem dX9_spending_32 : decode cX9_spending 32 = .ok (.aload_n 1, 1) := by decide +kernel
theorem dX9_spending_33 : decode cX9_spending 33 = .ok (.getfield 30, 3) := by decide +kernel
