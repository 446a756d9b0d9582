theorem dX7_eat_16 : decode cX7_eat 16 = .ok (.iload_n 1, 1) := by decide +kernel
theorem dX7_eat_17 : decode cX7_eat 17 = .ok (.iadd, 1) := by decide +kernel
theorem dX7_eat_18 : decode cX7_eat 18 = .ok (.iconst (-1), 1) := by decide +kernel
theorem dX7_eat_19 : decode cX7_eat 19 = .ok (.iastore, 1) := by decide +kernel
theorem dX7_eat_20 : decode cX7_eat 20 = .ok (.return_, 1) := by decide +kernel
theorem dX7_eatFirst_0 : decode cX7_eatFirst 0 = .ok (.iconst 0, 1) := by decide +kernel
theorem dX7_eatFirst_1 : decode cX7_eatFirst 1 = .ok (.istore_n 2, 1) := by decide +kernel
theorem dX7_eatFirst_2 : decode cX7_eatFirst 2 = .ok (.iconst 0, 1) := by decide +kernel
theorem dX7_eatFirst_3 : decode cX7_eatFirst 3 = .ok (.istore_n 3, 1) := by decide +kernel
theorem dX7_eatFirst_4 : decode cX7_eatFirst 4 = .ok (.iload_n 3, 1) := by decide +kernel
theorem dX7_eatFirst_5 : decode cX7_eatFirst 5 = .ok (.aload_n 0, 1) := by decide +kernel
theorem dX7_eatFirst_6 : decode cX7_eatFirst 6 = .ok (.getfield 7, 3) := by decide +kernel
theorem dX7_eatFirst_9 : decode cX7_eatFirst 9 = .ok (.iconst 0, 1) := by decide +kernel
theorem dX7_eatFirst_10 : decode cX7_eatFirst 10 = .ok (.iaload, 1) := by decide +kernel
theorem dX7_eatFirst_11 : decode cX7_eatFirst 11 = .ok (.if_icmp .ge 36, 3) := by decide +kernel
theorem dX7_eatFirst_14 : decode cX7_eatFirst 14 = .ok (.aload_n 0, 1) := by decide +kernel
theorem dX7_eatFirst_15 : decode cX7_eatFirst 15 = .ok (.iload_n 3, 1) := by decide +kernel
theorem dX7_eatFirst_16 : decode cX7_eatFirst 16 = .ok (.invokevirtual 147, 3) := by decide +kernel
theorem dX7_eatFirst_19 : decode cX7_eatFirst 19 = .ok (.ifCond .eq 22, 3) := by decide +kernel
theorem dX7_eatFirst_22 : decode cX7_eatFirst 22 = .ok (.iload_n 2, 1) := by decide +kernel
theorem dX7_eatFirst_23 : decode cX7_eatFirst 23 = .ok (.invokestatic 150, 3) := by decide +kernel
theorem dX7_eatFirst_26 : decode cX7_eatFirst 26 = .ok (.iload_n 1, 1) := by decide +kernel
theorem dX7_eatFirst_27 : decode cX7_eatFirst 27 = .ok (.if_icmp .ge 14, 3) := by decide +kernel
theorem dX7_eatFirst_30 : decode cX7_eatFirst 30 = .ok (.aload_n 0, 1) := by decide +kernel
theorem dX7_eatFirst_31 : decode cX7_eatFirst 31 = .ok (.iload_n 3, 1) := by decide +kernel
theorem dX7_eatFirst_32 : decode cX7_eatFirst 32 = .ok (.invokevirtual 153, 3) := by decide +kernel
theorem dX7_eatFirst_35 : decode cX7_eatFirst 35 = .ok (.iload_n 2, 1) := by decide +kernel
theorem dX7_eatFirst_36 : decode cX7_eatFirst 36 = .ok (.iconst 1, 1) := by decide +kernel
theorem dX7_eatFirst_37 : decode cX7_eatFirst 37 = .ok (.iload_n 3, 1) := by decide +kernel
theorem dX7_eatFirst_38 : decode cX7_eatFirst 38 = .ok (.ishl, 1) := by decide +kernel
theorem dX7_eatFirst_39 : decode cX7_eatFirst 39 = .ok (.ior, 1) := by decide +kernel
theorem dX7_eatFirst_40 : decode cX7_eatFirst 40 = .ok (.istore_n 2, 1) := by decide +kernel
theorem dX7_eatFirst_41 : decode cX7_eatFirst 41 = .ok (.iinc 3 1, 3) := by decide +kernel
theorem dX7_eatFirst_44 : decode cX7_eatFirst 44 = .ok (.goto (-40), 3) := by decide +kernel
theorem dX7_eatFirst_47 : decode cX7_eatFirst 47 = .ok (.iload_n 2, 1) := by decide +kernel
theorem dX7_eatFirst_48 : decode cX7_eatFirst 48 = .ok (.ireturn, 1) := by decide +kernel
theorem dX7_day_0 : decode cX7_day 0 = .ok (.aload_n 0, 1) := by decide +kernel
theorem dX7_day_1 : decode cX7_day 1 = .ok (.getfield 13, 3) := by decide +kernel
theorem dX7_day_4 : decode cX7_day 4 = .ok (.iconst 4, 1) := by decide +kernel
theorem dX7_day_5 : decode cX7_day 5 = .ok (.iaload, 1) := by decide +kernel
theorem dX7_day_6 : decode cX7_day 6 = .ok (.bipush 99, 2) := by decide +kernel
theorem dX7_day_8 : decode cX7_day 8 = .ok (.if_icmp .ne 6, 3) := by decide +kernel
theorem dX7_day_11 : decode cX7_day 11 = .ok (.bipush (-5), 2) := by decide +kernel
theorem dX7_day_13 : decode cX7_day 13 = .ok (.ireturn, 1) := by decide +kernel
theorem dX7_day_14 : decode cX7_day 14 = .ok (.aload_n 0, 1) := by decide +kernel
theorem dX7_day_15 : decode cX7_day 15 = .ok (.invokevirtual 144, 3) := by decide +kernel
theorem dX7_day_18 : decode cX7_day 18 = .ok (.aload_n 0, 1) := by decide +kernel
theorem dX7_day_19 : decode cX7_day 19 = .ok (.aload_n 0, 1) := by decide +kernel
theorem dX7_day_20 : decode cX7_day 20 = .ok (.getfield 13, 3) := by decide +kernel
theorem dX7_day_23 : decode cX7_day 23 = .ok (.iconst 3, 1) := by decide +kernel
theorem dX7_day_24 : decode cX7_day 24 = .ok (.iaload, 1) := by decide +kernel
theorem dX7_day_25 : decode cX7_day 25 = .ok (.iconst 1, 1) := by decide +kernel
theorem dX7_day_26 : decode cX7_day 26 = .ok (.if_icmp .ne 7, 3) := by decide +kernel
theorem dX7_day_29 : decode cX7_day 29 = .ok (.iconst 0, 1) := by decide +kernel
theorem dX7_day_30 : decode cX7_day 30 = .ok (.goto 10, 3) := by decide +kernel
theorem dX7_day_33 : decode cX7_day 33 = .ok (.aload_n 0, 1) := by decide +kernel
theorem dX7_day_34 : decode cX7_day 34 = .ok (.getfield 7, 3) := by decide +kernel
theorem dX7_day_37 : decode cX7_day 37 = .ok (.bipush 28, 2) := by decide +kernel
theorem dX7_day_39 : decode cX7_day 39 = .ok (.iaload, 1) := by decide +kernel
theorem dX7_day_40 : decode cX7_day 40 = .ok (.invokevirtual 157, 3) := by decide +kernel
theorem dX7_day_43 : decode cX7_day 43 = .ok (.istore_n 1, 1) := by decide +kernel
theorem dX7_day_44 : decode cX7_day 44 = .ok (.aload_n 0, 1) := by decide +kernel
theorem dX7_day_45 : decode cX7_day 45 = .ok (.getfield 13, 3) := by decide +kernel
theorem dX7_day_48 : decode cX7_day 48 = .ok (.iconst 2, 1) := by decide +kernel
theorem dX7_day_49 : decode cX7_day 49 = .ok (.aload_n 0, 1) := by decide +kernel
theorem dX7_day_50 : decode cX7_day 50 = .ok (.getfield 13, 3) := by decide +kernel
theorem dX7_day_53 : decode cX7_day 53 = .ok (.iconst 2, 1) := by decide +kernel
theorem dX7_day_54 : decode cX7_day 54 = .ok (.iaload, 1) := by decide +kernel
theorem dX7_day_55 : decode cX7_day 55 = .ok (.bipush 9, 2) := by decide +kernel
theorem dX7_day_57 : decode cX7_day 57 = .ok (.if_icmp .ge 14, 3) := by decide +kernel
theorem dX7_day_60 : decode cX7_day 60 = .ok (.aload_n 0, 1) := by decide +kernel
theorem dX7_day_61 : decode cX7_day 61 = .ok (.getfield 13, 3) := by decide +kernel
theorem dX7_day_64 : decode cX7_day 64 = .ok (.iconst 2, 1) := by decide +kernel
theorem dX7_day_65 : decode cX7_day 65 = .ok (.iaload, 1) := by decide +kernel
theorem dX7_day_66 : decode cX7_day 66 = .ok (.iconst 1, 1) := by decide +kernel
theorem dX7_day_67 : decode cX7_day 67 = .ok (.iadd, 1) := by decide +kernel
theorem dX7_day_68 : decode cX7_day 68 = .ok (.goto 5, 3) := by decide +kernel
theorem dX7_day_71 : decode cX7_day 71 = .ok (.bipush 9, 2) := by decide +kernel
theorem dX7_day_73 : decode cX7_day 73 = .ok (.iastore, 1) := by decide +kernel
theorem dX7_day_74 : decode cX7_day 74 = .ok (.aload_n 0, 1) := by decide +kernel
theorem dX7_day_75 : decode cX7_day 75 = .ok (.getfield 13, 3) := by decide +kernel
theorem dX7_day_78 : decode cX7_day 78 = .ok (.iconst 1, 1) := by decide +kernel
theorem dX7_day_79 : decode cX7_day 79 = .ok (.iconst 0, 1) := by decide +kernel
theorem dX7_day_80 : decode cX7_day 80 = .ok (.iastore, 1) := by decide +kernel
theorem dX7_day_81 : decode cX7_day 81 = .ok (.aload_n 0, 1) := by decide +kernel
theorem dX7_day_82 : decode cX7_day 82 = .ok (.getfield 13, 3) := by decide +kernel
theorem dX7_day_85 : decode cX7_day 85 = .ok (.iconst 4, 1) := by decide +kernel
theorem dX7_day_86 : decode cX7_day 86 = .ok (.dup2, 1) := by decide +kernel
theorem dX7_day_87 : decode cX7_day 87 = .ok (.iaload, 1) := by decide +kernel
theorem dX7_day_88 : decode cX7_day 88 = .ok (.iconst 1, 1) := by decide +kernel
theorem dX7_day_89 : decode cX7_day 89 = .ok (.iadd, 1) := by decide +kernel
theorem dX7_day_90 : decode cX7_day 90 = .ok (.iastore, 1) := by decide +kernel
theorem dX7_day_91 : decode cX7_day 91 = .ok (.iload_n 1, 1) := by decide +kernel
theorem dX7_day_92 : decode cX7_day 92 = .ok (.ireturn, 1) := by decide +kernel
theorem dX7_comeBy_0 : decode cX7_comeBy 0 = .ok (.iconst 0, 1) := by decide +kernel
theorem dX7_comeBy_1 : decode cX7_comeBy 1 = .ok (.istore_n 2, 1) := by decide +kernel
theorem dX7_comeBy_2 : decode cX7_comeBy 2 = .ok (.iconst 0, 1) := by decide +kernel
theorem dX7_comeBy_3 : decode cX7_comeBy 3 = .ok (.istore_n 3, 1) := by decide +kernel
theorem dX7_comeBy_4 : decode cX7_comeBy 4 = .ok (.iload_n 3, 1) := by decide +kernel
theorem dX7_comeBy_5 : decode cX7_comeBy 5 = .ok (.aload_n 0, 1) := by decide +kernel
theorem dX7_comeBy_6 : decode cX7_comeBy 6 = .ok (.getfield 7, 3) := by decide +kernel
theorem dX7_comeBy_9 : decode cX7_comeBy 9 = .ok (.bipush 20, 2) := by decide +kernel
theorem dX7_comeBy_11 : decode cX7_comeBy 11 = .ok (.iaload, 1) := by decide +kernel
theorem dX7_comeBy_12 : decode cX7_comeBy 12 = .ok (.if_icmp .ge 35, 3) := by decide +kernel
theorem dX7_comeBy_15 : decode cX7_comeBy 15 = .ok (.iload_n 2, 1) := by decide +kernel
theorem dX7_comeBy_16 : decode cX7_comeBy 16 = .ok (.aload_n 0, 1) := by decide +kernel
theorem dX7_comeBy_17 : decode cX7_comeBy 17 = .ok (.getfield 7, 3) := by decide +kernel
theorem dX7_comeBy_20 : decode cX7_comeBy 20 = .ok (.bipush 21, 2) := by decide +kernel
theorem dX7_comeBy_22 : decode cX7_comeBy 22 = .ok (.iload_n 3, 1) := by decide +kernel
theorem dX7_comeBy_23 : decode cX7_comeBy 23 = .ok (.iadd, 1) := by decide +kernel
theorem dX7_comeBy_24 : decode cX7_comeBy 24 = .ok (.iaload, 1) := by decide +kernel
theorem dX7_comeBy_25 : decode cX7_comeBy 25 = .ok (.iload_n 1, 1) := by decide +kernel
theorem dX7_comeBy_26 : decode cX7_comeBy 26 = .ok (.invokestatic 160, 3) := by decide +kernel
theorem dX7_comeBy_29 : decode cX7_comeBy 29 = .ok (.ifCond .eq 7, 3) := by decide +kernel
theorem dX7_comeBy_32 : decode cX7_comeBy 32 = .ok (.iconst 0, 1) := by decide +kernel
theorem dX7_comeBy_33 : decode cX7_comeBy 33 = .ok (.goto 6, 3) := by decide +kernel
theorem dX7_comeBy_36 : decode cX7_comeBy 36 = .ok (.iconst 1, 1) := by decide +kernel
theorem dX7_comeBy_37 : decode cX7_comeBy 37 = .ok (.iload_n 3, 1) := by decide +kernel
theorem dX7_comeBy_38 : decode cX7_comeBy 38 = .ok (.ishl, 1) := by decide +kernel
theorem dX7_comeBy_39 : decode cX7_comeBy 39 = .ok (.ior, 1) := by decide +kernel
theorem dX7_comeBy_40 : decode cX7_comeBy 40 = .ok (.istore_n 2, 1) := by decide +kernel
theorem dX7_comeBy_41 : decode cX7_comeBy 41 = .ok (.iinc 3 1, 3) := by decide +kernel
theorem dX7_comeBy_44 : decode cX7_comeBy 44 = .ok (.goto (-40), 3) := by decide +kernel
theorem dX7_comeBy_47 : decode cX7_comeBy 47 = .ok (.iload_n 2, 1) := by decide +kernel
theorem dX7_comeBy_48 : decode cX7_comeBy 48 = .ok (.ireturn, 1) := by decide +kernel
theorem dX7_blind_0 : decode cX7_blind 0 = .ok (.iload_n 1, 1) := by decide +kernel
theorem dX7_blind_1 : decode cX7_blind 1 = .ok (.i2l, 1) := by decide +kernel
theorem dX7_blind_2 : decode cX7_blind 2 = .ok (.lconst 0, 1) := by decide +kernel
theorem dX7_blind_3 : decode cX7_blind 3 = .ok (.ldc2_w 164, 3) := by decide +kernel
theorem dX7_blind_6 : decode cX7_blind 6 = .ok (.invokestatic 45, 3) := by decide +kernel
theorem dX7_blind_9 : decode cX7_blind 9 = .ok (.ifCond .ne 6, 3) := by decide +kernel
theorem dX7_blind_12 : decode cX7_blind 12 = .ok (.bipush (-3), 2) := by decide +kernel
theorem dX7_blind_14 : decode cX7_blind 14 = .ok (.ireturn, 1) := by decide +kernel
theorem dX7_blind_15 : decode cX7_blind 15 = .ok (.aload_n 0, 1) := by decide +kernel
theorem dX7_blind_16 : decode cX7_blind 16 = .ok (.getfield 13, 3) := by decide +kernel
theorem dX7_blind_19 : decode cX7_blind 19 = .ok (.iconst 3, 1) := by decide +kernel
theorem dX7_blind_20 : decode cX7_blind 20 = .ok (.iaload, 1) := by decide +kernel
theorem dX7_blind_21 : decode cX7_blind 21 = .ok (.iconst 1, 1) := by decide +kernel
theorem dX7_blind_22 : decode cX7_blind 22 = .ok (.if_icmp .eq 35, 3) := by decide +kernel
theorem dX7_blind_25 : decode cX7_blind 25 = .ok (.aload_n 0, 1) := by decide +kernel
theorem dX7_blind_26 : decode cX7_blind 26 = .ok (.getfield 13, 3) := by decide +kernel
theorem dX7_blind_29 : decode cX7_blind 29 = .ok (.iconst 1, 1) := by decide +kernel
theorem dX7_blind_30 : decode cX7_blind 30 = .ok (.iaload, 1) := by decide +kernel
theorem dX7_blind_31 : decode cX7_blind 31 = .ok (.aload_n 0, 1) := by decide +kernel
theorem dX7_blind_32 : decode cX7_blind 32 = .ok (.getfield 7, 3) := by decide +kernel
theorem dX7_blind_35 : decode cX7_blind 35 = .ok (.bipush 26, 2) := by decide +kernel
theorem dX7_blind_37 : decode cX7_blind 37 = .ok (.iaload, 1) := by decide +kernel
theorem dX7_blind_38 : decode cX7_blind 38 = .ok (.if_icmp .lt 19, 3) := by decide +kernel
theorem dX7_blind_41 : decode cX7_blind 41 = .ok (.aload_n 0, 1) := by decide +kernel
theorem dX7_blind_42 : decode cX7_blind 42 = .ok (.getfield 13, 3) := by decide +kernel
theorem dX7_blind_45 : decode cX7_blind 45 = .ok (.iconst 2, 1) := by decide +kernel
theorem dX7_blind_46 : decode cX7_blind 46 = .ok (.iaload, 1) := by decide +kernel
theorem dX7_blind_47 : decode cX7_blind 47 = .ok (.aload_n 0, 1) := by decide +kernel
theorem dX7_blind_48 : decode cX7_blind 48 = .ok (.getfield 7, 3) := by decide +kernel
theorem dX7_blind_51 : decode cX7_blind 51 = .ok (.bipush 27, 2) := by decide +kernel
theorem dX7_blind_53 : decode cX7_blind 53 = .ok (.iaload, 1) := by decide +kernel
theorem dX7_blind_54 : decode cX7_blind 54 = .ok (.if_icmp .ge 6, 3) := by decide +kernel
theorem dX7_blind_57 : decode cX7_blind 57 = .ok (.bipush (-4), 2) := by decide +kernel
theorem dX7_blind_59 : decode cX7_blind 59 = .ok (.ireturn, 1) := by decide +kernel
theorem dX7_blind_60 : decode cX7_blind 60 = .ok (.aload_n 0, 1) := by decide +kernel
theorem dX7_blind_61 : decode cX7_blind 61 = .ok (.invokevirtual 144, 3) := by decide +kernel
theorem dX7_blind_64 : decode cX7_blind 64 = .ok (.aload_n 0, 1) := by decide +kernel
theorem dX7_blind_65 : decode cX7_blind 65 = .ok (.getfield 13, 3) := by decide +kernel
theorem dX7_blind_68 : decode cX7_blind 68 = .ok (.iconst 3, 1) := by decide +kernel
theorem dX7_blind_69 : decode cX7_blind 69 = .ok (.iconst 1, 1) := by decide +kernel
theorem dX7_blind_70 : decode cX7_blind 70 = .ok (.iastore, 1) := by decide +kernel
theorem dX7_blind_71 : decode cX7_blind 71 = .ok (.aload_n 0, 1) := by decide +kernel
theorem dX7_blind_72 : decode cX7_blind 72 = .ok (.iload_n 1, 1) := by decide +kernel
theorem dX7_blind_73 : decode cX7_blind 73 = .ok (.invokevirtual 166, 3) := by decide +kernel
theorem dX7_blind_76 : decode cX7_blind 76 = .ok (.istore_n 2, 1) := by decide +kernel
theorem dX7_blind_77 : decode cX7_blind 77 = .ok (.aload_n 0, 1) := by decide +kernel
theorem dX7_blind_78 : decode cX7_blind 78 = .ok (.iload_n 2, 1) := by decide +kernel
theorem dX7_blind_79 : decode cX7_blind 79 = .ok (.invokestatic 150, 3) := by decide +kernel
theorem dX7_blind_82 : decode cX7_blind 82 = .ok (.invokevirtual 157, 3) := by decide +kernel
theorem dX7_blind_85 : decode cX7_blind 85 = .ok (.pop, 1) := by decide +kernel
theorem dX7_blind_86 : decode cX7_blind 86 = .ok (.iload_n 2, 1) := by decide +kernel
theorem dX7_blind_87 : decode cX7_blind 87 = .ok (.ireturn, 1) := by decide +kernel
theorem dX7_hide_0 : decode cX7_hide 0 = .ok (.aload_n 0, 1) := by decide +kernel
theorem dX7_hide_1 : decode cX7_hide 1 = .ok (.iload_n 1, 1) := by decide +kernel
theorem dX7_hide_2 : decode cX7_hide 2 = .ok (.invokevirtual 123, 3) := by decide +kernel
theorem dX7_hide_5 : decode cX7_hide 5 = .ok (.ifCond .eq 16, 3) := by decide +kernel
theorem dX7_hide_8 : decode cX7_hide 8 = .ok (.iload_n 2, 1) := by decide +kernel
theorem dX7_hide_9 : decode cX7_hide 9 = .ok (.iconst (-1), 1) := by decide +kernel
theorem dX7_hide_10 : decode cX7_hide 10 = .ok (.if_icmp .eq 14, 3) := by decide +kernel
theorem dX7_hide_13 : decode cX7_hide 13 = .ok (.aload_n 0, 1) := by decide +kernel
theorem dX7_hide_14 : decode cX7_hide 14 = .ok (.iload_n 2, 1) := by decide +kernel
theorem dX7_hide_15 : decode cX7_hide 15 = .ok (.invokevirtual 129, 3) := by decide +kernel
theorem dX7_hide_18 : decode cX7_hide 18 = .ok (.ifCond .ne 6, 3) := by decide +kernel
theorem dX7_hide_21 : decode cX7_hide 21 = .ok (.bipush (-2), 2) := by decide +kernel
theorem dX7_hide_23 : decode cX7_hide 23 = .ok (.ireturn, 1) := by decide +kernel
theorem dX7_hide_24 : decode cX7_hide 24 = .ok (.iload_n 2, 1) := by decide +kernel
theorem dX7_hide_25 : decode cX7_hide 25 = .ok (.ifCond .ge 23, 3) := by decide +kernel
theorem dX7_hide_28 : decode cX7_hide 28 = .ok (.aload_n 0, 1) := by decide +kernel
theorem dX7_hide_29 : decode cX7_hide 29 = .ok (.getfield 13, 3) := by decide +kernel
theorem dX7_hide_32 : decode cX7_hide 32 = .ok (.bipush 12, 2) := by decide +kernel
theorem dX7_hide_34 : decode cX7_hide 34 = .ok (.iload_n 1, 1) := by decide +kernel
theorem dX7_hide_35 : decode cX7_hide 35 = .ok (.iadd, 1) := by decide +kernel
theorem dX7_hide_36 : decode cX7_hide 36 = .ok (.iaload, 1) := by decide +kernel
theorem dX7_hide_37 : decode cX7_hide 37 = .ok (.ifCond .ge 7, 3) := by decide +kernel
theorem dX7_hide_40 : decode cX7_hide 40 = .ok (.iconst 1, 1) := by decide +kernel
theorem dX7_hide_41 : decode cX7_hide 41 = .ok (.goto 33, 3) := by decide +kernel
theorem dX7_hide_44 : decode cX7_hide 44 = .ok (.iconst 0, 1) := by decide +kernel
theorem dX7_hide_45 : decode cX7_hide 45 = .ok (.goto 29, 3) := by decide +kernel
theorem dX7_hide_48 : decode cX7_hide 48 = .ok (.aload_n 0, 1) := by decide +kernel
theorem dX7_hide_49 : decode cX7_hide 49 = .ok (.getfield 13, 3) := by decide +kernel
theorem dX7_hide_52 : decode cX7_hide 52 = .ok (.iconst 5, 1) := by decide +kernel
theorem dX7_hide_53 : decode cX7_hide 53 = .ok (.iaload, 1) := by decide +kernel
theorem dX7_hide_54 : decode cX7_hide 54 = .ok (.iload_n 2, 1) := by decide +kernel
theorem dX7_hide_55 : decode cX7_hide 55 = .ok (.invokestatic 160, 3) := by decide +kernel
theorem dX7_hide_58 : decode cX7_hide 58 = .ok (.ifCond .ne 11, 3) := by decide +kernel
theorem dX7_hide_61 : decode cX7_hide 61 = .ok (.aload_n 0, 1) := by decide +kernel
theorem dX7_hide_62 : decode cX7_hide 62 = .ok (.iload_n 2, 1) := by decide +kernel
theorem dX7_hide_63 : decode cX7_hide 63 = .ok (.invokevirtual 134, 3) := by decide +kernel
theorem dX7_hide_66 : decode cX7_hide 66 = .ok (.ifCond .lt 7, 3) := by decide +kernel
theorem dX7_hide_69 : decode cX7_hide 69 = .ok (.iconst 1, 1) := by decide +kernel
theorem dX7_hide_70 : decode cX7_hide 70 = .ok (.goto 4, 3) := by decide +kernel
theorem dX7_hide_73 : decode cX7_hide 73 = .ok (.iconst 0, 1) := by decide +kernel
theorem dX7_hide_74 : decode cX7_hide 74 = .ok (.istore_n 3, 1) := by decide +kernel
theorem dX7_hide_75 : decode cX7_hide 75 = .ok (.aload_n 0, 1) := by decide +kernel
theorem dX7_hide_76 : decode cX7_hide 76 = .ok (.iload_n 1, 1) := by decide +kernel
theorem dX7_hide_77 : decode cX7_hide 77 = .ok (.invokevirtual 147, 3) := by decide +kernel
theorem dX7_hide_80 : decode cX7_hide 80 = .ok (.ifCond .eq 7, 3) := by decide +kernel
theorem dX7_hide_83 : decode cX7_hide 83 = .ok (.iload_n 3, 1) := by decide +kernel
theorem dX7_hide_84 : decode cX7_hide 84 = .ok (.ifCond .eq 6, 3) := by decide +kernel
theorem dX7_hide_87 : decode cX7_hide 87 = .ok (.bipush (-4), 2) := by decide +kernel
theorem dX7_hide_89 : decode cX7_hide 89 = .ok (.ireturn, 1) := by decide +kernel
theorem dX7_hide_90 : decode cX7_hide 90 = .ok (.aload_n 0, 1) := by decide +kernel
theorem dX7_hide_91 : decode cX7_hide 91 = .ok (.invokevirtual 144, 3) := by decide +kernel
theorem dX7_hide_94 : decode cX7_hide 94 = .ok (.aload_n 0, 1) := by decide +kernel
theorem dX7_hide_95 : decode cX7_hide 95 = .ok (.getfield 13, 3) := by decide +kernel
theorem dX7_hide_98 : decode cX7_hide 98 = .ok (.bipush 12, 2) := by decide +kernel
theorem dX7_hide_100 : decode cX7_hide 100 = .ok (.iload_n 1, 1) := by decide +kernel
theorem dX7_hide_101 : decode cX7_hide 101 = .ok (.iadd, 1) := by decide +kernel
theorem dX7_hide_102 : decode cX7_hide 102 = .ok (.iaload, 1) := by decide +kernel
theorem dX7_hide_103 : decode cX7_hide 103 = .ok (.istore 4, 2) := by decide +kernel
theorem dX7_hide_105 : decode cX7_hide 105 = .ok (.aload_n 0, 1) := by decide +kernel
theorem dX7_hide_106 : decode cX7_hide 106 = .ok (.getfield 13, 3) := by decide +kernel
theorem dX7_hide_109 : decode cX7_hide 109 = .ok (.bipush 12, 2) := by decide +kernel
theorem dX7_hide_111 : decode cX7_hide 111 = .ok (.iload_n 1, 1) := by decide +kernel
theorem dX7_hide_112 : decode cX7_hide 112 = .ok (.iadd, 1) := by decide +kernel
theorem dX7_hide_113 : decode cX7_hide 113 = .ok (.iload_n 2, 1) := by decide +kernel
theorem dX7_hide_114 : decode cX7_hide 114 = .ok (.iastore, 1) := by decide +kernel
theorem dX7_hide_115 : decode cX7_hide 115 = .ok (.iload 4, 2) := by decide +kernel
theorem dX7_hide_117 : decode cX7_hide 117 = .ok (.ireturn, 1) := by decide +kernel
theorem dX7_morning_0 : decode cX7_morning 0 = .ok (.aload_n 0, 1) := by decide +kernel
theorem dX7_morning_1 : decode cX7_morning 1 = .ok (.getfield 13, 3) := by decide +kernel
theorem dX7_morning_4 : decode cX7_morning 4 = .ok (.iconst 3, 1) := by decide +kernel
theorem dX7_morning_5 : decode cX7_morning 5 = .ok (.iaload, 1) := by decide +kernel
theorem dX7_morning_6 : decode cX7_morning 6 = .ok (.ifCond .ne 6, 3) := by decide +kernel
theorem dX7_morning_9 : decode cX7_morning 9 = .ok (.bipush (-4), 2) := by decide +kernel
theorem dX7_morning_11 : decode cX7_morning 11 = .ok (.ireturn, 1) := by decide +kernel
theorem dX7_morning_12 : decode cX7_morning 12 = .ok (.aload_n 0, 1) := by decide +kernel
theorem dX7_morning_13 : decode cX7_morning 13 = .ok (.invokevirtual 144, 3) := by decide +kernel
theorem dX7_morning_16 : decode cX7_morning 16 = .ok (.iconst 0, 1) := by decide +kernel
theorem dX7_morning_17 : decode cX7_morning 17 = .ok (.istore_n 1, 1) := by decide +kernel
theorem dX7_morning_18 : decode cX7_morning 18 = .ok (.iconst 0, 1) := by decide +kernel
theorem dX7_morning_19 : decode cX7_morning 19 = .ok (.istore_n 2, 1) := by decide +kernel
theorem dX7_morning_20 : decode cX7_morning 20 = .ok (.iload_n 2, 1) := by decide +kernel
theorem dX7_morning_21 : decode cX7_morning 21 = .ok (.aload_n 0, 1) := by decide +kernel
theorem dX7_morning_22 : decode cX7_morning 22 = .ok (.getfield 7, 3) := by decide +kernel
theorem dX7_morning_25 : decode cX7_morning 25 = .ok (.iconst 0, 1) := by decide +kernel
theorem dX7_morning_26 : decode cX7_morning 26 = .ok (.iaload, 1) := by decide +kernel
theorem dX7_morning_27 : decode cX7_morning 27 = .ok (.if_icmp .ge 111, 3) := by decide +kernel
theorem dX7_morning_30 : decode cX7_morning 30 = .ok (.aload_n 0, 1) := by decide +kernel
theorem dX7_morning_31 : decode cX7_morning 31 = .ok (.getfield 13, 3) := by decide +kernel
theorem dX7_morning_34 : decode cX7_morning 34 = .ok (.bipush 12, 2) := by decide +kernel
theorem dX7_morning_36 : decode cX7_morning 36 = .ok (.iload_n 2, 1) := by decide +kernel
theorem dX7_morning_37 : decode cX7_morning 37 = .ok (.iadd, 1) := by decide +kernel
theorem dX7_morning_38 : decode cX7_morning 38 = .ok (.iaload, 1) := by decide +kernel
theorem dX7_morning_39 : decode cX7_morning 39 = .ok (.istore_n 3, 1) := by decide +kernel
theorem dX7_morning_40 : decode cX7_morning 40 = .ok (.iload_n 3, 1) := by decide +kernel
theorem dX7_morning_41 : decode cX7_morning 41 = .ok (.ifCond .lt 91, 3) := by decide +kernel
theorem dX7_morning_44 : decode cX7_morning 44 = .ok (.aload_n 0, 1) := by decide +kernel
theorem dX7_morning_45 : decode cX7_morning 45 = .ok (.iload_n 3, 1) := by decide +kernel
theorem dX7_morning_46 : decode cX7_morning 46 = .ok (.invokevirtual 139, 3) := by decide +kernel
theorem dX7_morning_49 : decode cX7_morning 49 = .ok (.aload_n 0, 1) := by decide +kernel
theorem dX7_morning_50 : decode cX7_morning 50 = .ok (.getfield 7, 3) := by decide +kernel
theorem dX7_morning_53 : decode cX7_morning 53 = .ok (.iconst 1, 1) := by decide +kernel
theorem dX7_morning_54 : decode cX7_morning 54 = .ok (.iload_n 2, 1) := by decide +kernel
theorem dX7_morning_55 : decode cX7_morning 55 = .ok (.iadd, 1) := by decide +kernel
theorem dX7_morning_56 : decode cX7_morning 56 = .ok (.iaload, 1) := by decide +kernel
theorem dX7_morning_57 : decode cX7_morning 57 = .ok (.if_icmp .lt 7, 3) := by decide +kernel
theorem dX7_morning_60 : decode cX7_morning 60 = .ok (.iconst 1, 1) := by decide +kernel
theorem dX7_morning_61 : decode cX7_morning 61 = .ok (.goto 4, 3) := by decide +kernel
theorem dX7_morning_64 : decode cX7_morning 64 = .ok (.iconst 0, 1) := by decide +kernel
theorem dX7_morning_65 : decode cX7_morning 65 = .ok (.istore 4, 2) := by decide +kernel
theorem dX7_morning_67 : decode cX7_morning 67 = .ok (.aload_n 0, 1) := by decide +kernel
theorem dX7_morning_68 : decode cX7_morning 68 = .ok (.getfield 13, 3) := by decide +kernel
theorem dX7_morning_71 : decode cX7_morning 71 = .ok (.bipush 6, 2) := by decide +kernel
theorem dX7_morning_73 : decode cX7_morning 73 = .ok (.iload_n 2, 1) := by decide +kernel
theorem dX7_morning_74 : decode cX7_morning 74 = .ok (.iadd, 1) := by decide +kernel
theorem dX7_morning_75 : decode cX7_morning 75 = .ok (.iload 4, 2) := by decide +kernel
theorem dX7_morning_77 : decode cX7_morning 77 = .ok (.ifCond .eq 7, 3) := by decide +kernel
theorem dX7_morning_80 : decode cX7_morning 80 = .ok (.iconst 1, 1) := by decide +kernel
theorem dX7_morning_81 : decode cX7_morning 81 = .ok (.goto 4, 3) := by decide +kernel
theorem dX7_morning_84 : decode cX7_morning 84 = .ok (.iconst 2, 1) := by decide +kernel
theorem dX7_morning_85 : decode cX7_morning 85 = .ok (.iastore, 1) := by decide +kernel
theorem dX7_morning_86 : decode cX7_morning 86 = .ok (.aload_n 0, 1) := by decide +kernel
theorem dX7_morning_87 : decode cX7_morning 87 = .ok (.getfield 13, 3) := by decide +kernel
theorem dX7_morning_90 : decode cX7_morning 90 = .ok (.iconst 5, 1) := by decide +kernel
theorem dX7_morning_91 : decode cX7_morning 91 = .ok (.dup2, 1) := by decide +kernel
theorem dX7_morning_92 : decode cX7_morning 92 = .ok (.iaload, 1) := by decide +kernel
theorem dX7_morning_93 : decode cX7_morning 93 = .ok (.iload 4, 2) := by decide +kernel
theorem dX7_morning_95 : decode cX7_morning 95 = .ok (.ifCond .eq 9, 3) := by decide +kernel
theorem dX7_morning_98 : decode cX7_morning 98 = .ok (.iconst 1, 1) := by decide +kernel
theorem dX7_morning_99 : decode cX7_morning 99 = .ok (.iload_n 3, 1) := by decide +kernel
theorem dX7_morning_100 : decode cX7_morning 100 = .ok (.ishl, 1) := by decide +kernel
theorem dX7_morning_101 : decode cX7_morning 101 = .ok (.goto 4, 3) := by decide +kernel
theorem dX7_morning_104 : decode cX7_morning 104 = .ok (.iconst 0, 1) := by decide +kernel
theorem dX7_morning_105 : decode cX7_morning 105 = .ok (.ior, 1) := by decide +kernel
theorem dX7_morning_106 : decode cX7_morning 106 = .ok (.iastore, 1) := by decide +kernel
theorem dX7_morning_107 : decode cX7_morning 107 = .ok (.aload_n 0, 1) := by decide +kernel
theorem dX7_morning_108 : decode cX7_morning 108 = .ok (.getfield 13, 3) := by decide +kernel
theorem dX7_morning_111 : decode cX7_morning 111 = .ok (.bipush 12, 2) := by decide +kernel
theorem dX7_morning_113 : decode cX7_morning 113 = .ok (.iload_n 2, 1) := by decide +kernel
theorem dX7_morning_114 : decode cX7_morning 114 = .ok (.iadd, 1) := by decide +kernel
theorem dX7_morning_115 : decode cX7_morning 115 = .ok (.iconst (-1), 1) := by decide +kernel
theorem dX7_morning_116 : decode cX7_morning 116 = .ok (.iastore, 1) := by decide +kernel
theorem dX7_morning_117 : decode cX7_morning 117 = .ok (.iload_n 1, 1) := by decide +kernel
theorem dX7_morning_118 : decode cX7_morning 118 = .ok (.iload 4, 2) := by decide +kernel
theorem dX7_morning_120 : decode cX7_morning 120 = .ok (.ifCond .eq 9, 3) := by decide +kernel
theorem dX7_morning_123 : decode cX7_morning 123 = .ok (.iconst 1, 1) := by decide +kernel
theorem dX7_morning_124 : decode cX7_morning 124 = .ok (.iload_n 2, 1) := by decide +kernel
theorem dX7_morning_125 : decode cX7_morning 125 = .ok (.ishl, 1) := by decide +kernel
theorem dX7_morning_126 : decode cX7_morning 126 = .ok (.goto 4, 3) := by decide +kernel
theorem dX7_morning_129 : decode cX7_morning 129 = .ok (.iconst 0, 1) := by decide +kernel
theorem dX7_morning_130 : decode cX7_morning 130 = .ok (.ior, 1) := by decide +kernel
theorem dX7_morning_131 : decode cX7_morning 131 = .ok (.istore_n 1, 1) := by decide +kernel
theorem dX7_morning_132 : decode cX7_morning 132 = .ok (.iinc 2 1, 3) := by decide +kernel
theorem dX7_morning_135 : decode cX7_morning 135 = .ok (.goto (-115), 3) := by decide +kernel
theorem dX7_morning_138 : decode cX7_morning 138 = .ok (.iload_n 1, 1) := by decide +kernel
theorem dX7_morning_139 : decode cX7_morning 139 = .ok (.ireturn, 1) := by decide +kernel
theorem dX7_undo_0 : decode cX7_undo 0 = .ok (.aload_n 0, 1) := by decide +kernel
theorem dX7_undo_1 : decode cX7_undo 1 = .ok (.getfield 117, 3) := by decide +kernel
theorem dX7_undo_4 : decode cX7_undo 4 = .ok (.ifCond .ne 6, 3) := by decide +kernel
theorem dX7_undo_7 : decode cX7_undo 7 = .ok (.bipush (-4), 2) := by decide +kernel
theorem dX7_undo_9 : decode cX7_undo 9 = .ok (.ireturn, 1) := by decide +kernel
theorem dX7_undo_10 : decode cX7_undo 10 = .ok (.aload_n 0, 1) := by decide +kernel
theorem dX7_undo_11 : decode cX7_undo 11 = .ok (.dup, 1) := by decide +kernel
theorem dX7_undo_12 : decode cX7_undo 12 = .ok (.getfield 117, 3) := by decide +kernel
theorem dX7_undo_15 : decode cX7_undo 15 = .ok (.iconst 1, 1) := by decide +kernel
theorem dX7_undo_16 : decode cX7_undo 16 = .ok (.isub, 1) := by decide +kernel
theorem dX7_undo_17 : decode cX7_undo 17 = .ok (.putfield 117, 3) := by decide +kernel
theorem dX7_undo_20 : decode cX7_undo 20 = .ok (.iconst 0, 1) := by decide +kernel
theorem dX7_undo_21 : decode cX7_undo 21 = .ok (.istore_n 1, 1) := by decide +kernel
theorem dX7_undo_22 : decode cX7_undo 22 = .ok (.iload_n 1, 1) := by decide +kernel
theorem dX7_undo_23 : decode cX7_undo 23 = .ok (.bipush 18, 2) := by decide +kernel
theorem dX7_undo_25 : decode cX7_undo 25 = .ok (.if_icmp .ge 29, 3) := by decide +kernel
theorem dX7_undo_28 : decode cX7_undo 28 = .ok (.aload_n 0, 1) := by decide +kernel
theorem dX7_undo_29 : decode cX7_undo 29 = .ok (.getfield 13, 3) := by decide +kernel
theorem dX7_undo_32 : decode cX7_undo 32 = .ok (.iload_n 1, 1) := by decide +kernel
theorem dX7_undo_33 : decode cX7_undo 33 = .ok (.aload_n 0, 1) := by decide +kernel
theorem dX7_undo_34 : decode cX7_undo 34 = .ok (.getfield 22, 3) := by decide +kernel
theorem dX7_undo_37 : decode cX7_undo 37 = .ok (.bipush 18, 2) := by decide +kernel
theorem dX7_undo_39 : decode cX7_undo 39 = .ok (.aload_n 0, 1) := by decide +kernel
theorem dX7_undo_40 : decode cX7_undo 40 = .ok (.getfield 117, 3) := by decide +kernel
theorem dX7_undo_43 : decode cX7_undo 43 = .ok (.imul, 1) := by decide +kernel
theorem dX7_undo_44 : decode cX7_undo 44 = .ok (.iload_n 1, 1) := by decide +kernel
theorem dX7_undo_45 : decode cX7_undo 45 = .ok (.iadd, 1) := by decide +kernel
theorem dX7_undo_46 : decode cX7_undo 46 = .ok (.iaload, 1) := by decide +kernel
theorem dX7_undo_47 : decode cX7_undo 47 = .ok (.iastore, 1) := by decide +kernel
theorem dX7_undo_48 : decode cX7_undo 48 = .ok (.iinc 1 1, 3) := by decide +kernel
theorem dX7_undo_51 : decode cX7_undo 51 = .ok (.goto (-29), 3) := by decide +kernel
theorem dX7_undo_54 : decode cX7_undo 54 = .ok (.aload_n 0, 1) := by decide +kernel
theorem dX7_undo_55 : decode cX7_undo 55 = .ok (.getfield 117, 3) := by decide +kernel
theorem dX7_undo_58 : decode cX7_undo 58 = .ok (.ireturn, 1) := by decide +kernel
theorem dX7_keep_0 : decode cX7_keep 0 = .ok (.iload_n 1, 1) := by decide +kernel
theorem dX7_keep_1 : decode cX7_keep 1 = .ok (.invokestatic 169, 3) := by decide +kernel
theorem dX7_keep_4 : decode cX7_keep 4 = .ok (.ifCond .ne 6, 3) := by decide +kernel
theorem dX7_keep_7 : decode cX7_keep 7 = .ok (.bipush (-2), 2) := by decide +kernel
theorem dX7_keep_9 : decode cX7_keep 9 = .ok (.ireturn, 1) := by decide +kernel
theorem dX7_keep_10 : decode cX7_keep 10 = .ok (.iconst 0, 1) := by decide +kernel
theorem dX7_keep_11 : decode cX7_keep 11 = .ok (.istore_n 2, 1) := by decide +kernel
theorem dX7_keep_12 : decode cX7_keep 12 = .ok (.iload_n 2, 1) := by decide +kernel
theorem dX7_keep_13 : decode cX7_keep 13 = .ok (.bipush 18, 2) := by decide +kernel
theorem dX7_keep_15 : decode cX7_keep 15 = .ok (.if_icmp .ge 26, 3) := by decide +kernel
theorem dX7_keep_18 : decode cX7_keep 18 = .ok (.aload_n 0, 1) := by decide +kernel
theorem dX7_keep_19 : decode cX7_keep 19 = .ok (.getfield 29, 3) := by decide +kernel
theorem dX7_keep_22 : decode cX7_keep 22 = .ok (.bipush 18, 2) := by decide +kernel
theorem dX7_keep_24 : decode cX7_keep 24 = .ok (.iload_n 1, 1) := by decide +kernel
theorem dX7_keep_25 : decode cX7_keep 25 = .ok (.imul, 1) := by decide +kernel
theorem dX7_keep_26 : decode cX7_keep 26 = .ok (.iload_n 2, 1) := by decide +kernel
theorem dX7_keep_27 : decode cX7_keep 27 = .ok (.iadd, 1) := by decide +kernel
theorem dX7_keep_28 : decode cX7_keep 28 = .ok (.aload_n 0, 1) := by decide +kernel
theorem dX7_keep_29 : decode cX7_keep 29 = .ok (.getfield 13, 3) := by decide +kernel
theorem dX7_keep_32 : decode cX7_keep 32 = .ok (.iload_n 2, 1) := by decide +kernel
theorem dX7_keep_33 : decode cX7_keep 33 = .ok (.iaload, 1) := by decide +kernel
theorem dX7_keep_34 : decode cX7_keep 34 = .ok (.iastore, 1) := by decide +kernel
theorem dX7_keep_35 : decode cX7_keep 35 = .ok (.iinc 2 1, 3) := by decide +kernel
theorem dX7_keep_38 : decode cX7_keep 38 = .ok (.goto (-26), 3) := by decide +kernel
theorem dX7_keep_41 : decode cX7_keep 41 = .ok (.aload_n 0, 1) := by decide +kernel
theorem dX7_keep_42 : decode cX7_keep 42 = .ok (.getfield 25, 3) := by decide +kernel
theorem dX7_keep_45 : decode cX7_keep 45 = .ok (.iload_n 1, 1) := by decide +kernel
theorem dX7_keep_46 : decode cX7_keep 46 = .ok (.iconst 1, 1) := by decide +kernel
theorem dX7_keep_47 : decode cX7_keep 47 = .ok (.bastore, 1) := by decide +kernel
theorem dX7_keep_48 : decode cX7_keep 48 = .ok (.aload_n 0, 1) := by decide +kernel
theorem dX7_keep_49 : decode cX7_keep 49 = .ok (.getfield 13, 3) := by decide +kernel
theorem dX7_keep_52 : decode cX7_keep 52 = .ok (.iconst 4, 1) := by decide +kernel
theorem dX7_keep_53 : decode cX7_keep 53 = .ok (.iaload, 1) := by decide +kernel
theorem dX7_keep_54 : decode cX7_keep 54 = .ok (.ireturn, 1) := by decide +kernel
theorem dX7_back_0 : decode cX7_back 0 = .ok (.iload_n 1, 1) := by decide +kernel
theorem dX7_back_1 : decode cX7_back 1 = .ok (.invokestatic 169, 3) := by decide +kernel
theorem dX7_back_4 : decode cX7_back 4 = .ok (.ifCond .ne 6, 3) := by decide +kernel
theorem dX7_back_7 : decode cX7_back 7 = .ok (.bipush (-2), 2) := by decide +kernel
theorem dX7_back_9 : decode cX7_back 9 = .ok (.ireturn, 1) := by decide +kernel
theorem dX7_back_10 : decode cX7_back 10 = .ok (.aload_n 0, 1) := by decide +kernel
theorem dX7_back_11 : decode cX7_back 11 = .ok (.getfield 25, 3) := by decide +kernel
theorem dX7_back_14 : decode cX7_back 14 = .ok (.iload_n 1, 1) := by decide +kernel
theorem dX7_back_15 : decode cX7_back 15 = .ok (.baload, 1) := by decide +kernel
theorem dX7_back_16 : decode cX7_back 16 = .ok (.ifCond .ne 6, 3) := by decide +kernel
theorem dX7_back_19 : decode cX7_back 19 = .ok (.bipush (-4), 2) := by decide +kernel
theorem dX7_back_21 : decode cX7_back 21 = .ok (.ireturn, 1) := by decide +kernel
theorem dX7_back_22 : decode cX7_back 22 = .ok (.iconst 0, 1) := by decide +kernel
theorem dX7_back_23 : decode cX7_back 23 = .ok (.istore_n 2, 1) := by decide +kernel
theorem dX7_back_24 : decode cX7_back 24 = .ok (.iload_n 2, 1) := by decide +kernel
theorem dX7_back_25 : decode cX7_back 25 = .ok (.bipush 18, 2) := by decide +kernel
theorem dX7_back_27 : decode cX7_back 27 = .ok (.if_icmp .ge 26, 3) := by decide +kernel
theorem dX7_back_30 : decode cX7_back 30 = .ok (.aload_n 0, 1) := by decide +kernel
theorem dX7_back_31 : decode cX7_back 31 = .ok (.getfield 13, 3) := by decide +kernel
theorem dX7_back_34 : decode cX7_back 34 = .ok (.iload_n 2, 1) := by decide +kernel
theorem dX7_back_35 : decode cX7_back 35 = .ok (.aload_n 0, 1) := by decide +kernel
theorem dX7_back_36 : decode cX7_back 36 = .ok (.getfield 29, 3) := by decide +kernel
theorem dX7_back_39 : decode cX7_back 39 = .ok (.bipush 18, 2) := by decide +kernel
theorem dX7_back_41 : decode cX7_back 41 = .ok (.iload_n 1, 1) := by decide +kernel
theorem dX7_back_42 : decode cX7_back 42 = .ok (.imul, 1) := by decide +kernel
theorem dX7_back_43 : decode cX7_back 43 = .ok (.iload_n 2, 1) := by decide +kernel
theorem dX7_back_44 : decode cX7_back 44 = .ok (.iadd, 1) := by decide +kernel
theorem dX7_back_45 : decode cX7_back 45 = .ok (.iaload, 1) := by decide +kernel
theorem dX7_back_46 : decode cX7_back 46 = .ok (.iastore, 1) := by decide +kernel
theorem dX7_back_47 : decode cX7_back 47 = .ok (.iinc 2 1, 3) := by decide +kernel
theorem dX7_back_50 : decode cX7_back 50 = .ok (.goto (-26), 3) := by decide +kernel
theorem dX7_back_53 : decode cX7_back 53 = .ok (.aload_n 0, 1) := by decide +kernel
theorem dX7_back_54 : decode cX7_back 54 = .ok (.iconst 0, 1) := by decide +kernel
theorem dX7_back_55 : decode cX7_back 55 = .ok (.putfield 117, 3) := by decide +kernel
theorem dX7_back_58 : decode cX7_back 58 = .ok (.aload_n 0, 1) := by decide +kernel
theorem dX7_back_59 : decode cX7_back 59 = .ok (.getfield 13, 3) := by decide +kernel
theorem dX7_back_62 : decode cX7_back 62 = .ok (.iconst 4, 1) := by decide +kernel
theorem dX7_back_63 : decode cX7_back 63 = .ok (.iaload, 1) := by decide +kernel
theorem dX7_back_64 : decode cX7_back 64 = .ok (.ireturn, 1) := by decide +kernel
theorem dX7_soonest_0 : decode cX7_soonest 0 = .ok (.aload_n 0, 1) := by decide +kernel
theorem dX7_soonest_1 : decode cX7_soonest 1 = .ok (.getfield 7, 3) := by decide +kernel
theorem dX7_soonest_4 : decode cX7_soonest 4 = .ok (.bipush 27, 2) := by decide +kernel
theorem dX7_soonest_6 : decode cX7_soonest 6 = .ok (.iaload, 1) := by decide +kernel
theorem dX7_soonest_7 : decode cX7_soonest 7 = .ok (.aload_n 0, 1) := by decide +kernel
theorem dX7_soonest_8 : decode cX7_soonest 8 = .ok (.getfield 13, 3) := by decide +kernel
theorem dX7_soonest_11 : decode cX7_soonest 11 = .ok (.iconst 2, 1) := by decide +kernel
theorem dX7_soonest_12 : decode cX7_soonest 12 = .ok (.iaload, 1) := by decide +kernel
theorem dX7_soonest_13 : decode cX7_soonest 13 = .ok (.isub, 1) := by decide +kernel
theorem dX7_soonest_14 : decode cX7_soonest 14 = .ok (.istore_n 1, 1) := by decide +kernel
theorem dX7_soonest_15 : decode cX7_soonest 15 = .ok (.aload_n 0, 1) := by decide +kernel
theorem dX7_soonest_16 : decode cX7_soonest 16 = .ok (.getfield 13, 3) := by decide +kernel
theorem dX7_soonest_19 : decode cX7_soonest 19 = .ok (.iconst 3, 1) := by decide +kernel
theorem dX7_soonest_20 : decode cX7_soonest 20 = .ok (.iaload, 1) := by decide +kernel
theorem dX7_soonest_21 : decode cX7_soonest 21 = .ok (.iconst 1, 1) := by decide +kernel
theorem dX7_soonest_22 : decode cX7_soonest 22 = .ok (.if_icmp .ne 5, 3) := by decide +kernel
theorem dX7_soonest_25 : decode cX7_soonest 25 = .ok (.iconst (-1), 1) := by decide +kernel
theorem dX7_soonest_26 : decode cX7_soonest 26 = .ok (.ireturn, 1) := by decide +kernel
theorem dX7_soonest_27 : decode cX7_soonest 27 = .ok (.iload_n 1, 1) := by decide +kernel
theorem dX7_soonest_28 : decode cX7_soonest 28 = .ok (.ifCond .gt 28, 3) := by decide +kernel
theorem dX7_soonest_31 : decode cX7_soonest 31 = .ok (.aload_n 0, 1) := by decide +kernel
theorem dX7_soonest_32 : decode cX7_soonest 32 = .ok (.getfield 13, 3) := by decide +kernel
theorem dX7_soonest_35 : decode cX7_soonest 35 = .ok (.iconst 1, 1) := by decide +kernel
theorem dX7_soonest_36 : decode cX7_soonest 36 = .ok (.iaload, 1) := by decide +kernel
theorem dX7_soonest_37 : decode cX7_soonest 37 = .ok (.aload_n 0, 1) := by decide +kernel
theorem dX7_soonest_38 : decode cX7_soonest 38 = .ok (.getfield 13, 3) := by decide +kernel
theorem dX7_soonest_41 : decode cX7_soonest 41 = .ok (.iconst 0, 1) := by decide +kernel
theorem dX7_soonest_42 : decode cX7_soonest 42 = .ok (.iaload, 1) := by decide +kernel
theorem dX7_soonest_43 : decode cX7_soonest 43 = .ok (.iadd, 1) := by decide +kernel
theorem dX7_soonest_44 : decode cX7_soonest 44 = .ok (.aload_n 0, 1) := by decide +kernel
theorem dX7_soonest_45 : decode cX7_soonest 45 = .ok (.getfield 7, 3) := by decide +kernel
theorem dX7_soonest_48 : decode cX7_soonest 48 = .ok (.bipush 26, 2) := by decide +kernel
theorem dX7_soonest_50 : decode cX7_soonest 50 = .ok (.iaload, 1) := by decide +kernel
theorem dX7_soonest_51 : decode cX7_soonest 51 = .ok (.if_icmp .lt 5, 3) := by decide +kernel
theorem dX7_soonest_54 : decode cX7_soonest 54 = .ok (.iconst 0, 1) := by decide +kernel
theorem dX7_soonest_55 : decode cX7_soonest 55 = .ok (.ireturn, 1) := by decide +kernel
theorem dX7_soonest_56 : decode cX7_soonest 56 = .ok (.aload_n 0, 1) := by decide +kernel
theorem dX7_soonest_57 : decode cX7_soonest 57 = .ok (.getfield 13, 3) := by decide +kernel
theorem dX7_soonest_60 : decode cX7_soonest 60 = .ok (.iconst 0, 1) := by decide +kernel
theorem dX7_soonest_61 : decode cX7_soonest 61 = .ok (.iaload, 1) := by decide +kernel
theorem dX7_soonest_62 : decode cX7_soonest 62 = .ok (.aload_n 0, 1) := by decide +kernel
theorem dX7_soonest_63 : decode cX7_soonest 63 = .ok (.getfield 7, 3) := by decide +kernel
theorem dX7_soonest_66 : decode cX7_soonest 66 = .ok (.bipush 26, 2) := by decide +kernel
theorem dX7_soonest_68 : decode cX7_soonest 68 = .ok (.iaload, 1) := by decide +kernel
theorem dX7_soonest_69 : decode cX7_soonest 69 = .ok (.if_icmp .ge 7, 3) := by decide +kernel
theorem dX7_soonest_72 : decode cX7_soonest 72 = .ok (.iconst (-1), 1) := by decide +kernel
theorem dX7_soonest_73 : decode cX7_soonest 73 = .ok (.goto 13, 3) := by decide +kernel
theorem dX7_soonest_76 : decode cX7_soonest 76 = .ok (.iload_n 1, 1) := by decide +kernel
theorem dX7_soonest_77 : decode cX7_soonest 77 = .ok (.iconst 1, 1) := by decide +kernel
theorem dX7_soonest_78 : decode cX7_soonest 78 = .ok (.if_icmp .ge 7, 3) := by decide +kernel
theorem dX7_soonest_81 : decode cX7_soonest 81 = .ok (.iconst 1, 1) := by decide +kernel
theorem dX7_soonest_82 : decode cX7_soonest 82 = .ok (.goto 4, 3) := by decide +kernel
theorem dX7_soonest_85 : decode cX7_soonest 85 = .ok (.iload_n 1, 1) := by decide +kernel
theorem dX7_soonest_86 : decode cX7_soonest 86 = .ok (.ireturn, 1) := by decide +kernel
theorem dX7_soon_0 : decode cX7_soon 0 = .ok (.iload_n 1, 1) := by decide +kernel
theorem dX7_soon_1 : decode cX7_soon 1 = .ok (.invokestatic 169, 3) := by decide +kernel
theorem dX7_soon_4 : decode cX7_soon 4 = .ok (.ifCond .ne 6, 3) := by decide +kernel
theorem dX7_soon_7 : decode cX7_soon 7 = .ok (.bipush (-3), 2) := by decide +kernel
theorem dX7_soon_9 : decode cX7_soon 9 = .ok (.ireturn, 1) := by decide +kernel
theorem dX7_soon_10 : decode cX7_soon 10 = .ok (.aload_n 0, 1) := by decide +kernel
theorem dX7_soon_11 : decode cX7_soon 11 = .ok (.invokevirtual 172, 3) := by decide +kernel
theorem dX7_soon_14 : decode cX7_soon 14 = .ok (.istore_n 2, 1) := by decide +kernel
theorem dX7_soon_15 : decode cX7_soon 15 = .ok (.iload_n 2, 1) := by decide +kernel
theorem dX7_soon_16 : decode cX7_soon 16 = .ok (.aload_n 0, 1) := by decide +kernel
theorem dX7_soon_17 : decode cX7_soon 17 = .ok (.getfield 7, 3) := by decide +kernel
theorem dX7_soon_20 : decode cX7_soon 20 = .ok (.bipush 28, 2) := by decide +kernel
theorem dX7_soon_22 : decode cX7_soon 22 = .ok (.iaload, 1) := by decide +kernel
theorem dX7_soon_23 : decode cX7_soon 23 = .ok (.imul, 1) := by decide +kernel
theorem dX7_soon_24 : decode cX7_soon 24 = .ok (.istore_n 3, 1) := by decide +kernel
theorem dX7_soon_25 : decode cX7_soon 25 = .ok (.aload_n 0, 1) := by decide +kernel
theorem dX7_soon_26 : decode cX7_soon 26 = .ok (.iconst 0, 1) := by decide +kernel
theorem dX7_soon_27 : decode cX7_soon 27 = .ok (.invokevirtual 175, 3) := by decide +kernel
theorem dX7_soon_30 : decode cX7_soon 30 = .ok (.invokestatic 150, 3) := by decide +kernel
theorem dX7_soon_33 : decode cX7_soon 33 = .ok (.istore 4, 2) := by decide +kernel
theorem dX7_soon_35 : decode cX7_soon 35 = .ok (.iload_n 2, 1) := by decide +kernel
theorem dX7_soon_36 : decode cX7_soon 36 = .ok (.ifCond .lt 7, 3) := by decide +kernel
theorem dX7_soon_39 : decode cX7_soon 39 = .ok (.iload_n 1, 1) := by decide +kernel
theorem dX7_soon_40 : decode cX7_soon 40 = .ok (.ifCond .ne 7, 3) := by decide +kernel
theorem dX7_soon_43 : decode cX7_soon 43 = .ok (.iload_n 2, 1) := by decide +kernel
theorem dX7_soon_44 : decode cX7_soon 44 = .ok (.goto 15, 3) := by decide +kernel
theorem dX7_soon_47 : decode cX7_soon 47 = .ok (.iload_n 3, 1) := by decide +kernel
theorem dX7_soon_48 : decode cX7_soon 48 = .ok (.iload 4, 2) := by decide +kernel
theorem dX7_soon_50 : decode cX7_soon 50 = .ok (.if_icmp .ge 7, 3) := by decide +kernel
theorem dX7_soon_53 : decode cX7_soon 53 = .ok (.iload_n 3, 1) := by decide +kernel
theorem dX7_soon_54 : decode cX7_soon 54 = .ok (.goto 5, 3) := by decide +kernel
theorem dX7_soon_57 : decode cX7_soon 57 = .ok (.iload 4, 2) := by decide +kernel
theorem dX7_soon_59 : decode cX7_soon 59 = .ok (.ireturn, 1) := by decide +kernel
theorem dX7_findPlan_0 : decode cX7_findPlan 0 = .ok (.aload_n 0, 1) := by decide +kernel
theorem dX7_findPlan_1 : decode cX7_findPlan 1 = .ok (.getfield 7, 3) := by decide +kernel
theorem dX7_findPlan_4 : decode cX7_findPlan 4 = .ok (.iconst 0, 1) := by decide +kernel
theorem dX7_findPlan_5 : decode cX7_findPlan 5 = .ok (.iaload, 1) := by decide +kernel
theorem dX7_findPlan_6 : decode cX7_findPlan 6 = .ok (.istore_n 2, 1) := by decide +kernel
theorem dX7_findPlan_7 : decode cX7_findPlan 7 = .ok (.iload_n 2, 1) := by decide +kernel
theorem dX7_findPlan_8 : decode cX7_findPlan 8 = .ok (.ifCond .lt 175, 3) := by decide +kernel
theorem dX7_findPlan_11 : decode cX7_findPlan 11 = .ok (.iconst 0, 1) := by decide +kernel
theorem dX7_findPlan_12 : decode cX7_findPlan 12 = .ok (.istore_n 3, 1) := by decide +kernel
theorem dX7_findPlan_13 : decode cX7_findPlan 13 = .ok (.iload_n 3, 1) := by decide +kernel
theorem dX7_findPlan_14 : decode cX7_findPlan 14 = .ok (.bipush 64, 2) := by decide +kernel
theorem dX7_findPlan_16 : decode cX7_findPlan 16 = .ok (.if_icmp .ge 161, 3) := by decide +kernel
theorem dX7_findPlan_19 : decode cX7_findPlan 19 = .ok (.iconst 0, 1) := by decide +kernel
theorem dX7_findPlan_20 : decode cX7_findPlan 20 = .ok (.istore 4, 2) := by decide +kernel
theorem dX7_findPlan_22 : decode cX7_findPlan 22 = .ok (.iload_n 2, 1) := by decide +kernel
theorem dX7_findPlan_23 : decode cX7_findPlan 23 = .ok (.aload_n 0, 1) := by decide +kernel
theorem dX7_findPlan_24 : decode cX7_findPlan 24 = .ok (.getfield 7, 3) := by decide +kernel
theorem dX7_findPlan_27 : decode cX7_findPlan 27 = .ok (.iconst 0, 1) := by decide +kernel
theorem dX7_findPlan_28 : decode cX7_findPlan 28 = .ok (.iaload, 1) := by decide +kernel
theorem dX7_findPlan_29 : decode cX7_findPlan 29 = .ok (.if_icmp .ge 129, 3) := by decide +kernel
theorem dX7_findPlan_32 : decode cX7_findPlan 32 = .ok (.aload_n 0, 1) := by decide +kernel
theorem dX7_findPlan_33 : decode cX7_findPlan 33 = .ok (.getfield 32, 3) := by decide +kernel
theorem dX7_findPlan_36 : decode cX7_findPlan 36 = .ok (.bipush 64, 2) := by decide +kernel
theorem dX7_findPlan_38 : decode cX7_findPlan 38 = .ok (.iload_n 2, 1) := by decide +kernel
theorem dX7_findPlan_39 : decode cX7_findPlan 39 = .ok (.iconst 1, 1) := by decide +kernel
theorem dX7_findPlan_40 : decode cX7_findPlan 40 = .ok (.iadd, 1) := by decide +kernel
theorem dX7_findPlan_41 : decode cX7_findPlan 41 = .ok (.imul, 1) := by decide +kernel
theorem dX7_findPlan_42 : decode cX7_findPlan 42 = .ok (.iload_n 3, 1) := by decide +kernel
theorem dX7_findPlan_43 : decode cX7_findPlan 43 = .ok (.iadd, 1) := by decide +kernel
theorem dX7_findPlan_44 : decode cX7_findPlan 44 = .ok (.iaload, 1) := by decide +kernel
theorem dX7_findPlan_45 : decode cX7_findPlan 45 = .ok (.istore 4, 2) := by decide +kernel
theorem dX7_findPlan_47 : decode cX7_findPlan 47 = .ok (.iconst 0, 1) := by decide +kernel
theorem dX7_findPlan_48 : decode cX7_findPlan 48 = .ok (.istore 5, 2) := by decide +kernel
theorem dX7_findPlan_50 : decode cX7_findPlan 50 = .ok (.iload 5, 2) := by decide +kernel
theorem dX7_findPlan_52 : decode cX7_findPlan 52 = .ok (.aload_n 0, 1) := by decide +kernel
theorem dX7_findPlan_53 : decode cX7_findPlan 53 = .ok (.getfield 7, 3) := by decide +kernel
theorem dX7_findPlan_56 : decode cX7_findPlan 56 = .ok (.bipush 7, 2) := by decide +kernel
theorem dX7_findPlan_58 : decode cX7_findPlan 58 = .ok (.iaload, 1) := by decide +kernel
theorem dX7_findPlan_59 : decode cX7_findPlan 59 = .ok (.if_icmp .ge 99, 3) := by decide +kernel
theorem dX7_findPlan_62 : decode cX7_findPlan 62 = .ok (.aload_n 0, 1) := by decide +kernel
theorem dX7_findPlan_63 : decode cX7_findPlan 63 = .ok (.iload_n 2, 1) := by decide +kernel
theorem dX7_findPlan_64 : decode cX7_findPlan 64 = .ok (.invokevirtual 147, 3) := by decide +kernel
theorem dX7_findPlan_67 : decode cX7_findPlan 67 = .ok (.ifCond .eq 91, 3) := by decide +kernel
theorem dX7_findPlan_70 : decode cX7_findPlan 70 = .ok (.iload_n 3, 1) := by decide +kernel
theorem dX7_findPlan_71 : decode cX7_findPlan 71 = .ok (.iload_n 1, 1) := by decide +kernel
theorem dX7_findPlan_72 : decode cX7_findPlan 72 = .ok (.ior, 1) := by decide +kernel
theorem dX7_findPlan_73 : decode cX7_findPlan 73 = .ok (.iload 5, 2) := by decide +kernel
theorem dX7_findPlan_75 : decode cX7_findPlan 75 = .ok (.invokestatic 160, 3) := by decide +kernel
theorem dX7_findPlan_78 : decode cX7_findPlan 78 = .ok (.ifCond .ne 24, 3) := by decide +kernel
theorem dX7_findPlan_81 : decode cX7_findPlan 81 = .ok (.aload_n 0, 1) := by decide +kernel
theorem dX7_findPlan_82 : decode cX7_findPlan 82 = .ok (.iload 5, 2) := by decide +kernel
theorem dX7_findPlan_84 : decode cX7_findPlan 84 = .ok (.invokevirtual 139, 3) := by decide +kernel
theorem dX7_findPlan_87 : decode cX7_findPlan 87 = .ok (.aload_n 0, 1) := by decide +kernel
theorem dX7_findPlan_88 : decode cX7_findPlan 88 = .ok (.getfield 7, 3) := by decide +kernel
theorem dX7_findPlan_91 : decode cX7_findPlan 91 = .ok (.iconst 1, 1) := by decide +kernel
theorem dX7_findPlan_92 : decode cX7_findPlan 92 = .ok (.iload_n 2, 1) := by decide +kernel
theorem dX7_findPlan_93 : decode cX7_findPlan 93 = .ok (.iadd, 1) := by decide +kernel
theorem dX7_findPlan_94 : decode cX7_findPlan 94 = .ok (.iaload, 1) := by decide +kernel
theorem dX7_findPlan_95 : decode cX7_findPlan 95 = .ok (.if_icmp .lt 7, 3) := by decide +kernel
theorem dX7_findPlan_98 : decode cX7_findPlan 98 = .ok (.iconst 1, 1) := by decide +kernel
theorem dX7_findPlan_99 : decode cX7_findPlan 99 = .ok (.goto 4, 3) := by decide +kernel
theorem dX7_findPlan_102 : decode cX7_findPlan 102 = .ok (.iconst 0, 1) := by decide +kernel
theorem dX7_findPlan_103 : decode cX7_findPlan 103 = .ok (.istore 6, 2) := by decide +kernel
theorem dX7_findPlan_105 : decode cX7_findPlan 105 = .ok (.iload 6, 2) := by decide +kernel
theorem dX7_findPlan_107 : decode cX7_findPlan 107 = .ok (.ifCond .eq 26, 3) := by decide +kernel
theorem dX7_findPlan_110 : decode cX7_findPlan 110 = .ok (.aload_n 0, 1) := by decide +kernel
theorem dX7_findPlan_111 : decode cX7_findPlan 111 = .ok (.getfield 32, 3) := by decide +kernel
theorem dX7_findPlan_114 : decode cX7_findPlan 114 = .ok (.bipush 64, 2) := by decide +kernel
theorem dX7_findPlan_116 : decode cX7_findPlan 116 = .ok (.iload_n 2, 1) := by decide +kernel
theorem dX7_findPlan_117 : decode cX7_findPlan 117 = .ok (.iconst 1, 1) := by decide +kernel
theorem dX7_findPlan_118 : decode cX7_findPlan 118 = .ok (.iadd, 1) := by decide +kernel
theorem dX7_findPlan_119 : decode cX7_findPlan 119 = .ok (.imul, 1) := by decide +kernel
theorem dX7_findPlan_120 : decode cX7_findPlan 120 = .ok (.iload_n 3, 1) := by decide +kernel
theorem dX7_findPlan_121 : decode cX7_findPlan 121 = .ok (.iconst 1, 1) := by decide +kernel
theorem dX7_findPlan_122 : decode cX7_findPlan 122 = .ok (.iload 5, 2) := by decide +kernel
theorem dX7_findPlan_124 : decode cX7_findPlan 124 = .ok (.ishl, 1) := by decide +kernel
theorem dX7_findPlan_125 : decode cX7_findPlan 125 = .ok (.ior, 1) := by decide +kernel
theorem dX7_findPlan_126 : decode cX7_findPlan 126 = .ok (.iadd, 1) := by decide +kernel
theorem dX7_findPlan_127 : decode cX7_findPlan 127 = .ok (.iaload, 1) := by decide +kernel
theorem dX7_findPlan_128 : decode cX7_findPlan 128 = .ok (.iconst 1, 1) := by decide +kernel
theorem dX7_findPlan_129 : decode cX7_findPlan 129 = .ok (.iadd, 1) := by decide +kernel
theorem dX7_findPlan_130 : decode cX7_findPlan 130 = .ok (.goto 4, 3) := by decide +kernel
theorem dX7_findPlan_133 : decode cX7_findPlan 133 = .ok (.iconst 0, 1) := by decide +kernel
theorem dX7_findPlan_134 : decode cX7_findPlan 134 = .ok (.istore 7, 2) := by decide +kernel
theorem dX7_findPlan_136 : decode cX7_findPlan 136 = .ok (.iload 7, 2) := by decide +kernel
theorem dX7_findPlan_138 : decode cX7_findPlan 138 = .ok (.iload 4, 2) := by decide +kernel
theorem dX7_findPlan_140 : decode cX7_findPlan 140 = .ok (.if_icmp .le 8, 3) := by decide +kernel
theorem dX7_findPlan_143 : decode cX7_findPlan 143 = .ok (.iload 7, 2) := by decide +kernel
theorem dX7_findPlan_145 : decode cX7_findPlan 145 = .ok (.goto 5, 3) := by decide +kernel
theorem dX7_findPlan_148 : decode cX7_findPlan 148 = .ok (.iload 4, 2) := by decide +kernel
theorem dX7_findPlan_150 : decode cX7_findPlan 150 = .ok (.istore 4, 2) := by decide +kernel
theorem dX7_findPlan_152 : decode cX7_findPlan 152 = .ok (.iinc 5 1, 3) := by decide +kernel
theorem dX7_findPlan_155 : decode cX7_findPlan 155 = .ok (.goto (-105), 3) := by decide +kernel
theorem dX7_findPlan_158 : decode cX7_findPlan 158 = .ok (.aload_n 0, 1) := by decide +kernel
theorem dX7_findPlan_159 : decode cX7_findPlan 159 = .ok (.getfield 32, 3) := by decide +kernel
theorem dX7_findPlan_162 : decode cX7_findPlan 162 = .ok (.bipush 64, 2) := by decide +kernel
theorem dX7_findPlan_164 : decode cX7_findPlan 164 = .ok (.iload_n 2, 1) := by decide +kernel
theorem dX7_findPlan_165 : decode cX7_findPlan 165 = .ok (.imul, 1) := by decide +kernel
theorem dX7_findPlan_166 : decode cX7_findPlan 166 = .ok (.iload_n 3, 1) := by decide +kernel
theorem dX7_findPlan_167 : decode cX7_findPlan 167 = .ok (.iadd, 1) := by decide +kernel
theorem dX7_findPlan_168 : decode cX7_findPlan 168 = .ok (.iload 4, 2) := by decide +kernel
theorem dX7_findPlan_170 : decode cX7_findPlan 170 = .ok (.iastore, 1) := by decide +kernel
theorem dX7_findPlan_171 : decode cX7_findPlan 171 = .ok (.iinc 3 1, 3) := by decide +kernel
theorem dX7_findPlan_174 : decode cX7_findPlan 174 = .ok (.goto (-161), 3) := by decide +kernel
theorem dX7_findPlan_177 : decode cX7_findPlan 177 = .ok (.iinc 2 (-1), 3) := by decide +kernel
theorem dX7_findPlan_180 : decode cX7_findPlan 180 = .ok (.goto (-173), 3) := by decide +kernel
theorem dX7_findPlan_183 : decode cX7_findPlan 183 = .ok (.return_, 1) := by decide +kernel
theorem dX7_plan_0 : decode cX7_plan 0 = .ok (.iload_n 1, 1) := by decide +kernel
theorem dX7_plan_1 : decode cX7_plan 1 = .ok (.iconst (-1), 1) := by decide +kernel
theorem dX7_plan_2 : decode cX7_plan 2 = .ok (.if_icmp .eq 14, 3) := by decide +kernel
theorem dX7_plan_5 : decode cX7_plan 5 = .ok (.aload_n 0, 1) := by decide +kernel
theorem dX7_plan_6 : decode cX7_plan 6 = .ok (.iload_n 1, 1) := by decide +kernel
theorem dX7_plan_7 : decode cX7_plan 7 = .ok (.invokevirtual 123, 3) := by decide +kernel
theorem dX7_plan_10 : decode cX7_plan 10 = .ok (.ifCond .ne 6, 3) := by decide +kernel
theorem dX7_plan_13 : decode cX7_plan 13 = .ok (.bipush (-2), 2) := by decide +kernel
theorem dX7_plan_15 : decode cX7_plan 15 = .ok (.ireturn, 1) := by decide +kernel
theorem dX7_plan_16 : decode cX7_plan 16 = .ok (.aload_n 0, 1) := by decide +kernel
theorem dX7_plan_17 : decode cX7_plan 17 = .ok (.aload_n 0, 1) := by decide +kernel
theorem dX7_plan_18 : decode cX7_plan 18 = .ok (.getfield 13, 3) := by decide +kernel
theorem dX7_plan_21 : decode cX7_plan 21 = .ok (.iconst 5, 1) := by decide +kernel
theorem dX7_plan_22 : decode cX7_plan 22 = .ok (.iaload, 1) := by decide +kernel
theorem dX7_plan_23 : decode cX7_plan 23 = .ok (.invokevirtual 178, 3) := by decide +kernel
theorem dX7_plan_26 : decode cX7_plan 26 = .ok (.iload_n 1, 1) := by decide +kernel
theorem dX7_plan_27 : decode cX7_plan 27 = .ok (.ifCond .ge 10, 3) := by decide +kernel
theorem dX7_plan_30 : decode cX7_plan 30 = .ok (.aload_n 0, 1) := by decide +kernel
theorem dX7_plan_31 : decode cX7_plan 31 = .ok (.getfield 32, 3) := by decide +kernel
theorem dX7_plan_34 : decode cX7_plan 34 = .ok (.iconst 0, 1) := by decide +kernel
theorem dX7_plan_35 : decode cX7_plan 35 = .ok (.iaload, 1) := by decide +kernel
theorem dX7_plan_36 : decode cX7_plan 36 = .ok (.ireturn, 1) := by decide +kernel
theorem dX7_plan_37 : decode cX7_plan 37 = .ok (.iconst 0, 1) := by decide +kernel
theorem dX7_plan_38 : decode cX7_plan 38 = .ok (.istore_n 2, 1) := by decide +kernel
theorem dX7_plan_39 : decode cX7_plan 39 = .ok (.iconst (-1), 1) := by decide +kernel
theorem dX7_plan_40 : decode cX7_plan 40 = .ok (.istore_n 3, 1) := by decide +kernel
theorem dX7_plan_41 : decode cX7_plan 41 = .ok (.iconst 0, 1) := by decide +kernel
theorem dX7_plan_42 : decode cX7_plan 42 = .ok (.istore 4, 2) := by decide +kernel
theorem dX7_plan_44 : decode cX7_plan 44 = .ok (.iload 4, 2) := by decide +kernel
theorem dX7_plan_46 : decode cX7_plan 46 = .ok (.iload_n 1, 1) := by decide +kernel
theorem dX7_plan_47 : decode cX7_plan 47 = .ok (.if_icmp .gt 145, 3) := by decide +kernel
theorem dX7_plan_50 : decode cX7_plan 50 = .ok (.iconst (-1), 1) := by decide +kernel
theorem dX7_plan_51 : decode cX7_plan 51 = .ok (.istore_n 3, 1) := by decide +kernel
theorem dX7_plan_52 : decode cX7_plan 52 = .ok (.aload_n 0, 1) := by decide +kernel
theorem dX7_plan_53 : decode cX7_plan 53 = .ok (.getfield 7, 3) := by decide +kernel
theorem dX7_plan_56 : decode cX7_plan 56 = .ok (.bipush 7, 2) := by decide +kernel
theorem dX7_plan_58 : decode cX7_plan 58 = .ok (.iaload, 1) := by decide +kernel
theorem dX7_plan_59 : decode cX7_plan 59 = .ok (.iconst 1, 1) := by decide +kernel
theorem dX7_plan_60 : decode cX7_plan 60 = .ok (.isub, 1) := by decide +kernel
theorem dX7_plan_61 : decode cX7_plan 61 = .ok (.istore 5, 2) := by decide +kernel
theorem dX7_plan_63 : decode cX7_plan 63 = .ok (.iload 5, 2) := by decide +kernel
theorem dX7_plan_65 : decode cX7_plan 65 = .ok (.ifCond .lt 107, 3) := by decide +kernel
theorem dX7_plan_68 : decode cX7_plan 68 = .ok (.aload_n 0, 1) := by decide +kernel
theorem dX7_plan_69 : decode cX7_plan 69 = .ok (.iload 4, 2) := by decide +kernel
theorem dX7_plan_71 : decode cX7_plan 71 = .ok (.invokevirtual 147, 3) := by decide +kernel
theorem dX7_plan_74 : decode cX7_plan 74 = .ok (.ifCond .eq 98, 3) := by decide +kernel
theorem dX7_plan_77 : decode cX7_plan 77 = .ok (.iload_n 2, 1) := by decide +kernel
theorem dX7_plan_78 : decode cX7_plan 78 = .ok (.aload_n 0, 1) := by decide +kernel
theorem dX7_plan_79 : decode cX7_plan 79 = .ok (.getfield 13, 3) := by decide +kernel
theorem dX7_plan_82 : decode cX7_plan 82 = .ok (.iconst 5, 1) := by decide +kernel
theorem dX7_plan_83 : decode cX7_plan 83 = .ok (.iaload, 1) := by decide +kernel
theorem dX7_plan_84 : decode cX7_plan 84 = .ok (.ior, 1) := by decide +kernel
theorem dX7_plan_85 : decode cX7_plan 85 = .ok (.iload 5, 2) := by decide +kernel
theorem dX7_plan_87 : decode cX7_plan 87 = .ok (.invokestatic 160, 3) := by decide +kernel
theorem dX7_plan_90 : decode cX7_plan 90 = .ok (.ifCond .ne 25, 3) := by decide +kernel
theorem dX7_plan_93 : decode cX7_plan 93 = .ok (.aload_n 0, 1) := by decide +kernel
theorem dX7_plan_94 : decode cX7_plan 94 = .ok (.iload 5, 2) := by decide +kernel
theorem dX7_plan_96 : decode cX7_plan 96 = .ok (.invokevirtual 139, 3) := by decide +kernel
theorem dX7_plan_99 : decode cX7_plan 99 = .ok (.aload_n 0, 1) := by decide +kernel
theorem dX7_plan_100 : decode cX7_plan 100 = .ok (.getfield 7, 3) := by decide +kernel
theorem dX7_plan_103 : decode cX7_plan 103 = .ok (.iconst 1, 1) := by decide +kernel
theorem dX7_plan_104 : decode cX7_plan 104 = .ok (.iload 4, 2) := by decide +kernel
theorem dX7_plan_106 : decode cX7_plan 106 = .ok (.iadd, 1) := by decide +kernel
theorem dX7_plan_107 : decode cX7_plan 107 = .ok (.iaload, 1) := by decide +kernel
theorem dX7_plan_108 : decode cX7_plan 108 = .ok (.if_icmp .lt 7, 3) := by decide +kernel
theorem dX7_plan_111 : decode cX7_plan 111 = .ok (.iconst 1, 1) := by decide +kernel
theorem dX7_plan_112 : decode cX7_plan 112 = .ok (.goto 4, 3) := by decide +kernel
theorem dX7_plan_115 : decode cX7_plan 115 = .ok (.iconst 0, 1) := by decide +kernel
theorem dX7_plan_116 : decode cX7_plan 116 = .ok (.istore 6, 2) := by decide +kernel
theorem dX7_plan_118 : decode cX7_plan 118 = .ok (.iload 6, 2) := by decide +kernel
theorem dX7_plan_120 : decode cX7_plan 120 = .ok (.ifCond .eq 44, 3) := by decide +kernel
theorem dX7_plan_123 : decode cX7_plan 123 = .ok (.aload_n 0, 1) := by decide +kernel
theorem dX7_plan_124 : decode cX7_plan 124 = .ok (.getfield 32, 3) := by decide +kernel
theorem dX7_plan_127 : decode cX7_plan 127 = .ok (.bipush 64, 2) := by decide +kernel
theorem dX7_plan_129 : decode cX7_plan 129 = .ok (.iload 4, 2) := by decide +kernel
theorem dX7_plan_131 : decode cX7_plan 131 = .ok (.iconst 1, 1) := by decide +kernel
theorem dX7_plan_132 : decode cX7_plan 132 = .ok (.iadd, 1) := by decide +kernel
theorem dX7_plan_133 : decode cX7_plan 133 = .ok (.imul, 1) := by decide +kernel
theorem dX7_plan_134 : decode cX7_plan 134 = .ok (.iload_n 2, 1) := by decide +kernel
theorem dX7_plan_135 : decode cX7_plan 135 = .ok (.iconst 1, 1) := by decide +kernel
theorem dX7_plan_136 : decode cX7_plan 136 = .ok (.iload 5, 2) := by decide +kernel
theorem dX7_plan_138 : decode cX7_plan 138 = .ok (.ishl, 1) := by decide +kernel
theorem dX7_plan_139 : decode cX7_plan 139 = .ok (.ior, 1) := by decide +kernel
theorem dX7_plan_140 : decode cX7_plan 140 = .ok (.iadd, 1) := by decide +kernel
theorem dX7_plan_141 : decode cX7_plan 141 = .ok (.iaload, 1) := by decide +kernel
theorem dX7_plan_142 : decode cX7_plan 142 = .ok (.iconst 1, 1) := by decide +kernel
theorem dX7_plan_143 : decode cX7_plan 143 = .ok (.iadd, 1) := by decide +kernel
theorem dX7_plan_144 : decode cX7_plan 144 = .ok (.aload_n 0, 1) := by decide +kernel
theorem dX7_plan_145 : decode cX7_plan 145 = .ok (.getfield 32, 3) := by decide +kernel
theorem dX7_plan_148 : decode cX7_plan 148 = .ok (.bipush 64, 2) := by decide +kernel
theorem dX7_plan_150 : decode cX7_plan 150 = .ok (.iload 4, 2) := by decide +kernel
theorem dX7_plan_152 : decode cX7_plan 152 = .ok (.imul, 1) := by decide +kernel
theorem dX7_plan_153 : decode cX7_plan 153 = .ok (.iload_n 2, 1) := by decide +kernel
theorem dX7_plan_154 : decode cX7_plan 154 = .ok (.iadd, 1) := by decide +kernel
theorem dX7_plan_155 : decode cX7_plan 155 = .ok (.iaload, 1) := by decide +kernel
theorem dX7_plan_156 : decode cX7_plan 156 = .ok (.if_icmp .ne 8, 3) := by decide +kernel
theorem dX7_plan_159 : decode cX7_plan 159 = .ok (.iload 5, 2) := by decide +kernel
theorem dX7_plan_161 : decode cX7_plan 161 = .ok (.goto 4, 3) := by decide +kernel
theorem dX7_plan_164 : decode cX7_plan 164 = .ok (.iload_n 3, 1) := by decide +kernel
theorem dX7_plan_165 : decode cX7_plan 165 = .ok (.istore_n 3, 1) := by decide +kernel
theorem dX7_plan_166 : decode cX7_plan 166 = .ok (.iinc 5 (-1), 3) := by decide +kernel
theorem dX7_plan_169 : decode cX7_plan 169 = .ok (.goto (-106), 3) := by decide +kernel
theorem dX7_plan_172 : decode cX7_plan 172 = .ok (.iload_n 2, 1) := by decide +kernel
theorem dX7_plan_173 : decode cX7_plan 173 = .ok (.iload_n 3, 1) := by decide +kernel
theorem dX7_plan_174 : decode cX7_plan 174 = .ok (.ifCond .ge 7, 3) := by decide +kernel
theorem dX7_plan_177 : decode cX7_plan 177 = .ok (.iconst 0, 1) := by decide +kernel
theorem dX7_plan_178 : decode cX7_plan 178 = .ok (.goto 6, 3) := by decide +kernel
theorem dX7_plan_181 : decode cX7_plan 181 = .ok (.iconst 1, 1) := by decide +kernel
theorem dX7_plan_182 : decode cX7_plan 182 = .ok (.iload_n 3, 1) := by decide +kernel
theorem dX7_plan_183 : decode cX7_plan 183 = .ok (.ishl, 1) := by decide +kernel
theorem dX7_plan_184 : decode cX7_plan 184 = .ok (.ior, 1) := by decide +kernel
theorem dX7_plan_185 : decode cX7_plan 185 = .ok (.istore_n 2, 1) := by decide +kernel
theorem dX7_plan_186 : decode cX7_plan 186 = .ok (.iinc 4 1, 3) := by decide +kernel
theorem dX7_plan_189 : decode cX7_plan 189 = .ok (.goto (-145), 3) := by decide +kernel
theorem dX7_plan_192 : decode cX7_plan 192 = .ok (.iload_n 3, 1) := by decide +kernel
theorem dX7_plan_193 : decode cX7_plan 193 = .ok (.ireturn, 1) := by decide +kernel
theorem dX7_feel_0 : decode cX7_feel 0 = .ok (.iload_n 1, 1) := by decide +kernel
theorem dX7_feel_1 : decode cX7_feel 1 = .ok (.i2l, 1) := by decide +kernel
theorem dX7_feel_2 : decode cX7_feel 2 = .ok (.lconst 0, 1) := by decide +kernel
theorem dX7_feel_3 : decode cX7_feel 3 = .ok (.ldc2_w 181, 3) := by decide +kernel
theorem dX7_feel_6 : decode cX7_feel 6 = .ok (.invokestatic 45, 3) := by decide +kernel
theorem dX7_feel_9 : decode cX7_feel 9 = .ok (.ifCond .eq 10, 3) := by decide +kernel
theorem dX7_feel_12 : decode cX7_feel 12 = .ok (.iload_n 2, 1) := by decide +kernel
theorem dX7_feel_13 : decode cX7_feel 13 = .ok (.invokestatic 169, 3) := by decide +kernel
theorem dX7_feel_16 : decode cX7_feel 16 = .ok (.ifCond .ne 6, 3) := by decide +kernel
theorem dX7_feel_19 : decode cX7_feel 19 = .ok (.bipush (-3), 2) := by decide +kernel
theorem dX7_feel_21 : decode cX7_feel 21 = .ok (.ireturn, 1) := by decide +kernel
theorem dX7_feel_22 : decode cX7_feel 22 = .ok (.iconst 1, 1) := by decide +kernel
theorem dX7_feel_23 : decode cX7_feel 23 = .ok (.aload_n 0, 1) := by decide +kernel
theorem dX7_feel_24 : decode cX7_feel 24 = .ok (.getfield 7, 3) := by decide +kernel
theorem dX7_feel_27 : decode cX7_feel 27 = .ok (.bipush 7, 2) := by decide +kernel
theorem dX7_feel_29 : decode cX7_feel 29 = .ok (.iaload, 1) := by decide +kernel
theorem dX7_feel_30 : decode cX7_feel 30 = .ok (.ishl, 1) := by decide +kernel
theorem dX7_feel_31 : decode cX7_feel 31 = .ok (.iconst 1, 1) := by decide +kernel
theorem dX7_feel_32 : decode cX7_feel 32 = .ok (.isub, 1) := by decide +kernel
theorem dX7_feel_33 : decode cX7_feel 33 = .ok (.aload_n 0, 1) := by decide +kernel
theorem dX7_feel_34 : decode cX7_feel 34 = .ok (.getfield 13, 3) := by decide +kernel
theorem dX7_feel_37 : decode cX7_feel 37 = .ok (.iconst 5, 1) := by decide +kernel
theorem dX7_feel_38 : decode cX7_feel 38 = .ok (.iaload, 1) := by decide +kernel
theorem dX7_feel_39 : decode cX7_feel 39 = .ok (.iconst (-1), 1) := by decide +kernel
theorem dX7_feel_40 : decode cX7_feel 40 = .ok (.ixor, 1) := by decide +kernel
theorem dX7_feel_41 : decode cX7_feel 41 = .ok (.iand, 1) := by decide +kernel
theorem dX7_feel_42 : decode cX7_feel 42 = .ok (.istore_n 3, 1) := by decide +kernel
theorem dX7_feel_43 : decode cX7_feel 43 = .ok (.iload_n 3, 1) := by decide +kernel
theorem dX7_feel_44 : decode cX7_feel 44 = .ok (.invokestatic 150, 3) := by decide +kernel
theorem dX7_feel_47 : decode cX7_feel 47 = .ok (.iload_n 1, 1) := by decide +kernel
theorem dX7_feel_48 : decode cX7_feel 48 = .ok (.if_icmp .ge 10, 3) := by decide +kernel
theorem dX7_feel_51 : decode cX7_feel 51 = .ok (.iload_n 3, 1) := by decide +kernel
theorem dX7_feel_52 : decode cX7_feel 52 = .ok (.invokestatic 150, 3) := by decide +kernel
theorem dX7_feel_55 : decode cX7_feel 55 = .ok (.goto 4, 3) := by decide +kernel
theorem dX7_feel_58 : decode cX7_feel 58 = .ok (.iload_n 1, 1) := by decide +kernel
theorem dX7_feel_59 : decode cX7_feel 59 = .ok (.istore 4, 2) := by decide +kernel
theorem dX7_feel_61 : decode cX7_feel 61 = .ok (.iconst 0, 1) := by decide +kernel
theorem dX7_feel_62 : decode cX7_feel 62 = .ok (.istore 5, 2) := by decide +kernel
theorem dX7_feel_64 : decode cX7_feel 64 = .ok (.bipush 7, 2) := by decide +kernel
theorem dX7_feel_66 : decode cX7_feel 66 = .ok (.istore 6, 2) := by decide +kernel
theorem dX7_feel_68 : decode cX7_feel 68 = .ok (.iconst 0, 1) := by decide +kernel
theorem dX7_feel_69 : decode cX7_feel 69 = .ok (.istore 7, 2) := by decide +kernel
theorem dX7_feel_71 : decode cX7_feel 71 = .ok (.iload 7, 2) := by decide +kernel
theorem dX7_feel_73 : decode cX7_feel 73 = .ok (.bipush 64, 2) := by decide +kernel
theorem dX7_feel_75 : decode cX7_feel 75 = .ok (.if_icmp .ge 85, 3) := by decide +kernel
theorem dX7_feel_78 : decode cX7_feel 78 = .ok (.iload 7, 2) := by decide +kernel
theorem dX7_feel_80 : decode cX7_feel 80 = .ok (.iload_n 3, 1) := by decide +kernel
theorem dX7_feel_81 : decode cX7_feel 81 = .ok (.iconst (-1), 1) := by decide +kernel
theorem dX7_feel_82 : decode cX7_feel 82 = .ok (.ixor, 1) := by decide +kernel
theorem dX7_feel_83 : decode cX7_feel 83 = .ok (.iand, 1) := by decide +kernel
theorem dX7_feel_84 : decode cX7_feel 84 = .ok (.ifCond .ne 70, 3) := by decide +kernel
theorem dX7_feel_87 : decode cX7_feel 87 = .ok (.iload 7, 2) := by decide +kernel
theorem dX7_feel_89 : decode cX7_feel 89 = .ok (.invokestatic 150, 3) := by decide +kernel
theorem dX7_feel_92 : decode cX7_feel 92 = .ok (.iload 4, 2) := by decide +kernel
theorem dX7_feel_94 : decode cX7_feel 94 = .ok (.if_icmp .ne 60, 3) := by decide +kernel
theorem dX7_feel_97 : decode cX7_feel 97 = .ok (.aload_n 0, 1) := by decide +kernel
theorem dX7_feel_98 : decode cX7_feel 98 = .ok (.aload_n 0, 1) := by decide +kernel
theorem dX7_feel_99 : decode cX7_feel 99 = .ok (.getfield 13, 3) := by decide +kernel
theorem dX7_feel_102 : decode cX7_feel 102 = .ok (.iconst 5, 1) := by decide +kernel
theorem dX7_feel_103 : decode cX7_feel 103 = .ok (.iaload, 1) := by decide +kernel
theorem dX7_feel_104 : decode cX7_feel 104 = .ok (.iload 7, 2) := by decide +kernel
theorem dX7_feel_106 : decode cX7_feel 106 = .ok (.ior, 1) := by decide +kernel
theorem dX7_feel_107 : decode cX7_feel 107 = .ok (.invokevirtual 178, 3) := by decide +kernel
theorem dX7_feel_110 : decode cX7_feel 110 = .ok (.aload_n 0, 1) := by decide +kernel
theorem dX7_feel_111 : decode cX7_feel 111 = .ok (.getfield 32, 3) := by decide +kernel
theorem dX7_feel_114 : decode cX7_feel 114 = .ok (.iconst 0, 1) := by decide +kernel
theorem dX7_feel_115 : decode cX7_feel 115 = .ok (.iaload, 1) := by decide +kernel
theorem dX7_feel_116 : decode cX7_feel 116 = .ok (.iload 6, 2) := by decide +kernel
theorem dX7_feel_118 : decode cX7_feel 118 = .ok (.if_icmp .ge 8, 3) := by decide +kernel
theorem dX7_feel_121 : decode cX7_feel 121 = .ok (.iload 7, 2) := by decide +kernel
theorem dX7_feel_123 : decode cX7_feel 123 = .ok (.goto 5, 3) := by decide +kernel
theorem dX7_feel_126 : decode cX7_feel 126 = .ok (.iload 5, 2) := by decide +kernel
theorem dX7_feel_128 : decode cX7_feel 128 = .ok (.istore 5, 2) := by decide +kernel
theorem dX7_feel_130 : decode cX7_feel 130 = .ok (.aload_n 0, 1) := by decide +kernel
theorem dX7_feel_131 : decode cX7_feel 131 = .ok (.getfield 32, 3) := by decide +kernel
theorem dX7_feel_134 : decode cX7_feel 134 = .ok (.iconst 0, 1) := by decide +kernel
theorem dX7_feel_135 : decode cX7_feel 135 = .ok (.iaload, 1) := by decide +kernel
theorem dX7_feel_136 : decode cX7_feel 136 = .ok (.iload 6, 2) := by decide +kernel
theorem dX7_feel_138 : decode cX7_feel 138 = .ok (.if_icmp .ge 12, 3) := by decide +kernel
theorem dX7_feel_141 : decode cX7_feel 141 = .ok (.aload_n 0, 1) := by decide +kernel
theorem dX7_feel_142 : decode cX7_feel 142 = .ok (.getfield 32, 3) := by decide +kernel
theorem dX7_feel_145 : decode cX7_feel 145 = .ok (.iconst 0, 1) := by decide +kernel
theorem dX7_feel_146 : decode cX7_feel 146 = .ok (.iaload, 1) := by decide +kernel
theorem dX7_feel_147 : decode cX7_feel 147 = .ok (.goto 5, 3) := by decide +kernel
theorem dX7_feel_150 : decode cX7_feel 150 = .ok (.iload 6, 2) := by decide +kernel
theorem dX7_feel_152 : decode cX7_feel 152 = .ok (.istore 6, 2) := by decide +kernel
theorem dX7_feel_154 : decode cX7_feel 154 = .ok (.iinc 7 1, 3) := by decide +kernel
theorem dX7_feel_157 : decode cX7_feel 157 = .ok (.goto (-86), 3) := by decide +kernel
theorem dX7_feel_160 : decode cX7_feel 160 = .ok (.iload_n 2, 1) := by decide +kernel
theorem dX7_feel_161 : decode cX7_feel 161 = .ok (.ifCond .ne 8, 3) := by decide +kernel
theorem dX7_feel_164 : decode cX7_feel 164 = .ok (.iload 5, 2) := by decide +kernel
theorem dX7_feel_166 : decode cX7_feel 166 = .ok (.goto 5, 3) := by decide +kernel
theorem dX7_feel_169 : decode cX7_feel 169 = .ok (.iload 6, 2) := by decide +kernel
theorem dX7_feel_171 : decode cX7_feel 171 = .ok (.ireturn, 1) := by decide +kernel
theorem dX7_names_0 : decode cX7_names 0 = .ok (.iload_n 1, 1) := by decide +kernel
theorem dX7_names_1 : decode cX7_names 1 = .ok (.invokestatic 169, 3) := by decide +kernel
theorem dX7_names_4 : decode cX7_names 4 = .ok (.ifCond .ne 6, 3) := by decide +kernel
theorem dX7_names_7 : decode cX7_names 7 = .ok (.bipush (-3), 2) := by decide +kernel
theorem dX7_names_9 : decode cX7_names 9 = .ok (.ireturn, 1) := by decide +kernel
theorem dX7_names_10 : decode cX7_names 10 = .ok (.iconst 0, 1) := by decide +kernel
theorem dX7_names_11 : decode cX7_names 11 = .ok (.istore_n 2, 1) := by decide +kernel
theorem dX7_names_12 : decode cX7_names 12 = .ok (.iconst 0, 1) := by decide +kernel
theorem dX7_names_13 : decode cX7_names 13 = .ok (.istore_n 3, 1) := by decide +kernel
theorem dX7_names_14 : decode cX7_names 14 = .ok (.iconst 0, 1) := by decide +kernel
theorem dX7_names_15 : decode cX7_names 15 = .ok (.istore 4, 2) := by decide +kernel
theorem dX7_names_17 : decode cX7_names 17 = .ok (.iload 4, 2) := by decide +kernel
theorem dX7_names_19 : decode cX7_names 19 = .ok (.bipush 8, 2) := by decide +kernel
theorem dX7_names_21 : decode cX7_names 21 = .ok (.if_icmp .ge 56, 3) := by decide +kernel
theorem dX7_names_24 : decode cX7_names 24 = .ok (.iload_n 2, 1) := by decide +kernel
theorem dX7_names_25 : decode cX7_names 25 = .ok (.aload_n 0, 1) := by decide +kernel
theorem dX7_names_26 : decode cX7_names 26 = .ok (.iload 4, 2) := by decide +kernel
theorem dX7_names_28 : decode cX7_names 28 = .ok (.invokevirtual 166, 3) := by decide +kernel
theorem dX7_names_31 : decode cX7_names 31 = .ok (.ifCond .ne 10, 3) := by decide +kernel
theorem dX7_names_34 : decode cX7_names 34 = .ok (.iconst 1, 1) := by decide +kernel
theorem dX7_names_35 : decode cX7_names 35 = .ok (.iload 4, 2) := by decide +kernel
theorem dX7_names_37 : decode cX7_names 37 = .ok (.ishl, 1) := by decide +kernel
theorem dX7_names_38 : decode cX7_names 38 = .ok (.goto 4, 3) := by decide +kernel
theorem dX7_names_41 : decode cX7_names 41 = .ok (.iconst 0, 1) := by decide +kernel
theorem dX7_names_42 : decode cX7_names 42 = .ok (.ior, 1) := by decide +kernel
theorem dX7_names_43 : decode cX7_names 43 = .ok (.istore_n 2, 1) := by decide +kernel
theorem dX7_names_44 : decode cX7_names 44 = .ok (.aload_n 0, 1) := by decide +kernel
theorem dX7_names_45 : decode cX7_names 45 = .ok (.iload 4, 2) := by decide +kernel
theorem dX7_names_47 : decode cX7_names 47 = .ok (.invokevirtual 166, 3) := by decide +kernel
theorem dX7_names_50 : decode cX7_names 50 = .ok (.invokestatic 150, 3) := by decide +kernel
theorem dX7_names_53 : decode cX7_names 53 = .ok (.aload_n 0, 1) := by decide +kernel
theorem dX7_names_54 : decode cX7_names 54 = .ok (.iload_n 3, 1) := by decide +kernel
theorem dX7_names_55 : decode cX7_names 55 = .ok (.invokevirtual 166, 3) := by decide +kernel
theorem dX7_names_58 : decode cX7_names 58 = .ok (.invokestatic 150, 3) := by decide +kernel
theorem dX7_names_61 : decode cX7_names 61 = .ok (.if_icmp .ge 8, 3) := by decide +kernel
theorem dX7_names_64 : decode cX7_names 64 = .ok (.iload 4, 2) := by decide +kernel
theorem dX7_names_66 : decode cX7_names 66 = .ok (.goto 4, 3) := by decide +kernel
theorem dX7_names_69 : decode cX7_names 69 = .ok (.iload_n 3, 1) := by decide +kernel
theorem dX7_names_70 : decode cX7_names 70 = .ok (.istore_n 3, 1) := by decide +kernel
theorem dX7_names_71 : decode cX7_names 71 = .ok (.iinc 4 1, 3) := by decide +kernel
theorem dX7_names_74 : decode cX7_names 74 = .ok (.goto (-57), 3) := by decide +kernel
theorem dX7_names_77 : decode cX7_names 77 = .ok (.iload_n 1, 1) := by decide +kernel
theorem dX7_names_78 : decode cX7_names 78 = .ok (.ifCond .ne 7, 3) := by decide +kernel
theorem dX7_names_81 : decode cX7_names 81 = .ok (.iload_n 2, 1) := by decide +kernel
theorem dX7_names_82 : decode cX7_names 82 = .ok (.goto 4, 3) := by decide +kernel
theorem dX7_names_85 : decode cX7_names 85 = .ok (.iload_n 3, 1) := by decide +kernel
theorem dX7_names_86 : decode cX7_names 86 = .ok (.ireturn, 1) := by decide +kernel
theorem dX7_came_0 : decode cX7_came 0 = .ok (.iload_n 1, 1) := by decide +kernel
theorem dX7_came_1 : decode cX7_came 1 = .ok (.i2l, 1) := by decide +kernel
theorem dX7_came_2 : decode cX7_came 2 = .ok (.lconst 0, 1) := by decide +kernel
theorem dX7_came_3 : decode cX7_came 3 = .ok (.iconst 1, 1) := by decide +kernel
theorem dX7_came_4 : decode cX7_came 4 = .ok (.aload_n 0, 1) := by decide +kernel
theorem dX7_came_5 : decode cX7_came 5 = .ok (.getfield 7, 3) := by decide +kernel
theorem dX7_came_8 : decode cX7_came 8 = .ok (.bipush 20, 2) := by decide +kernel
theorem dX7_came_10 : decode cX7_came 10 = .ok (.iaload, 1) := by decide +kernel
theorem dX7_came_11 : decode cX7_came 11 = .ok (.ishl, 1) := by decide +kernel
theorem dX7_came_12 : decode cX7_came 12 = .ok (.iconst 1, 1) := by decide +kernel
theorem dX7_came_13 : decode cX7_came 13 = .ok (.isub, 1) := by decide +kernel
theorem dX7_came_14 : decode cX7_came 14 = .ok (.i2l, 1) := by decide +kernel
theorem dX7_came_15 : decode cX7_came 15 = .ok (.invokestatic 45, 3) := by decide +kernel
theorem dX7_came_18 : decode cX7_came 18 = .ok (.ifCond .ne 6, 3) := by decide +kernel
theorem dX7_came_21 : decode cX7_came 21 = .ok (.bipush (-2), 2) := by decide +kernel
theorem dX7_came_23 : decode cX7_came 23 = .ok (.ireturn, 1) := by decide +kernel
theorem dX7_came_24 : decode cX7_came 24 = .ok (.iconst 0, 1) := by decide +kernel
theorem dX7_came_25 : decode cX7_came 25 = .ok (.istore_n 2, 1) := by decide +kernel
theorem dX7_came_26 : decode cX7_came 26 = .ok (.iconst 0, 1) := by decide +kernel
theorem dX7_came_27 : decode cX7_came 27 = .ok (.istore_n 3, 1) := by decide +kernel
theorem dX7_came_28 : decode cX7_came 28 = .ok (.iload_n 3, 1) := by decide +kernel
theorem dX7_came_29 : decode cX7_came 29 = .ok (.bipush 8, 2) := by decide +kernel
theorem dX7_came_31 : decode cX7_came 31 = .ok (.if_icmp .ge 28, 3) := by decide +kernel
theorem dX7_came_34 : decode cX7_came 34 = .ok (.iload_n 2, 1) := by decide +kernel
theorem dX7_came_35 : decode cX7_came 35 = .ok (.aload_n 0, 1) := by decide +kernel
theorem dX7_came_36 : decode cX7_came 36 = .ok (.iload_n 3, 1) := by decide +kernel
theorem dX7_came_37 : decode cX7_came 37 = .ok (.invokevirtual 166, 3) := by decide +kernel
theorem dX7_came_40 : decode cX7_came 40 = .ok (.iload_n 1, 1) := by decide +kernel
theorem dX7_came_41 : decode cX7_came 41 = .ok (.if_icmp .ne 9, 3) := by decide +kernel
theorem dX7_came_44 : decode cX7_came 44 = .ok (.iconst 1, 1) := by decide +kernel
theorem dX7_came_45 : decode cX7_came 45 = .ok (.iload_n 3, 1) := by decide +kernel
theorem dX7_came_46 : decode cX7_came 46 = .ok (.ishl, 1) := by decide +kernel
theorem dX7_came_47 : decode cX7_came 47 = .ok (.goto 4, 3) := by decide +kernel
theorem dX7_came_50 : decode cX7_came 50 = .ok (.iconst 0, 1) := by decide +kernel
theorem dX7_came_51 : decode cX7_came 51 = .ok (.ior, 1) := by decide +kernel
theorem dX7_came_52 : decode cX7_came 52 = .ok (.istore_n 2, 1) := by decide +kernel
theorem dX7_came_53 : decode cX7_came 53 = .ok (.iinc 3 1, 3) := by decide +kernel
theorem dX7_came_56 : decode cX7_came 56 = .ok (.goto (-28), 3) := by decide +kernel
theorem dX7_came_59 : decode cX7_came 59 = .ok (.iload_n 2, 1) := by decide +kernel
theorem dX7_came_60 : decode cX7_came 60 = .ok (.ireturn, 1) := by decide +kernel
theorem dX7_seen_0 : decode cX7_seen 0 = .ok (.aload_n 0, 1) := by decide +kernel
theorem dX7_seen_1 : decode cX7_seen 1 = .ok (.iload_n 1, 1) := by decide +kernel
theorem dX7_seen_2 : decode cX7_seen 2 = .ok (.invokevirtual 123, 3) := by decide +kernel
theorem dX7_seen_5 : decode cX7_seen 5 = .ok (.ifCond .eq 11, 3) := by decide +kernel
theorem dX7_seen_8 : decode cX7_seen 8 = .ok (.aload_n 0, 1) := by decide +kernel
theorem dX7_seen_9 : decode cX7_seen 9 = .ok (.iload_n 2, 1) := by decide +kernel
theorem dX7_seen_10 : decode cX7_seen 10 = .ok (.invokevirtual 129, 3) := by decide +kernel
theorem dX7_seen_13 : decode cX7_seen 13 = .ok (.ifCond .ne 6, 3) := by decide +kernel
theorem dX7_seen_16 : decode cX7_seen 16 = .ok (.bipush (-2), 2) := by decide +kernel
theorem dX7_seen_18 : decode cX7_seen 18 = .ok (.ireturn, 1) := by decide +kernel
theorem dX7_seen_19 : decode cX7_seen 19 = .ok (.iload_n 3, 1) := by decide +kernel
theorem dX7_seen_20 : decode cX7_seen 20 = .ok (.invokestatic 169, 3) := by decide +kernel
theorem dX7_seen_23 : decode cX7_seen 23 = .ok (.ifCond .ne 6, 3) := by decide +kernel
theorem dX7_seen_26 : decode cX7_seen 26 = .ok (.bipush (-3), 2) := by decide +kernel
theorem dX7_seen_28 : decode cX7_seen 28 = .ok (.ireturn, 1) := by decide +kernel
theorem dX7_seen_29 : decode cX7_seen 29 = .ok (.aload_n 0, 1) := by decide +kernel
theorem dX7_seen_30 : decode cX7_seen 30 = .ok (.getfield 114, 3) := by decide +kernel
theorem dX7_seen_33 : decode cX7_seen 33 = .ok (.bipush 6, 2) := by decide +kernel
theorem dX7_seen_35 : decode cX7_seen 35 = .ok (.if_icmp .ne 6, 3) := by decide +kernel
theorem dX7_seen_38 : decode cX7_seen 38 = .ok (.bipush (-5), 2) := by decide +kernel
theorem dX7_seen_40 : decode cX7_seen 40 = .ok (.ireturn, 1) := by decide +kernel
theorem dX7_seen_41 : decode cX7_seen 41 = .ok (.aload_n 0, 1) := by decide +kernel
theorem dX7_seen_42 : decode cX7_seen 42 = .ok (.getfield 35, 3) := by decide +kernel
theorem dX7_seen_45 : decode cX7_seen 45 = .ok (.iconst 3, 1) := by decide +kernel
theorem dX7_seen_46 : decode cX7_seen 46 = .ok (.aload_n 0, 1) := by decide +kernel
theorem dX7_seen_47 : decode cX7_seen 47 = .ok (.getfield 114, 3) := by decide +kernel
theorem dX7_seen_50 : decode cX7_seen 50 = .ok (.imul, 1) := by decide +kernel
theorem dX7_seen_51 : decode cX7_seen 51 = .ok (.iload_n 1, 1) := by decide +kernel
theorem dX7_seen_52 : decode cX7_seen 52 = .ok (.iastore, 1) := by decide +kernel
theorem dX7_seen_53 : decode cX7_seen 53 = .ok (.aload_n 0, 1) := by decide +kernel
theorem dX7_seen_54 : decode cX7_seen 54 = .ok (.getfield 35, 3) := by decide +kernel
theorem dX7_seen_57 : decode cX7_seen 57 = .ok (.iconst 3, 1) := by decide +kernel
theorem dX7_seen_58 : decode cX7_seen 58 = .ok (.aload_n 0, 1) := by decide +kernel
theorem dX7_seen_59 : decode cX7_seen 59 = .ok (.getfield 114, 3) := by decide +kernel
theorem dX7_seen_62 : decode cX7_seen 62 = .ok (.imul, 1) := by decide +kernel
theorem dX7_seen_63 : decode cX7_seen 63 = .ok (.iconst 1, 1) := by decide +kernel
theorem dX7_seen_64 : decode cX7_seen 64 = .ok (.iadd, 1) := by decide +kernel
theorem dX7_seen_65 : decode cX7_seen 65 = .ok (.iload_n 2, 1) := by decide +kernel
theorem dX7_seen_66 : decode cX7_seen 66 = .ok (.iastore, 1) := by decide +kernel
theorem dX7_seen_67 : decode cX7_seen 67 = .ok (.aload_n 0, 1) := by decide +kernel
theorem dX7_seen_68 : decode cX7_seen 68 = .ok (.getfield 35, 3) := by decide +kernel
theorem dX7_seen_71 : decode cX7_seen 71 = .ok (.iconst 3, 1) := by decide +kernel
theorem dX7_seen_72 : decode cX7_seen 72 = .ok (.aload_n 0, 1) := by decide +kernel
theorem dX7_seen_73 : decode cX7_seen 73 = .ok (.getfield 114, 3) := by decide +kernel
theorem dX7_seen_76 : decode cX7_seen 76 = .ok (.imul, 1) := by decide +kernel
theorem dX7_seen_77 : decode cX7_seen 77 = .ok (.iconst 2, 1) := by decide +kernel
theorem dX7_seen_78 : decode cX7_seen 78 = .ok (.iadd, 1) := by decide +kernel
theorem dX7_seen_79 : decode cX7_seen 79 = .ok (.iload_n 3, 1) := by decide +kernel
theorem dX7_seen_80 : decode cX7_seen 80 = .ok (.iastore, 1) := by decide +kernel
theorem dX7_seen_81 : decode cX7_seen 81 = .ok (.aload_n 0, 1) := by decide +kernel
theorem dX7_seen_82 : decode cX7_seen 82 = .ok (.dup, 1) := by decide +kernel
theorem dX7_seen_83 : decode cX7_seen 83 = .ok (.getfield 114, 3) := by decide +kernel
theorem dX7_seen_86 : decode cX7_seen 86 = .ok (.iconst 1, 1) := by decide +kernel
theorem dX7_seen_87 : decode cX7_seen 87 = .ok (.iadd, 1) := by decide +kernel
theorem dX7_seen_88 : decode cX7_seen 88 = .ok (.putfield 114, 3) := by decide +kernel
theorem dX7_seen_91 : decode cX7_seen 91 = .ok (.aload_n 0, 1) := by decide +kernel
theorem dX7_seen_92 : decode cX7_seen 92 = .ok (.getfield 114, 3) := by decide +kernel
theorem dX7_seen_95 : decode cX7_seen 95 = .ok (.ireturn, 1) := by decide +kernel
theorem dX7_forget_0 : decode cX7_forget 0 = .ok (.aload_n 0, 1) := by decide +kernel
theorem dX7_forget_1 : decode cX7_forget 1 = .ok (.getfield 114, 3) := by decide +kernel
theorem dX7_forget_4 : decode cX7_forget 4 = .ok (.istore_n 1, 1) := by decide +kernel
theorem dX7_forget_5 : decode cX7_forget 5 = .ok (.aload_n 0, 1) := by decide +kernel
theorem dX7_forget_6 : decode cX7_forget 6 = .ok (.iconst 0, 1) := by decide +kernel
theorem dX7_forget_7 : decode cX7_forget 7 = .ok (.putfield 114, 3) := by decide +kernel
theorem dX7_forget_10 : decode cX7_forget 10 = .ok (.iload_n 1, 1) := by decide +kernel
theorem dX7_forget_11 : decode cX7_forget 11 = .ok (.ireturn, 1) := by decide +kernel
theorem dX7_strong_0 : decode cX7_strong 0 = .ok (.aload_n 0, 1) := by decide +kernel
theorem dX7_strong_1 : decode cX7_strong 1 = .ok (.iload_n 1, 1) := by decide +kernel
theorem dX7_strong_2 : decode cX7_strong 2 = .ok (.invokevirtual 129, 3) := by decide +kernel
theorem dX7_strong_5 : decode cX7_strong 5 = .ok (.ifCond .ne 6, 3) := by decide +kernel
theorem dX7_strong_8 : decode cX7_strong 8 = .ok (.bipush (-2), 2) := by decide +kernel
theorem dX7_strong_10 : decode cX7_strong 10 = .ok (.ireturn, 1) := by decide +kernel
theorem dX7_strong_11 : decode cX7_strong 11 = .ok (.iload_n 2, 1) := by decide +kernel
theorem dX7_strong_12 : decode cX7_strong 12 = .ok (.invokestatic 169, 3) := by decide +kernel
theorem dX7_strong_15 : decode cX7_strong 15 = .ok (.ifCond .ne 6, 3) := by decide +kernel
theorem dX7_strong_18 : decode cX7_strong 18 = .ok (.bipush (-3), 2) := by decide +kernel
theorem dX7_strong_20 : decode cX7_strong 20 = .ok (.ireturn, 1) := by decide +kernel
theorem dX7_strong_21 : decode cX7_strong 21 = .ok (.iconst (-1), 1) := by decide +kernel
theorem dX7_strong_22 : decode cX7_strong 22 = .ok (.istore_n 3, 1) := by decide +kernel
theorem dX7_strong_23 : decode cX7_strong 23 = .ok (.iconst (-1), 1) := by decide +kernel
theorem dX7_strong_24 : decode cX7_strong 24 = .ok (.istore 4, 2) := by decide +kernel
theorem dX7_strong_26 : decode cX7_strong 26 = .ok (.iconst 1, 1) := by decide +kernel
theorem dX7_strong_27 : decode cX7_strong 27 = .ok (.istore 5, 2) := by decide +kernel
theorem dX7_strong_29 : decode cX7_strong 29 = .ok (.iload 5, 2) := by decide +kernel
theorem dX7_strong_31 : decode cX7_strong 31 = .ok (.bipush 20, 2) := by decide +kernel
theorem dX7_strong_33 : decode cX7_strong 33 = .ok (.if_icmp .gt 153, 3) := by decide +kernel
theorem dX7_strong_36 : decode cX7_strong 36 = .ok (.iconst 1, 1) := by decide +kernel
theorem dX7_strong_37 : decode cX7_strong 37 = .ok (.istore 6, 2) := by decide +kernel
theorem dX7_strong_39 : decode cX7_strong 39 = .ok (.iconst 0, 1) := by decide +kernel
theorem dX7_strong_40 : decode cX7_strong 40 = .ok (.istore 7, 2) := by decide +kernel
theorem dX7_strong_42 : decode cX7_strong 42 = .ok (.iload 7, 2) := by decide +kernel
theorem dX7_strong_44 : decode cX7_strong 44 = .ok (.aload_n 0, 1) := by decide +kernel
theorem dX7_strong_45 : decode cX7_strong 45 = .ok (.getfield 114, 3) := by decide +kernel
theorem dX7_strong_48 : decode cX7_strong 48 = .ok (.if_icmp .ge 102, 3) := by decide +kernel
theorem dX7_strong_51 : decode cX7_strong 51 = .ok (.aload_n 0, 1) := by decide +kernel
theorem dX7_strong_52 : decode cX7_strong 52 = .ok (.aload_n 0, 1) := by decide +kernel
theorem dX7_strong_53 : decode cX7_strong 53 = .ok (.getfield 7, 3) := by decide +kernel
theorem dX7_strong_56 : decode cX7_strong 56 = .ok (.bipush 8, 2) := by decide +kernel
theorem dX7_strong_58 : decode cX7_strong 58 = .ok (.iload_n 1, 1) := by decide +kernel
theorem dX7_strong_59 : decode cX7_strong 59 = .ok (.iadd, 1) := by decide +kernel
theorem dX7_strong_60 : decode cX7_strong 60 = .ok (.iaload, 1) := by decide +kernel
theorem dX7_strong_61 : decode cX7_strong 61 = .ok (.iload 5, 2) := by decide +kernel
theorem dX7_strong_63 : decode cX7_strong 63 = .ok (.invokevirtual 120, 3) := by decide +kernel
theorem dX7_strong_66 : decode cX7_strong 66 = .ok (.aload_n 0, 1) := by decide +kernel
theorem dX7_strong_67 : decode cX7_strong 67 = .ok (.getfield 7, 3) := by decide +kernel
theorem dX7_strong_70 : decode cX7_strong 70 = .ok (.iconst 1, 1) := by decide +kernel
theorem dX7_strong_71 : decode cX7_strong 71 = .ok (.aload_n 0, 1) := by decide +kernel
theorem dX7_strong_72 : decode cX7_strong 72 = .ok (.getfield 35, 3) := by decide +kernel
theorem dX7_strong_75 : decode cX7_strong 75 = .ok (.iconst 3, 1) := by decide +kernel
theorem dX7_strong_76 : decode cX7_strong 76 = .ok (.iload 7, 2) := by decide +kernel
theorem dX7_strong_78 : decode cX7_strong 78 = .ok (.imul, 1) := by decide +kernel
theorem dX7_strong_79 : decode cX7_strong 79 = .ok (.iaload, 1) := by decide +kernel
theorem dX7_strong_80 : decode cX7_strong 80 = .ok (.iadd, 1) := by decide +kernel
theorem dX7_strong_81 : decode cX7_strong 81 = .ok (.iaload, 1) := by decide +kernel
theorem dX7_strong_82 : decode cX7_strong 82 = .ok (.if_icmp .lt 7, 3) := by decide +kernel
theorem dX7_strong_85 : decode cX7_strong 85 = .ok (.iconst 1, 1) := by decide +kernel
theorem dX7_strong_86 : decode cX7_strong 86 = .ok (.goto 4, 3) := by decide +kernel
theorem dX7_strong_89 : decode cX7_strong 89 = .ok (.iconst 0, 1) := by decide +kernel
theorem dX7_strong_90 : decode cX7_strong 90 = .ok (.istore 8, 2) := by decide +kernel
theorem dX7_strong_92 : decode cX7_strong 92 = .ok (.iload 6, 2) := by decide +kernel
theorem dX7_strong_94 : decode cX7_strong 94 = .ok (.ifCond .eq 47, 3) := by decide +kernel
theorem dX7_strong_97 : decode cX7_strong 97 = .ok (.aload_n 0, 1) := by decide +kernel
theorem dX7_strong_98 : decode cX7_strong 98 = .ok (.getfield 35, 3) := by decide +kernel
theorem dX7_strong_101 : decode cX7_strong 101 = .ok (.iconst 3, 1) := by decide +kernel
theorem dX7_strong_102 : decode cX7_strong 102 = .ok (.iload 7, 2) := by decide +kernel
theorem dX7_strong_104 : decode cX7_strong 104 = .ok (.imul, 1) := by decide +kernel
theorem dX7_strong_105 : decode cX7_strong 105 = .ok (.iconst 1, 1) := by decide +kernel
theorem dX7_strong_106 : decode cX7_strong 106 = .ok (.iadd, 1) := by decide +kernel
theorem dX7_strong_107 : decode cX7_strong 107 = .ok (.iaload, 1) := by decide +kernel
theorem dX7_strong_108 : decode cX7_strong 108 = .ok (.iload_n 1, 1) := by decide +kernel
theorem dX7_strong_109 : decode cX7_strong 109 = .ok (.if_icmp .ne 28, 3) := by decide +kernel
theorem dX7_strong_112 : decode cX7_strong 112 = .ok (.iload 8, 2) := by decide +kernel
theorem dX7_strong_114 : decode cX7_strong 114 = .ok (.aload_n 0, 1) := by decide +kernel
theorem dX7_strong_115 : decode cX7_strong 115 = .ok (.getfield 35, 3) := by decide +kernel
theorem dX7_strong_118 : decode cX7_strong 118 = .ok (.iconst 3, 1) := by decide +kernel
theorem dX7_strong_119 : decode cX7_strong 119 = .ok (.iload 7, 2) := by decide +kernel
theorem dX7_strong_121 : decode cX7_strong 121 = .ok (.imul, 1) := by decide +kernel
theorem dX7_strong_122 : decode cX7_strong 122 = .ok (.iconst 2, 1) := by decide +kernel
theorem dX7_strong_123 : decode cX7_strong 123 = .ok (.iadd, 1) := by decide +kernel
theorem dX7_strong_124 : decode cX7_strong 124 = .ok (.iaload, 1) := by decide +kernel
theorem dX7_strong_125 : decode cX7_strong 125 = .ok (.iconst 1, 1) := by decide +kernel
theorem dX7_strong_126 : decode cX7_strong 126 = .ok (.if_icmp .ne 7, 3) := by decide +kernel
theorem dX7_strong_129 : decode cX7_strong 129 = .ok (.iconst 1, 1) := by decide +kernel
theorem dX7_strong_130 : decode cX7_strong 130 = .ok (.goto 4, 3) := by decide +kernel
theorem dX7_strong_133 : decode cX7_strong 133 = .ok (.iconst 0, 1) := by decide +kernel
theorem dX7_strong_134 : decode cX7_strong 134 = .ok (.if_icmp .ne 7, 3) := by decide +kernel
theorem dX7_strong_137 : decode cX7_strong 137 = .ok (.iconst 1, 1) := by decide +kernel
theorem dX7_strong_138 : decode cX7_strong 138 = .ok (.goto 4, 3) := by decide +kernel
theorem dX7_strong_141 : decode cX7_strong 141 = .ok (.iconst 0, 1) := by decide +kernel
theorem dX7_strong_142 : decode cX7_strong 142 = .ok (.istore 6, 2) := by decide +kernel
theorem dX7_strong_144 : decode cX7_strong 144 = .ok (.iinc 7 1, 3) := by decide +kernel
theorem dX7_strong_147 : decode cX7_strong 147 = .ok (.goto (-105), 3) := by decide +kernel
theorem dX7_strong_150 : decode cX7_strong 150 = .ok (.iload 6, 2) := by decide +kernel
theorem dX7_strong_152 : decode cX7_strong 152 = .ok (.ifCond .eq 12, 3) := by decide +kernel
theorem dX7_strong_155 : decode cX7_strong 155 = .ok (.iload_n 3, 1) := by decide +kernel
theorem dX7_strong_156 : decode cX7_strong 156 = .ok (.ifCond .ge 8, 3) := by decide +kernel
theorem dX7_strong_159 : decode cX7_strong 159 = .ok (.iload 5, 2) := by decide +kernel
theorem dX7_strong_161 : decode cX7_strong 161 = .ok (.goto 4, 3) := by decide +kernel
theorem dX7_strong_164 : decode cX7_strong 164 = .ok (.iload_n 3, 1) := by decide +kernel
theorem dX7_strong_165 : decode cX7_strong 165 = .ok (.istore_n 3, 1) := by decide +kernel
theorem dX7_strong_166 : decode cX7_strong 166 = .ok (.iload 6, 2) := by decide +kernel
theorem dX7_strong_168 : decode cX7_strong 168 = .ok (.ifCond .eq 8, 3) := by decide +kernel
theorem dX7_strong_171 : decode cX7_strong 171 = .ok (.iload 5, 2) := by decide +kernel
theorem dX7_strong_173 : decode cX7_strong 173 = .ok (.goto 5, 3) := by decide +kernel
theorem dX7_strong_176 : decode cX7_strong 176 = .ok (.iload 4, 2) := by decide +kernel
theorem dX7_strong_178 : decode cX7_strong 178 = .ok (.istore 4, 2) := by decide +kernel
theorem dX7_strong_180 : decode cX7_strong 180 = .ok (.iinc 5 1, 3) := by decide +kernel
theorem dX7_strong_183 : decode cX7_strong 183 = .ok (.goto (-154), 3) := by decide +kernel
theorem dX7_strong_186 : decode cX7_strong 186 = .ok (.iload_n 2, 1) := by decide +kernel
theorem dX7_strong_187 : decode cX7_strong 187 = .ok (.ifCond .ne 7, 3) := by decide +kernel
theorem dX7_strong_190 : decode cX7_strong 190 = .ok (.iload_n 3, 1) := by decide +kernel
theorem dX7_strong_191 : decode cX7_strong 191 = .ok (.goto 5, 3) := by decide +kernel
theorem dX7_strong_194 : decode cX7_strong 194 = .ok (.iload 4, 2) := by decide +kernel
theorem dX7_strong_196 : decode cX7_strong 196 = .ok (.ireturn, 1) := by decide +kernel
theorem dX7_boasts_0 : decode cX7_boasts 0 = .ok (.iload_n 1, 1) := by decide +kernel
theorem dX7_boasts_1 : decode cX7_boasts 1 = .ok (.i2l, 1) := by decide +kernel
theorem dX7_boasts_2 : decode cX7_boasts 2 = .ok (.lconst 0, 1) := by decide +kernel
theorem dX7_boasts_3 : decode cX7_boasts 3 = .ok (.ldc2_w 181, 3) := by decide +kernel
theorem dX7_boasts_6 : decode cX7_boasts 6 = .ok (.invokestatic 45, 3) := by decide +kernel
theorem dX7_boasts_9 : decode cX7_boasts 9 = .ok (.ifCond .eq 48, 3) := by decide +kernel
theorem dX7_boasts_12 : decode cX7_boasts 12 = .ok (.iload_n 2, 1) := by decide +kernel
theorem dX7_boasts_13 : decode cX7_boasts 13 = .ok (.i2l, 1) := by decide +kernel
theorem dX7_boasts_14 : decode cX7_boasts 14 = .ok (.lconst 0, 1) := by decide +kernel
theorem dX7_boasts_15 : decode cX7_boasts 15 = .ok (.ldc2_w 183, 3) := by decide +kernel
theorem dX7_boasts_18 : decode cX7_boasts 18 = .ok (.invokestatic 45, 3) := by decide +kernel
theorem dX7_boasts_21 : decode cX7_boasts 21 = .ok (.ifCond .eq 36, 3) := by decide +kernel
theorem dX7_boasts_24 : decode cX7_boasts 24 = .ok (.iload_n 3, 1) := by decide +kernel
theorem dX7_boasts_25 : decode cX7_boasts 25 = .ok (.i2l, 1) := by decide +kernel
theorem dX7_boasts_26 : decode cX7_boasts 26 = .ok (.lconst 0, 1) := by decide +kernel
theorem dX7_boasts_27 : decode cX7_boasts 27 = .ok (.ldc2_w 185, 3) := by decide +kernel
theorem dX7_boasts_30 : decode cX7_boasts 30 = .ok (.invokestatic 45, 3) := by decide +kernel
theorem dX7_boasts_33 : decode cX7_boasts 33 = .ok (.ifCond .eq 24, 3) := by decide +kernel
theorem dX7_boasts_36 : decode cX7_boasts 36 = .ok (.iload 4, 2) := by decide +kernel
theorem dX7_boasts_38 : decode cX7_boasts 38 = .ok (.i2l, 1) := by decide +kernel
theorem dX7_boasts_39 : decode cX7_boasts 39 = .ok (.lconst 0, 1) := by decide +kernel
theorem dX7_boasts_40 : decode cX7_boasts 40 = .ok (.ldc2_w 187, 3) := by decide +kernel
theorem dX7_boasts_43 : decode cX7_boasts 43 = .ok (.invokestatic 45, 3) := by decide +kernel
theorem dX7_boasts_46 : decode cX7_boasts 46 = .ok (.ifCond .eq 11, 3) := by decide +kernel
theorem dX7_boasts_49 : decode cX7_boasts 49 = .ok (.iload 5, 2) := by decide +kernel
theorem dX7_boasts_51 : decode cX7_boasts 51 = .ok (.invokestatic 169, 3) := by decide +kernel
theorem dX7_boasts_54 : decode cX7_boasts 54 = .ok (.ifCond .ne 6, 3) := by decide +kernel
theorem dX7_boasts_57 : decode cX7_boasts 57 = .ok (.bipush (-3), 2) := by decide +kernel
theorem dX7_boasts_59 : decode cX7_boasts 59 = .ok (.ireturn, 1) := by decide +kernel
theorem dX7_boasts_60 : decode cX7_boasts 60 = .ok (.iconst 1, 1) := by decide +kernel
theorem dX7_boasts_61 : decode cX7_boasts 61 = .ok (.istore 6, 2) := by decide +kernel
theorem dX7_boasts_63 : decode cX7_boasts 63 = .ok (.iconst 1, 1) := by decide +kernel
theorem dX7_boasts_64 : decode cX7_boasts 64 = .ok (.istore 7, 2) := by decide +kernel
theorem dX7_boasts_66 : decode cX7_boasts 66 = .ok (.iconst 0, 1) := by decide +kernel
theorem dX7_boasts_67 : decode cX7_boasts 67 = .ok (.istore 8, 2) := by decide +kernel
theorem dX7_boasts_69 : decode cX7_boasts 69 = .ok (.iload 8, 2) := by decide +kernel
theorem dX7_boasts_71 : decode cX7_boasts 71 = .ok (.iload_n 1, 1) := by decide +kernel
theorem dX7_boasts_72 : decode cX7_boasts 72 = .ok (.if_icmp .ge 79, 3) := by decide +kernel
theorem dX7_boasts_75 : decode cX7_boasts 75 = .ok (.iload_n 2, 1) := by decide +kernel
theorem dX7_boasts_76 : decode cX7_boasts 76 = .ok (.iload 8, 2) := by decide +kernel
theorem dX7_boasts_78 : decode cX7_boasts 78 = .ok (.iload_n 3, 1) := by decide +kernel
theorem dX7_boasts_79 : decode cX7_boasts 79 = .ok (.imul, 1) := by decide +kernel
theorem dX7_boasts_80 : decode cX7_boasts 80 = .ok (.iadd, 1) := by decide +kernel
theorem dX7_boasts_81 : decode cX7_boasts 81 = .ok (.istore 9, 2) := by decide +kernel
theorem dX7_boasts_83 : decode cX7_boasts 83 = .ok (.iload 9, 2) := by decide +kernel
theorem dX7_boasts_85 : decode cX7_boasts 85 = .ok (.bipush 10, 2) := by decide +kernel
theorem dX7_boasts_87 : decode cX7_boasts 87 = .ok (.if_icmp .ge 8, 3) := by decide +kernel
theorem dX7_boasts_90 : decode cX7_boasts 90 = .ok (.iload 4, 2) := by decide +kernel
theorem dX7_boasts_92 : decode cX7_boasts 92 = .ok (.goto 15, 3) := by decide +kernel
theorem dX7_boasts_95 : decode cX7_boasts 95 = .ok (.iload 4, 2) := by decide +kernel
theorem dX7_boasts_97 : decode cX7_boasts 97 = .ok (.iload 9, 2) := by decide +kernel
theorem dX7_boasts_99 : decode cX7_boasts 99 = .ok (.bipush 10, 2) := by decide +kernel
theorem dX7_boasts_101 : decode cX7_boasts 101 = .ok (.isub, 1) := by decide +kernel
theorem dX7_boasts_102 : decode cX7_boasts 102 = .ok (.iconst 5, 1) := by decide +kernel
theorem dX7_boasts_103 : decode cX7_boasts 103 = .ok (.idiv, 1) := by decide +kernel
theorem dX7_boasts_104 : decode cX7_boasts 104 = .ok (.isub, 1) := by decide +kernel
theorem dX7_boasts_105 : decode cX7_boasts 105 = .ok (.iconst 1, 1) := by decide +kernel
theorem dX7_boasts_106 : decode cX7_boasts 106 = .ok (.isub, 1) := by decide +kernel
theorem dX7_boasts_107 : decode cX7_boasts 107 = .ok (.iconst 1, 1) := by decide +kernel
theorem dX7_boasts_108 : decode cX7_boasts 108 = .ok (.iadd, 1) := by decide +kernel
theorem dX7_boasts_109 : decode cX7_boasts 109 = .ok (.istore 10, 2) := by decide +kernel
theorem dX7_boasts_111 : decode cX7_boasts 111 = .ok (.iload 6, 2) := by decide +kernel
theorem dX7_boasts_113 : decode cX7_boasts 113 = .ok (.iload 10, 2) := by decide +kernel
theorem dX7_boasts_115 : decode cX7_boasts 115 = .ok (.ifCond .ge 7, 3) := by decide +kernel
theorem dX7_boasts_118 : decode cX7_boasts 118 = .ok (.iconst 5, 1) := by decide +kernel
theorem dX7_boasts_119 : decode cX7_boasts 119 = .ok (.goto 17, 3) := by decide +kernel
theorem dX7_boasts_122 : decode cX7_boasts 122 = .ok (.iload 10, 2) := by decide +kernel
theorem dX7_boasts_124 : decode cX7_boasts 124 = .ok (.iconst 5, 1) := by decide +kernel
theorem dX7_boasts_125 : decode cX7_boasts 125 = .ok (.if_icmp .le 7, 3) := by decide +kernel
theorem dX7_boasts_128 : decode cX7_boasts 128 = .ok (.iconst 0, 1) := by decide +kernel
theorem dX7_boasts_129 : decode cX7_boasts 129 = .ok (.goto 7, 3) := by decide +kernel
theorem dX7_boasts_132 : decode cX7_boasts 132 = .ok (.iconst 5, 1) := by decide +kernel
theorem dX7_boasts_133 : decode cX7_boasts 133 = .ok (.iload 10, 2) := by decide +kernel
theorem dX7_boasts_135 : decode cX7_boasts 135 = .ok (.isub, 1) := by decide +kernel
theorem dX7_boasts_136 : decode cX7_boasts 136 = .ok (.imul, 1) := by decide +kernel
theorem dX7_boasts_137 : decode cX7_boasts 137 = .ok (.istore 6, 2) := by decide +kernel
theorem dX7_boasts_139 : decode cX7_boasts 139 = .ok (.iload 7, 2) := by decide +kernel
theorem dX7_boasts_141 : decode cX7_boasts 141 = .ok (.iconst 5, 1) := by decide +kernel
theorem dX7_boasts_142 : decode cX7_boasts 142 = .ok (.imul, 1) := by decide +kernel
theorem dX7_boasts_143 : decode cX7_boasts 143 = .ok (.istore 7, 2) := by decide +kernel
theorem dX7_boasts_145 : decode cX7_boasts 145 = .ok (.iinc 8 1, 3) := by decide +kernel
theorem dX7_boasts_148 : decode cX7_boasts 148 = .ok (.goto (-79), 3) := by decide +kernel
theorem dX7_boasts_151 : decode cX7_boasts 151 = .ok (.iload 6, 2) := by decide +kernel
theorem dX7_boasts_153 : decode cX7_boasts 153 = .ok (.istore 8, 2) := by decide +kernel
theorem dX7_boasts_155 : decode cX7_boasts 155 = .ok (.iload 7, 2) := by decide +kernel
theorem dX7_boasts_157 : decode cX7_boasts 157 = .ok (.istore 9, 2) := by decide +kernel
theorem dX7_boasts_159 : decode cX7_boasts 159 = .ok (.iload 9, 2) := by decide +kernel
theorem dX7_boasts_161 : decode cX7_boasts 161 = .ok (.ifCond .eq 21, 3) := by decide +kernel
theorem dX7_boasts_164 : decode cX7_boasts 164 = .ok (.iload 8, 2) := by decide +kernel
theorem dX7_boasts_166 : decode cX7_boasts 166 = .ok (.iload 9, 2) := by decide +kernel
theorem dX7_boasts_168 : decode cX7_boasts 168 = .ok (.irem, 1) := by decide +kernel
theorem dX7_boasts_169 : decode cX7_boasts 169 = .ok (.istore 10, 2) := by decide +kernel
theorem dX7_boasts_171 : decode cX7_boasts 171 = .ok (.iload 9, 2) := by decide +kernel
theorem dX7_boasts_173 : decode cX7_boasts 173 = .ok (.istore 8, 2) := by decide +kernel
theorem dX7_boasts_175 : decode cX7_boasts 175 = .ok (.iload 10, 2) := by decide +kernel
theorem dX7_boasts_177 : decode cX7_boasts 177 = .ok (.istore 9, 2) := by decide +kernel
theorem dX7_boasts_179 : decode cX7_boasts 179 = .ok (.goto (-20), 3) := by decide +kernel
theorem dX7_boasts_182 : decode cX7_boasts 182 = .ok (.iload 5, 2) := by decide +kernel
theorem dX7_boasts_184 : decode cX7_boasts 184 = .ok (.ifCond .ne 11, 3) := by decide +kernel
theorem dX7_boasts_187 : decode cX7_boasts 187 = .ok (.iload 6, 2) := by decide +kernel
theorem dX7_boasts_189 : decode cX7_boasts 189 = .ok (.iload 8, 2) := by decide +kernel
theorem dX7_boasts_191 : decode cX7_boasts 191 = .ok (.idiv, 1) := by decide +kernel
theorem dX7_boasts_192 : decode cX7_boasts 192 = .ok (.goto 8, 3) := by decide +kernel
theorem dX7_boasts_195 : decode cX7_boasts 195 = .ok (.iload 7, 2) := by decide +kernel
theorem dX7_boasts_197 : decode cX7_boasts 197 = .ok (.iload 8, 2) := by decide +kernel
theorem dX7_boasts_199 : decode cX7_boasts 199 = .ok (.idiv, 1) := by decide +kernel
theorem dX7_boasts_200 : decode cX7_boasts 200 = .ok (.ireturn, 1) := by decide +kernel
theorem dX7_count_0 : decode cX7_count 0 = .ok (.iload_n 1, 1) := by decide +kernel
theorem dX7_count_1 : decode cX7_count 1 = .ok (.tableswitch 173 0 14 #[75, 82, 90, 98, 105, 112, 119, 126, 133, 139, 145, 151, 158, 163, 168], 75) := by decide +kernel
theorem dX7_count_76 : decode cX7_count 76 = .ok (.aload_n 0, 1) := by decide +kernel
theorem dX7_count_77 : decode cX7_count 77 = .ok (.getfield 7, 3) := by decide +kernel
theorem dX7_count_80 : decode cX7_count 80 = .ok (.iconst 0, 1) := by decide +kernel
theorem dX7_count_81 : decode cX7_count 81 = .ok (.iaload, 1) := by decide +kernel
theorem dX7_count_82 : decode cX7_count 82 = .ok (.ireturn, 1) := by decide +kernel
theorem dX7_count_83 : decode cX7_count 83 = .ok (.aload_n 0, 1) := by decide +kernel
theorem dX7_count_84 : decode cX7_count 84 = .ok (.getfield 7, 3) := by decide +kernel
theorem dX7_count_87 : decode cX7_count 87 = .ok (.bipush 7, 2) := by decide +kernel
theorem dX7_count_89 : decode cX7_count 89 = .ok (.iaload, 1) := by decide +kernel
theorem dX7_count_90 : decode cX7_count 90 = .ok (.ireturn, 1) := by decide +kernel
theorem dX7_count_91 : decode cX7_count 91 = .ok (.aload_n 0, 1) := by decide +kernel
theorem dX7_count_92 : decode cX7_count 92 = .ok (.getfield 7, 3) := by decide +kernel
theorem dX7_count_95 : decode cX7_count 95 = .ok (.bipush 20, 2) := by decide +kernel
theorem dX7_count_97 : decode cX7_count 97 = .ok (.iaload, 1) := by decide +kernel
theorem dX7_count_98 : decode cX7_count 98 = .ok (.ireturn, 1) := by decide +kernel
theorem dX7_count_99 : decode cX7_count 99 = .ok (.aload_n 0, 1) := by decide +kernel
theorem dX7_count_100 : decode cX7_count 100 = .ok (.getfield 13, 3) := by decide +kernel
theorem dX7_count_103 : decode cX7_count 103 = .ok (.iconst 4, 1) := by decide +kernel
theorem dX7_count_104 : decode cX7_count 104 = .ok (.iaload, 1) := by decide +kernel
theorem dX7_count_105 : decode cX7_count 105 = .ok (.ireturn, 1) := by decide +kernel
theorem dX7_count_106 : decode cX7_count 106 = .ok (.aload_n 0, 1) := by decide +kernel
theorem dX7_count_107 : decode cX7_count 107 = .ok (.getfield 13, 3) := by decide +kernel
theorem dX7_count_110 : decode cX7_count 110 = .ok (.iconst 0, 1) := by decide +kernel
theorem dX7_count_111 : decode cX7_count 111 = .ok (.iaload, 1) := by decide +kernel
theorem dX7_count_112 : decode cX7_count 112 = .ok (.ireturn, 1) := by decide +kernel
theorem dX7_count_113 : decode cX7_count 113 = .ok (.aload_n 0, 1) := by decide +kernel
theorem dX7_count_114 : decode cX7_count 114 = .ok (.getfield 13, 3) := by decide +kernel
theorem dX7_count_117 : decode cX7_count 117 = .ok (.iconst 1, 1) := by decide +kernel
theorem dX7_count_118 : decode cX7_count 118 = .ok (.iaload, 1) := by decide +kernel
theorem dX7_count_119 : decode cX7_count 119 = .ok (.ireturn, 1) := by decide +kernel
theorem dX7_count_120 : decode cX7_count 120 = .ok (.aload_n 0, 1) := by decide +kernel
theorem dX7_count_121 : decode cX7_count 121 = .ok (.getfield 13, 3) := by decide +kernel
theorem dX7_count_124 : decode cX7_count 124 = .ok (.iconst 2, 1) := by decide +kernel
theorem dX7_count_125 : decode cX7_count 125 = .ok (.iaload, 1) := by decide +kernel
theorem dX7_count_126 : decode cX7_count 126 = .ok (.ireturn, 1) := by decide +kernel
theorem dX7_count_127 : decode cX7_count 127 = .ok (.aload_n 0, 1) := by decide +kernel
theorem dX7_count_128 : decode cX7_count 128 = .ok (.getfield 13, 3) := by decide +kernel
theorem dX7_count_131 : decode cX7_count 131 = .ok (.iconst 3, 1) := by decide +kernel
theorem dX7_count_132 : decode cX7_count 132 = .ok (.iaload, 1) := by decide +kernel
theorem dX7_count_133 : decode cX7_count 133 = .ok (.ireturn, 1) := by decide +kernel
theorem dX7_count_134 : decode cX7_count 134 = .ok (.aload_n 0, 1) := by decide +kernel
theorem dX7_count_135 : decode cX7_count 135 = .ok (.iconst 0, 1) := by decide +kernel
theorem dX7_count_136 : decode cX7_count 136 = .ok (.invokevirtual 175, 3) := by decide +kernel
theorem dX7_count_139 : decode cX7_count 139 = .ok (.ireturn, 1) := by decide +kernel
theorem dX7_count_140 : decode cX7_count 140 = .ok (.aload_n 0, 1) := by decide +kernel
theorem dX7_count_141 : decode cX7_count 141 = .ok (.iconst 1, 1) := by decide +kernel
theorem dX7_count_142 : decode cX7_count 142 = .ok (.invokevirtual 175, 3) := by decide +kernel
theorem dX7_count_145 : decode cX7_count 145 = .ok (.ireturn, 1) := by decide +kernel
theorem dX7_count_146 : decode cX7_count 146 = .ok (.aload_n 0, 1) := by decide +kernel
theorem dX7_count_147 : decode cX7_count 147 = .ok (.iconst 2, 1) := by decide +kernel
theorem dX7_count_148 : decode cX7_count 148 = .ok (.invokevirtual 175, 3) := by decide +kernel
theorem dX7_count_151 : decode cX7_count 151 = .ok (.ireturn, 1) := by decide +kernel
theorem dX7_count_152 : decode cX7_count 152 = .ok (.aload_n 0, 1) := by decide +kernel
theorem dX7_count_153 : decode cX7_count 153 = .ok (.getfield 13, 3) := by decide +kernel
theorem dX7_count_156 : decode cX7_count 156 = .ok (.iconst 5, 1) := by decide +kernel
theorem dX7_count_157 : decode cX7_count 157 = .ok (.iaload, 1) := by decide +kernel
theorem dX7_count_158 : decode cX7_count 158 = .ok (.ireturn, 1) := by decide +kernel
theorem dX7_count_159 : decode cX7_count 159 = .ok (.aload_n 0, 1) := by decide +kernel
theorem dX7_count_160 : decode cX7_count 160 = .ok (.getfield 114, 3) := by decide +kernel
theorem dX7_count_163 : decode cX7_count 163 = .ok (.ireturn, 1) := by decide +kernel
theorem dX7_count_164 : decode cX7_count 164 = .ok (.aload_n 0, 1) := by decide +kernel
theorem dX7_count_165 : decode cX7_count 165 = .ok (.getfield 117, 3) := by decide +kernel
theorem dX7_count_168 : decode cX7_count 168 = .ok (.ireturn, 1) := by decide +kernel
theorem dX7_count_169 : decode cX7_count 169 = .ok (.aload_n 0, 1) := by decide +kernel
theorem dX7_count_170 : decode cX7_count 170 = .ok (.getfield 51, 3) := by decide +kernel
theorem dX7_count_173 : decode cX7_count 173 = .ok (.ireturn, 1) := by decide +kernel
theorem dX7_count_174 : decode cX7_count 174 = .ok (.bipush (-3), 2) := by decide +kernel
theorem dX7_count_176 : decode cX7_count 176 = .ok (.ireturn, 1) := by decide +kernel
