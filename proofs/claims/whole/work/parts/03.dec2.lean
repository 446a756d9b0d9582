theorem dX7_init_0 : decode cX7_init 0 = .ok (.aload_n 0, 1) := by decide +kernel
theorem dX7_init_1 : decode cX7_init 1 = .ok (.invokespecial 1, 3) := by decide +kernel
theorem dX7_init_4 : decode cX7_init 4 = .ok (.aload_n 0, 1) := by decide +kernel
theorem dX7_init_5 : decode cX7_init 5 = .ok (.bipush 29, 2) := by decide +kernel
theorem dX7_init_7 : decode cX7_init 7 = .ok (.newarray .int, 2) := by decide +kernel
theorem dX7_init_9 : decode cX7_init 9 = .ok (.putfield 7, 3) := by decide +kernel
theorem dX7_init_12 : decode cX7_init 12 = .ok (.aload_n 0, 1) := by decide +kernel
theorem dX7_init_13 : decode cX7_init 13 = .ok (.bipush 18, 2) := by decide +kernel
theorem dX7_init_15 : decode cX7_init 15 = .ok (.newarray .int, 2) := by decide +kernel
theorem dX7_init_17 : decode cX7_init 17 = .ok (.putfield 13, 3) := by decide +kernel
theorem dX7_init_20 : decode cX7_init 20 = .ok (.aload_n 0, 1) := by decide +kernel
theorem dX7_init_21 : decode cX7_init 21 = .ok (.sipush 160, 3) := by decide +kernel
theorem dX7_init_24 : decode cX7_init 24 = .ok (.newarray .int, 2) := by decide +kernel
theorem dX7_init_26 : decode cX7_init 26 = .ok (.putfield 16, 3) := by decide +kernel
theorem dX7_init_29 : decode cX7_init 29 = .ok (.aload_n 0, 1) := by decide +kernel
theorem dX7_init_30 : decode cX7_init 30 = .ok (.bipush 29, 2) := by decide +kernel
theorem dX7_init_32 : decode cX7_init 32 = .ok (.newarray .int, 2) := by decide +kernel
theorem dX7_init_34 : decode cX7_init 34 = .ok (.putfield 19, 3) := by decide +kernel
theorem dX7_init_37 : decode cX7_init 37 = .ok (.aload_n 0, 1) := by decide +kernel
theorem dX7_init_38 : decode cX7_init 38 = .ok (.sipush 144, 3) := by decide +kernel
theorem dX7_init_41 : decode cX7_init 41 = .ok (.newarray .int, 2) := by decide +kernel
theorem dX7_init_43 : decode cX7_init 43 = .ok (.putfield 22, 3) := by decide +kernel
theorem dX7_init_46 : decode cX7_init 46 = .ok (.aload_n 0, 1) := by decide +kernel
theorem dX7_init_47 : decode cX7_init 47 = .ok (.iconst 2, 1) := by decide +kernel
theorem dX7_init_48 : decode cX7_init 48 = .ok (.newarray .boolean, 2) := by decide +kernel
theorem dX7_init_50 : decode cX7_init 50 = .ok (.putfield 25, 3) := by decide +kernel
theorem dX7_init_53 : decode cX7_init 53 = .ok (.aload_n 0, 1) := by decide +kernel
theorem dX7_init_54 : decode cX7_init 54 = .ok (.bipush 36, 2) := by decide +kernel
theorem dX7_init_56 : decode cX7_init 56 = .ok (.newarray .int, 2) := by decide +kernel
theorem dX7_init_58 : decode cX7_init 58 = .ok (.putfield 29, 3) := by decide +kernel
theorem dX7_init_61 : decode cX7_init 61 = .ok (.aload_n 0, 1) := by decide +kernel
theorem dX7_init_62 : decode cX7_init 62 = .ok (.sipush 448, 3) := by decide +kernel
theorem dX7_init_65 : decode cX7_init 65 = .ok (.newarray .int, 2) := by decide +kernel
theorem dX7_init_67 : decode cX7_init 67 = .ok (.putfield 32, 3) := by decide +kernel
theorem dX7_init_70 : decode cX7_init 70 = .ok (.aload_n 0, 1) := by decide +kernel
theorem dX7_init_71 : decode cX7_init 71 = .ok (.bipush 18, 2) := by decide +kernel
theorem dX7_init_73 : decode cX7_init 73 = .ok (.newarray .int, 2) := by decide +kernel
theorem dX7_init_75 : decode cX7_init 75 = .ok (.putfield 35, 3) := by decide +kernel
theorem dX7_init_78 : decode cX7_init 78 = .ok (.aload_n 0, 1) := by decide +kernel
theorem dX7_init_79 : decode cX7_init 79 = .ok (.getfield 7, 3) := by decide +kernel
theorem dX7_init_82 : decode cX7_init 82 = .ok (.invokestatic 38, 3) := by decide +kernel
theorem dX7_init_85 : decode cX7_init 85 = .ok (.aload_n 0, 1) := by decide +kernel
theorem dX7_init_86 : decode cX7_init 86 = .ok (.invokevirtual 42, 3) := by decide +kernel
theorem dX7_init_89 : decode cX7_init 89 = .ok (.return_, 1) := by decide +kernel
theorem dX7_in_0 : decode cX7_in 0 = .ok (.lload_n 0, 1) := by decide +kernel
theorem dX7_in_1 : decode cX7_in 1 = .ok (.lload_n 2, 1) := by decide +kernel
theorem dX7_in_2 : decode cX7_in 2 = .ok (.lcmp, 1) := by decide +kernel
theorem dX7_in_3 : decode cX7_in 3 = .ok (.ifCond .lt 14, 3) := by decide +kernel
theorem dX7_in_6 : decode cX7_in 6 = .ok (.lload_n 0, 1) := by decide +kernel
theorem dX7_in_7 : decode cX7_in 7 = .ok (.lload 4, 2) := by decide +kernel
theorem dX7_in_9 : decode cX7_in 9 = .ok (.lcmp, 1) := by decide +kernel
theorem dX7_in_10 : decode cX7_in 10 = .ok (.ifCond .gt 7, 3) := by decide +kernel
theorem dX7_in_13 : decode cX7_in 13 = .ok (.iconst 1, 1) := by decide +kernel
theorem dX7_in_14 : decode cX7_in 14 = .ok (.goto 4, 3) := by decide +kernel
theorem dX7_in_17 : decode cX7_in 17 = .ok (.iconst 0, 1) := by decide +kernel
theorem dX7_in_18 : decode cX7_in 18 = .ok (.ireturn, 1) := by decide +kernel
theorem dX7_has_0 : decode cX7_has 0 = .ok (.iload_n 0, 1) := by decide +kernel
theorem dX7_has_1 : decode cX7_has 1 = .ok (.iload_n 1, 1) := by decide +kernel
theorem dX7_has_2 : decode cX7_has 2 = .ok (.ishr, 1) := by decide +kernel
theorem dX7_has_3 : decode cX7_has 3 = .ok (.iconst 1, 1) := by decide +kernel
theorem dX7_has_4 : decode cX7_has 4 = .ok (.iand, 1) := by decide +kernel
theorem dX7_has_5 : decode cX7_has 5 = .ok (.iconst 1, 1) := by decide +kernel
theorem dX7_has_6 : decode cX7_has 6 = .ok (.if_icmp .ne 7, 3) := by decide +kernel
theorem dX7_has_9 : decode cX7_has 9 = .ok (.iconst 1, 1) := by decide +kernel
theorem dX7_has_10 : decode cX7_has 10 = .ok (.goto 4, 3) := by decide +kernel
theorem dX7_has_13 : decode cX7_has 13 = .ok (.iconst 0, 1) := by decide +kernel
theorem dX7_has_14 : decode cX7_has 14 = .ok (.ireturn, 1) := by decide +kernel
theorem dX7_ones_0 : decode cX7_ones 0 = .ok (.iconst 0, 1) := by decide +kernel
theorem dX7_ones_1 : decode cX7_ones 1 = .ok (.istore_n 1, 1) := by decide +kernel
theorem dX7_ones_2 : decode cX7_ones 2 = .ok (.iload_n 0, 1) := by decide +kernel
theorem dX7_ones_3 : decode cX7_ones 3 = .ok (.istore_n 2, 1) := by decide +kernel
theorem dX7_ones_4 : decode cX7_ones 4 = .ok (.iload_n 2, 1) := by decide +kernel
theorem dX7_ones_5 : decode cX7_ones 5 = .ok (.ifCond .eq 15, 3) := by decide +kernel
theorem dX7_ones_8 : decode cX7_ones 8 = .ok (.iinc 1 1, 3) := by decide +kernel
theorem dX7_ones_11 : decode cX7_ones 11 = .ok (.iload_n 2, 1) := by decide +kernel
theorem dX7_ones_12 : decode cX7_ones 12 = .ok (.iload_n 2, 1) := by decide +kernel
theorem dX7_ones_13 : decode cX7_ones 13 = .ok (.iconst 1, 1) := by decide +kernel
theorem dX7_ones_14 : decode cX7_ones 14 = .ok (.isub, 1) := by decide +kernel
theorem dX7_ones_15 : decode cX7_ones 15 = .ok (.iand, 1) := by decide +kernel
theorem dX7_ones_16 : decode cX7_ones 16 = .ok (.istore_n 2, 1) := by decide +kernel
theorem dX7_ones_17 : decode cX7_ones 17 = .ok (.goto (-13), 3) := by decide +kernel
theorem dX7_ones_20 : decode cX7_ones 20 = .ok (.iload_n 1, 1) := by decide +kernel
theorem dX7_ones_21 : decode cX7_ones 21 = .ok (.ireturn, 1) := by decide +kernel
theorem dX7_takeFirst_0 : decode cX7_takeFirst 0 = .ok (.aload_n 0, 1) := by decide +kernel
theorem dX7_takeFirst_1 : decode cX7_takeFirst 1 = .ok (.iconst 0, 1) := by decide +kernel
theorem dX7_takeFirst_2 : decode cX7_takeFirst 2 = .ok (.iconst 0, 1) := by decide +kernel
theorem dX7_takeFirst_3 : decode cX7_takeFirst 3 = .ok (.iastore, 1) := by decide +kernel
theorem dX7_takeFirst_4 : decode cX7_takeFirst 4 = .ok (.aload_n 0, 1) := by decide +kernel
theorem dX7_takeFirst_5 : decode cX7_takeFirst 5 = .ok (.bipush 7, 2) := by decide +kernel
theorem dX7_takeFirst_7 : decode cX7_takeFirst 7 = .ok (.iconst 0, 1) := by decide +kernel
theorem dX7_takeFirst_8 : decode cX7_takeFirst 8 = .ok (.iastore, 1) := by decide +kernel
theorem dX7_takeFirst_9 : decode cX7_takeFirst 9 = .ok (.aload_n 0, 1) := by decide +kernel
theorem dX7_takeFirst_10 : decode cX7_takeFirst 10 = .ok (.bipush 20, 2) := by decide +kernel
theorem dX7_takeFirst_12 : decode cX7_takeFirst 12 = .ok (.iconst 0, 1) := by decide +kernel
theorem dX7_takeFirst_13 : decode cX7_takeFirst 13 = .ok (.iastore, 1) := by decide +kernel
theorem dX7_takeFirst_14 : decode cX7_takeFirst 14 = .ok (.aload_n 0, 1) := by decide +kernel
theorem dX7_takeFirst_15 : decode cX7_takeFirst 15 = .ok (.bipush 25, 2) := by decide +kernel
theorem dX7_takeFirst_17 : decode cX7_takeFirst 17 = .ok (.bipush 12, 2) := by decide +kernel
theorem dX7_takeFirst_19 : decode cX7_takeFirst 19 = .ok (.iastore, 1) := by decide +kernel
theorem dX7_takeFirst_20 : decode cX7_takeFirst 20 = .ok (.aload_n 0, 1) := by decide +kernel
theorem dX7_takeFirst_21 : decode cX7_takeFirst 21 = .ok (.bipush 26, 2) := by decide +kernel
theorem dX7_takeFirst_23 : decode cX7_takeFirst 23 = .ok (.iconst 3, 1) := by decide +kernel
theorem dX7_takeFirst_24 : decode cX7_takeFirst 24 = .ok (.iastore, 1) := by decide +kernel
theorem dX7_takeFirst_25 : decode cX7_takeFirst 25 = .ok (.aload_n 0, 1) := by decide +kernel
theorem dX7_takeFirst_26 : decode cX7_takeFirst 26 = .ok (.bipush 27, 2) := by decide +kernel
theorem dX7_takeFirst_28 : decode cX7_takeFirst 28 = .ok (.iconst 4, 1) := by decide +kernel
theorem dX7_takeFirst_29 : decode cX7_takeFirst 29 = .ok (.iastore, 1) := by decide +kernel
theorem dX7_takeFirst_30 : decode cX7_takeFirst 30 = .ok (.aload_n 0, 1) := by decide +kernel
theorem dX7_takeFirst_31 : decode cX7_takeFirst 31 = .ok (.bipush 28, 2) := by decide +kernel
theorem dX7_takeFirst_33 : decode cX7_takeFirst 33 = .ok (.iconst 2, 1) := by decide +kernel
theorem dX7_takeFirst_34 : decode cX7_takeFirst 34 = .ok (.iastore, 1) := by decide +kernel
theorem dX7_takeFirst_35 : decode cX7_takeFirst 35 = .ok (.return_, 1) := by decide +kernel
theorem dX7_isMan_0 : decode cX7_isMan 0 = .ok (.iload_n 1, 1) := by decide +kernel
theorem dX7_isMan_1 : decode cX7_isMan 1 = .ok (.i2l, 1) := by decide +kernel
theorem dX7_isMan_2 : decode cX7_isMan 2 = .ok (.lconst 0, 1) := by decide +kernel
theorem dX7_isMan_3 : decode cX7_isMan 3 = .ok (.aload_n 0, 1) := by decide +kernel
theorem dX7_isMan_4 : decode cX7_isMan 4 = .ok (.getfield 7, 3) := by decide +kernel
theorem dX7_isMan_7 : decode cX7_isMan 7 = .ok (.iconst 0, 1) := by decide +kernel
theorem dX7_isMan_8 : decode cX7_isMan 8 = .ok (.iaload, 1) := by decide +kernel
theorem dX7_isMan_9 : decode cX7_isMan 9 = .ok (.iconst 1, 1) := by decide +kernel
theorem dX7_isMan_10 : decode cX7_isMan 10 = .ok (.isub, 1) := by decide +kernel
theorem dX7_isMan_11 : decode cX7_isMan 11 = .ok (.i2l, 1) := by decide +kernel
theorem dX7_isMan_12 : decode cX7_isMan 12 = .ok (.invokestatic 45, 3) := by decide +kernel
theorem dX7_isMan_15 : decode cX7_isMan 15 = .ok (.ireturn, 1) := by decide +kernel
theorem dX7_isSheep_0 : decode cX7_isSheep 0 = .ok (.iload_n 1, 1) := by decide +kernel
theorem dX7_isSheep_1 : decode cX7_isSheep 1 = .ok (.i2l, 1) := by decide +kernel
theorem dX7_isSheep_2 : decode cX7_isSheep 2 = .ok (.lconst 0, 1) := by decide +kernel
theorem dX7_isSheep_3 : decode cX7_isSheep 3 = .ok (.aload_n 0, 1) := by decide +kernel
theorem dX7_isSheep_4 : decode cX7_isSheep 4 = .ok (.getfield 7, 3) := by decide +kernel
theorem dX7_isSheep_7 : decode cX7_isSheep 7 = .ok (.bipush 7, 2) := by decide +kernel
theorem dX7_isSheep_9 : decode cX7_isSheep 9 = .ok (.iaload, 1) := by decide +kernel
theorem dX7_isSheep_10 : decode cX7_isSheep 10 = .ok (.iconst 1, 1) := by decide +kernel
theorem dX7_isSheep_11 : decode cX7_isSheep 11 = .ok (.isub, 1) := by decide +kernel
theorem dX7_isSheep_12 : decode cX7_isSheep 12 = .ok (.i2l, 1) := by decide +kernel
theorem dX7_isSheep_13 : decode cX7_isSheep 13 = .ok (.invokestatic 45, 3) := by decide +kernel
theorem dX7_isSheep_16 : decode cX7_isSheep 16 = .ok (.ireturn, 1) := by decide +kernel
theorem dX7_isWhat_0 : decode cX7_isWhat 0 = .ok (.iload_n 0, 1) := by decide +kernel
theorem dX7_isWhat_1 : decode cX7_isWhat 1 = .ok (.i2l, 1) := by decide +kernel
theorem dX7_isWhat_2 : decode cX7_isWhat 2 = .ok (.lconst 0, 1) := by decide +kernel
theorem dX7_isWhat_3 : decode cX7_isWhat 3 = .ok (.lconst 1, 1) := by decide +kernel
theorem dX7_isWhat_4 : decode cX7_isWhat 4 = .ok (.invokestatic 45, 3) := by decide +kernel
theorem dX7_isWhat_7 : decode cX7_isWhat 7 = .ok (.ireturn, 1) := by decide +kernel
theorem dX7_write_0 : decode cX7_write 0 = .ok (.iload_n 1, 1) := by decide +kernel
theorem dX7_write_1 : decode cX7_write 1 = .ok (.i2l, 1) := by decide +kernel
theorem dX7_write_2 : decode cX7_write 2 = .ok (.lconst 0, 1) := by decide +kernel
theorem dX7_write_3 : decode cX7_write 3 = .ok (.ldc2_w 49, 3) := by decide +kernel
theorem dX7_write_6 : decode cX7_write 6 = .ok (.invokestatic 45, 3) := by decide +kernel
theorem dX7_write_9 : decode cX7_write 9 = .ok (.ifCond .ne 6, 3) := by decide +kernel
theorem dX7_write_12 : decode cX7_write 12 = .ok (.bipush (-3), 2) := by decide +kernel
theorem dX7_write_14 : decode cX7_write 14 = .ok (.ireturn, 1) := by decide +kernel
theorem dX7_write_15 : decode cX7_write 15 = .ok (.aload_n 0, 1) := by decide +kernel
theorem dX7_write_16 : decode cX7_write 16 = .ok (.getfield 51, 3) := by decide +kernel
theorem dX7_write_19 : decode cX7_write 19 = .ok (.sipush 160, 3) := by decide +kernel
theorem dX7_write_22 : decode cX7_write 22 = .ok (.if_icmp .ne 6, 3) := by decide +kernel
theorem dX7_write_25 : decode cX7_write 25 = .ok (.bipush (-5), 2) := by decide +kernel
theorem dX7_write_27 : decode cX7_write 27 = .ok (.ireturn, 1) := by decide +kernel
theorem dX7_write_28 : decode cX7_write 28 = .ok (.aload_n 0, 1) := by decide +kernel
theorem dX7_write_29 : decode cX7_write 29 = .ok (.getfield 16, 3) := by decide +kernel
theorem dX7_write_32 : decode cX7_write 32 = .ok (.aload_n 0, 1) := by decide +kernel
theorem dX7_write_33 : decode cX7_write 33 = .ok (.getfield 51, 3) := by decide +kernel
theorem dX7_write_36 : decode cX7_write 36 = .ok (.iload_n 1, 1) := by decide +kernel
theorem dX7_write_37 : decode cX7_write 37 = .ok (.iastore, 1) := by decide +kernel
theorem dX7_write_38 : decode cX7_write 38 = .ok (.aload_n 0, 1) := by decide +kernel
theorem dX7_write_39 : decode cX7_write 39 = .ok (.dup, 1) := by decide +kernel
theorem dX7_write_40 : decode cX7_write 40 = .ok (.getfield 51, 3) := by decide +kernel
theorem dX7_write_43 : decode cX7_write 43 = .ok (.iconst 1, 1) := by decide +kernel
theorem dX7_write_44 : decode cX7_write 44 = .ok (.iadd, 1) := by decide +kernel
theorem dX7_write_45 : decode cX7_write 45 = .ok (.putfield 51, 3) := by decide +kernel
theorem dX7_write_48 : decode cX7_write 48 = .ok (.aload_n 0, 1) := by decide +kernel
theorem dX7_write_49 : decode cX7_write 49 = .ok (.getfield 51, 3) := by decide +kernel
theorem dX7_write_52 : decode cX7_write 52 = .ok (.ireturn, 1) := by decide +kernel
theorem dX7_erase_0 : decode cX7_erase 0 = .ok (.aload_n 0, 1) := by decide +kernel
theorem dX7_erase_1 : decode cX7_erase 1 = .ok (.getfield 51, 3) := by decide +kernel
theorem dX7_erase_4 : decode cX7_erase 4 = .ok (.istore_n 1, 1) := by decide +kernel
theorem dX7_erase_5 : decode cX7_erase 5 = .ok (.aload_n 0, 1) := by decide +kernel
theorem dX7_erase_6 : decode cX7_erase 6 = .ok (.iconst 0, 1) := by decide +kernel
theorem dX7_erase_7 : decode cX7_erase 7 = .ok (.putfield 51, 3) := by decide +kernel
theorem dX7_erase_10 : decode cX7_erase 10 = .ok (.iload_n 1, 1) := by decide +kernel
theorem dX7_erase_11 : decode cX7_erase 11 = .ok (.ireturn, 1) := by decide +kernel
theorem dX7_letterAt_0 : decode cX7_letterAt 0 = .ok (.iload_n 1, 1) := by decide +kernel
theorem dX7_letterAt_1 : decode cX7_letterAt 1 = .ok (.aload_n 0, 1) := by decide +kernel
theorem dX7_letterAt_2 : decode cX7_letterAt 2 = .ok (.getfield 51, 3) := by decide +kernel
theorem dX7_letterAt_5 : decode cX7_letterAt 5 = .ok (.if_icmp .ge 12, 3) := by decide +kernel
theorem dX7_letterAt_8 : decode cX7_letterAt 8 = .ok (.aload_n 0, 1) := by decide +kernel
theorem dX7_letterAt_9 : decode cX7_letterAt 9 = .ok (.getfield 16, 3) := by decide +kernel
theorem dX7_letterAt_12 : decode cX7_letterAt 12 = .ok (.iload_n 1, 1) := by decide +kernel
theorem dX7_letterAt_13 : decode cX7_letterAt 13 = .ok (.iaload, 1) := by decide +kernel
theorem dX7_letterAt_14 : decode cX7_letterAt 14 = .ok (.goto 4, 3) := by decide +kernel
theorem dX7_letterAt_17 : decode cX7_letterAt 17 = .ok (.iconst 0, 1) := by decide +kernel
theorem dX7_letterAt_18 : decode cX7_letterAt 18 = .ok (.ireturn, 1) := by decide +kernel
theorem dX7_nextToken_0 : decode cX7_nextToken 0 = .ok (.aload_n 0, 1) := by decide +kernel
theorem dX7_nextToken_1 : decode cX7_nextToken 1 = .ok (.aload_n 0, 1) := by decide +kernel
theorem dX7_nextToken_2 : decode cX7_nextToken 2 = .ok (.getfield 55, 3) := by decide +kernel
theorem dX7_nextToken_5 : decode cX7_nextToken 5 = .ok (.invokevirtual 58, 3) := by decide +kernel
theorem dX7_nextToken_8 : decode cX7_nextToken 8 = .ok (.bipush 32, 2) := by decide +kernel
theorem dX7_nextToken_10 : decode cX7_nextToken 10 = .ok (.if_icmp .ne 16, 3) := by decide +kernel
theorem dX7_nextToken_13 : decode cX7_nextToken 13 = .ok (.aload_n 0, 1) := by decide +kernel
theorem dX7_nextToken_14 : decode cX7_nextToken 14 = .ok (.dup, 1) := by decide +kernel
theorem dX7_nextToken_15 : decode cX7_nextToken 15 = .ok (.getfield 55, 3) := by decide +kernel
theorem dX7_nextToken_18 : decode cX7_nextToken 18 = .ok (.iconst 1, 1) := by decide +kernel
theorem dX7_nextToken_19 : decode cX7_nextToken 19 = .ok (.iadd, 1) := by decide +kernel
theorem dX7_nextToken_20 : decode cX7_nextToken 20 = .ok (.putfield 55, 3) := by decide +kernel
theorem dX7_nextToken_23 : decode cX7_nextToken 23 = .ok (.goto (-23), 3) := by decide +kernel
theorem dX7_nextToken_26 : decode cX7_nextToken 26 = .ok (.aload_n 0, 1) := by decide +kernel
theorem dX7_nextToken_27 : decode cX7_nextToken 27 = .ok (.aload_n 0, 1) := by decide +kernel
theorem dX7_nextToken_28 : decode cX7_nextToken 28 = .ok (.getfield 55, 3) := by decide +kernel
theorem dX7_nextToken_31 : decode cX7_nextToken 31 = .ok (.putfield 62, 3) := by decide +kernel
theorem dX7_nextToken_34 : decode cX7_nextToken 34 = .ok (.aload_n 0, 1) := by decide +kernel
theorem dX7_nextToken_35 : decode cX7_nextToken 35 = .ok (.iconst 0, 1) := by decide +kernel
theorem dX7_nextToken_36 : decode cX7_nextToken 36 = .ok (.putfield 65, 3) := by decide +kernel
theorem dX7_nextToken_39 : decode cX7_nextToken 39 = .ok (.aload_n 0, 1) := by decide +kernel
theorem dX7_nextToken_40 : decode cX7_nextToken 40 = .ok (.aload_n 0, 1) := by decide +kernel
theorem dX7_nextToken_41 : decode cX7_nextToken 41 = .ok (.getfield 55, 3) := by decide +kernel
theorem dX7_nextToken_44 : decode cX7_nextToken 44 = .ok (.aload_n 0, 1) := by decide +kernel
theorem dX7_nextToken_45 : decode cX7_nextToken 45 = .ok (.getfield 51, 3) := by decide +kernel
theorem dX7_nextToken_48 : decode cX7_nextToken 48 = .ok (.if_icmp .ne 7, 3) := by decide +kernel
theorem dX7_nextToken_51 : decode cX7_nextToken 51 = .ok (.iconst 3, 1) := by decide +kernel
theorem dX7_nextToken_52 : decode cX7_nextToken 52 = .ok (.goto 4, 3) := by decide +kernel
theorem dX7_nextToken_55 : decode cX7_nextToken 55 = .ok (.iconst 0, 1) := by decide +kernel
theorem dX7_nextToken_56 : decode cX7_nextToken 56 = .ok (.putfield 68, 3) := by decide +kernel
theorem dX7_nextToken_59 : decode cX7_nextToken 59 = .ok (.aload_n 0, 1) := by decide +kernel
theorem dX7_nextToken_60 : decode cX7_nextToken 60 = .ok (.getfield 68, 3) := by decide +kernel
theorem dX7_nextToken_63 : decode cX7_nextToken 63 = .ok (.iconst 2, 1) := by decide +kernel
theorem dX7_nextToken_64 : decode cX7_nextToken 64 = .ok (.if_icmp .ge 42, 3) := by decide +kernel
theorem dX7_nextToken_67 : decode cX7_nextToken 67 = .ok (.aload_n 0, 1) := by decide +kernel
theorem dX7_nextToken_68 : decode cX7_nextToken 68 = .ok (.aload_n 0, 1) := by decide +kernel
theorem dX7_nextToken_69 : decode cX7_nextToken 69 = .ok (.getfield 55, 3) := by decide +kernel
theorem dX7_nextToken_72 : decode cX7_nextToken 72 = .ok (.invokevirtual 58, 3) := by decide +kernel
theorem dX7_nextToken_75 : decode cX7_nextToken 75 = .ok (.i2l, 1) := by decide +kernel
theorem dX7_nextToken_76 : decode cX7_nextToken 76 = .ok (.ldc2_w 71, 3) := by decide +kernel
theorem dX7_nextToken_79 : decode cX7_nextToken 79 = .ok (.ldc2_w 73, 3) := by decide +kernel
theorem dX7_nextToken_82 : decode cX7_nextToken 82 = .ok (.invokestatic 45, 3) := by decide +kernel
theorem dX7_nextToken_85 : decode cX7_nextToken 85 = .ok (.ifCond .eq 21, 3) := by decide +kernel
theorem dX7_nextToken_88 : decode cX7_nextToken 88 = .ok (.aload_n 0, 1) := by decide +kernel
theorem dX7_nextToken_89 : decode cX7_nextToken 89 = .ok (.iconst 1, 1) := by decide +kernel
theorem dX7_nextToken_90 : decode cX7_nextToken 90 = .ok (.putfield 68, 3) := by decide +kernel
theorem dX7_nextToken_93 : decode cX7_nextToken 93 = .ok (.aload_n 0, 1) := by decide +kernel
theorem dX7_nextToken_94 : decode cX7_nextToken 94 = .ok (.dup, 1) := by decide +kernel
theorem dX7_nextToken_95 : decode cX7_nextToken 95 = .ok (.getfield 55, 3) := by decide +kernel
theorem dX7_nextToken_98 : decode cX7_nextToken 98 = .ok (.iconst 1, 1) := by decide +kernel
theorem dX7_nextToken_99 : decode cX7_nextToken 99 = .ok (.iadd, 1) := by decide +kernel
theorem dX7_nextToken_100 : decode cX7_nextToken 100 = .ok (.putfield 55, 3) := by decide +kernel
theorem dX7_nextToken_103 : decode cX7_nextToken 103 = .ok (.goto (-44), 3) := by decide +kernel
theorem dX7_nextToken_106 : decode cX7_nextToken 106 = .ok (.aload_n 0, 1) := by decide +kernel
theorem dX7_nextToken_107 : decode cX7_nextToken 107 = .ok (.getfield 68, 3) := by decide +kernel
theorem dX7_nextToken_110 : decode cX7_nextToken 110 = .ok (.iconst 1, 1) := by decide +kernel
theorem dX7_nextToken_111 : decode cX7_nextToken 111 = .ok (.if_icmp .eq 83, 3) := by decide +kernel
theorem dX7_nextToken_114 : decode cX7_nextToken 114 = .ok (.aload_n 0, 1) := by decide +kernel
theorem dX7_nextToken_115 : decode cX7_nextToken 115 = .ok (.aload_n 0, 1) := by decide +kernel
theorem dX7_nextToken_116 : decode cX7_nextToken 116 = .ok (.getfield 55, 3) := by decide +kernel
theorem dX7_nextToken_119 : decode cX7_nextToken 119 = .ok (.invokevirtual 58, 3) := by decide +kernel
theorem dX7_nextToken_122 : decode cX7_nextToken 122 = .ok (.i2l, 1) := by decide +kernel
theorem dX7_nextToken_123 : decode cX7_nextToken 123 = .ok (.ldc2_w 75, 3) := by decide +kernel
theorem dX7_nextToken_126 : decode cX7_nextToken 126 = .ok (.ldc2_w 77, 3) := by decide +kernel
theorem dX7_nextToken_129 : decode cX7_nextToken 129 = .ok (.invokestatic 45, 3) := by decide +kernel
theorem dX7_nextToken_132 : decode cX7_nextToken 132 = .ok (.ifCond .eq 62, 3) := by decide +kernel
theorem dX7_nextToken_135 : decode cX7_nextToken 135 = .ok (.aload_n 0, 1) := by decide +kernel
theorem dX7_nextToken_136 : decode cX7_nextToken 136 = .ok (.aload_n 0, 1) := by decide +kernel
theorem dX7_nextToken_137 : decode cX7_nextToken 137 = .ok (.getfield 65, 3) := by decide +kernel
theorem dX7_nextToken_140 : decode cX7_nextToken 140 = .ok (.sipush 999, 3) := by decide +kernel
theorem dX7_nextToken_143 : decode cX7_nextToken 143 = .ok (.if_icmp .le 10, 3) := by decide +kernel
theorem dX7_nextToken_146 : decode cX7_nextToken 146 = .ok (.aload_n 0, 1) := by decide +kernel
theorem dX7_nextToken_147 : decode cX7_nextToken 147 = .ok (.getfield 65, 3) := by decide +kernel
theorem dX7_nextToken_150 : decode cX7_nextToken 150 = .ok (.goto 23, 3) := by decide +kernel
theorem dX7_nextToken_153 : decode cX7_nextToken 153 = .ok (.bipush 10, 2) := by decide +kernel
theorem dX7_nextToken_155 : decode cX7_nextToken 155 = .ok (.aload_n 0, 1) := by decide +kernel
theorem dX7_nextToken_156 : decode cX7_nextToken 156 = .ok (.getfield 65, 3) := by decide +kernel
theorem dX7_nextToken_159 : decode cX7_nextToken 159 = .ok (.imul, 1) := by decide +kernel
theorem dX7_nextToken_160 : decode cX7_nextToken 160 = .ok (.aload_n 0, 1) := by decide +kernel
theorem dX7_nextToken_161 : decode cX7_nextToken 161 = .ok (.getfield 16, 3) := by decide +kernel
theorem dX7_nextToken_164 : decode cX7_nextToken 164 = .ok (.aload_n 0, 1) := by decide +kernel
theorem dX7_nextToken_165 : decode cX7_nextToken 165 = .ok (.getfield 55, 3) := by decide +kernel
theorem dX7_nextToken_168 : decode cX7_nextToken 168 = .ok (.iaload, 1) := by decide +kernel
theorem dX7_nextToken_169 : decode cX7_nextToken 169 = .ok (.iadd, 1) := by decide +kernel
theorem dX7_nextToken_170 : decode cX7_nextToken 170 = .ok (.bipush 48, 2) := by decide +kernel
theorem dX7_nextToken_172 : decode cX7_nextToken 172 = .ok (.isub, 1) := by decide +kernel
theorem dX7_nextToken_173 : decode cX7_nextToken 173 = .ok (.putfield 65, 3) := by decide +kernel
theorem dX7_nextToken_176 : decode cX7_nextToken 176 = .ok (.aload_n 0, 1) := by decide +kernel
theorem dX7_nextToken_177 : decode cX7_nextToken 177 = .ok (.iconst 2, 1) := by decide +kernel
theorem dX7_nextToken_178 : decode cX7_nextToken 178 = .ok (.putfield 68, 3) := by decide +kernel
theorem dX7_nextToken_181 : decode cX7_nextToken 181 = .ok (.aload_n 0, 1) := by decide +kernel
theorem dX7_nextToken_182 : decode cX7_nextToken 182 = .ok (.dup, 1) := by decide +kernel
theorem dX7_nextToken_183 : decode cX7_nextToken 183 = .ok (.getfield 55, 3) := by decide +kernel
theorem dX7_nextToken_186 : decode cX7_nextToken 186 = .ok (.iconst 1, 1) := by decide +kernel
theorem dX7_nextToken_187 : decode cX7_nextToken 187 = .ok (.iadd, 1) := by decide +kernel
theorem dX7_nextToken_188 : decode cX7_nextToken 188 = .ok (.putfield 55, 3) := by decide +kernel
theorem dX7_nextToken_191 : decode cX7_nextToken 191 = .ok (.goto (-85), 3) := by decide +kernel
theorem dX7_nextToken_194 : decode cX7_nextToken 194 = .ok (.aload_n 0, 1) := by decide +kernel
theorem dX7_nextToken_195 : decode cX7_nextToken 195 = .ok (.getfield 68, 3) := by decide +kernel
theorem dX7_nextToken_198 : decode cX7_nextToken 198 = .ok (.iconst 2, 1) := by decide +kernel
theorem dX7_nextToken_199 : decode cX7_nextToken 199 = .ok (.if_icmp .ne 23, 3) := by decide +kernel
theorem dX7_nextToken_202 : decode cX7_nextToken 202 = .ok (.aload_n 0, 1) := by decide +kernel
theorem dX7_nextToken_203 : decode cX7_nextToken 203 = .ok (.getfield 55, 3) := by decide +kernel
theorem dX7_nextToken_206 : decode cX7_nextToken 206 = .ok (.aload_n 0, 1) := by decide +kernel
theorem dX7_nextToken_207 : decode cX7_nextToken 207 = .ok (.getfield 62, 3) := by decide +kernel
theorem dX7_nextToken_210 : decode cX7_nextToken 210 = .ok (.isub, 1) := by decide +kernel
theorem dX7_nextToken_211 : decode cX7_nextToken 211 = .ok (.iconst 3, 1) := by decide +kernel
theorem dX7_nextToken_212 : decode cX7_nextToken 212 = .ok (.if_icmp .le 10, 3) := by decide +kernel
theorem dX7_nextToken_215 : decode cX7_nextToken 215 = .ok (.aload_n 0, 1) := by decide +kernel
theorem dX7_nextToken_216 : decode cX7_nextToken 216 = .ok (.sipush 9999, 3) := by decide +kernel
theorem dX7_nextToken_219 : decode cX7_nextToken 219 = .ok (.putfield 65, 3) := by decide +kernel
theorem dX7_nextToken_222 : decode cX7_nextToken 222 = .ok (.aload_n 0, 1) := by decide +kernel
theorem dX7_nextToken_223 : decode cX7_nextToken 223 = .ok (.getfield 68, 3) := by decide +kernel
theorem dX7_nextToken_226 : decode cX7_nextToken 226 = .ok (.ifCond .ne 26, 3) := by decide +kernel
theorem dX7_nextToken_229 : decode cX7_nextToken 229 = .ok (.aload_n 0, 1) := by decide +kernel
theorem dX7_nextToken_230 : decode cX7_nextToken 230 = .ok (.aload_n 0, 1) := by decide +kernel
theorem dX7_nextToken_231 : decode cX7_nextToken 231 = .ok (.getfield 16, 3) := by decide +kernel
theorem dX7_nextToken_234 : decode cX7_nextToken 234 = .ok (.aload_n 0, 1) := by decide +kernel
theorem dX7_nextToken_235 : decode cX7_nextToken 235 = .ok (.getfield 55, 3) := by decide +kernel
theorem dX7_nextToken_238 : decode cX7_nextToken 238 = .ok (.iaload, 1) := by decide +kernel
theorem dX7_nextToken_239 : decode cX7_nextToken 239 = .ok (.putfield 65, 3) := by decide +kernel
theorem dX7_nextToken_242 : decode cX7_nextToken 242 = .ok (.aload_n 0, 1) := by decide +kernel
theorem dX7_nextToken_243 : decode cX7_nextToken 243 = .ok (.dup, 1) := by decide +kernel
theorem dX7_nextToken_244 : decode cX7_nextToken 244 = .ok (.getfield 55, 3) := by decide +kernel
theorem dX7_nextToken_247 : decode cX7_nextToken 247 = .ok (.iconst 1, 1) := by decide +kernel
theorem dX7_nextToken_248 : decode cX7_nextToken 248 = .ok (.iadd, 1) := by decide +kernel
theorem dX7_nextToken_249 : decode cX7_nextToken 249 = .ok (.putfield 55, 3) := by decide +kernel
theorem dX7_nextToken_252 : decode cX7_nextToken 252 = .ok (.return_, 1) := by decide +kernel
theorem dX7_wordOf_0 : decode cX7_wordOf 0 = .ok (.lconst 0, 1) := by decide +kernel
theorem dX7_wordOf_1 : decode cX7_wordOf 1 = .ok (.lstore_n 1, 1) := by decide +kernel
theorem dX7_wordOf_2 : decode cX7_wordOf 2 = .ok (.aload_n 0, 1) := by decide +kernel
theorem dX7_wordOf_3 : decode cX7_wordOf 3 = .ok (.getfield 62, 3) := by decide +kernel
theorem dX7_wordOf_6 : decode cX7_wordOf 6 = .ok (.istore_n 3, 1) := by decide +kernel
theorem dX7_wordOf_7 : decode cX7_wordOf 7 = .ok (.iload_n 3, 1) := by decide +kernel
theorem dX7_wordOf_8 : decode cX7_wordOf 8 = .ok (.aload_n 0, 1) := by decide +kernel
theorem dX7_wordOf_9 : decode cX7_wordOf 9 = .ok (.getfield 55, 3) := by decide +kernel
theorem dX7_wordOf_12 : decode cX7_wordOf 12 = .ok (.if_icmp .ge 40, 3) := by decide +kernel
theorem dX7_wordOf_15 : decode cX7_wordOf 15 = .ok (.iload_n 3, 1) := by decide +kernel
theorem dX7_wordOf_16 : decode cX7_wordOf 16 = .ok (.aload_n 0, 1) := by decide +kernel
theorem dX7_wordOf_17 : decode cX7_wordOf 17 = .ok (.getfield 62, 3) := by decide +kernel
theorem dX7_wordOf_20 : decode cX7_wordOf 20 = .ok (.bipush 9, 2) := by decide +kernel
theorem dX7_wordOf_22 : decode cX7_wordOf 22 = .ok (.iadd, 1) := by decide +kernel
theorem dX7_wordOf_23 : decode cX7_wordOf 23 = .ok (.if_icmp .ge 29, 3) := by decide +kernel
theorem dX7_wordOf_26 : decode cX7_wordOf 26 = .ok (.ldc2_w 79, 3) := by decide +kernel
theorem dX7_wordOf_29 : decode cX7_wordOf 29 = .ok (.lload_n 1, 1) := by decide +kernel
theorem dX7_wordOf_30 : decode cX7_wordOf 30 = .ok (.lmul, 1) := by decide +kernel
theorem dX7_wordOf_31 : decode cX7_wordOf 31 = .ok (.aload_n 0, 1) := by decide +kernel
theorem dX7_wordOf_32 : decode cX7_wordOf 32 = .ok (.getfield 16, 3) := by decide +kernel
theorem dX7_wordOf_35 : decode cX7_wordOf 35 = .ok (.iload_n 3, 1) := by decide +kernel
theorem dX7_wordOf_36 : decode cX7_wordOf 36 = .ok (.iaload, 1) := by decide +kernel
theorem dX7_wordOf_37 : decode cX7_wordOf 37 = .ok (.i2l, 1) := by decide +kernel
theorem dX7_wordOf_38 : decode cX7_wordOf 38 = .ok (.ladd, 1) := by decide +kernel
theorem dX7_wordOf_39 : decode cX7_wordOf 39 = .ok (.ldc2_w 71, 3) := by decide +kernel
theorem dX7_wordOf_42 : decode cX7_wordOf 42 = .ok (.lsub, 1) := by decide +kernel
theorem dX7_wordOf_43 : decode cX7_wordOf 43 = .ok (.lconst 1, 1) := by decide +kernel
theorem dX7_wordOf_44 : decode cX7_wordOf 44 = .ok (.ladd, 1) := by decide +kernel
theorem dX7_wordOf_45 : decode cX7_wordOf 45 = .ok (.lstore_n 1, 1) := by decide +kernel
theorem dX7_wordOf_46 : decode cX7_wordOf 46 = .ok (.iinc 3 1, 3) := by decide +kernel
theorem dX7_wordOf_49 : decode cX7_wordOf 49 = .ok (.goto (-42), 3) := by decide +kernel
theorem dX7_wordOf_52 : decode cX7_wordOf 52 = .ok (.aload_n 0, 1) := by decide +kernel
theorem dX7_wordOf_53 : decode cX7_wordOf 53 = .ok (.getfield 68, 3) := by decide +kernel
theorem dX7_wordOf_56 : decode cX7_wordOf 56 = .ok (.iconst 1, 1) := by decide +kernel
theorem dX7_wordOf_57 : decode cX7_wordOf 57 = .ok (.if_icmp .ne 7, 3) := by decide +kernel
theorem dX7_wordOf_60 : decode cX7_wordOf 60 = .ok (.lload_n 1, 1) := by decide +kernel
theorem dX7_wordOf_61 : decode cX7_wordOf 61 = .ok (.goto 4, 3) := by decide +kernel
theorem dX7_wordOf_64 : decode cX7_wordOf 64 = .ok (.lconst 0, 1) := by decide +kernel
theorem dX7_wordOf_65 : decode cX7_wordOf 65 = .ok (.lreturn, 1) := by decide +kernel
theorem dX7_spelt_0 : decode cX7_spelt 0 = .ok (.lconst 0, 1) := by decide +kernel
theorem dX7_spelt_1 : decode cX7_spelt 1 = .ok (.lstore 7, 2) := by decide +kernel
theorem dX7_spelt_3 : decode cX7_spelt 3 = .ok (.lload 7, 2) := by decide +kernel
theorem dX7_spelt_5 : decode cX7_spelt 5 = .ok (.ldc2_w 79, 3) := by decide +kernel
theorem dX7_spelt_8 : decode cX7_spelt 8 = .ok (.lmul, 1) := by decide +kernel
theorem dX7_spelt_9 : decode cX7_spelt 9 = .ok (.iload_n 0, 1) := by decide +kernel
theorem dX7_spelt_10 : decode cX7_spelt 10 = .ok (.ifCond .ne 7, 3) := by decide +kernel
theorem dX7_spelt_13 : decode cX7_spelt 13 = .ok (.iconst 0, 1) := by decide +kernel
theorem dX7_spelt_14 : decode cX7_spelt 14 = .ok (.goto 9, 3) := by decide +kernel
theorem dX7_spelt_17 : decode cX7_spelt 17 = .ok (.iload_n 0, 1) := by decide +kernel
theorem dX7_spelt_18 : decode cX7_spelt 18 = .ok (.bipush 97, 2) := by decide +kernel
theorem dX7_spelt_20 : decode cX7_spelt 20 = .ok (.isub, 1) := by decide +kernel
theorem dX7_spelt_21 : decode cX7_spelt 21 = .ok (.iconst 1, 1) := by decide +kernel
theorem dX7_spelt_22 : decode cX7_spelt 22 = .ok (.iadd, 1) := by decide +kernel
theorem dX7_spelt_23 : decode cX7_spelt 23 = .ok (.i2l, 1) := by decide +kernel
theorem dX7_spelt_24 : decode cX7_spelt 24 = .ok (.ladd, 1) := by decide +kernel
theorem dX7_spelt_25 : decode cX7_spelt 25 = .ok (.lstore 7, 2) := by decide +kernel
theorem dX7_spelt_27 : decode cX7_spelt 27 = .ok (.iload_n 1, 1) := by decide +kernel
theorem dX7_spelt_28 : decode cX7_spelt 28 = .ok (.ifCond .ne 8, 3) := by decide +kernel
theorem dX7_spelt_31 : decode cX7_spelt 31 = .ok (.lload 7, 2) := by decide +kernel
theorem dX7_spelt_33 : decode cX7_spelt 33 = .ok (.goto 18, 3) := by decide +kernel
theorem dX7_spelt_36 : decode cX7_spelt 36 = .ok (.lload 7, 2) := by decide +kernel
theorem dX7_spelt_38 : decode cX7_spelt 38 = .ok (.ldc2_w 79, 3) := by decide +kernel
theorem dX7_spelt_41 : decode cX7_spelt 41 = .ok (.lmul, 1) := by decide +kernel
theorem dX7_spelt_42 : decode cX7_spelt 42 = .ok (.iload_n 1, 1) := by decide +kernel
theorem dX7_spelt_43 : decode cX7_spelt 43 = .ok (.i2l, 1) := by decide +kernel
theorem dX7_spelt_44 : decode cX7_spelt 44 = .ok (.ladd, 1) := by decide +kernel
theorem dX7_spelt_45 : decode cX7_spelt 45 = .ok (.ldc2_w 71, 3) := by decide +kernel
theorem dX7_spelt_48 : decode cX7_spelt 48 = .ok (.lsub, 1) := by decide +kernel
theorem dX7_spelt_49 : decode cX7_spelt 49 = .ok (.lconst 1, 1) := by decide +kernel
theorem dX7_spelt_50 : decode cX7_spelt 50 = .ok (.ladd, 1) := by decide +kernel
theorem dX7_spelt_51 : decode cX7_spelt 51 = .ok (.lstore 7, 2) := by decide +kernel
theorem dX7_spelt_53 : decode cX7_spelt 53 = .ok (.iload_n 2, 1) := by decide +kernel
theorem dX7_spelt_54 : decode cX7_spelt 54 = .ok (.ifCond .ne 8, 3) := by decide +kernel
theorem dX7_spelt_57 : decode cX7_spelt 57 = .ok (.lload 7, 2) := by decide +kernel
theorem dX7_spelt_59 : decode cX7_spelt 59 = .ok (.goto 18, 3) := by decide +kernel
theorem dX7_spelt_62 : decode cX7_spelt 62 = .ok (.lload 7, 2) := by decide +kernel
theorem dX7_spelt_64 : decode cX7_spelt 64 = .ok (.ldc2_w 79, 3) := by decide +kernel
theorem dX7_spelt_67 : decode cX7_spelt 67 = .ok (.lmul, 1) := by decide +kernel
theorem dX7_spelt_68 : decode cX7_spelt 68 = .ok (.iload_n 2, 1) := by decide +kernel
theorem dX7_spelt_69 : decode cX7_spelt 69 = .ok (.i2l, 1) := by decide +kernel
theorem dX7_spelt_70 : decode cX7_spelt 70 = .ok (.ladd, 1) := by decide +kernel
theorem dX7_spelt_71 : decode cX7_spelt 71 = .ok (.ldc2_w 71, 3) := by decide +kernel
theorem dX7_spelt_74 : decode cX7_spelt 74 = .ok (.lsub, 1) := by decide +kernel
theorem dX7_spelt_75 : decode cX7_spelt 75 = .ok (.lconst 1, 1) := by decide +kernel
theorem dX7_spelt_76 : decode cX7_spelt 76 = .ok (.ladd, 1) := by decide +kernel
theorem dX7_spelt_77 : decode cX7_spelt 77 = .ok (.lstore 7, 2) := by decide +kernel
theorem dX7_spelt_79 : decode cX7_spelt 79 = .ok (.iload_n 3, 1) := by decide +kernel
theorem dX7_spelt_80 : decode cX7_spelt 80 = .ok (.ifCond .ne 8, 3) := by decide +kernel
theorem dX7_spelt_83 : decode cX7_spelt 83 = .ok (.lload 7, 2) := by decide +kernel
theorem dX7_spelt_85 : decode cX7_spelt 85 = .ok (.goto 18, 3) := by decide +kernel
theorem dX7_spelt_88 : decode cX7_spelt 88 = .ok (.lload 7, 2) := by decide +kernel
theorem dX7_spelt_90 : decode cX7_spelt 90 = .ok (.ldc2_w 79, 3) := by decide +kernel
theorem dX7_spelt_93 : decode cX7_spelt 93 = .ok (.lmul, 1) := by decide +kernel
theorem dX7_spelt_94 : decode cX7_spelt 94 = .ok (.iload_n 3, 1) := by decide +kernel
theorem dX7_spelt_95 : decode cX7_spelt 95 = .ok (.i2l, 1) := by decide +kernel
theorem dX7_spelt_96 : decode cX7_spelt 96 = .ok (.ladd, 1) := by decide +kernel
theorem dX7_spelt_97 : decode cX7_spelt 97 = .ok (.ldc2_w 71, 3) := by decide +kernel
theorem dX7_spelt_100 : decode cX7_spelt 100 = .ok (.lsub, 1) := by decide +kernel
theorem dX7_spelt_101 : decode cX7_spelt 101 = .ok (.lconst 1, 1) := by decide +kernel
theorem dX7_spelt_102 : decode cX7_spelt 102 = .ok (.ladd, 1) := by decide +kernel
theorem dX7_spelt_103 : decode cX7_spelt 103 = .ok (.lstore 7, 2) := by decide +kernel
theorem dX7_spelt_105 : decode cX7_spelt 105 = .ok (.iload 4, 2) := by decide +kernel
theorem dX7_spelt_107 : decode cX7_spelt 107 = .ok (.ifCond .ne 8, 3) := by decide +kernel
theorem dX7_spelt_110 : decode cX7_spelt 110 = .ok (.lload 7, 2) := by decide +kernel
theorem dX7_spelt_112 : decode cX7_spelt 112 = .ok (.goto 19, 3) := by decide +kernel
theorem dX7_spelt_115 : decode cX7_spelt 115 = .ok (.lload 7, 2) := by decide +kernel
theorem dX7_spelt_117 : decode cX7_spelt 117 = .ok (.ldc2_w 79, 3) := by decide +kernel
theorem dX7_spelt_120 : decode cX7_spelt 120 = .ok (.lmul, 1) := by decide +kernel
theorem dX7_spelt_121 : decode cX7_spelt 121 = .ok (.iload 4, 2) := by decide +kernel
theorem dX7_spelt_123 : decode cX7_spelt 123 = .ok (.i2l, 1) := by decide +kernel
theorem dX7_spelt_124 : decode cX7_spelt 124 = .ok (.ladd, 1) := by decide +kernel
theorem dX7_spelt_125 : decode cX7_spelt 125 = .ok (.ldc2_w 71, 3) := by decide +kernel
theorem dX7_spelt_128 : decode cX7_spelt 128 = .ok (.lsub, 1) := by decide +kernel
theorem dX7_spelt_129 : decode cX7_spelt 129 = .ok (.lconst 1, 1) := by decide +kernel
theorem dX7_spelt_130 : decode cX7_spelt 130 = .ok (.ladd, 1) := by decide +kernel
theorem dX7_spelt_131 : decode cX7_spelt 131 = .ok (.lstore 7, 2) := by decide +kernel
theorem dX7_spelt_133 : decode cX7_spelt 133 = .ok (.iload 5, 2) := by decide +kernel
theorem dX7_spelt_135 : decode cX7_spelt 135 = .ok (.ifCond .ne 8, 3) := by decide +kernel
theorem dX7_spelt_138 : decode cX7_spelt 138 = .ok (.lload 7, 2) := by decide +kernel
theorem dX7_spelt_140 : decode cX7_spelt 140 = .ok (.goto 19, 3) := by decide +kernel
theorem dX7_spelt_143 : decode cX7_spelt 143 = .ok (.lload 7, 2) := by decide +kernel
theorem dX7_spelt_145 : decode cX7_spelt 145 = .ok (.ldc2_w 79, 3) := by decide +kernel
theorem dX7_spelt_148 : decode cX7_spelt 148 = .ok (.lmul, 1) := by decide +kernel
theorem dX7_spelt_149 : decode cX7_spelt 149 = .ok (.iload 5, 2) := by decide +kernel
theorem dX7_spelt_151 : decode cX7_spelt 151 = .ok (.i2l, 1) := by decide +kernel
theorem dX7_spelt_152 : decode cX7_spelt 152 = .ok (.ladd, 1) := by decide +kernel
theorem dX7_spelt_153 : decode cX7_spelt 153 = .ok (.ldc2_w 71, 3) := by decide +kernel
theorem dX7_spelt_156 : decode cX7_spelt 156 = .ok (.lsub, 1) := by decide +kernel
theorem dX7_spelt_157 : decode cX7_spelt 157 = .ok (.lconst 1, 1) := by decide +kernel
theorem dX7_spelt_158 : decode cX7_spelt 158 = .ok (.ladd, 1) := by decide +kernel
theorem dX7_spelt_159 : decode cX7_spelt 159 = .ok (.lstore 7, 2) := by decide +kernel
theorem dX7_spelt_161 : decode cX7_spelt 161 = .ok (.iload 6, 2) := by decide +kernel
theorem dX7_spelt_163 : decode cX7_spelt 163 = .ok (.ifCond .ne 8, 3) := by decide +kernel
theorem dX7_spelt_166 : decode cX7_spelt 166 = .ok (.lload 7, 2) := by decide +kernel
theorem dX7_spelt_168 : decode cX7_spelt 168 = .ok (.goto 19, 3) := by decide +kernel
theorem dX7_spelt_171 : decode cX7_spelt 171 = .ok (.lload 7, 2) := by decide +kernel
theorem dX7_spelt_173 : decode cX7_spelt 173 = .ok (.ldc2_w 79, 3) := by decide +kernel
theorem dX7_spelt_176 : decode cX7_spelt 176 = .ok (.lmul, 1) := by decide +kernel
theorem dX7_spelt_177 : decode cX7_spelt 177 = .ok (.iload 6, 2) := by decide +kernel
theorem dX7_spelt_179 : decode cX7_spelt 179 = .ok (.i2l, 1) := by decide +kernel
theorem dX7_spelt_180 : decode cX7_spelt 180 = .ok (.ladd, 1) := by decide +kernel
theorem dX7_spelt_181 : decode cX7_spelt 181 = .ok (.ldc2_w 71, 3) := by decide +kernel
theorem dX7_spelt_184 : decode cX7_spelt 184 = .ok (.lsub, 1) := by decide +kernel
theorem dX7_spelt_185 : decode cX7_spelt 185 = .ok (.lconst 1, 1) := by decide +kernel
theorem dX7_spelt_186 : decode cX7_spelt 186 = .ok (.ladd, 1) := by decide +kernel
theorem dX7_spelt_187 : decode cX7_spelt 187 = .ok (.lreturn, 1) := by decide +kernel
theorem dX7_verb_0 : decode cX7_verb 0 = .ok (.aload_n 0, 1) := by decide +kernel
theorem dX7_verb_1 : decode cX7_verb 1 = .ok (.invokevirtual 81, 3) := by decide +kernel
theorem dX7_verb_4 : decode cX7_verb 4 = .ok (.lstore_n 1, 1) := by decide +kernel
theorem dX7_verb_5 : decode cX7_verb 5 = .ok (.lload_n 1, 1) := by decide +kernel
theorem dX7_verb_6 : decode cX7_verb 6 = .ok (.bipush 119, 2) := by decide +kernel
theorem dX7_verb_8 : decode cX7_verb 8 = .ok (.bipush 111, 2) := by decide +kernel
theorem dX7_verb_10 : decode cX7_verb 10 = .ok (.bipush 111, 2) := by decide +kernel
theorem dX7_verb_12 : decode cX7_verb 12 = .ok (.bipush 108, 2) := by decide +kernel
theorem dX7_verb_14 : decode cX7_verb 14 = .ok (.bipush 108, 2) := by decide +kernel
theorem dX7_verb_16 : decode cX7_verb 16 = .ok (.bipush 121, 2) := by decide +kernel
theorem dX7_verb_18 : decode cX7_verb 18 = .ok (.iconst 0, 1) := by decide +kernel
theorem dX7_verb_19 : decode cX7_verb 19 = .ok (.invokestatic 85, 3) := by decide +kernel
theorem dX7_verb_22 : decode cX7_verb 22 = .ok (.lcmp, 1) := by decide +kernel
theorem dX7_verb_23 : decode cX7_verb 23 = .ok (.ifCond .ne 5, 3) := by decide +kernel
theorem dX7_verb_26 : decode cX7_verb 26 = .ok (.iconst 0, 1) := by decide +kernel
theorem dX7_verb_27 : decode cX7_verb 27 = .ok (.ireturn, 1) := by decide +kernel
theorem dX7_verb_28 : decode cX7_verb 28 = .ok (.lload_n 1, 1) := by decide +kernel
theorem dX7_verb_29 : decode cX7_verb 29 = .ok (.bipush 114, 2) := by decide +kernel
theorem dX7_verb_31 : decode cX7_verb 31 = .ok (.bipush 97, 2) := by decide +kernel
theorem dX7_verb_33 : decode cX7_verb 33 = .ok (.bipush 109, 2) := by decide +kernel
theorem dX7_verb_35 : decode cX7_verb 35 = .ok (.iconst 0, 1) := by decide +kernel
theorem dX7_verb_36 : decode cX7_verb 36 = .ok (.iconst 0, 1) := by decide +kernel
theorem dX7_verb_37 : decode cX7_verb 37 = .ok (.iconst 0, 1) := by decide +kernel
theorem dX7_verb_38 : decode cX7_verb 38 = .ok (.iconst 0, 1) := by decide +kernel
theorem dX7_verb_39 : decode cX7_verb 39 = .ok (.invokestatic 85, 3) := by decide +kernel
theorem dX7_verb_42 : decode cX7_verb 42 = .ok (.lcmp, 1) := by decide +kernel
theorem dX7_verb_43 : decode cX7_verb 43 = .ok (.ifCond .ne 5, 3) := by decide +kernel
theorem dX7_verb_46 : decode cX7_verb 46 = .ok (.iconst 1, 1) := by decide +kernel
theorem dX7_verb_47 : decode cX7_verb 47 = .ok (.ireturn, 1) := by decide +kernel
theorem dX7_verb_48 : decode cX7_verb 48 = .ok (.lload_n 1, 1) := by decide +kernel
theorem dX7_verb_49 : decode cX7_verb 49 = .ok (.bipush 116, 2) := by decide +kernel
theorem dX7_verb_51 : decode cX7_verb 51 = .ok (.bipush 105, 2) := by decide +kernel
theorem dX7_verb_53 : decode cX7_verb 53 = .ok (.bipush 101, 2) := by decide +kernel
theorem dX7_verb_55 : decode cX7_verb 55 = .ok (.bipush 100, 2) := by decide +kernel
theorem dX7_verb_57 : decode cX7_verb 57 = .ok (.iconst 0, 1) := by decide +kernel
theorem dX7_verb_58 : decode cX7_verb 58 = .ok (.iconst 0, 1) := by decide +kernel
theorem dX7_verb_59 : decode cX7_verb 59 = .ok (.iconst 0, 1) := by decide +kernel
theorem dX7_verb_60 : decode cX7_verb 60 = .ok (.invokestatic 85, 3) := by decide +kernel
theorem dX7_verb_63 : decode cX7_verb 63 = .ok (.lcmp, 1) := by decide +kernel
theorem dX7_verb_64 : decode cX7_verb 64 = .ok (.ifCond .ne 5, 3) := by decide +kernel
theorem dX7_verb_67 : decode cX7_verb 67 = .ok (.iconst 2, 1) := by decide +kernel
theorem dX7_verb_68 : decode cX7_verb 68 = .ok (.ireturn, 1) := by decide +kernel
theorem dX7_verb_69 : decode cX7_verb 69 = .ok (.lload_n 1, 1) := by decide +kernel
theorem dX7_verb_70 : decode cX7_verb 70 = .ok (.bipush 98, 2) := by decide +kernel
theorem dX7_verb_72 : decode cX7_verb 72 = .ok (.bipush 101, 2) := by decide +kernel
theorem dX7_verb_74 : decode cX7_verb 74 = .ok (.bipush 108, 2) := by decide +kernel
theorem dX7_verb_76 : decode cX7_verb 76 = .ok (.bipush 108, 2) := by decide +kernel
theorem dX7_verb_78 : decode cX7_verb 78 = .ok (.iconst 0, 1) := by decide +kernel
theorem dX7_verb_79 : decode cX7_verb 79 = .ok (.iconst 0, 1) := by decide +kernel
theorem dX7_verb_80 : decode cX7_verb 80 = .ok (.iconst 0, 1) := by decide +kernel
theorem dX7_verb_81 : decode cX7_verb 81 = .ok (.invokestatic 85, 3) := by decide +kernel
theorem dX7_verb_84 : decode cX7_verb 84 = .ok (.lcmp, 1) := by decide +kernel
theorem dX7_verb_85 : decode cX7_verb 85 = .ok (.ifCond .ne 5, 3) := by decide +kernel
theorem dX7_verb_88 : decode cX7_verb 88 = .ok (.iconst 3, 1) := by decide +kernel
theorem dX7_verb_89 : decode cX7_verb 89 = .ok (.ireturn, 1) := by decide +kernel
theorem dX7_verb_90 : decode cX7_verb 90 = .ok (.lload_n 1, 1) := by decide +kernel
theorem dX7_verb_91 : decode cX7_verb 91 = .ok (.bipush 99, 2) := by decide +kernel
theorem dX7_verb_93 : decode cX7_verb 93 = .ok (.bipush 97, 2) := by decide +kernel
theorem dX7_verb_95 : decode cX7_verb 95 = .ok (.bipush 118, 2) := by decide +kernel
theorem dX7_verb_97 : decode cX7_verb 97 = .ok (.bipush 101, 2) := by decide +kernel
theorem dX7_verb_99 : decode cX7_verb 99 = .ok (.iconst 0, 1) := by decide +kernel
theorem dX7_verb_100 : decode cX7_verb 100 = .ok (.iconst 0, 1) := by decide +kernel
theorem dX7_verb_101 : decode cX7_verb 101 = .ok (.iconst 0, 1) := by decide +kernel
theorem dX7_verb_102 : decode cX7_verb 102 = .ok (.invokestatic 85, 3) := by decide +kernel
theorem dX7_verb_105 : decode cX7_verb 105 = .ok (.lcmp, 1) := by decide +kernel
theorem dX7_verb_106 : decode cX7_verb 106 = .ok (.ifCond .ne 5, 3) := by decide +kernel
theorem dX7_verb_109 : decode cX7_verb 109 = .ok (.iconst 4, 1) := by decide +kernel
theorem dX7_verb_110 : decode cX7_verb 110 = .ok (.ireturn, 1) := by decide +kernel
theorem dX7_verb_111 : decode cX7_verb 111 = .ok (.lload_n 1, 1) := by decide +kernel
theorem dX7_verb_112 : decode cX7_verb 112 = .ok (.bipush 109, 2) := by decide +kernel
theorem dX7_verb_114 : decode cX7_verb 114 = .ok (.bipush 97, 2) := by decide +kernel
theorem dX7_verb_116 : decode cX7_verb 116 = .ok (.bipush 110, 2) := by decide +kernel
theorem dX7_verb_118 : decode cX7_verb 118 = .ok (.iconst 0, 1) := by decide +kernel
theorem dX7_verb_119 : decode cX7_verb 119 = .ok (.iconst 0, 1) := by decide +kernel
theorem dX7_verb_120 : decode cX7_verb 120 = .ok (.iconst 0, 1) := by decide +kernel
theorem dX7_verb_121 : decode cX7_verb 121 = .ok (.iconst 0, 1) := by decide +kernel
theorem dX7_verb_122 : decode cX7_verb 122 = .ok (.invokestatic 85, 3) := by decide +kernel
theorem dX7_verb_125 : decode cX7_verb 125 = .ok (.lcmp, 1) := by decide +kernel
theorem dX7_verb_126 : decode cX7_verb 126 = .ok (.ifCond .ne 5, 3) := by decide +kernel
theorem dX7_verb_129 : decode cX7_verb 129 = .ok (.iconst 5, 1) := by decide +kernel
theorem dX7_verb_130 : decode cX7_verb 130 = .ok (.ireturn, 1) := by decide +kernel
theorem dX7_verb_131 : decode cX7_verb 131 = .ok (.lload_n 1, 1) := by decide +kernel
theorem dX7_verb_132 : decode cX7_verb 132 = .ok (.bipush 110, 2) := by decide +kernel
theorem dX7_verb_134 : decode cX7_verb 134 = .ok (.bipush 101, 2) := by decide +kernel
theorem dX7_verb_136 : decode cX7_verb 136 = .ok (.bipush 97, 2) := by decide +kernel
theorem dX7_verb_138 : decode cX7_verb 138 = .ok (.bipush 114, 2) := by decide +kernel
theorem dX7_verb_140 : decode cX7_verb 140 = .ok (.iconst 0, 1) := by decide +kernel
theorem dX7_verb_141 : decode cX7_verb 141 = .ok (.iconst 0, 1) := by decide +kernel
theorem dX7_verb_142 : decode cX7_verb 142 = .ok (.iconst 0, 1) := by decide +kernel
theorem dX7_verb_143 : decode cX7_verb 143 = .ok (.invokestatic 85, 3) := by decide +kernel
theorem dX7_verb_146 : decode cX7_verb 146 = .ok (.lcmp, 1) := by decide +kernel
theorem dX7_verb_147 : decode cX7_verb 147 = .ok (.ifCond .ne 6, 3) := by decide +kernel
theorem dX7_verb_150 : decode cX7_verb 150 = .ok (.bipush 6, 2) := by decide +kernel
theorem dX7_verb_152 : decode cX7_verb 152 = .ok (.ireturn, 1) := by decide +kernel
theorem dX7_verb_153 : decode cX7_verb 153 = .ok (.lload_n 1, 1) := by decide +kernel
theorem dX7_verb_154 : decode cX7_verb 154 = .ok (.bipush 119, 2) := by decide +kernel
theorem dX7_verb_156 : decode cX7_verb 156 = .ok (.bipush 105, 2) := by decide +kernel
theorem dX7_verb_158 : decode cX7_verb 158 = .ok (.bipush 110, 2) := by decide +kernel
theorem dX7_verb_160 : decode cX7_verb 160 = .ok (.bipush 101, 2) := by decide +kernel
theorem dX7_verb_162 : decode cX7_verb 162 = .ok (.iconst 0, 1) := by decide +kernel
theorem dX7_verb_163 : decode cX7_verb 163 = .ok (.iconst 0, 1) := by decide +kernel
theorem dX7_verb_164 : decode cX7_verb 164 = .ok (.iconst 0, 1) := by decide +kernel
theorem dX7_verb_165 : decode cX7_verb 165 = .ok (.invokestatic 85, 3) := by decide +kernel
theorem dX7_verb_168 : decode cX7_verb 168 = .ok (.lcmp, 1) := by decide +kernel
theorem dX7_verb_169 : decode cX7_verb 169 = .ok (.ifCond .ne 6, 3) := by decide +kernel
theorem dX7_verb_172 : decode cX7_verb 172 = .ok (.bipush 7, 2) := by decide +kernel
theorem dX7_verb_174 : decode cX7_verb 174 = .ok (.ireturn, 1) := by decide +kernel
theorem dX7_verb_175 : decode cX7_verb 175 = .ok (.lload_n 1, 1) := by decide +kernel
theorem dX7_verb_176 : decode cX7_verb 176 = .ok (.bipush 115, 2) := by decide +kernel
theorem dX7_verb_178 : decode cX7_verb 178 = .ok (.bipush 108, 2) := by decide +kernel
theorem dX7_verb_180 : decode cX7_verb 180 = .ok (.bipush 101, 2) := by decide +kernel
theorem dX7_verb_182 : decode cX7_verb 182 = .ok (.bipush 101, 2) := by decide +kernel
theorem dX7_verb_184 : decode cX7_verb 184 = .ok (.bipush 112, 2) := by decide +kernel
theorem dX7_verb_186 : decode cX7_verb 186 = .ok (.iconst 0, 1) := by decide +kernel
theorem dX7_verb_187 : decode cX7_verb 187 = .ok (.iconst 0, 1) := by decide +kernel
theorem dX7_verb_188 : decode cX7_verb 188 = .ok (.invokestatic 85, 3) := by decide +kernel
theorem dX7_verb_191 : decode cX7_verb 191 = .ok (.lcmp, 1) := by decide +kernel
theorem dX7_verb_192 : decode cX7_verb 192 = .ok (.ifCond .ne 6, 3) := by decide +kernel
theorem dX7_verb_195 : decode cX7_verb 195 = .ok (.bipush 8, 2) := by decide +kernel
theorem dX7_verb_197 : decode cX7_verb 197 = .ok (.ireturn, 1) := by decide +kernel
theorem dX7_verb_198 : decode cX7_verb 198 = .ok (.lload_n 1, 1) := by decide +kernel
theorem dX7_verb_199 : decode cX7_verb 199 = .ok (.bipush 104, 2) := by decide +kernel
theorem dX7_verb_201 : decode cX7_verb 201 = .ok (.bipush 97, 2) := by decide +kernel
theorem dX7_verb_203 : decode cX7_verb 203 = .ok (.bipush 114, 2) := by decide +kernel
theorem dX7_verb_205 : decode cX7_verb 205 = .ok (.bipush 100, 2) := by decide +kernel
theorem dX7_verb_207 : decode cX7_verb 207 = .ok (.iconst 0, 1) := by decide +kernel
theorem dX7_verb_208 : decode cX7_verb 208 = .ok (.iconst 0, 1) := by decide +kernel
theorem dX7_verb_209 : decode cX7_verb 209 = .ok (.iconst 0, 1) := by decide +kernel
theorem dX7_verb_210 : decode cX7_verb 210 = .ok (.invokestatic 85, 3) := by decide +kernel
theorem dX7_verb_213 : decode cX7_verb 213 = .ok (.lcmp, 1) := by decide +kernel
theorem dX7_verb_214 : decode cX7_verb 214 = .ok (.ifCond .ne 8, 3) := by decide +kernel
theorem dX7_verb_217 : decode cX7_verb 217 = .ok (.bipush 9, 2) := by decide +kernel
theorem dX7_verb_219 : decode cX7_verb 219 = .ok (.goto 28, 3) := by decide +kernel
theorem dX7_verb_222 : decode cX7_verb 222 = .ok (.lload_n 1, 1) := by decide +kernel
theorem dX7_verb_223 : decode cX7_verb 223 = .ok (.bipush 101, 2) := by decide +kernel
theorem dX7_verb_225 : decode cX7_verb 225 = .ok (.bipush 97, 2) := by decide +kernel
theorem dX7_verb_227 : decode cX7_verb 227 = .ok (.bipush 116, 2) := by decide +kernel
theorem dX7_verb_229 : decode cX7_verb 229 = .ok (.bipush 115, 2) := by decide +kernel
theorem dX7_verb_231 : decode cX7_verb 231 = .ok (.iconst 0, 1) := by decide +kernel
theorem dX7_verb_232 : decode cX7_verb 232 = .ok (.iconst 0, 1) := by decide +kernel
theorem dX7_verb_233 : decode cX7_verb 233 = .ok (.iconst 0, 1) := by decide +kernel
theorem dX7_verb_234 : decode cX7_verb 234 = .ok (.invokestatic 85, 3) := by decide +kernel
theorem dX7_verb_237 : decode cX7_verb 237 = .ok (.lcmp, 1) := by decide +kernel
theorem dX7_verb_238 : decode cX7_verb 238 = .ok (.ifCond .ne 8, 3) := by decide +kernel
theorem dX7_verb_241 : decode cX7_verb 241 = .ok (.bipush 10, 2) := by decide +kernel
theorem dX7_verb_243 : decode cX7_verb 243 = .ok (.goto 4, 3) := by decide +kernel
theorem dX7_verb_246 : decode cX7_verb 246 = .ok (.iconst (-1), 1) := by decide +kernel
theorem dX7_verb_247 : decode cX7_verb 247 = .ok (.ireturn, 1) := by decide +kernel
theorem dX7_number_0 : decode cX7_number 0 = .ok (.aload_n 0, 1) := by decide +kernel
theorem dX7_number_1 : decode cX7_number 1 = .ok (.invokevirtual 89, 3) := by decide +kernel
theorem dX7_number_4 : decode cX7_number 4 = .ok (.aload_n 0, 1) := by decide +kernel
theorem dX7_number_5 : decode cX7_number 5 = .ok (.getfield 68, 3) := by decide +kernel
theorem dX7_number_8 : decode cX7_number 8 = .ok (.iconst 2, 1) := by decide +kernel
theorem dX7_number_9 : decode cX7_number 9 = .ok (.if_icmp .ne 25, 3) := by decide +kernel
theorem dX7_number_12 : decode cX7_number 12 = .ok (.aload_n 0, 1) := by decide +kernel
theorem dX7_number_13 : decode cX7_number 13 = .ok (.getfield 65, 3) := by decide +kernel
theorem dX7_number_16 : decode cX7_number 16 = .ok (.i2l, 1) := by decide +kernel
theorem dX7_number_17 : decode cX7_number 17 = .ok (.iload_n 1, 1) := by decide +kernel
theorem dX7_number_18 : decode cX7_number 18 = .ok (.i2l, 1) := by decide +kernel
theorem dX7_number_19 : decode cX7_number 19 = .ok (.iload_n 2, 1) := by decide +kernel
theorem dX7_number_20 : decode cX7_number 20 = .ok (.i2l, 1) := by decide +kernel
theorem dX7_number_21 : decode cX7_number 21 = .ok (.invokestatic 45, 3) := by decide +kernel
theorem dX7_number_24 : decode cX7_number 24 = .ok (.ifCond .eq 10, 3) := by decide +kernel
theorem dX7_number_27 : decode cX7_number 27 = .ok (.aload_n 0, 1) := by decide +kernel
theorem dX7_number_28 : decode cX7_number 28 = .ok (.getfield 65, 3) := by decide +kernel
theorem dX7_number_31 : decode cX7_number 31 = .ok (.goto 4, 3) := by decide +kernel
theorem dX7_number_34 : decode cX7_number 34 = .ok (.iconst (-1), 1) := by decide +kernel
theorem dX7_number_35 : decode cX7_number 35 = .ok (.ireturn, 1) := by decide +kernel
theorem dX7_readOne_0 : decode cX7_readOne 0 = .ok (.aload_n 0, 1) := by decide +kernel
theorem dX7_readOne_1 : decode cX7_readOne 1 = .ok (.getfield 19, 3) := by decide +kernel
theorem dX7_readOne_4 : decode cX7_readOne 4 = .ok (.iload_n 1, 1) := by decide +kernel
theorem dX7_readOne_5 : decode cX7_readOne 5 = .ok (.iaload, 1) := by decide +kernel
theorem dX7_readOne_6 : decode cX7_readOne 6 = .ok (.istore 6, 2) := by decide +kernel
theorem dX7_readOne_8 : decode cX7_readOne 8 = .ok (.iload 6, 2) := by decide +kernel
theorem dX7_readOne_10 : decode cX7_readOne 10 = .ok (.iload_n 2, 1) := by decide +kernel
theorem dX7_readOne_11 : decode cX7_readOne 11 = .ok (.if_icmp .ne 7, 3) := by decide +kernel
theorem dX7_readOne_14 : decode cX7_readOne 14 = .ok (.iconst (-1), 1) := by decide +kernel
theorem dX7_readOne_15 : decode cX7_readOne 15 = .ok (.goto 11, 3) := by decide +kernel
theorem dX7_readOne_18 : decode cX7_readOne 18 = .ok (.aload_n 0, 1) := by decide +kernel
theorem dX7_readOne_19 : decode cX7_readOne 19 = .ok (.iload 4, 2) := by decide +kernel
theorem dX7_readOne_21 : decode cX7_readOne 21 = .ok (.iload 5, 2) := by decide +kernel
theorem dX7_readOne_23 : decode cX7_readOne 23 = .ok (.invokevirtual 92, 3) := by decide +kernel
theorem dX7_readOne_26 : decode cX7_readOne 26 = .ok (.istore 7, 2) := by decide +kernel
theorem dX7_readOne_28 : decode cX7_readOne 28 = .ok (.iload 7, 2) := by decide +kernel
theorem dX7_readOne_30 : decode cX7_readOne 30 = .ok (.ifCond .ge 5, 3) := by decide +kernel
theorem dX7_readOne_33 : decode cX7_readOne 33 = .ok (.iconst 0, 1) := by decide +kernel
theorem dX7_readOne_34 : decode cX7_readOne 34 = .ok (.ireturn, 1) := by decide +kernel
theorem dX7_readOne_35 : decode cX7_readOne 35 = .ok (.aload_n 0, 1) := by decide +kernel
theorem dX7_readOne_36 : decode cX7_readOne 36 = .ok (.getfield 19, 3) := by decide +kernel
theorem dX7_readOne_39 : decode cX7_readOne 39 = .ok (.iload_n 3, 1) := by decide +kernel
theorem dX7_readOne_40 : decode cX7_readOne 40 = .ok (.iload 6, 2) := by decide +kernel
theorem dX7_readOne_42 : decode cX7_readOne 42 = .ok (.iadd, 1) := by decide +kernel
theorem dX7_readOne_43 : decode cX7_readOne 43 = .ok (.iload 7, 2) := by decide +kernel
theorem dX7_readOne_45 : decode cX7_readOne 45 = .ok (.iastore, 1) := by decide +kernel
theorem dX7_readOne_46 : decode cX7_readOne 46 = .ok (.aload_n 0, 1) := by decide +kernel
theorem dX7_readOne_47 : decode cX7_readOne 47 = .ok (.getfield 19, 3) := by decide +kernel
theorem dX7_readOne_50 : decode cX7_readOne 50 = .ok (.iload_n 1, 1) := by decide +kernel
theorem dX7_readOne_51 : decode cX7_readOne 51 = .ok (.dup2, 1) := by decide +kernel
theorem dX7_readOne_52 : decode cX7_readOne 52 = .ok (.iaload, 1) := by decide +kernel
theorem dX7_readOne_53 : decode cX7_readOne 53 = .ok (.iconst 1, 1) := by decide +kernel
theorem dX7_readOne_54 : decode cX7_readOne 54 = .ok (.iadd, 1) := by decide +kernel
theorem dX7_readOne_55 : decode cX7_readOne 55 = .ok (.iastore, 1) := by decide +kernel
theorem dX7_readOne_56 : decode cX7_readOne 56 = .ok (.iconst 1, 1) := by decide +kernel
theorem dX7_readOne_57 : decode cX7_readOne 57 = .ok (.ireturn, 1) := by decide +kernel
theorem dX7_readClause_0 : decode cX7_readClause 0 = .ok (.aload_n 0, 1) := by decide +kernel
theorem dX7_readClause_1 : decode cX7_readClause 1 = .ok (.invokevirtual 96, 3) := by decide +kernel
theorem dX7_readClause_4 : decode cX7_readClause 4 = .ok (.istore_n 1, 1) := by decide +kernel
theorem dX7_readClause_5 : decode cX7_readClause 5 = .ok (.iload_n 1, 1) := by decide +kernel
theorem dX7_readClause_6 : decode cX7_readClause 6 = .ok (.ifCond .ge 5, 3) := by decide +kernel
theorem dX7_readClause_9 : decode cX7_readClause 9 = .ok (.iconst 0, 1) := by decide +kernel
theorem dX7_readClause_10 : decode cX7_readClause 10 = .ok (.ireturn, 1) := by decide +kernel
theorem dX7_readClause_11 : decode cX7_readClause 11 = .ok (.iload_n 1, 1) := by decide +kernel
theorem dX7_readClause_12 : decode cX7_readClause 12 = .ok (.iconst 4, 1) := by decide +kernel
theorem dX7_readClause_13 : decode cX7_readClause 13 = .ok (.if_icmp .ge 41, 3) := by decide +kernel
theorem dX7_readClause_16 : decode cX7_readClause 16 = .ok (.aload_n 0, 1) := by decide +kernel
theorem dX7_readClause_17 : decode cX7_readClause 17 = .ok (.bipush 7, 2) := by decide +kernel
theorem dX7_readClause_19 : decode cX7_readClause 19 = .ok (.bipush 6, 2) := by decide +kernel
theorem dX7_readClause_21 : decode cX7_readClause 21 = .ok (.bipush 14, 2) := by decide +kernel
theorem dX7_readClause_23 : decode cX7_readClause 23 = .ok (.iconst 1, 1) := by decide +kernel
theorem dX7_readClause_24 : decode cX7_readClause 24 = .ok (.bipush 20, 2) := by decide +kernel
theorem dX7_readClause_26 : decode cX7_readClause 26 = .ok (.invokevirtual 100, 3) := by decide +kernel
theorem dX7_readClause_29 : decode cX7_readClause 29 = .ok (.ifCond .ne 5, 3) := by decide +kernel
theorem dX7_readClause_32 : decode cX7_readClause 32 = .ok (.iconst 0, 1) := by decide +kernel
theorem dX7_readClause_33 : decode cX7_readClause 33 = .ok (.ireturn, 1) := by decide +kernel
theorem dX7_readClause_34 : decode cX7_readClause 34 = .ok (.aload_n 0, 1) := by decide +kernel
theorem dX7_readClause_35 : decode cX7_readClause 35 = .ok (.getfield 19, 3) := by decide +kernel
theorem dX7_readClause_38 : decode cX7_readClause 38 = .ok (.bipush 8, 2) := by decide +kernel
theorem dX7_readClause_40 : decode cX7_readClause 40 = .ok (.aload_n 0, 1) := by decide +kernel
theorem dX7_readClause_41 : decode cX7_readClause 41 = .ok (.getfield 19, 3) := by decide +kernel
theorem dX7_readClause_44 : decode cX7_readClause 44 = .ok (.bipush 7, 2) := by decide +kernel
theorem dX7_readClause_46 : decode cX7_readClause 46 = .ok (.iaload, 1) := by decide +kernel
theorem dX7_readClause_47 : decode cX7_readClause 47 = .ok (.iadd, 1) := by decide +kernel
theorem dX7_readClause_48 : decode cX7_readClause 48 = .ok (.iconst 1, 1) := by decide +kernel
theorem dX7_readClause_49 : decode cX7_readClause 49 = .ok (.isub, 1) := by decide +kernel
theorem dX7_readClause_50 : decode cX7_readClause 50 = .ok (.iload_n 1, 1) := by decide +kernel
theorem dX7_readClause_51 : decode cX7_readClause 51 = .ok (.iastore, 1) := by decide +kernel
theorem dX7_readClause_52 : decode cX7_readClause 52 = .ok (.iconst 1, 1) := by decide +kernel
theorem dX7_readClause_53 : decode cX7_readClause 53 = .ok (.ireturn, 1) := by decide +kernel
theorem dX7_readClause_54 : decode cX7_readClause 54 = .ok (.iload_n 1, 1) := by decide +kernel
theorem dX7_readClause_55 : decode cX7_readClause 55 = .ok (.iconst 4, 1) := by decide +kernel
theorem dX7_readClause_56 : decode cX7_readClause 56 = .ok (.if_icmp .ne 12, 3) := by decide +kernel
theorem dX7_readClause_59 : decode cX7_readClause 59 = .ok (.aload_n 0, 1) := by decide +kernel
theorem dX7_readClause_60 : decode cX7_readClause 60 = .ok (.getfield 19, 3) := by decide +kernel
theorem dX7_readClause_63 : decode cX7_readClause 63 = .ok (.invokestatic 38, 3) := by decide +kernel
theorem dX7_readClause_66 : decode cX7_readClause 66 = .ok (.iconst 1, 1) := by decide +kernel
theorem dX7_readClause_67 : decode cX7_readClause 67 = .ok (.ireturn, 1) := by decide +kernel
theorem dX7_readClause_68 : decode cX7_readClause 68 = .ok (.iload_n 1, 1) := by decide +kernel
theorem dX7_readClause_69 : decode cX7_readClause 69 = .ok (.bipush 7, 2) := by decide +kernel
theorem dX7_readClause_71 : decode cX7_readClause 71 = .ok (.if_icmp .ge 36, 3) := by decide +kernel
theorem dX7_readClause_74 : decode cX7_readClause 74 = .ok (.iload_n 1, 1) := by decide +kernel
theorem dX7_readClause_75 : decode cX7_readClause 75 = .ok (.iconst 5, 1) := by decide +kernel
theorem dX7_readClause_76 : decode cX7_readClause 76 = .ok (.if_icmp .ne 17, 3) := by decide +kernel
theorem dX7_readClause_79 : decode cX7_readClause 79 = .ok (.aload_n 0, 1) := by decide +kernel
theorem dX7_readClause_80 : decode cX7_readClause 80 = .ok (.iconst 0, 1) := by decide +kernel
theorem dX7_readClause_81 : decode cX7_readClause 81 = .ok (.bipush 6, 2) := by decide +kernel
theorem dX7_readClause_83 : decode cX7_readClause 83 = .ok (.iconst 1, 1) := by decide +kernel
theorem dX7_readClause_84 : decode cX7_readClause 84 = .ok (.iconst 1, 1) := by decide +kernel
theorem dX7_readClause_85 : decode cX7_readClause 85 = .ok (.bipush 20, 2) := by decide +kernel
theorem dX7_readClause_87 : decode cX7_readClause 87 = .ok (.invokevirtual 100, 3) := by decide +kernel
theorem dX7_readClause_90 : decode cX7_readClause 90 = .ok (.goto 16, 3) := by decide +kernel
theorem dX7_readClause_93 : decode cX7_readClause 93 = .ok (.aload_n 0, 1) := by decide +kernel
theorem dX7_readClause_94 : decode cX7_readClause 94 = .ok (.bipush 20, 2) := by decide +kernel
theorem dX7_readClause_96 : decode cX7_readClause 96 = .ok (.iconst 4, 1) := by decide +kernel
theorem dX7_readClause_97 : decode cX7_readClause 97 = .ok (.bipush 21, 2) := by decide +kernel
theorem dX7_readClause_99 : decode cX7_readClause 99 = .ok (.iconst 0, 1) := by decide +kernel
theorem dX7_readClause_100 : decode cX7_readClause 100 = .ok (.sipush 255, 3) := by decide +kernel
theorem dX7_readClause_103 : decode cX7_readClause 103 = .ok (.invokevirtual 100, 3) := by decide +kernel
theorem dX7_readClause_106 : decode cX7_readClause 106 = .ok (.ireturn, 1) := by decide +kernel
theorem dX7_readClause_107 : decode cX7_readClause 107 = .ok (.iload_n 1, 1) := by decide +kernel
theorem dX7_readClause_108 : decode cX7_readClause 108 = .ok (.bipush 7, 2) := by decide +kernel
theorem dX7_readClause_110 : decode cX7_readClause 110 = .ok (.if_icmp .ne 13, 3) := by decide +kernel
theorem dX7_readClause_113 : decode cX7_readClause 113 = .ok (.aload_n 0, 1) := by decide +kernel
theorem dX7_readClause_114 : decode cX7_readClause 114 = .ok (.iconst 0, 1) := by decide +kernel
theorem dX7_readClause_115 : decode cX7_readClause 115 = .ok (.bipush 50, 2) := by decide +kernel
theorem dX7_readClause_117 : decode cX7_readClause 117 = .ok (.invokevirtual 92, 3) := by decide +kernel
theorem dX7_readClause_120 : decode cX7_readClause 120 = .ok (.goto 25, 3) := by decide +kernel
theorem dX7_readClause_123 : decode cX7_readClause 123 = .ok (.iload_n 1, 1) := by decide +kernel
theorem dX7_readClause_124 : decode cX7_readClause 124 = .ok (.bipush 10, 2) := by decide +kernel
theorem dX7_readClause_126 : decode cX7_readClause 126 = .ok (.if_icmp .ne 12, 3) := by decide +kernel
theorem dX7_readClause_129 : decode cX7_readClause 129 = .ok (.aload_n 0, 1) := by decide +kernel
theorem dX7_readClause_130 : decode cX7_readClause 130 = .ok (.iconst 0, 1) := by decide +kernel
theorem dX7_readClause_131 : decode cX7_readClause 131 = .ok (.iconst 3, 1) := by decide +kernel
theorem dX7_readClause_132 : decode cX7_readClause 132 = .ok (.invokevirtual 92, 3) := by decide +kernel
theorem dX7_readClause_135 : decode cX7_readClause 135 = .ok (.goto 10, 3) := by decide +kernel
theorem dX7_readClause_138 : decode cX7_readClause 138 = .ok (.aload_n 0, 1) := by decide +kernel
theorem dX7_readClause_139 : decode cX7_readClause 139 = .ok (.iconst 1, 1) := by decide +kernel
theorem dX7_readClause_140 : decode cX7_readClause 140 = .ok (.bipush 9, 2) := by decide +kernel
theorem dX7_readClause_142 : decode cX7_readClause 142 = .ok (.invokevirtual 92, 3) := by decide +kernel
theorem dX7_readClause_145 : decode cX7_readClause 145 = .ok (.istore_n 2, 1) := by decide +kernel
theorem dX7_readClause_146 : decode cX7_readClause 146 = .ok (.iload_n 2, 1) := by decide +kernel
theorem dX7_readClause_147 : decode cX7_readClause 147 = .ok (.ifCond .ge 5, 3) := by decide +kernel
theorem dX7_readClause_150 : decode cX7_readClause 150 = .ok (.iconst 0, 1) := by decide +kernel
theorem dX7_readClause_151 : decode cX7_readClause 151 = .ok (.ireturn, 1) := by decide +kernel
theorem dX7_readClause_152 : decode cX7_readClause 152 = .ok (.aload_n 0, 1) := by decide +kernel
theorem dX7_readClause_153 : decode cX7_readClause 153 = .ok (.getfield 19, 3) := by decide +kernel
theorem dX7_readClause_156 : decode cX7_readClause 156 = .ok (.bipush 25, 2) := by decide +kernel
theorem dX7_readClause_158 : decode cX7_readClause 158 = .ok (.iload_n 1, 1) := by decide +kernel
theorem dX7_readClause_159 : decode cX7_readClause 159 = .ok (.iadd, 1) := by decide +kernel
theorem dX7_readClause_160 : decode cX7_readClause 160 = .ok (.bipush 7, 2) := by decide +kernel
theorem dX7_readClause_162 : decode cX7_readClause 162 = .ok (.isub, 1) := by decide +kernel
theorem dX7_readClause_163 : decode cX7_readClause 163 = .ok (.iload_n 2, 1) := by decide +kernel
theorem dX7_readClause_164 : decode cX7_readClause 164 = .ok (.iastore, 1) := by decide +kernel
theorem dX7_readClause_165 : decode cX7_readClause 165 = .ok (.iconst 1, 1) := by decide +kernel
theorem dX7_readClause_166 : decode cX7_readClause 166 = .ok (.ireturn, 1) := by decide +kernel
theorem dX7_readText_0 : decode cX7_readText 0 = .ok (.aload_n 0, 1) := by decide +kernel
theorem dX7_readText_1 : decode cX7_readText 1 = .ok (.iconst 0, 1) := by decide +kernel
theorem dX7_readText_2 : decode cX7_readText 2 = .ok (.putfield 55, 3) := by decide +kernel
theorem dX7_readText_5 : decode cX7_readText 5 = .ok (.aload_n 0, 1) := by decide +kernel
theorem dX7_readText_6 : decode cX7_readText 6 = .ok (.iconst 0, 1) := by decide +kernel
theorem dX7_readText_7 : decode cX7_readText 7 = .ok (.putfield 104, 3) := by decide +kernel
theorem dX7_readText_10 : decode cX7_readText 10 = .ok (.iconst 0, 1) := by decide +kernel
theorem dX7_readText_11 : decode cX7_readText 11 = .ok (.istore_n 1, 1) := by decide +kernel
theorem dX7_readText_12 : decode cX7_readText 12 = .ok (.iload_n 1, 1) := by decide +kernel
theorem dX7_readText_13 : decode cX7_readText 13 = .ok (.bipush 29, 2) := by decide +kernel
theorem dX7_readText_15 : decode cX7_readText 15 = .ok (.if_icmp .ge 21, 3) := by decide +kernel
theorem dX7_readText_18 : decode cX7_readText 18 = .ok (.aload_n 0, 1) := by decide +kernel
theorem dX7_readText_19 : decode cX7_readText 19 = .ok (.getfield 19, 3) := by decide +kernel
theorem dX7_readText_22 : decode cX7_readText 22 = .ok (.iload_n 1, 1) := by decide +kernel
theorem dX7_readText_23 : decode cX7_readText 23 = .ok (.aload_n 0, 1) := by decide +kernel
theorem dX7_readText_24 : decode cX7_readText 24 = .ok (.getfield 7, 3) := by decide +kernel
theorem dX7_readText_27 : decode cX7_readText 27 = .ok (.iload_n 1, 1) := by decide +kernel
theorem dX7_readText_28 : decode cX7_readText 28 = .ok (.iaload, 1) := by decide +kernel
theorem dX7_readText_29 : decode cX7_readText 29 = .ok (.iastore, 1) := by decide +kernel
theorem dX7_readText_30 : decode cX7_readText 30 = .ok (.iinc 1 1, 3) := by decide +kernel
theorem dX7_readText_33 : decode cX7_readText 33 = .ok (.goto (-21), 3) := by decide +kernel
theorem dX7_readText_36 : decode cX7_readText 36 = .ok (.aload_n 0, 1) := by decide +kernel
theorem dX7_readText_37 : decode cX7_readText 37 = .ok (.invokevirtual 89, 3) := by decide +kernel
theorem dX7_readText_40 : decode cX7_readText 40 = .ok (.aload_n 0, 1) := by decide +kernel
theorem dX7_readText_41 : decode cX7_readText 41 = .ok (.invokevirtual 107, 3) := by decide +kernel
theorem dX7_readText_44 : decode cX7_readText 44 = .ok (.ifCond .ne 5, 3) := by decide +kernel
theorem dX7_readText_47 : decode cX7_readText 47 = .ok (.iconst 0, 1) := by decide +kernel
theorem dX7_readText_48 : decode cX7_readText 48 = .ok (.ireturn, 1) := by decide +kernel
theorem dX7_readText_49 : decode cX7_readText 49 = .ok (.aload_n 0, 1) := by decide +kernel
theorem dX7_readText_50 : decode cX7_readText 50 = .ok (.dup, 1) := by decide +kernel
theorem dX7_readText_51 : decode cX7_readText 51 = .ok (.getfield 104, 3) := by decide +kernel
theorem dX7_readText_54 : decode cX7_readText 54 = .ok (.iconst 1, 1) := by decide +kernel
theorem dX7_readText_55 : decode cX7_readText 55 = .ok (.iadd, 1) := by decide +kernel
theorem dX7_readText_56 : decode cX7_readText 56 = .ok (.putfield 104, 3) := by decide +kernel
theorem dX7_readText_59 : decode cX7_readText 59 = .ok (.aload_n 0, 1) := by decide +kernel
theorem dX7_readText_60 : decode cX7_readText 60 = .ok (.invokevirtual 89, 3) := by decide +kernel
theorem dX7_readText_63 : decode cX7_readText 63 = .ok (.aload_n 0, 1) := by decide +kernel
theorem dX7_readText_64 : decode cX7_readText 64 = .ok (.getfield 68, 3) := by decide +kernel
theorem dX7_readText_67 : decode cX7_readText 67 = .ok (.iconst 3, 1) := by decide +kernel
theorem dX7_readText_68 : decode cX7_readText 68 = .ok (.if_icmp .ne 5, 3) := by decide +kernel
theorem dX7_readText_71 : decode cX7_readText 71 = .ok (.iconst 1, 1) := by decide +kernel
theorem dX7_readText_72 : decode cX7_readText 72 = .ok (.ireturn, 1) := by decide +kernel
theorem dX7_readText_73 : decode cX7_readText 73 = .ok (.aload_n 0, 1) := by decide +kernel
theorem dX7_readText_74 : decode cX7_readText 74 = .ok (.getfield 68, 3) := by decide +kernel
theorem dX7_readText_77 : decode cX7_readText 77 = .ok (.ifCond .ne 21, 3) := by decide +kernel
theorem dX7_readText_80 : decode cX7_readText 80 = .ok (.aload_n 0, 1) := by decide +kernel
theorem dX7_readText_81 : decode cX7_readText 81 = .ok (.getfield 65, 3) := by decide +kernel
theorem dX7_readText_84 : decode cX7_readText 84 = .ok (.bipush 59, 2) := by decide +kernel
theorem dX7_readText_86 : decode cX7_readText 86 = .ok (.if_icmp .ne 12, 3) := by decide +kernel
theorem dX7_readText_89 : decode cX7_readText 89 = .ok (.aload_n 0, 1) := by decide +kernel
theorem dX7_readText_90 : decode cX7_readText 90 = .ok (.getfield 104, 3) := by decide +kernel
theorem dX7_readText_93 : decode cX7_readText 93 = .ok (.bipush 14, 2) := by decide +kernel
theorem dX7_readText_95 : decode cX7_readText 95 = .ok (.if_icmp .ne (-59), 3) := by decide +kernel
theorem dX7_readText_98 : decode cX7_readText 98 = .ok (.iconst 0, 1) := by decide +kernel
theorem dX7_readText_99 : decode cX7_readText 99 = .ok (.ireturn, 1) := by decide +kernel
theorem dX7_fault_0 : decode cX7_fault 0 = .ok (.aload_n 0, 1) := by decide +kernel
theorem dX7_fault_1 : decode cX7_fault 1 = .ok (.invokevirtual 111, 3) := by decide +kernel
theorem dX7_fault_4 : decode cX7_fault 4 = .ok (.ifCond .eq 7, 3) := by decide +kernel
theorem dX7_fault_7 : decode cX7_fault 7 = .ok (.iconst (-1), 1) := by decide +kernel
theorem dX7_fault_8 : decode cX7_fault 8 = .ok (.goto 7, 3) := by decide +kernel
theorem dX7_fault_11 : decode cX7_fault 11 = .ok (.aload_n 0, 1) := by decide +kernel
theorem dX7_fault_12 : decode cX7_fault 12 = .ok (.getfield 62, 3) := by decide +kernel
theorem dX7_fault_15 : decode cX7_fault 15 = .ok (.ireturn, 1) := by decide +kernel
theorem dX7_anew_0 : decode cX7_anew 0 = .ok (.iconst 0, 1) := by decide +kernel
theorem dX7_anew_1 : decode cX7_anew 1 = .ok (.istore_n 1, 1) := by decide +kernel
theorem dX7_anew_2 : decode cX7_anew 2 = .ok (.iload_n 1, 1) := by decide +kernel
theorem dX7_anew_3 : decode cX7_anew 3 = .ok (.bipush 18, 2) := by decide +kernel
theorem dX7_anew_5 : decode cX7_anew 5 = .ok (.if_icmp .ge 26, 3) := by decide +kernel
theorem dX7_anew_8 : decode cX7_anew 8 = .ok (.aload_n 0, 1) := by decide +kernel
theorem dX7_anew_9 : decode cX7_anew 9 = .ok (.getfield 13, 3) := by decide +kernel
theorem dX7_anew_12 : decode cX7_anew 12 = .ok (.iload_n 1, 1) := by decide +kernel
theorem dX7_anew_13 : decode cX7_anew 13 = .ok (.iload_n 1, 1) := by decide +kernel
theorem dX7_anew_14 : decode cX7_anew 14 = .ok (.bipush 12, 2) := by decide +kernel
theorem dX7_anew_16 : decode cX7_anew 16 = .ok (.if_icmp .ge 7, 3) := by decide +kernel
theorem dX7_anew_19 : decode cX7_anew 19 = .ok (.iconst 0, 1) := by decide +kernel
theorem dX7_anew_20 : decode cX7_anew 20 = .ok (.goto 4, 3) := by decide +kernel
theorem dX7_anew_23 : decode cX7_anew 23 = .ok (.iconst (-1), 1) := by decide +kernel
theorem dX7_anew_24 : decode cX7_anew 24 = .ok (.iastore, 1) := by decide +kernel
theorem dX7_anew_25 : decode cX7_anew 25 = .ok (.iinc 1 1, 3) := by decide +kernel
theorem dX7_anew_28 : decode cX7_anew 28 = .ok (.goto (-26), 3) := by decide +kernel
theorem dX7_anew_31 : decode cX7_anew 31 = .ok (.aload_n 0, 1) := by decide +kernel
theorem dX7_anew_32 : decode cX7_anew 32 = .ok (.getfield 13, 3) := by decide +kernel
theorem dX7_anew_35 : decode cX7_anew 35 = .ok (.iconst 0, 1) := by decide +kernel
theorem dX7_anew_36 : decode cX7_anew 36 = .ok (.aload_n 0, 1) := by decide +kernel
theorem dX7_anew_37 : decode cX7_anew 37 = .ok (.getfield 7, 3) := by decide +kernel
theorem dX7_anew_40 : decode cX7_anew 40 = .ok (.bipush 25, 2) := by decide +kernel
theorem dX7_anew_42 : decode cX7_anew 42 = .ok (.iaload, 1) := by decide +kernel
theorem dX7_anew_43 : decode cX7_anew 43 = .ok (.iastore, 1) := by decide +kernel
theorem dX7_anew_44 : decode cX7_anew 44 = .ok (.return_, 1) := by decide +kernel
theorem dX7_cave_0 : decode cX7_cave 0 = .ok (.aload_n 0, 1) := by decide +kernel
theorem dX7_cave_1 : decode cX7_cave 1 = .ok (.invokevirtual 111, 3) := by decide +kernel
theorem dX7_cave_4 : decode cX7_cave 4 = .ok (.ifCond .ne 6, 3) := by decide +kernel
theorem dX7_cave_7 : decode cX7_cave 7 = .ok (.bipush (-4), 2) := by decide +kernel
theorem dX7_cave_9 : decode cX7_cave 9 = .ok (.ireturn, 1) := by decide +kernel
theorem dX7_cave_10 : decode cX7_cave 10 = .ok (.aload_n 0, 1) := by decide +kernel
theorem dX7_cave_11 : decode cX7_cave 11 = .ok (.iconst 0, 1) := by decide +kernel
theorem dX7_cave_12 : decode cX7_cave 12 = .ok (.putfield 51, 3) := by decide +kernel
theorem dX7_cave_15 : decode cX7_cave 15 = .ok (.iconst 0, 1) := by decide +kernel
theorem dX7_cave_16 : decode cX7_cave 16 = .ok (.istore_n 1, 1) := by decide +kernel
theorem dX7_cave_17 : decode cX7_cave 17 = .ok (.iload_n 1, 1) := by decide +kernel
theorem dX7_cave_18 : decode cX7_cave 18 = .ok (.bipush 29, 2) := by decide +kernel
theorem dX7_cave_20 : decode cX7_cave 20 = .ok (.if_icmp .ge 21, 3) := by decide +kernel
theorem dX7_cave_23 : decode cX7_cave 23 = .ok (.aload_n 0, 1) := by decide +kernel
theorem dX7_cave_24 : decode cX7_cave 24 = .ok (.getfield 7, 3) := by decide +kernel
theorem dX7_cave_27 : decode cX7_cave 27 = .ok (.iload_n 1, 1) := by decide +kernel
theorem dX7_cave_28 : decode cX7_cave 28 = .ok (.aload_n 0, 1) := by decide +kernel
theorem dX7_cave_29 : decode cX7_cave 29 = .ok (.getfield 19, 3) := by decide +kernel
theorem dX7_cave_32 : decode cX7_cave 32 = .ok (.iload_n 1, 1) := by decide +kernel
theorem dX7_cave_33 : decode cX7_cave 33 = .ok (.iaload, 1) := by decide +kernel
theorem dX7_cave_34 : decode cX7_cave 34 = .ok (.iastore, 1) := by decide +kernel
theorem dX7_cave_35 : decode cX7_cave 35 = .ok (.iinc 1 1, 3) := by decide +kernel
theorem dX7_cave_38 : decode cX7_cave 38 = .ok (.goto (-21), 3) := by decide +kernel
theorem dX7_cave_41 : decode cX7_cave 41 = .ok (.aload_n 0, 1) := by decide +kernel
theorem dX7_cave_42 : decode cX7_cave 42 = .ok (.invokevirtual 42, 3) := by decide +kernel
theorem dX7_cave_45 : decode cX7_cave 45 = .ok (.aload_n 0, 1) := by decide +kernel
theorem dX7_cave_46 : decode cX7_cave 46 = .ok (.iconst 0, 1) := by decide +kernel
theorem dX7_cave_47 : decode cX7_cave 47 = .ok (.putfield 114, 3) := by decide +kernel
theorem dX7_cave_50 : decode cX7_cave 50 = .ok (.aload_n 0, 1) := by decide +kernel
theorem dX7_cave_51 : decode cX7_cave 51 = .ok (.iconst 0, 1) := by decide +kernel
theorem dX7_cave_52 : decode cX7_cave 52 = .ok (.putfield 117, 3) := by decide +kernel
theorem dX7_cave_55 : decode cX7_cave 55 = .ok (.aload_n 0, 1) := by decide +kernel
theorem dX7_cave_56 : decode cX7_cave 56 = .ok (.getfield 25, 3) := by decide +kernel
theorem dX7_cave_59 : decode cX7_cave 59 = .ok (.iconst 0, 1) := by decide +kernel
theorem dX7_cave_60 : decode cX7_cave 60 = .ok (.iconst 0, 1) := by decide +kernel
theorem dX7_cave_61 : decode cX7_cave 61 = .ok (.bastore, 1) := by decide +kernel
theorem dX7_cave_62 : decode cX7_cave 62 = .ok (.aload_n 0, 1) := by decide +kernel
theorem dX7_cave_63 : decode cX7_cave 63 = .ok (.getfield 25, 3) := by decide +kernel
theorem dX7_cave_66 : decode cX7_cave 66 = .ok (.iconst 1, 1) := by decide +kernel
theorem dX7_cave_67 : decode cX7_cave 67 = .ok (.iconst 0, 1) := by decide +kernel
theorem dX7_cave_68 : decode cX7_cave 68 = .ok (.bastore, 1) := by decide +kernel
theorem dX7_cave_69 : decode cX7_cave 69 = .ok (.aload_n 0, 1) := by decide +kernel
theorem dX7_cave_70 : decode cX7_cave 70 = .ok (.getfield 104, 3) := by decide +kernel
theorem dX7_cave_73 : decode cX7_cave 73 = .ok (.ireturn, 1) := by decide +kernel
theorem dX7_isIn_0 : decode cX7_isIn 0 = .ok (.aload_n 0, 1) := by decide +kernel
theorem dX7_isIn_1 : decode cX7_isIn 1 = .ok (.getfield 13, 3) := by decide +kernel
theorem dX7_isIn_4 : decode cX7_isIn 4 = .ok (.bipush 6, 2) := by decide +kernel
theorem dX7_isIn_6 : decode cX7_isIn 6 = .ok (.iload_n 1, 1) := by decide +kernel
theorem dX7_isIn_7 : decode cX7_isIn 7 = .ok (.iadd, 1) := by decide +kernel
theorem dX7_isIn_8 : decode cX7_isIn 8 = .ok (.iaload, 1) := by decide +kernel
theorem dX7_isIn_9 : decode cX7_isIn 9 = .ok (.ifCond .ne 7, 3) := by decide +kernel
theorem dX7_isIn_12 : decode cX7_isIn 12 = .ok (.iconst 1, 1) := by decide +kernel
theorem dX7_isIn_13 : decode cX7_isIn 13 = .ok (.goto 4, 3) := by decide +kernel
theorem dX7_isIn_16 : decode cX7_isIn 16 = .ok (.iconst 0, 1) := by decide +kernel
theorem dX7_isIn_17 : decode cX7_isIn 17 = .ok (.ireturn, 1) := by decide +kernel
theorem dX7_menOf_0 : decode cX7_menOf 0 = .ok (.iconst 0, 1) := by decide +kernel
theorem dX7_menOf_1 : decode cX7_menOf 1 = .ok (.istore_n 2, 1) := by decide +kernel
theorem dX7_menOf_2 : decode cX7_menOf 2 = .ok (.iconst 0, 1) := by decide +kernel
theorem dX7_menOf_3 : decode cX7_menOf 3 = .ok (.istore_n 3, 1) := by decide +kernel
theorem dX7_menOf_4 : decode cX7_menOf 4 = .ok (.iload_n 3, 1) := by decide +kernel
theorem dX7_menOf_5 : decode cX7_menOf 5 = .ok (.aload_n 0, 1) := by decide +kernel
theorem dX7_menOf_6 : decode cX7_menOf 6 = .ok (.getfield 7, 3) := by decide +kernel
theorem dX7_menOf_9 : decode cX7_menOf 9 = .ok (.iconst 0, 1) := by decide +kernel
theorem dX7_menOf_10 : decode cX7_menOf 10 = .ok (.iaload, 1) := by decide +kernel
theorem dX7_menOf_11 : decode cX7_menOf 11 = .ok (.if_icmp .ge 32, 3) := by decide +kernel
theorem dX7_menOf_14 : decode cX7_menOf 14 = .ok (.iload_n 2, 1) := by decide +kernel
theorem dX7_menOf_15 : decode cX7_menOf 15 = .ok (.aload_n 0, 1) := by decide +kernel
theorem dX7_menOf_16 : decode cX7_menOf 16 = .ok (.getfield 13, 3) := by decide +kernel
theorem dX7_menOf_19 : decode cX7_menOf 19 = .ok (.bipush 6, 2) := by decide +kernel
theorem dX7_menOf_21 : decode cX7_menOf 21 = .ok (.iload_n 3, 1) := by decide +kernel
theorem dX7_menOf_22 : decode cX7_menOf 22 = .ok (.iadd, 1) := by decide +kernel
theorem dX7_menOf_23 : decode cX7_menOf 23 = .ok (.iaload, 1) := by decide +kernel
theorem dX7_menOf_24 : decode cX7_menOf 24 = .ok (.iload_n 1, 1) := by decide +kernel
theorem dX7_menOf_25 : decode cX7_menOf 25 = .ok (.if_icmp .ne 9, 3) := by decide +kernel
theorem dX7_menOf_28 : decode cX7_menOf 28 = .ok (.iconst 1, 1) := by decide +kernel
theorem dX7_menOf_29 : decode cX7_menOf 29 = .ok (.iload_n 3, 1) := by decide +kernel
theorem dX7_menOf_30 : decode cX7_menOf 30 = .ok (.ishl, 1) := by decide +kernel
theorem dX7_menOf_31 : decode cX7_menOf 31 = .ok (.goto 4, 3) := by decide +kernel
theorem dX7_menOf_34 : decode cX7_menOf 34 = .ok (.iconst 0, 1) := by decide +kernel
theorem dX7_menOf_35 : decode cX7_menOf 35 = .ok (.ior, 1) := by decide +kernel
theorem dX7_menOf_36 : decode cX7_menOf 36 = .ok (.istore_n 2, 1) := by decide +kernel
theorem dX7_menOf_37 : decode cX7_menOf 37 = .ok (.iinc 3 1, 3) := by decide +kernel
theorem dX7_menOf_40 : decode cX7_menOf 40 = .ok (.goto (-36), 3) := by decide +kernel
theorem dX7_menOf_43 : decode cX7_menOf 43 = .ok (.iload_n 2, 1) := by decide +kernel
theorem dX7_menOf_44 : decode cX7_menOf 44 = .ok (.ireturn, 1) := by decide +kernel
theorem dX7_under_0 : decode cX7_under 0 = .ok (.iconst (-1), 1) := by decide +kernel
theorem dX7_under_1 : decode cX7_under 1 = .ok (.istore_n 2, 1) := by decide +kernel
theorem dX7_under_2 : decode cX7_under 2 = .ok (.iconst 0, 1) := by decide +kernel
theorem dX7_under_3 : decode cX7_under 3 = .ok (.istore_n 3, 1) := by decide +kernel
theorem dX7_under_4 : decode cX7_under 4 = .ok (.iload_n 3, 1) := by decide +kernel
theorem dX7_under_5 : decode cX7_under 5 = .ok (.aload_n 0, 1) := by decide +kernel
theorem dX7_under_6 : decode cX7_under 6 = .ok (.getfield 7, 3) := by decide +kernel
theorem dX7_under_9 : decode cX7_under 9 = .ok (.iconst 0, 1) := by decide +kernel
theorem dX7_under_10 : decode cX7_under 10 = .ok (.iaload, 1) := by decide +kernel
theorem dX7_under_11 : decode cX7_under 11 = .ok (.if_icmp .ge 28, 3) := by decide +kernel
theorem dX7_under_14 : decode cX7_under 14 = .ok (.aload_n 0, 1) := by decide +kernel
theorem dX7_under_15 : decode cX7_under 15 = .ok (.getfield 13, 3) := by decide +kernel
theorem dX7_under_18 : decode cX7_under 18 = .ok (.bipush 12, 2) := by decide +kernel
theorem dX7_under_20 : decode cX7_under 20 = .ok (.iload_n 3, 1) := by decide +kernel
theorem dX7_under_21 : decode cX7_under 21 = .ok (.iadd, 1) := by decide +kernel
theorem dX7_under_22 : decode cX7_under 22 = .ok (.iaload, 1) := by decide +kernel
theorem dX7_under_23 : decode cX7_under 23 = .ok (.iload_n 1, 1) := by decide +kernel
theorem dX7_under_24 : decode cX7_under 24 = .ok (.if_icmp .ne 7, 3) := by decide +kernel
theorem dX7_under_27 : decode cX7_under 27 = .ok (.iload_n 3, 1) := by decide +kernel
theorem dX7_under_28 : decode cX7_under 28 = .ok (.goto 4, 3) := by decide +kernel
theorem dX7_under_31 : decode cX7_under 31 = .ok (.iload_n 2, 1) := by decide +kernel
theorem dX7_under_32 : decode cX7_under 32 = .ok (.istore_n 2, 1) := by decide +kernel
theorem dX7_under_33 : decode cX7_under 33 = .ok (.iinc 3 1, 3) := by decide +kernel
theorem dX7_under_36 : decode cX7_under 36 = .ok (.goto (-32), 3) := by decide +kernel
theorem dX7_under_39 : decode cX7_under 39 = .ok (.iload_n 2, 1) := by decide +kernel
theorem dX7_under_40 : decode cX7_under 40 = .ok (.ireturn, 1) := by decide +kernel
theorem dX7_bearsBy_0 : decode cX7_bearsBy 0 = .ok (.iload_n 1, 1) := by decide +kernel
theorem dX7_bearsBy_1 : decode cX7_bearsBy 1 = .ok (.iconst 3, 1) := by decide +kernel
theorem dX7_bearsBy_2 : decode cX7_bearsBy 2 = .ok (.if_icmp .ne 16, 3) := by decide +kernel
theorem dX7_bearsBy_5 : decode cX7_bearsBy 5 = .ok (.iload_n 2, 1) := by decide +kernel
theorem dX7_bearsBy_6 : decode cX7_bearsBy 6 = .ok (.iconst 3, 1) := by decide +kernel
theorem dX7_bearsBy_7 : decode cX7_bearsBy 7 = .ok (.if_icmp .ge 7, 3) := by decide +kernel
theorem dX7_bearsBy_10 : decode cX7_bearsBy 10 = .ok (.iconst 0, 1) := by decide +kernel
theorem dX7_bearsBy_11 : decode cX7_bearsBy 11 = .ok (.goto 6, 3) := by decide +kernel
theorem dX7_bearsBy_14 : decode cX7_bearsBy 14 = .ok (.iload_n 2, 1) := by decide +kernel
theorem dX7_bearsBy_15 : decode cX7_bearsBy 15 = .ok (.iconst 3, 1) := by decide +kernel
theorem dX7_bearsBy_16 : decode cX7_bearsBy 16 = .ok (.isub, 1) := by decide +kernel
theorem dX7_bearsBy_17 : decode cX7_bearsBy 17 = .ok (.ireturn, 1) := by decide +kernel
theorem dX7_bearsBy_18 : decode cX7_bearsBy 18 = .ok (.iload_n 1, 1) := by decide +kernel
theorem dX7_bearsBy_19 : decode cX7_bearsBy 19 = .ok (.iconst 1, 1) := by decide +kernel
theorem dX7_bearsBy_20 : decode cX7_bearsBy 20 = .ok (.if_icmp .ne 11, 3) := by decide +kernel
theorem dX7_bearsBy_23 : decode cX7_bearsBy 23 = .ok (.iload_n 2, 1) := by decide +kernel
theorem dX7_bearsBy_24 : decode cX7_bearsBy 24 = .ok (.iload_n 2, 1) := by decide +kernel
theorem dX7_bearsBy_25 : decode cX7_bearsBy 25 = .ok (.iconst 2, 1) := by decide +kernel
theorem dX7_bearsBy_26 : decode cX7_bearsBy 26 = .ok (.idiv, 1) := by decide +kernel
theorem dX7_bearsBy_27 : decode cX7_bearsBy 27 = .ok (.iadd, 1) := by decide +kernel
theorem dX7_bearsBy_28 : decode cX7_bearsBy 28 = .ok (.goto 15, 3) := by decide +kernel
theorem dX7_bearsBy_31 : decode cX7_bearsBy 31 = .ok (.iload_n 1, 1) := by decide +kernel
theorem dX7_bearsBy_32 : decode cX7_bearsBy 32 = .ok (.iconst 2, 1) := by decide +kernel
theorem dX7_bearsBy_33 : decode cX7_bearsBy 33 = .ok (.if_icmp .ne 9, 3) := by decide +kernel
theorem dX7_bearsBy_36 : decode cX7_bearsBy 36 = .ok (.iconst 2, 1) := by decide +kernel
theorem dX7_bearsBy_37 : decode cX7_bearsBy 37 = .ok (.iload_n 2, 1) := by decide +kernel
theorem dX7_bearsBy_38 : decode cX7_bearsBy 38 = .ok (.imul, 1) := by decide +kernel
theorem dX7_bearsBy_39 : decode cX7_bearsBy 39 = .ok (.goto 4, 3) := by decide +kernel
theorem dX7_bearsBy_42 : decode cX7_bearsBy 42 = .ok (.iload_n 2, 1) := by decide +kernel
theorem dX7_bearsBy_43 : decode cX7_bearsBy 43 = .ok (.ireturn, 1) := by decide +kernel
theorem dX7_bears_0 : decode cX7_bears 0 = .ok (.aload_n 0, 1) := by decide +kernel
theorem dX7_bears_1 : decode cX7_bears 1 = .ok (.aload_n 0, 1) := by decide +kernel
theorem dX7_bears_2 : decode cX7_bears 2 = .ok (.getfield 7, 3) := by decide +kernel
theorem dX7_bears_5 : decode cX7_bears 5 = .ok (.bipush 8, 2) := by decide +kernel
theorem dX7_bears_7 : decode cX7_bears 7 = .ok (.iload_n 1, 1) := by decide +kernel
theorem dX7_bears_8 : decode cX7_bears 8 = .ok (.iadd, 1) := by decide +kernel
theorem dX7_bears_9 : decode cX7_bears 9 = .ok (.iaload, 1) := by decide +kernel
theorem dX7_bears_10 : decode cX7_bears 10 = .ok (.aload_n 0, 1) := by decide +kernel
theorem dX7_bears_11 : decode cX7_bears 11 = .ok (.getfield 7, 3) := by decide +kernel
theorem dX7_bears_14 : decode cX7_bears 14 = .ok (.bipush 14, 2) := by decide +kernel
theorem dX7_bears_16 : decode cX7_bears 16 = .ok (.iload_n 1, 1) := by decide +kernel
theorem dX7_bears_17 : decode cX7_bears 17 = .ok (.iadd, 1) := by decide +kernel
theorem dX7_bears_18 : decode cX7_bears 18 = .ok (.iaload, 1) := by decide +kernel
theorem dX7_bears_19 : decode cX7_bears 19 = .ok (.invokevirtual 120, 3) := by decide +kernel
theorem dX7_bears_22 : decode cX7_bears 22 = .ok (.ireturn, 1) := by decide +kernel
theorem dX7_man_0 : decode cX7_man 0 = .ok (.aload_n 0, 1) := by decide +kernel
theorem dX7_man_1 : decode cX7_man 1 = .ok (.iload_n 1, 1) := by decide +kernel
theorem dX7_man_2 : decode cX7_man 2 = .ok (.invokevirtual 123, 3) := by decide +kernel
theorem dX7_man_5 : decode cX7_man 5 = .ok (.ifCond .ne 6, 3) := by decide +kernel
theorem dX7_man_8 : decode cX7_man 8 = .ok (.bipush (-2), 2) := by decide +kernel
theorem dX7_man_10 : decode cX7_man 10 = .ok (.ireturn, 1) := by decide +kernel
theorem dX7_man_11 : decode cX7_man 11 = .ok (.iload_n 2, 1) := by decide +kernel
theorem dX7_man_12 : decode cX7_man 12 = .ok (.i2l, 1) := by decide +kernel
theorem dX7_man_13 : decode cX7_man 13 = .ok (.lconst 0, 1) := by decide +kernel
theorem dX7_man_14 : decode cX7_man 14 = .ok (.ldc2_w 127, 3) := by decide +kernel
theorem dX7_man_17 : decode cX7_man 17 = .ok (.invokestatic 45, 3) := by decide +kernel
theorem dX7_man_20 : decode cX7_man 20 = .ok (.ifCond .ne 6, 3) := by decide +kernel
theorem dX7_man_23 : decode cX7_man 23 = .ok (.bipush (-3), 2) := by decide +kernel
theorem dX7_man_25 : decode cX7_man 25 = .ok (.ireturn, 1) := by decide +kernel
theorem dX7_man_26 : decode cX7_man 26 = .ok (.iload_n 2, 1) := by decide +kernel
theorem dX7_man_27 : decode cX7_man 27 = .ok (.ifCond .ne 14, 3) := by decide +kernel
theorem dX7_man_30 : decode cX7_man 30 = .ok (.aload_n 0, 1) := by decide +kernel
theorem dX7_man_31 : decode cX7_man 31 = .ok (.getfield 7, 3) := by decide +kernel
theorem dX7_man_34 : decode cX7_man 34 = .ok (.iconst 1, 1) := by decide +kernel
theorem dX7_man_35 : decode cX7_man 35 = .ok (.iload_n 1, 1) := by decide +kernel
theorem dX7_man_36 : decode cX7_man 36 = .ok (.iadd, 1) := by decide +kernel
theorem dX7_man_37 : decode cX7_man 37 = .ok (.iaload, 1) := by decide +kernel
theorem dX7_man_38 : decode cX7_man 38 = .ok (.goto 29, 3) := by decide +kernel
theorem dX7_man_41 : decode cX7_man 41 = .ok (.iload_n 2, 1) := by decide +kernel
theorem dX7_man_42 : decode cX7_man 42 = .ok (.iconst 1, 1) := by decide +kernel
theorem dX7_man_43 : decode cX7_man 43 = .ok (.if_icmp .ne 15, 3) := by decide +kernel
theorem dX7_man_46 : decode cX7_man 46 = .ok (.aload_n 0, 1) := by decide +kernel
theorem dX7_man_47 : decode cX7_man 47 = .ok (.getfield 13, 3) := by decide +kernel
theorem dX7_man_50 : decode cX7_man 50 = .ok (.bipush 6, 2) := by decide +kernel
theorem dX7_man_52 : decode cX7_man 52 = .ok (.iload_n 1, 1) := by decide +kernel
theorem dX7_man_53 : decode cX7_man 53 = .ok (.iadd, 1) := by decide +kernel
theorem dX7_man_54 : decode cX7_man 54 = .ok (.iaload, 1) := by decide +kernel
theorem dX7_man_55 : decode cX7_man 55 = .ok (.goto 12, 3) := by decide +kernel
theorem dX7_man_58 : decode cX7_man 58 = .ok (.aload_n 0, 1) := by decide +kernel
theorem dX7_man_59 : decode cX7_man 59 = .ok (.getfield 13, 3) := by decide +kernel
theorem dX7_man_62 : decode cX7_man 62 = .ok (.bipush 12, 2) := by decide +kernel
theorem dX7_man_64 : decode cX7_man 64 = .ok (.iload_n 1, 1) := by decide +kernel
theorem dX7_man_65 : decode cX7_man 65 = .ok (.iadd, 1) := by decide +kernel
theorem dX7_man_66 : decode cX7_man 66 = .ok (.iaload, 1) := by decide +kernel
theorem dX7_man_67 : decode cX7_man 67 = .ok (.ireturn, 1) := by decide +kernel
theorem dX7_sheep_0 : decode cX7_sheep 0 = .ok (.aload_n 0, 1) := by decide +kernel
theorem dX7_sheep_1 : decode cX7_sheep 1 = .ok (.iload_n 1, 1) := by decide +kernel
theorem dX7_sheep_2 : decode cX7_sheep 2 = .ok (.invokevirtual 129, 3) := by decide +kernel
theorem dX7_sheep_5 : decode cX7_sheep 5 = .ok (.ifCond .ne 6, 3) := by decide +kernel
theorem dX7_sheep_8 : decode cX7_sheep 8 = .ok (.bipush (-2), 2) := by decide +kernel
theorem dX7_sheep_10 : decode cX7_sheep 10 = .ok (.ireturn, 1) := by decide +kernel
theorem dX7_sheep_11 : decode cX7_sheep 11 = .ok (.iload_n 2, 1) := by decide +kernel
theorem dX7_sheep_12 : decode cX7_sheep 12 = .ok (.i2l, 1) := by decide +kernel
theorem dX7_sheep_13 : decode cX7_sheep 13 = .ok (.lconst 0, 1) := by decide +kernel
theorem dX7_sheep_14 : decode cX7_sheep 14 = .ok (.ldc2_w 132, 3) := by decide +kernel
theorem dX7_sheep_17 : decode cX7_sheep 17 = .ok (.invokestatic 45, 3) := by decide +kernel
theorem dX7_sheep_20 : decode cX7_sheep 20 = .ok (.ifCond .ne 6, 3) := by decide +kernel
theorem dX7_sheep_23 : decode cX7_sheep 23 = .ok (.bipush (-3), 2) := by decide +kernel
theorem dX7_sheep_25 : decode cX7_sheep 25 = .ok (.ireturn, 1) := by decide +kernel
theorem dX7_sheep_26 : decode cX7_sheep 26 = .ok (.iload_n 2, 1) := by decide +kernel
theorem dX7_sheep_27 : decode cX7_sheep 27 = .ok (.ifCond .ne 15, 3) := by decide +kernel
theorem dX7_sheep_30 : decode cX7_sheep 30 = .ok (.aload_n 0, 1) := by decide +kernel
theorem dX7_sheep_31 : decode cX7_sheep 31 = .ok (.getfield 7, 3) := by decide +kernel
theorem dX7_sheep_34 : decode cX7_sheep 34 = .ok (.bipush 8, 2) := by decide +kernel
theorem dX7_sheep_36 : decode cX7_sheep 36 = .ok (.iload_n 1, 1) := by decide +kernel
theorem dX7_sheep_37 : decode cX7_sheep 37 = .ok (.iadd, 1) := by decide +kernel
theorem dX7_sheep_38 : decode cX7_sheep 38 = .ok (.iaload, 1) := by decide +kernel
theorem dX7_sheep_39 : decode cX7_sheep 39 = .ok (.goto 43, 3) := by decide +kernel
theorem dX7_sheep_42 : decode cX7_sheep 42 = .ok (.iload_n 2, 1) := by decide +kernel
theorem dX7_sheep_43 : decode cX7_sheep 43 = .ok (.iconst 1, 1) := by decide +kernel
theorem dX7_sheep_44 : decode cX7_sheep 44 = .ok (.if_icmp .ne 15, 3) := by decide +kernel
theorem dX7_sheep_47 : decode cX7_sheep 47 = .ok (.aload_n 0, 1) := by decide +kernel
theorem dX7_sheep_48 : decode cX7_sheep 48 = .ok (.getfield 7, 3) := by decide +kernel
theorem dX7_sheep_51 : decode cX7_sheep 51 = .ok (.bipush 14, 2) := by decide +kernel
theorem dX7_sheep_53 : decode cX7_sheep 53 = .ok (.iload_n 1, 1) := by decide +kernel
theorem dX7_sheep_54 : decode cX7_sheep 54 = .ok (.iadd, 1) := by decide +kernel
theorem dX7_sheep_55 : decode cX7_sheep 55 = .ok (.iaload, 1) := by decide +kernel
theorem dX7_sheep_56 : decode cX7_sheep 56 = .ok (.goto 26, 3) := by decide +kernel
theorem dX7_sheep_59 : decode cX7_sheep 59 = .ok (.iload_n 2, 1) := by decide +kernel
theorem dX7_sheep_60 : decode cX7_sheep 60 = .ok (.iconst 2, 1) := by decide +kernel
theorem dX7_sheep_61 : decode cX7_sheep 61 = .ok (.if_icmp .ne 16, 3) := by decide +kernel
theorem dX7_sheep_64 : decode cX7_sheep 64 = .ok (.aload_n 0, 1) := by decide +kernel
theorem dX7_sheep_65 : decode cX7_sheep 65 = .ok (.getfield 13, 3) := by decide +kernel
theorem dX7_sheep_68 : decode cX7_sheep 68 = .ok (.iconst 5, 1) := by decide +kernel
theorem dX7_sheep_69 : decode cX7_sheep 69 = .ok (.iaload, 1) := by decide +kernel
theorem dX7_sheep_70 : decode cX7_sheep 70 = .ok (.iload_n 1, 1) := by decide +kernel
theorem dX7_sheep_71 : decode cX7_sheep 71 = .ok (.ishr, 1) := by decide +kernel
theorem dX7_sheep_72 : decode cX7_sheep 72 = .ok (.iconst 1, 1) := by decide +kernel
theorem dX7_sheep_73 : decode cX7_sheep 73 = .ok (.iand, 1) := by decide +kernel
theorem dX7_sheep_74 : decode cX7_sheep 74 = .ok (.goto 8, 3) := by decide +kernel
theorem dX7_sheep_77 : decode cX7_sheep 77 = .ok (.aload_n 0, 1) := by decide +kernel
theorem dX7_sheep_78 : decode cX7_sheep 78 = .ok (.iload_n 1, 1) := by decide +kernel
theorem dX7_sheep_79 : decode cX7_sheep 79 = .ok (.invokevirtual 134, 3) := by decide +kernel
theorem dX7_sheep_82 : decode cX7_sheep 82 = .ok (.ireturn, 1) := by decide +kernel
theorem dX7_near_0 : decode cX7_near 0 = .ok (.iload_n 1, 1) := by decide +kernel
theorem dX7_near_1 : decode cX7_near 1 = .ok (.i2l, 1) := by decide +kernel
theorem dX7_near_2 : decode cX7_near 2 = .ok (.lconst 0, 1) := by decide +kernel
theorem dX7_near_3 : decode cX7_near 3 = .ok (.aload_n 0, 1) := by decide +kernel
theorem dX7_near_4 : decode cX7_near 4 = .ok (.getfield 7, 3) := by decide +kernel
theorem dX7_near_7 : decode cX7_near 7 = .ok (.bipush 20, 2) := by decide +kernel
theorem dX7_near_9 : decode cX7_near 9 = .ok (.iaload, 1) := by decide +kernel
theorem dX7_near_10 : decode cX7_near 10 = .ok (.iconst 1, 1) := by decide +kernel
theorem dX7_near_11 : decode cX7_near 11 = .ok (.isub, 1) := by decide +kernel
theorem dX7_near_12 : decode cX7_near 12 = .ok (.i2l, 1) := by decide +kernel
theorem dX7_near_13 : decode cX7_near 13 = .ok (.invokestatic 45, 3) := by decide +kernel
theorem dX7_near_16 : decode cX7_near 16 = .ok (.ifCond .eq 15, 3) := by decide +kernel
theorem dX7_near_19 : decode cX7_near 19 = .ok (.aload_n 0, 1) := by decide +kernel
theorem dX7_near_20 : decode cX7_near 20 = .ok (.getfield 7, 3) := by decide +kernel
theorem dX7_near_23 : decode cX7_near 23 = .ok (.bipush 21, 2) := by decide +kernel
theorem dX7_near_25 : decode cX7_near 25 = .ok (.iload_n 1, 1) := by decide +kernel
theorem dX7_near_26 : decode cX7_near 26 = .ok (.iadd, 1) := by decide +kernel
theorem dX7_near_27 : decode cX7_near 27 = .ok (.iaload, 1) := by decide +kernel
theorem dX7_near_28 : decode cX7_near 28 = .ok (.goto 5, 3) := by decide +kernel
theorem dX7_near_31 : decode cX7_near 31 = .ok (.bipush (-2), 2) := by decide +kernel
theorem dX7_near_33 : decode cX7_near 33 = .ok (.ireturn, 1) := by decide +kernel
theorem dX7_as_0 : decode cX7_as 0 = .ok (.aload_n 0, 1) := by decide +kernel
theorem dX7_as_1 : decode cX7_as 1 = .ok (.iload_n 1, 1) := by decide +kernel
theorem dX7_as_2 : decode cX7_as 2 = .ok (.invokevirtual 129, 3) := by decide +kernel
theorem dX7_as_5 : decode cX7_as 5 = .ok (.ifCond .ne 6, 3) := by decide +kernel
theorem dX7_as_8 : decode cX7_as 8 = .ok (.bipush (-2), 2) := by decide +kernel
theorem dX7_as_10 : decode cX7_as 10 = .ok (.ireturn, 1) := by decide +kernel
theorem dX7_as_11 : decode cX7_as 11 = .ok (.iload_n 2, 1) := by decide +kernel
theorem dX7_as_12 : decode cX7_as 12 = .ok (.i2l, 1) := by decide +kernel
theorem dX7_as_13 : decode cX7_as 13 = .ok (.lconst 0, 1) := by decide +kernel
theorem dX7_as_14 : decode cX7_as 14 = .ok (.ldc2_w 137, 3) := by decide +kernel
theorem dX7_as_17 : decode cX7_as 17 = .ok (.invokestatic 45, 3) := by decide +kernel
theorem dX7_as_20 : decode cX7_as 20 = .ok (.ifCond .ne 6, 3) := by decide +kernel
theorem dX7_as_23 : decode cX7_as 23 = .ok (.bipush (-3), 2) := by decide +kernel
theorem dX7_as_25 : decode cX7_as 25 = .ok (.ireturn, 1) := by decide +kernel
theorem dX7_as_26 : decode cX7_as 26 = .ok (.aload_n 0, 1) := by decide +kernel
theorem dX7_as_27 : decode cX7_as 27 = .ok (.getfield 7, 3) := by decide +kernel
theorem dX7_as_30 : decode cX7_as 30 = .ok (.bipush 8, 2) := by decide +kernel
theorem dX7_as_32 : decode cX7_as 32 = .ok (.iload_n 1, 1) := by decide +kernel
theorem dX7_as_33 : decode cX7_as 33 = .ok (.iadd, 1) := by decide +kernel
theorem dX7_as_34 : decode cX7_as 34 = .ok (.iaload, 1) := by decide +kernel
theorem dX7_as_35 : decode cX7_as 35 = .ok (.istore_n 3, 1) := by decide +kernel
theorem dX7_as_36 : decode cX7_as 36 = .ok (.iload_n 2, 1) := by decide +kernel
theorem dX7_as_37 : decode cX7_as 37 = .ok (.ifCond .eq 25, 3) := by decide +kernel
theorem dX7_as_40 : decode cX7_as 40 = .ok (.iload_n 2, 1) := by decide +kernel
theorem dX7_as_41 : decode cX7_as 41 = .ok (.iconst 1, 1) := by decide +kernel
theorem dX7_as_42 : decode cX7_as 42 = .ok (.if_icmp .ne 8, 3) := by decide +kernel
theorem dX7_as_45 : decode cX7_as 45 = .ok (.iload_n 3, 1) := by decide +kernel
theorem dX7_as_46 : decode cX7_as 46 = .ok (.iconst 3, 1) := by decide +kernel
theorem dX7_as_47 : decode cX7_as 47 = .ok (.if_icmp .lt 15, 3) := by decide +kernel
theorem dX7_as_50 : decode cX7_as 50 = .ok (.iload_n 2, 1) := by decide +kernel
theorem dX7_as_51 : decode cX7_as 51 = .ok (.iconst 1, 1) := by decide +kernel
theorem dX7_as_52 : decode cX7_as 52 = .ok (.if_icmp .le 14, 3) := by decide +kernel
theorem dX7_as_55 : decode cX7_as 55 = .ok (.iload_n 3, 1) := by decide +kernel
theorem dX7_as_56 : decode cX7_as 56 = .ok (.iload_n 2, 1) := by decide +kernel
theorem dX7_as_57 : decode cX7_as 57 = .ok (.iconst 1, 1) := by decide +kernel
theorem dX7_as_58 : decode cX7_as 58 = .ok (.isub, 1) := by decide +kernel
theorem dX7_as_59 : decode cX7_as 59 = .ok (.if_icmp .ne 7, 3) := by decide +kernel
theorem dX7_as_62 : decode cX7_as 62 = .ok (.iconst 1, 1) := by decide +kernel
theorem dX7_as_63 : decode cX7_as 63 = .ok (.goto 4, 3) := by decide +kernel
theorem dX7_as_66 : decode cX7_as 66 = .ok (.iconst 0, 1) := by decide +kernel
theorem dX7_as_67 : decode cX7_as 67 = .ok (.istore 4, 2) := by decide +kernel
theorem dX7_as_69 : decode cX7_as 69 = .ok (.iload 4, 2) := by decide +kernel
theorem dX7_as_71 : decode cX7_as 71 = .ok (.ifCond .eq 11, 3) := by decide +kernel
theorem dX7_as_74 : decode cX7_as 74 = .ok (.aload_n 0, 1) := by decide +kernel
theorem dX7_as_75 : decode cX7_as 75 = .ok (.iload_n 1, 1) := by decide +kernel
theorem dX7_as_76 : decode cX7_as 76 = .ok (.invokevirtual 139, 3) := by decide +kernel
theorem dX7_as_79 : decode cX7_as 79 = .ok (.goto 5, 3) := by decide +kernel
theorem dX7_as_82 : decode cX7_as 82 = .ok (.bipush (-4), 2) := by decide +kernel
theorem dX7_as_84 : decode cX7_as 84 = .ok (.ireturn, 1) := by decide +kernel
theorem dX7_note_0 : decode cX7_note 0 = .ok (.aload_n 0, 1) := by decide +kernel
theorem dX7_note_1 : decode cX7_note 1 = .ok (.getfield 117, 3) := by decide +kernel
theorem dX7_note_4 : decode cX7_note 4 = .ok (.bipush 8, 2) := by decide +kernel
theorem dX7_note_6 : decode cX7_note 6 = .ok (.if_icmp .ne 42, 3) := by decide +kernel
theorem dX7_note_9 : decode cX7_note 9 = .ok (.iconst 0, 1) := by decide +kernel
theorem dX7_note_10 : decode cX7_note 10 = .ok (.istore_n 1, 1) := by decide +kernel
theorem dX7_note_11 : decode cX7_note 11 = .ok (.iload_n 1, 1) := by decide +kernel
theorem dX7_note_12 : decode cX7_note 12 = .ok (.bipush 126, 2) := by decide +kernel
theorem dX7_note_14 : decode cX7_note 14 = .ok (.if_icmp .ge 24, 3) := by decide +kernel
theorem dX7_note_17 : decode cX7_note 17 = .ok (.aload_n 0, 1) := by decide +kernel
theorem dX7_note_18 : decode cX7_note 18 = .ok (.getfield 22, 3) := by decide +kernel
theorem dX7_note_21 : decode cX7_note 21 = .ok (.iload_n 1, 1) := by decide +kernel
theorem dX7_note_22 : decode cX7_note 22 = .ok (.aload_n 0, 1) := by decide +kernel
theorem dX7_note_23 : decode cX7_note 23 = .ok (.getfield 22, 3) := by decide +kernel
theorem dX7_note_26 : decode cX7_note 26 = .ok (.iload_n 1, 1) := by decide +kernel
theorem dX7_note_27 : decode cX7_note 27 = .ok (.bipush 18, 2) := by decide +kernel
theorem dX7_note_29 : decode cX7_note 29 = .ok (.iadd, 1) := by decide +kernel
theorem dX7_note_30 : decode cX7_note 30 = .ok (.iaload, 1) := by decide +kernel
theorem dX7_note_31 : decode cX7_note 31 = .ok (.iastore, 1) := by decide +kernel
theorem dX7_note_32 : decode cX7_note 32 = .ok (.iinc 1 1, 3) := by decide +kernel
theorem dX7_note_35 : decode cX7_note 35 = .ok (.goto (-24), 3) := by decide +kernel
theorem dX7_note_38 : decode cX7_note 38 = .ok (.aload_n 0, 1) := by decide +kernel
theorem dX7_note_39 : decode cX7_note 39 = .ok (.dup, 1) := by decide +kernel
theorem dX7_note_40 : decode cX7_note 40 = .ok (.getfield 117, 3) := by decide +kernel
theorem dX7_note_43 : decode cX7_note 43 = .ok (.iconst 1, 1) := by decide +kernel
theorem dX7_note_44 : decode cX7_note 44 = .ok (.isub, 1) := by decide +kernel
theorem dX7_note_45 : decode cX7_note 45 = .ok (.putfield 117, 3) := by decide +kernel
theorem dX7_note_48 : decode cX7_note 48 = .ok (.iconst 0, 1) := by decide +kernel
theorem dX7_note_49 : decode cX7_note 49 = .ok (.istore_n 1, 1) := by decide +kernel
theorem dX7_note_50 : decode cX7_note 50 = .ok (.iload_n 1, 1) := by decide +kernel
theorem dX7_note_51 : decode cX7_note 51 = .ok (.bipush 18, 2) := by decide +kernel
theorem dX7_note_53 : decode cX7_note 53 = .ok (.if_icmp .ge 29, 3) := by decide +kernel
theorem dX7_note_56 : decode cX7_note 56 = .ok (.aload_n 0, 1) := by decide +kernel
theorem dX7_note_57 : decode cX7_note 57 = .ok (.getfield 22, 3) := by decide +kernel
theorem dX7_note_60 : decode cX7_note 60 = .ok (.bipush 18, 2) := by decide +kernel
theorem dX7_note_62 : decode cX7_note 62 = .ok (.aload_n 0, 1) := by decide +kernel
theorem dX7_note_63 : decode cX7_note 63 = .ok (.getfield 117, 3) := by decide +kernel
theorem dX7_note_66 : decode cX7_note 66 = .ok (.imul, 1) := by decide +kernel
theorem dX7_note_67 : decode cX7_note 67 = .ok (.iload_n 1, 1) := by decide +kernel
theorem dX7_note_68 : decode cX7_note 68 = .ok (.iadd, 1) := by decide +kernel
theorem dX7_note_69 : decode cX7_note 69 = .ok (.aload_n 0, 1) := by decide +kernel
theorem dX7_note_70 : decode cX7_note 70 = .ok (.getfield 13, 3) := by decide +kernel
theorem dX7_note_73 : decode cX7_note 73 = .ok (.iload_n 1, 1) := by decide +kernel
theorem dX7_note_74 : decode cX7_note 74 = .ok (.iaload, 1) := by decide +kernel
theorem dX7_note_75 : decode cX7_note 75 = .ok (.iastore, 1) := by decide +kernel
theorem dX7_note_76 : decode cX7_note 76 = .ok (.iinc 1 1, 3) := by decide +kernel
theorem dX7_note_79 : decode cX7_note 79 = .ok (.goto (-29), 3) := by decide +kernel
theorem dX7_note_82 : decode cX7_note 82 = .ok (.aload_n 0, 1) := by decide +kernel
theorem dX7_note_83 : decode cX7_note 83 = .ok (.dup, 1) := by decide +kernel
theorem dX7_note_84 : decode cX7_note 84 = .ok (.getfield 117, 3) := by decide +kernel
theorem dX7_note_87 : decode cX7_note 87 = .ok (.iconst 1, 1) := by decide +kernel
theorem dX7_note_88 : decode cX7_note 88 = .ok (.iadd, 1) := by decide +kernel
theorem dX7_note_89 : decode cX7_note 89 = .ok (.putfield 117, 3) := by decide +kernel
theorem dX7_note_92 : decode cX7_note 92 = .ok (.return_, 1) := by decide +kernel
theorem dX7_give_0 : decode cX7_give 0 = .ok (.iload_n 1, 1) := by decide +kernel
theorem dX7_give_1 : decode cX7_give 1 = .ok (.i2l, 1) := by decide +kernel
theorem dX7_give_2 : decode cX7_give 2 = .ok (.lconst 1, 1) := by decide +kernel
theorem dX7_give_3 : decode cX7_give 3 = .ok (.ldc2_w 142, 3) := by decide +kernel
theorem dX7_give_6 : decode cX7_give 6 = .ok (.invokestatic 45, 3) := by decide +kernel
theorem dX7_give_9 : decode cX7_give 9 = .ok (.ifCond .ne 6, 3) := by decide +kernel
theorem dX7_give_12 : decode cX7_give 12 = .ok (.bipush (-3), 2) := by decide +kernel
theorem dX7_give_14 : decode cX7_give 14 = .ok (.ireturn, 1) := by decide +kernel
theorem dX7_give_15 : decode cX7_give 15 = .ok (.aload_n 0, 1) := by decide +kernel
theorem dX7_give_16 : decode cX7_give 16 = .ok (.getfield 13, 3) := by decide +kernel
theorem dX7_give_19 : decode cX7_give 19 = .ok (.iconst 3, 1) := by decide +kernel
theorem dX7_give_20 : decode cX7_give 20 = .ok (.iaload, 1) := by decide +kernel
theorem dX7_give_21 : decode cX7_give 21 = .ok (.iconst 1, 1) := by decide +kernel
theorem dX7_give_22 : decode cX7_give 22 = .ok (.if_icmp .eq 13, 3) := by decide +kernel
theorem dX7_give_25 : decode cX7_give 25 = .ok (.iload_n 1, 1) := by decide +kernel
theorem dX7_give_26 : decode cX7_give 26 = .ok (.aload_n 0, 1) := by decide +kernel
theorem dX7_give_27 : decode cX7_give 27 = .ok (.getfield 13, 3) := by decide +kernel
theorem dX7_give_30 : decode cX7_give 30 = .ok (.iconst 0, 1) := by decide +kernel
theorem dX7_give_31 : decode cX7_give 31 = .ok (.iaload, 1) := by decide +kernel
theorem dX7_give_32 : decode cX7_give 32 = .ok (.if_icmp .le 6, 3) := by decide +kernel
theorem dX7_give_35 : decode cX7_give 35 = .ok (.bipush (-4), 2) := by decide +kernel
theorem dX7_give_37 : decode cX7_give 37 = .ok (.ireturn, 1) := by decide +kernel
theorem dX7_give_38 : decode cX7_give 38 = .ok (.aload_n 0, 1) := by decide +kernel
theorem dX7_give_39 : decode cX7_give 39 = .ok (.invokevirtual 144, 3) := by decide +kernel
theorem dX7_give_42 : decode cX7_give 42 = .ok (.aload_n 0, 1) := by decide +kernel
theorem dX7_give_43 : decode cX7_give 43 = .ok (.getfield 13, 3) := by decide +kernel
theorem dX7_give_46 : decode cX7_give 46 = .ok (.iconst 0, 1) := by decide +kernel
theorem dX7_give_47 : decode cX7_give 47 = .ok (.dup2, 1) := by decide +kernel
theorem dX7_give_48 : decode cX7_give 48 = .ok (.iaload, 1) := by decide +kernel
theorem dX7_give_49 : decode cX7_give 49 = .ok (.iload_n 1, 1) := by decide +kernel
theorem dX7_give_50 : decode cX7_give 50 = .ok (.isub, 1) := by decide +kernel
theorem dX7_give_51 : decode cX7_give 51 = .ok (.iastore, 1) := by decide +kernel
theorem dX7_give_52 : decode cX7_give 52 = .ok (.aload_n 0, 1) := by decide +kernel
theorem dX7_give_53 : decode cX7_give 53 = .ok (.getfield 13, 3) := by decide +kernel
theorem dX7_give_56 : decode cX7_give 56 = .ok (.iconst 1, 1) := by decide +kernel
theorem dX7_give_57 : decode cX7_give 57 = .ok (.dup2, 1) := by decide +kernel
theorem dX7_give_58 : decode cX7_give 58 = .ok (.iaload, 1) := by decide +kernel
theorem dX7_give_59 : decode cX7_give 59 = .ok (.iload_n 1, 1) := by decide +kernel
theorem dX7_give_60 : decode cX7_give 60 = .ok (.iadd, 1) := by decide +kernel
theorem dX7_give_61 : decode cX7_give 61 = .ok (.iastore, 1) := by decide +kernel
theorem dX7_give_62 : decode cX7_give 62 = .ok (.aload_n 0, 1) := by decide +kernel
theorem dX7_give_63 : decode cX7_give 63 = .ok (.getfield 13, 3) := by decide +kernel
theorem dX7_give_66 : decode cX7_give 66 = .ok (.iconst 1, 1) := by decide +kernel
theorem dX7_give_67 : decode cX7_give 67 = .ok (.iaload, 1) := by decide +kernel
theorem dX7_give_68 : decode cX7_give 68 = .ok (.ireturn, 1) := by decide +kernel
theorem dX7_eat_0 : decode cX7_eat 0 = .ok (.aload_n 0, 1) := by decide +kernel
theorem dX7_eat_1 : decode cX7_eat 1 = .ok (.getfield 13, 3) := by decide +kernel
theorem dX7_eat_4 : decode cX7_eat 4 = .ok (.bipush 6, 2) := by decide +kernel
theorem dX7_eat_6 : decode cX7_eat 6 = .ok (.iload_n 1, 1) := by decide +kernel
theorem dX7_eat_7 : decode cX7_eat 7 = .ok (.iadd, 1) := by decide +kernel
theorem dX7_eat_8 : decode cX7_eat 8 = .ok (.iconst 2, 1) := by decide +kernel
theorem dX7_eat_9 : decode cX7_eat 9 = .ok (.iastore, 1) := by decide +kernel
theorem dX7_eat_10 : decode cX7_eat 10 = .ok (.aload_n 0, 1) := by decide +kernel
theorem dX7_eat_11 : decode cX7_eat 11 = .ok (.getfield 13, 3) := by decide +kernel
theorem dX7_eat_14 : decode cX7_eat 14 = .ok (.bipush 12, 2) := by decide +kernel
