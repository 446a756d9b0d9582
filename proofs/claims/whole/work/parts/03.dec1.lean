theorem dX6_init_0 : decode cX6_init 0 = .ok (.aload_n 0, 1) := by decide +kernel
theorem dX6_init_1 : decode cX6_init 1 = .ok (.invokespecial 1, 3) := by decide +kernel
theorem dX6_init_4 : decode cX6_init 4 = .ok (.aload_n 0, 1) := by decide +kernel
theorem dX6_init_5 : decode cX6_init 5 = .ok (.new 7, 3) := by decide +kernel
theorem dX6_init_8 : decode cX6_init 8 = .ok (.dup, 1) := by decide +kernel
theorem dX6_init_9 : decode cX6_init 9 = .ok (.invokespecial 9, 3) := by decide +kernel
theorem dX6_init_12 : decode cX6_init 12 = .ok (.putfield 10, 3) := by decide +kernel
theorem dX6_init_15 : decode cX6_init 15 = .ok (.aload_n 0, 1) := by decide +kernel
theorem dX6_init_16 : decode cX6_init 16 = .ok (.new 16, 3) := by decide +kernel
theorem dX6_init_19 : decode cX6_init 19 = .ok (.dup, 1) := by decide +kernel
theorem dX6_init_20 : decode cX6_init 20 = .ok (.invokespecial 18, 3) := by decide +kernel
theorem dX6_init_23 : decode cX6_init 23 = .ok (.putfield 19, 3) := by decide +kernel
theorem dX6_init_26 : decode cX6_init 26 = .ok (.aload_n 0, 1) := by decide +kernel
theorem dX6_init_27 : decode cX6_init 27 = .ok (.new 16, 3) := by decide +kernel
theorem dX6_init_30 : decode cX6_init 30 = .ok (.dup, 1) := by decide +kernel
theorem dX6_init_31 : decode cX6_init 31 = .ok (.invokespecial 18, 3) := by decide +kernel
theorem dX6_init_34 : decode cX6_init 34 = .ok (.putfield 23, 3) := by decide +kernel
theorem dX6_init_37 : decode cX6_init 37 = .ok (.aload_n 0, 1) := by decide +kernel
theorem dX6_init_38 : decode cX6_init 38 = .ok (.new 26, 3) := by decide +kernel
theorem dX6_init_41 : decode cX6_init 41 = .ok (.dup, 1) := by decide +kernel
theorem dX6_init_42 : decode cX6_init 42 = .ok (.invokespecial 28, 3) := by decide +kernel
theorem dX6_init_45 : decode cX6_init 45 = .ok (.putfield 29, 3) := by decide +kernel
theorem dX6_init_48 : decode cX6_init 48 = .ok (.aload_n 0, 1) := by decide +kernel
theorem dX6_init_49 : decode cX6_init 49 = .ok (.new 33, 3) := by decide +kernel
theorem dX6_init_52 : decode cX6_init 52 = .ok (.dup, 1) := by decide +kernel
theorem dX6_init_53 : decode cX6_init 53 = .ok (.invokespecial 35, 3) := by decide +kernel
theorem dX6_init_56 : decode cX6_init 56 = .ok (.putfield 36, 3) := by decide +kernel
theorem dX6_init_59 : decode cX6_init 59 = .ok (.aload_n 0, 1) := by decide +kernel
theorem dX6_init_60 : decode cX6_init 60 = .ok (.iconst 2, 1) := by decide +kernel
theorem dX6_init_61 : decode cX6_init 61 = .ok (.anewarray 26, 3) := by decide +kernel
theorem dX6_init_64 : decode cX6_init 64 = .ok (.putfield 40, 3) := by decide +kernel
theorem dX6_init_67 : decode cX6_init 67 = .ok (.iconst 0, 1) := by decide +kernel
theorem dX6_init_68 : decode cX6_init 68 = .ok (.istore_n 1, 1) := by decide +kernel
theorem dX6_init_69 : decode cX6_init 69 = .ok (.iload_n 1, 1) := by decide +kernel
theorem dX6_init_70 : decode cX6_init 70 = .ok (.iconst 2, 1) := by decide +kernel
theorem dX6_init_71 : decode cX6_init 71 = .ok (.if_icmp .ge 22, 3) := by decide +kernel
theorem dX6_init_74 : decode cX6_init 74 = .ok (.aload_n 0, 1) := by decide +kernel
theorem dX6_init_75 : decode cX6_init 75 = .ok (.getfield 40, 3) := by decide +kernel
theorem dX6_init_78 : decode cX6_init 78 = .ok (.iload_n 1, 1) := by decide +kernel
theorem dX6_init_79 : decode cX6_init 79 = .ok (.new 26, 3) := by decide +kernel
theorem dX6_init_82 : decode cX6_init 82 = .ok (.dup, 1) := by decide +kernel
theorem dX6_init_83 : decode cX6_init 83 = .ok (.invokespecial 28, 3) := by decide +kernel
theorem dX6_init_86 : decode cX6_init 86 = .ok (.aastore, 1) := by decide +kernel
theorem dX6_init_87 : decode cX6_init 87 = .ok (.iinc 1 1, 3) := by decide +kernel
theorem dX6_init_90 : decode cX6_init 90 = .ok (.goto (-21), 3) := by decide +kernel
theorem dX6_init_93 : decode cX6_init 93 = .ok (.aload_n 0, 1) := by decide +kernel
theorem dX6_init_94 : decode cX6_init 94 = .ok (.iconst 2, 1) := by decide +kernel
theorem dX6_init_95 : decode cX6_init 95 = .ok (.newarray .boolean, 2) := by decide +kernel
theorem dX6_init_97 : decode cX6_init 97 = .ok (.putfield 44, 3) := by decide +kernel
theorem dX6_init_100 : decode cX6_init 100 = .ok (.aload_n 0, 1) := by decide +kernel
theorem dX6_init_101 : decode cX6_init 101 = .ok (.new 48, 3) := by decide +kernel
theorem dX6_init_104 : decode cX6_init 104 = .ok (.dup, 1) := by decide +kernel
theorem dX6_init_105 : decode cX6_init 105 = .ok (.invokespecial 50, 3) := by decide +kernel
theorem dX6_init_108 : decode cX6_init 108 = .ok (.putfield 51, 3) := by decide +kernel
theorem dX6_init_111 : decode cX6_init 111 = .ok (.aload_n 0, 1) := by decide +kernel
theorem dX6_init_112 : decode cX6_init 112 = .ok (.new 55, 3) := by decide +kernel
theorem dX6_init_115 : decode cX6_init 115 = .ok (.dup, 1) := by decide +kernel
theorem dX6_init_116 : decode cX6_init 116 = .ok (.invokespecial 57, 3) := by decide +kernel
theorem dX6_init_119 : decode cX6_init 119 = .ok (.putfield 58, 3) := by decide +kernel
theorem dX6_init_122 : decode cX6_init 122 = .ok (.aload_n 0, 1) := by decide +kernel
theorem dX6_init_123 : decode cX6_init 123 = .ok (.getfield 29, 3) := by decide +kernel
theorem dX6_init_126 : decode cX6_init 126 = .ok (.aload_n 0, 1) := by decide +kernel
theorem dX6_init_127 : decode cX6_init 127 = .ok (.getfield 19, 3) := by decide +kernel
theorem dX6_init_130 : decode cX6_init 130 = .ok (.invokevirtual 62, 3) := by decide +kernel
theorem dX6_init_133 : decode cX6_init 133 = .ok (.return_, 1) := by decide +kernel
theorem dX6_write_0 : decode cX6_write 0 = .ok (.iload_n 1, 1) := by decide +kernel
theorem dX6_write_1 : decode cX6_write 1 = .ok (.iconst 0, 1) := by decide +kernel
theorem dX6_write_2 : decode cX6_write 2 = .ok (.sipush 255, 3) := by decide +kernel
theorem dX6_write_5 : decode cX6_write 5 = .ok (.invokestatic 66, 3) := by decide +kernel
theorem dX6_write_8 : decode cX6_write 8 = .ok (.ifCond .eq 6, 3) := by decide +kernel
theorem dX6_write_11 : decode cX6_write 11 = .ok (.bipush (-3), 2) := by decide +kernel
theorem dX6_write_13 : decode cX6_write 13 = .ok (.ireturn, 1) := by decide +kernel
theorem dX6_write_14 : decode cX6_write 14 = .ok (.aload_n 0, 1) := by decide +kernel
theorem dX6_write_15 : decode cX6_write 15 = .ok (.getfield 10, 3) := by decide +kernel
theorem dX6_write_18 : decode cX6_write 18 = .ok (.iload_n 1, 1) := by decide +kernel
theorem dX6_write_19 : decode cX6_write 19 = .ok (.i2c, 1) := by decide +kernel
theorem dX6_write_20 : decode cX6_write 20 = .ok (.invokevirtual 70, 3) := by decide +kernel
theorem dX6_write_23 : decode cX6_write 23 = .ok (.ifCond .eq 13, 3) := by decide +kernel
theorem dX6_write_26 : decode cX6_write 26 = .ok (.aload_n 0, 1) := by decide +kernel
theorem dX6_write_27 : decode cX6_write 27 = .ok (.getfield 10, 3) := by decide +kernel
theorem dX6_write_30 : decode cX6_write 30 = .ok (.getfield 74, 3) := by decide +kernel
theorem dX6_write_33 : decode cX6_write 33 = .ok (.goto 5, 3) := by decide +kernel
theorem dX6_write_36 : decode cX6_write 36 = .ok (.bipush (-5), 2) := by decide +kernel
theorem dX6_write_38 : decode cX6_write 38 = .ok (.ireturn, 1) := by decide +kernel
theorem dX6_erase_0 : decode cX6_erase 0 = .ok (.aload_n 0, 1) := by decide +kernel
theorem dX6_erase_1 : decode cX6_erase 1 = .ok (.getfield 10, 3) := by decide +kernel
theorem dX6_erase_4 : decode cX6_erase 4 = .ok (.getfield 74, 3) := by decide +kernel
theorem dX6_erase_7 : decode cX6_erase 7 = .ok (.istore_n 1, 1) := by decide +kernel
theorem dX6_erase_8 : decode cX6_erase 8 = .ok (.aload_n 0, 1) := by decide +kernel
theorem dX6_erase_9 : decode cX6_erase 9 = .ok (.getfield 10, 3) := by decide +kernel
theorem dX6_erase_12 : decode cX6_erase 12 = .ok (.iconst 0, 1) := by decide +kernel
theorem dX6_erase_13 : decode cX6_erase 13 = .ok (.putfield 74, 3) := by decide +kernel
theorem dX6_erase_16 : decode cX6_erase 16 = .ok (.iload_n 1, 1) := by decide +kernel
theorem dX6_erase_17 : decode cX6_erase 17 = .ok (.ireturn, 1) := by decide +kernel
theorem dX6_fault_0 : decode cX6_fault 0 = .ok (.aload_n 0, 1) := by decide +kernel
theorem dX6_fault_1 : decode cX6_fault 1 = .ok (.getfield 23, 3) := by decide +kernel
theorem dX6_fault_4 : decode cX6_fault 4 = .ok (.aload_n 0, 1) := by decide +kernel
theorem dX6_fault_5 : decode cX6_fault 5 = .ok (.getfield 19, 3) := by decide +kernel
theorem dX6_fault_8 : decode cX6_fault 8 = .ok (.invokevirtual 78, 3) := by decide +kernel
theorem dX6_fault_11 : decode cX6_fault 11 = .ok (.aload_n 0, 1) := by decide +kernel
theorem dX6_fault_12 : decode cX6_fault 12 = .ok (.getfield 10, 3) := by decide +kernel
theorem dX6_fault_15 : decode cX6_fault 15 = .ok (.aload_n 0, 1) := by decide +kernel
theorem dX6_fault_16 : decode cX6_fault 16 = .ok (.getfield 23, 3) := by decide +kernel
theorem dX6_fault_19 : decode cX6_fault 19 = .ok (.invokevirtual 81, 3) := by decide +kernel
theorem dX6_fault_22 : decode cX6_fault 22 = .ok (.ireturn, 1) := by decide +kernel
theorem dX6_cave_0 : decode cX6_cave 0 = .ok (.aload_n 0, 1) := by decide +kernel
theorem dX6_cave_1 : decode cX6_cave 1 = .ok (.getfield 23, 3) := by decide +kernel
theorem dX6_cave_4 : decode cX6_cave 4 = .ok (.aload_n 0, 1) := by decide +kernel
theorem dX6_cave_5 : decode cX6_cave 5 = .ok (.getfield 19, 3) := by decide +kernel
theorem dX6_cave_8 : decode cX6_cave 8 = .ok (.invokevirtual 78, 3) := by decide +kernel
theorem dX6_cave_11 : decode cX6_cave 11 = .ok (.aload_n 0, 1) := by decide +kernel
theorem dX6_cave_12 : decode cX6_cave 12 = .ok (.getfield 10, 3) := by decide +kernel
theorem dX6_cave_15 : decode cX6_cave 15 = .ok (.aload_n 0, 1) := by decide +kernel
theorem dX6_cave_16 : decode cX6_cave 16 = .ok (.getfield 23, 3) := by decide +kernel
theorem dX6_cave_19 : decode cX6_cave 19 = .ok (.invokevirtual 81, 3) := by decide +kernel
theorem dX6_cave_22 : decode cX6_cave 22 = .ok (.iconst (-1), 1) := by decide +kernel
theorem dX6_cave_23 : decode cX6_cave 23 = .ok (.if_icmp .eq 6, 3) := by decide +kernel
theorem dX6_cave_26 : decode cX6_cave 26 = .ok (.bipush (-4), 2) := by decide +kernel
theorem dX6_cave_28 : decode cX6_cave 28 = .ok (.ireturn, 1) := by decide +kernel
theorem dX6_cave_29 : decode cX6_cave 29 = .ok (.aload_n 0, 1) := by decide +kernel
theorem dX6_cave_30 : decode cX6_cave 30 = .ok (.getfield 19, 3) := by decide +kernel
theorem dX6_cave_33 : decode cX6_cave 33 = .ok (.aload_n 0, 1) := by decide +kernel
theorem dX6_cave_34 : decode cX6_cave 34 = .ok (.getfield 23, 3) := by decide +kernel
theorem dX6_cave_37 : decode cX6_cave 37 = .ok (.invokevirtual 78, 3) := by decide +kernel
theorem dX6_cave_40 : decode cX6_cave 40 = .ok (.aload_n 0, 1) := by decide +kernel
theorem dX6_cave_41 : decode cX6_cave 41 = .ok (.getfield 10, 3) := by decide +kernel
theorem dX6_cave_44 : decode cX6_cave 44 = .ok (.iconst 0, 1) := by decide +kernel
theorem dX6_cave_45 : decode cX6_cave 45 = .ok (.putfield 74, 3) := by decide +kernel
theorem dX6_cave_48 : decode cX6_cave 48 = .ok (.aload_n 0, 1) := by decide +kernel
theorem dX6_cave_49 : decode cX6_cave 49 = .ok (.invokevirtual 85, 3) := by decide +kernel
theorem dX6_cave_52 : decode cX6_cave 52 = .ok (.aload_n 0, 1) := by decide +kernel
theorem dX6_cave_53 : decode cX6_cave 53 = .ok (.getfield 10, 3) := by decide +kernel
theorem dX6_cave_56 : decode cX6_cave 56 = .ok (.getfield 88, 3) := by decide +kernel
theorem dX6_cave_59 : decode cX6_cave 59 = .ok (.ireturn, 1) := by decide +kernel
theorem dX6_man_0 : decode cX6_man 0 = .ok (.aload_n 0, 1) := by decide +kernel
theorem dX6_man_1 : decode cX6_man 1 = .ok (.getfield 19, 3) := by decide +kernel
theorem dX6_man_4 : decode cX6_man 4 = .ok (.iload_n 1, 1) := by decide +kernel
theorem dX6_man_5 : decode cX6_man 5 = .ok (.invokevirtual 91, 3) := by decide +kernel
theorem dX6_man_8 : decode cX6_man 8 = .ok (.ifCond .ne 6, 3) := by decide +kernel
theorem dX6_man_11 : decode cX6_man 11 = .ok (.bipush (-2), 2) := by decide +kernel
theorem dX6_man_13 : decode cX6_man 13 = .ok (.ireturn, 1) := by decide +kernel
theorem dX6_man_14 : decode cX6_man 14 = .ok (.iload_n 2, 1) := by decide +kernel
theorem dX6_man_15 : decode cX6_man 15 = .ok (.tableswitch 54 0 2 #[25, 35, 44], 25) := by decide +kernel
theorem dX6_man_40 : decode cX6_man 40 = .ok (.aload_n 0, 1) := by decide +kernel
theorem dX6_man_41 : decode cX6_man 41 = .ok (.getfield 19, 3) := by decide +kernel
theorem dX6_man_44 : decode cX6_man 44 = .ok (.getfield 95, 3) := by decide +kernel
theorem dX6_man_47 : decode cX6_man 47 = .ok (.iload_n 1, 1) := by decide +kernel
theorem dX6_man_48 : decode cX6_man 48 = .ok (.iaload, 1) := by decide +kernel
theorem dX6_man_49 : decode cX6_man 49 = .ok (.ireturn, 1) := by decide +kernel
theorem dX6_man_50 : decode cX6_man 50 = .ok (.aload_n 0, 1) := by decide +kernel
theorem dX6_man_51 : decode cX6_man 51 = .ok (.getfield 29, 3) := by decide +kernel
theorem dX6_man_54 : decode cX6_man 54 = .ok (.iload_n 1, 1) := by decide +kernel
theorem dX6_man_55 : decode cX6_man 55 = .ok (.invokevirtual 99, 3) := by decide +kernel
theorem dX6_man_58 : decode cX6_man 58 = .ok (.ireturn, 1) := by decide +kernel
theorem dX6_man_59 : decode cX6_man 59 = .ok (.aload_n 0, 1) := by decide +kernel
theorem dX6_man_60 : decode cX6_man 60 = .ok (.getfield 29, 3) := by decide +kernel
theorem dX6_man_63 : decode cX6_man 63 = .ok (.getfield 103, 3) := by decide +kernel
theorem dX6_man_66 : decode cX6_man 66 = .ok (.iload_n 1, 1) := by decide +kernel
theorem dX6_man_67 : decode cX6_man 67 = .ok (.iaload, 1) := by decide +kernel
theorem dX6_man_68 : decode cX6_man 68 = .ok (.ireturn, 1) := by decide +kernel
theorem dX6_man_69 : decode cX6_man 69 = .ok (.bipush (-3), 2) := by decide +kernel
theorem dX6_man_71 : decode cX6_man 71 = .ok (.ireturn, 1) := by decide +kernel
theorem dX6_sheep_0 : decode cX6_sheep 0 = .ok (.aload_n 0, 1) := by decide +kernel
theorem dX6_sheep_1 : decode cX6_sheep 1 = .ok (.getfield 19, 3) := by decide +kernel
theorem dX6_sheep_4 : decode cX6_sheep 4 = .ok (.iload_n 1, 1) := by decide +kernel
theorem dX6_sheep_5 : decode cX6_sheep 5 = .ok (.invokevirtual 106, 3) := by decide +kernel
theorem dX6_sheep_8 : decode cX6_sheep 8 = .ok (.ifCond .ne 6, 3) := by decide +kernel
theorem dX6_sheep_11 : decode cX6_sheep 11 = .ok (.bipush (-2), 2) := by decide +kernel
theorem dX6_sheep_13 : decode cX6_sheep 13 = .ok (.ireturn, 1) := by decide +kernel
theorem dX6_sheep_14 : decode cX6_sheep 14 = .ok (.iload_n 2, 1) := by decide +kernel
theorem dX6_sheep_15 : decode cX6_sheep 15 = .ok (.tableswitch 78 0 3 #[29, 39, 49, 69], 29) := by decide +kernel
theorem dX6_sheep_44 : decode cX6_sheep 44 = .ok (.aload_n 0, 1) := by decide +kernel
theorem dX6_sheep_45 : decode cX6_sheep 45 = .ok (.getfield 19, 3) := by decide +kernel
theorem dX6_sheep_48 : decode cX6_sheep 48 = .ok (.getfield 109, 3) := by decide +kernel
theorem dX6_sheep_51 : decode cX6_sheep 51 = .ok (.iload_n 1, 1) := by decide +kernel
theorem dX6_sheep_52 : decode cX6_sheep 52 = .ok (.iaload, 1) := by decide +kernel
theorem dX6_sheep_53 : decode cX6_sheep 53 = .ok (.ireturn, 1) := by decide +kernel
theorem dX6_sheep_54 : decode cX6_sheep 54 = .ok (.aload_n 0, 1) := by decide +kernel
theorem dX6_sheep_55 : decode cX6_sheep 55 = .ok (.getfield 19, 3) := by decide +kernel
theorem dX6_sheep_58 : decode cX6_sheep 58 = .ok (.getfield 112, 3) := by decide +kernel
theorem dX6_sheep_61 : decode cX6_sheep 61 = .ok (.iload_n 1, 1) := by decide +kernel
theorem dX6_sheep_62 : decode cX6_sheep 62 = .ok (.iaload, 1) := by decide +kernel
theorem dX6_sheep_63 : decode cX6_sheep 63 = .ok (.ireturn, 1) := by decide +kernel
theorem dX6_sheep_64 : decode cX6_sheep 64 = .ok (.aload_n 0, 1) := by decide +kernel
theorem dX6_sheep_65 : decode cX6_sheep 65 = .ok (.getfield 29, 3) := by decide +kernel
theorem dX6_sheep_68 : decode cX6_sheep 68 = .ok (.getfield 115, 3) := by decide +kernel
theorem dX6_sheep_71 : decode cX6_sheep 71 = .ok (.iload_n 1, 1) := by decide +kernel
theorem dX6_sheep_72 : decode cX6_sheep 72 = .ok (.invokestatic 118, 3) := by decide +kernel
theorem dX6_sheep_75 : decode cX6_sheep 75 = .ok (.ifCond .eq 7, 3) := by decide +kernel
theorem dX6_sheep_78 : decode cX6_sheep 78 = .ok (.iconst 1, 1) := by decide +kernel
theorem dX6_sheep_79 : decode cX6_sheep 79 = .ok (.goto 4, 3) := by decide +kernel
theorem dX6_sheep_82 : decode cX6_sheep 82 = .ok (.iconst 0, 1) := by decide +kernel
theorem dX6_sheep_83 : decode cX6_sheep 83 = .ok (.ireturn, 1) := by decide +kernel
theorem dX6_sheep_84 : decode cX6_sheep 84 = .ok (.aload_n 0, 1) := by decide +kernel
theorem dX6_sheep_85 : decode cX6_sheep 85 = .ok (.getfield 29, 3) := by decide +kernel
theorem dX6_sheep_88 : decode cX6_sheep 88 = .ok (.iload_n 1, 1) := by decide +kernel
theorem dX6_sheep_89 : decode cX6_sheep 89 = .ok (.invokevirtual 122, 3) := by decide +kernel
theorem dX6_sheep_92 : decode cX6_sheep 92 = .ok (.ireturn, 1) := by decide +kernel
theorem dX6_sheep_93 : decode cX6_sheep 93 = .ok (.bipush (-3), 2) := by decide +kernel
theorem dX6_sheep_95 : decode cX6_sheep 95 = .ok (.ireturn, 1) := by decide +kernel
theorem dX6_near_0 : decode cX6_near 0 = .ok (.aload_n 0, 1) := by decide +kernel
theorem dX6_near_1 : decode cX6_near 1 = .ok (.getfield 19, 3) := by decide +kernel
theorem dX6_near_4 : decode cX6_near 4 = .ok (.iload_n 1, 1) := by decide +kernel
theorem dX6_near_5 : decode cX6_near 5 = .ok (.invokevirtual 125, 3) := by decide +kernel
theorem dX6_near_8 : decode cX6_near 8 = .ok (.ifCond .eq 15, 3) := by decide +kernel
theorem dX6_near_11 : decode cX6_near 11 = .ok (.aload_n 0, 1) := by decide +kernel
theorem dX6_near_12 : decode cX6_near 12 = .ok (.getfield 19, 3) := by decide +kernel
theorem dX6_near_15 : decode cX6_near 15 = .ok (.getfield 128, 3) := by decide +kernel
theorem dX6_near_18 : decode cX6_near 18 = .ok (.iload_n 1, 1) := by decide +kernel
theorem dX6_near_19 : decode cX6_near 19 = .ok (.iaload, 1) := by decide +kernel
theorem dX6_near_20 : decode cX6_near 20 = .ok (.goto 5, 3) := by decide +kernel
theorem dX6_near_23 : decode cX6_near 23 = .ok (.bipush (-2), 2) := by decide +kernel
theorem dX6_near_25 : decode cX6_near 25 = .ok (.ireturn, 1) := by decide +kernel
theorem dX6_as_0 : decode cX6_as 0 = .ok (.aload_n 0, 1) := by decide +kernel
theorem dX6_as_1 : decode cX6_as 1 = .ok (.getfield 19, 3) := by decide +kernel
theorem dX6_as_4 : decode cX6_as 4 = .ok (.iload_n 1, 1) := by decide +kernel
theorem dX6_as_5 : decode cX6_as 5 = .ok (.invokevirtual 106, 3) := by decide +kernel
theorem dX6_as_8 : decode cX6_as 8 = .ok (.ifCond .ne 6, 3) := by decide +kernel
theorem dX6_as_11 : decode cX6_as 11 = .ok (.bipush (-2), 2) := by decide +kernel
theorem dX6_as_13 : decode cX6_as 13 = .ok (.ireturn, 1) := by decide +kernel
theorem dX6_as_14 : decode cX6_as 14 = .ok (.iload_n 2, 1) := by decide +kernel
theorem dX6_as_15 : decode cX6_as 15 = .ok (.iconst 0, 1) := by decide +kernel
theorem dX6_as_16 : decode cX6_as 16 = .ok (.getstatic 131, 3) := by decide +kernel
theorem dX6_as_19 : decode cX6_as 19 = .ok (.arraylength, 1) := by decide +kernel
theorem dX6_as_20 : decode cX6_as 20 = .ok (.iconst 1, 1) := by decide +kernel
theorem dX6_as_21 : decode cX6_as 21 = .ok (.isub, 1) := by decide +kernel
theorem dX6_as_22 : decode cX6_as 22 = .ok (.invokestatic 66, 3) := by decide +kernel
theorem dX6_as_25 : decode cX6_as 25 = .ok (.ifCond .eq 6, 3) := by decide +kernel
theorem dX6_as_28 : decode cX6_as 28 = .ok (.bipush (-3), 2) := by decide +kernel
theorem dX6_as_30 : decode cX6_as 30 = .ok (.ireturn, 1) := by decide +kernel
theorem dX6_as_31 : decode cX6_as 31 = .ok (.aload_n 0, 1) := by decide +kernel
theorem dX6_as_32 : decode cX6_as 32 = .ok (.getfield 19, 3) := by decide +kernel
theorem dX6_as_35 : decode cX6_as 35 = .ok (.getfield 109, 3) := by decide +kernel
theorem dX6_as_38 : decode cX6_as 38 = .ok (.iload_n 1, 1) := by decide +kernel
theorem dX6_as_39 : decode cX6_as 39 = .ok (.iaload, 1) := by decide +kernel
theorem dX6_as_40 : decode cX6_as 40 = .ok (.iload_n 2, 1) := by decide +kernel
theorem dX6_as_41 : decode cX6_as 41 = .ok (.invokestatic 134, 3) := by decide +kernel
theorem dX6_as_44 : decode cX6_as 44 = .ok (.ifCond .eq 14, 3) := by decide +kernel
theorem dX6_as_47 : decode cX6_as 47 = .ok (.aload_n 0, 1) := by decide +kernel
theorem dX6_as_48 : decode cX6_as 48 = .ok (.getfield 19, 3) := by decide +kernel
theorem dX6_as_51 : decode cX6_as 51 = .ok (.iload_n 1, 1) := by decide +kernel
theorem dX6_as_52 : decode cX6_as 52 = .ok (.invokevirtual 137, 3) := by decide +kernel
theorem dX6_as_55 : decode cX6_as 55 = .ok (.goto 5, 3) := by decide +kernel
theorem dX6_as_58 : decode cX6_as 58 = .ok (.bipush (-4), 2) := by decide +kernel
theorem dX6_as_60 : decode cX6_as 60 = .ok (.ireturn, 1) := by decide +kernel
theorem dX6_give_0 : decode cX6_give 0 = .ok (.iload_n 1, 1) := by decide +kernel
theorem dX6_give_1 : decode cX6_give 1 = .ok (.iconst 1, 1) := by decide +kernel
theorem dX6_give_2 : decode cX6_give 2 = .ok (.bipush 50, 2) := by decide +kernel
theorem dX6_give_4 : decode cX6_give 4 = .ok (.invokestatic 66, 3) := by decide +kernel
theorem dX6_give_7 : decode cX6_give 7 = .ok (.ifCond .eq 6, 3) := by decide +kernel
theorem dX6_give_10 : decode cX6_give 10 = .ok (.bipush (-3), 2) := by decide +kernel
theorem dX6_give_12 : decode cX6_give 12 = .ok (.ireturn, 1) := by decide +kernel
theorem dX6_give_13 : decode cX6_give 13 = .ok (.aload_n 0, 1) := by decide +kernel
theorem dX6_give_14 : decode cX6_give 14 = .ok (.getfield 29, 3) := by decide +kernel
theorem dX6_give_17 : decode cX6_give 17 = .ok (.getfield 140, 3) := by decide +kernel
theorem dX6_give_20 : decode cX6_give 20 = .ok (.ifCond .ne 14, 3) := by decide +kernel
theorem dX6_give_23 : decode cX6_give 23 = .ok (.iload_n 1, 1) := by decide +kernel
theorem dX6_give_24 : decode cX6_give 24 = .ok (.aload_n 0, 1) := by decide +kernel
theorem dX6_give_25 : decode cX6_give 25 = .ok (.getfield 29, 3) := by decide +kernel
theorem dX6_give_28 : decode cX6_give 28 = .ok (.getfield 144, 3) := by decide +kernel
theorem dX6_give_31 : decode cX6_give 31 = .ok (.if_icmp .le 6, 3) := by decide +kernel
theorem dX6_give_34 : decode cX6_give 34 = .ok (.bipush (-4), 2) := by decide +kernel
theorem dX6_give_36 : decode cX6_give 36 = .ok (.ireturn, 1) := by decide +kernel
theorem dX6_give_37 : decode cX6_give 37 = .ok (.aload_n 0, 1) := by decide +kernel
theorem dX6_give_38 : decode cX6_give 38 = .ok (.getfield 36, 3) := by decide +kernel
theorem dX6_give_41 : decode cX6_give 41 = .ok (.aload_n 0, 1) := by decide +kernel
theorem dX6_give_42 : decode cX6_give 42 = .ok (.getfield 29, 3) := by decide +kernel
theorem dX6_give_45 : decode cX6_give 45 = .ok (.invokevirtual 147, 3) := by decide +kernel
theorem dX6_give_48 : decode cX6_give 48 = .ok (.aload_n 0, 1) := by decide +kernel
theorem dX6_give_49 : decode cX6_give 49 = .ok (.getfield 29, 3) := by decide +kernel
theorem dX6_give_52 : decode cX6_give 52 = .ok (.dup, 1) := by decide +kernel
theorem dX6_give_53 : decode cX6_give 53 = .ok (.getfield 144, 3) := by decide +kernel
theorem dX6_give_56 : decode cX6_give 56 = .ok (.iload_n 1, 1) := by decide +kernel
theorem dX6_give_57 : decode cX6_give 57 = .ok (.isub, 1) := by decide +kernel
theorem dX6_give_58 : decode cX6_give 58 = .ok (.putfield 144, 3) := by decide +kernel
theorem dX6_give_61 : decode cX6_give 61 = .ok (.aload_n 0, 1) := by decide +kernel
theorem dX6_give_62 : decode cX6_give 62 = .ok (.getfield 29, 3) := by decide +kernel
theorem dX6_give_65 : decode cX6_give 65 = .ok (.dup, 1) := by decide +kernel
theorem dX6_give_66 : decode cX6_give 66 = .ok (.getfield 151, 3) := by decide +kernel
theorem dX6_give_69 : decode cX6_give 69 = .ok (.iload_n 1, 1) := by decide +kernel
theorem dX6_give_70 : decode cX6_give 70 = .ok (.iadd, 1) := by decide +kernel
theorem dX6_give_71 : decode cX6_give 71 = .ok (.putfield 151, 3) := by decide +kernel
theorem dX6_give_74 : decode cX6_give 74 = .ok (.aload_n 0, 1) := by decide +kernel
theorem dX6_give_75 : decode cX6_give 75 = .ok (.getfield 29, 3) := by decide +kernel
theorem dX6_give_78 : decode cX6_give 78 = .ok (.getfield 151, 3) := by decide +kernel
theorem dX6_give_81 : decode cX6_give 81 = .ok (.ireturn, 1) := by decide +kernel
theorem dX6_day_0 : decode cX6_day 0 = .ok (.aload_n 0, 1) := by decide +kernel
theorem dX6_day_1 : decode cX6_day 1 = .ok (.getfield 29, 3) := by decide +kernel
theorem dX6_day_4 : decode cX6_day 4 = .ok (.getfield 154, 3) := by decide +kernel
theorem dX6_day_7 : decode cX6_day 7 = .ok (.bipush 99, 2) := by decide +kernel
theorem dX6_day_9 : decode cX6_day 9 = .ok (.if_icmp .lt 6, 3) := by decide +kernel
theorem dX6_day_12 : decode cX6_day 12 = .ok (.bipush (-5), 2) := by decide +kernel
theorem dX6_day_14 : decode cX6_day 14 = .ok (.ireturn, 1) := by decide +kernel
theorem dX6_day_15 : decode cX6_day 15 = .ok (.aload_n 0, 1) := by decide +kernel
theorem dX6_day_16 : decode cX6_day 16 = .ok (.getfield 36, 3) := by decide +kernel
theorem dX6_day_19 : decode cX6_day 19 = .ok (.aload_n 0, 1) := by decide +kernel
theorem dX6_day_20 : decode cX6_day 20 = .ok (.getfield 29, 3) := by decide +kernel
theorem dX6_day_23 : decode cX6_day 23 = .ok (.invokevirtual 147, 3) := by decide +kernel
theorem dX6_day_26 : decode cX6_day 26 = .ok (.aload_n 0, 1) := by decide +kernel
theorem dX6_day_27 : decode cX6_day 27 = .ok (.getfield 29, 3) := by decide +kernel
theorem dX6_day_30 : decode cX6_day 30 = .ok (.getfield 140, 3) := by decide +kernel
theorem dX6_day_33 : decode cX6_day 33 = .ok (.ifCond .eq 7, 3) := by decide +kernel
theorem dX6_day_36 : decode cX6_day 36 = .ok (.iconst 0, 1) := by decide +kernel
theorem dX6_day_37 : decode cX6_day 37 = .ok (.goto 17, 3) := by decide +kernel
theorem dX6_day_40 : decode cX6_day 40 = .ok (.aload_n 0, 1) := by decide +kernel
theorem dX6_day_41 : decode cX6_day 41 = .ok (.getfield 29, 3) := by decide +kernel
theorem dX6_day_44 : decode cX6_day 44 = .ok (.aload_n 0, 1) := by decide +kernel
theorem dX6_day_45 : decode cX6_day 45 = .ok (.getfield 19, 3) := by decide +kernel
theorem dX6_day_48 : decode cX6_day 48 = .ok (.getfield 157, 3) := by decide +kernel
theorem dX6_day_51 : decode cX6_day 51 = .ok (.invokevirtual 160, 3) := by decide +kernel
theorem dX6_day_54 : decode cX6_day 54 = .ok (.istore_n 1, 1) := by decide +kernel
theorem dX6_day_55 : decode cX6_day 55 = .ok (.aload_n 0, 1) := by decide +kernel
theorem dX6_day_56 : decode cX6_day 56 = .ok (.getfield 29, 3) := by decide +kernel
theorem dX6_day_59 : decode cX6_day 59 = .ok (.bipush 9, 2) := by decide +kernel
theorem dX6_day_61 : decode cX6_day 61 = .ok (.aload_n 0, 1) := by decide +kernel
theorem dX6_day_62 : decode cX6_day 62 = .ok (.getfield 29, 3) := by decide +kernel
theorem dX6_day_65 : decode cX6_day 65 = .ok (.getfield 163, 3) := by decide +kernel
theorem dX6_day_68 : decode cX6_day 68 = .ok (.iconst 1, 1) := by decide +kernel
theorem dX6_day_69 : decode cX6_day 69 = .ok (.iadd, 1) := by decide +kernel
theorem dX6_day_70 : decode cX6_day 70 = .ok (.invokestatic 166, 3) := by decide +kernel
theorem dX6_day_73 : decode cX6_day 73 = .ok (.putfield 163, 3) := by decide +kernel
theorem dX6_day_76 : decode cX6_day 76 = .ok (.aload_n 0, 1) := by decide +kernel
theorem dX6_day_77 : decode cX6_day 77 = .ok (.getfield 29, 3) := by decide +kernel
theorem dX6_day_80 : decode cX6_day 80 = .ok (.iconst 0, 1) := by decide +kernel
theorem dX6_day_81 : decode cX6_day 81 = .ok (.putfield 151, 3) := by decide +kernel
theorem dX6_day_84 : decode cX6_day 84 = .ok (.aload_n 0, 1) := by decide +kernel
theorem dX6_day_85 : decode cX6_day 85 = .ok (.getfield 29, 3) := by decide +kernel
theorem dX6_day_88 : decode cX6_day 88 = .ok (.dup, 1) := by decide +kernel
theorem dX6_day_89 : decode cX6_day 89 = .ok (.getfield 154, 3) := by decide +kernel
theorem dX6_day_92 : decode cX6_day 92 = .ok (.iconst 1, 1) := by decide +kernel
theorem dX6_day_93 : decode cX6_day 93 = .ok (.iadd, 1) := by decide +kernel
theorem dX6_day_94 : decode cX6_day 94 = .ok (.putfield 154, 3) := by decide +kernel
theorem dX6_day_97 : decode cX6_day 97 = .ok (.iload_n 1, 1) := by decide +kernel
theorem dX6_day_98 : decode cX6_day 98 = .ok (.ireturn, 1) := by decide +kernel
theorem dX6_blind_0 : decode cX6_blind 0 = .ok (.iload_n 1, 1) := by decide +kernel
theorem dX6_blind_1 : decode cX6_blind 1 = .ok (.iconst 0, 1) := by decide +kernel
theorem dX6_blind_2 : decode cX6_blind 2 = .ok (.bipush 7, 2) := by decide +kernel
theorem dX6_blind_4 : decode cX6_blind 4 = .ok (.invokestatic 66, 3) := by decide +kernel
theorem dX6_blind_7 : decode cX6_blind 7 = .ok (.ifCond .eq 6, 3) := by decide +kernel
theorem dX6_blind_10 : decode cX6_blind 10 = .ok (.bipush (-3), 2) := by decide +kernel
theorem dX6_blind_12 : decode cX6_blind 12 = .ok (.ireturn, 1) := by decide +kernel
theorem dX6_blind_13 : decode cX6_blind 13 = .ok (.aload_n 0, 1) := by decide +kernel
theorem dX6_blind_14 : decode cX6_blind 14 = .ok (.getfield 29, 3) := by decide +kernel
theorem dX6_blind_17 : decode cX6_blind 17 = .ok (.getfield 140, 3) := by decide +kernel
theorem dX6_blind_20 : decode cX6_blind 20 = .ok (.ifCond .ne 37, 3) := by decide +kernel
theorem dX6_blind_23 : decode cX6_blind 23 = .ok (.aload_n 0, 1) := by decide +kernel
theorem dX6_blind_24 : decode cX6_blind 24 = .ok (.getfield 29, 3) := by decide +kernel
theorem dX6_blind_27 : decode cX6_blind 27 = .ok (.getfield 151, 3) := by decide +kernel
theorem dX6_blind_30 : decode cX6_blind 30 = .ok (.aload_n 0, 1) := by decide +kernel
theorem dX6_blind_31 : decode cX6_blind 31 = .ok (.getfield 19, 3) := by decide +kernel
theorem dX6_blind_34 : decode cX6_blind 34 = .ok (.getfield 172, 3) := by decide +kernel
theorem dX6_blind_37 : decode cX6_blind 37 = .ok (.if_icmp .lt 20, 3) := by decide +kernel
theorem dX6_blind_40 : decode cX6_blind 40 = .ok (.aload_n 0, 1) := by decide +kernel
theorem dX6_blind_41 : decode cX6_blind 41 = .ok (.getfield 29, 3) := by decide +kernel
theorem dX6_blind_44 : decode cX6_blind 44 = .ok (.getfield 163, 3) := by decide +kernel
theorem dX6_blind_47 : decode cX6_blind 47 = .ok (.aload_n 0, 1) := by decide +kernel
theorem dX6_blind_48 : decode cX6_blind 48 = .ok (.getfield 19, 3) := by decide +kernel
theorem dX6_blind_51 : decode cX6_blind 51 = .ok (.getfield 175, 3) := by decide +kernel
theorem dX6_blind_54 : decode cX6_blind 54 = .ok (.if_icmp .ge 6, 3) := by decide +kernel
theorem dX6_blind_57 : decode cX6_blind 57 = .ok (.bipush (-4), 2) := by decide +kernel
theorem dX6_blind_59 : decode cX6_blind 59 = .ok (.ireturn, 1) := by decide +kernel
theorem dX6_blind_60 : decode cX6_blind 60 = .ok (.aload_n 0, 1) := by decide +kernel
theorem dX6_blind_61 : decode cX6_blind 61 = .ok (.getfield 36, 3) := by decide +kernel
theorem dX6_blind_64 : decode cX6_blind 64 = .ok (.aload_n 0, 1) := by decide +kernel
theorem dX6_blind_65 : decode cX6_blind 65 = .ok (.getfield 29, 3) := by decide +kernel
theorem dX6_blind_68 : decode cX6_blind 68 = .ok (.invokevirtual 147, 3) := by decide +kernel
theorem dX6_blind_71 : decode cX6_blind 71 = .ok (.aload_n 0, 1) := by decide +kernel
theorem dX6_blind_72 : decode cX6_blind 72 = .ok (.getfield 29, 3) := by decide +kernel
theorem dX6_blind_75 : decode cX6_blind 75 = .ok (.iconst 1, 1) := by decide +kernel
theorem dX6_blind_76 : decode cX6_blind 76 = .ok (.putfield 140, 3) := by decide +kernel
theorem dX6_blind_79 : decode cX6_blind 79 = .ok (.aload_n 0, 1) := by decide +kernel
theorem dX6_blind_80 : decode cX6_blind 80 = .ok (.getfield 19, 3) := by decide +kernel
theorem dX6_blind_83 : decode cX6_blind 83 = .ok (.iload_n 1, 1) := by decide +kernel
theorem dX6_blind_84 : decode cX6_blind 84 = .ok (.invokevirtual 178, 3) := by decide +kernel
theorem dX6_blind_87 : decode cX6_blind 87 = .ok (.istore_n 2, 1) := by decide +kernel
theorem dX6_blind_88 : decode cX6_blind 88 = .ok (.aload_n 0, 1) := by decide +kernel
theorem dX6_blind_89 : decode cX6_blind 89 = .ok (.getfield 29, 3) := by decide +kernel
theorem dX6_blind_92 : decode cX6_blind 92 = .ok (.iload_n 2, 1) := by decide +kernel
theorem dX6_blind_93 : decode cX6_blind 93 = .ok (.invokestatic 181, 3) := by decide +kernel
theorem dX6_blind_96 : decode cX6_blind 96 = .ok (.invokevirtual 160, 3) := by decide +kernel
theorem dX6_blind_99 : decode cX6_blind 99 = .ok (.pop, 1) := by decide +kernel
theorem dX6_blind_100 : decode cX6_blind 100 = .ok (.iload_n 2, 1) := by decide +kernel
theorem dX6_blind_101 : decode cX6_blind 101 = .ok (.ireturn, 1) := by decide +kernel
theorem dX6_hide_0 : decode cX6_hide 0 = .ok (.aload_n 0, 1) := by decide +kernel
theorem dX6_hide_1 : decode cX6_hide 1 = .ok (.getfield 19, 3) := by decide +kernel
theorem dX6_hide_4 : decode cX6_hide 4 = .ok (.iload_n 1, 1) := by decide +kernel
theorem dX6_hide_5 : decode cX6_hide 5 = .ok (.invokevirtual 91, 3) := by decide +kernel
theorem dX6_hide_8 : decode cX6_hide 8 = .ok (.ifCond .eq 19, 3) := by decide +kernel
theorem dX6_hide_11 : decode cX6_hide 11 = .ok (.iload_n 2, 1) := by decide +kernel
theorem dX6_hide_12 : decode cX6_hide 12 = .ok (.iconst (-1), 1) := by decide +kernel
theorem dX6_hide_13 : decode cX6_hide 13 = .ok (.if_icmp .eq 17, 3) := by decide +kernel
theorem dX6_hide_16 : decode cX6_hide 16 = .ok (.aload_n 0, 1) := by decide +kernel
theorem dX6_hide_17 : decode cX6_hide 17 = .ok (.getfield 19, 3) := by decide +kernel
theorem dX6_hide_20 : decode cX6_hide 20 = .ok (.iload_n 2, 1) := by decide +kernel
theorem dX6_hide_21 : decode cX6_hide 21 = .ok (.invokevirtual 106, 3) := by decide +kernel
theorem dX6_hide_24 : decode cX6_hide 24 = .ok (.ifCond .ne 6, 3) := by decide +kernel
theorem dX6_hide_27 : decode cX6_hide 27 = .ok (.bipush (-2), 2) := by decide +kernel
theorem dX6_hide_29 : decode cX6_hide 29 = .ok (.ireturn, 1) := by decide +kernel
theorem dX6_hide_30 : decode cX6_hide 30 = .ok (.aload_n 0, 1) := by decide +kernel
theorem dX6_hide_31 : decode cX6_hide 31 = .ok (.getfield 29, 3) := by decide +kernel
theorem dX6_hide_34 : decode cX6_hide 34 = .ok (.iload_n 1, 1) := by decide +kernel
theorem dX6_hide_35 : decode cX6_hide 35 = .ok (.iload_n 2, 1) := by decide +kernel
theorem dX6_hide_36 : decode cX6_hide 36 = .ok (.invokevirtual 186, 3) := by decide +kernel
theorem dX6_hide_39 : decode cX6_hide 39 = .ok (.ifCond .ne 6, 3) := by decide +kernel
theorem dX6_hide_42 : decode cX6_hide 42 = .ok (.bipush (-4), 2) := by decide +kernel
theorem dX6_hide_44 : decode cX6_hide 44 = .ok (.ireturn, 1) := by decide +kernel
theorem dX6_hide_45 : decode cX6_hide 45 = .ok (.aload_n 0, 1) := by decide +kernel
theorem dX6_hide_46 : decode cX6_hide 46 = .ok (.getfield 36, 3) := by decide +kernel
theorem dX6_hide_49 : decode cX6_hide 49 = .ok (.aload_n 0, 1) := by decide +kernel
theorem dX6_hide_50 : decode cX6_hide 50 = .ok (.getfield 29, 3) := by decide +kernel
theorem dX6_hide_53 : decode cX6_hide 53 = .ok (.invokevirtual 147, 3) := by decide +kernel
theorem dX6_hide_56 : decode cX6_hide 56 = .ok (.aload_n 0, 1) := by decide +kernel
theorem dX6_hide_57 : decode cX6_hide 57 = .ok (.getfield 29, 3) := by decide +kernel
theorem dX6_hide_60 : decode cX6_hide 60 = .ok (.getfield 103, 3) := by decide +kernel
theorem dX6_hide_63 : decode cX6_hide 63 = .ok (.iload_n 1, 1) := by decide +kernel
theorem dX6_hide_64 : decode cX6_hide 64 = .ok (.iaload, 1) := by decide +kernel
theorem dX6_hide_65 : decode cX6_hide 65 = .ok (.istore_n 3, 1) := by decide +kernel
theorem dX6_hide_66 : decode cX6_hide 66 = .ok (.aload_n 0, 1) := by decide +kernel
theorem dX6_hide_67 : decode cX6_hide 67 = .ok (.getfield 29, 3) := by decide +kernel
theorem dX6_hide_70 : decode cX6_hide 70 = .ok (.getfield 103, 3) := by decide +kernel
theorem dX6_hide_73 : decode cX6_hide 73 = .ok (.iload_n 1, 1) := by decide +kernel
theorem dX6_hide_74 : decode cX6_hide 74 = .ok (.iload_n 2, 1) := by decide +kernel
theorem dX6_hide_75 : decode cX6_hide 75 = .ok (.iastore, 1) := by decide +kernel
theorem dX6_hide_76 : decode cX6_hide 76 = .ok (.iload_n 3, 1) := by decide +kernel
theorem dX6_hide_77 : decode cX6_hide 77 = .ok (.ireturn, 1) := by decide +kernel
theorem dX6_morning_0 : decode cX6_morning 0 = .ok (.aload_n 0, 1) := by decide +kernel
theorem dX6_morning_1 : decode cX6_morning 1 = .ok (.getfield 29, 3) := by decide +kernel
theorem dX6_morning_4 : decode cX6_morning 4 = .ok (.getfield 140, 3) := by decide +kernel
theorem dX6_morning_7 : decode cX6_morning 7 = .ok (.ifCond .ne 6, 3) := by decide +kernel
theorem dX6_morning_10 : decode cX6_morning 10 = .ok (.bipush (-4), 2) := by decide +kernel
theorem dX6_morning_12 : decode cX6_morning 12 = .ok (.ireturn, 1) := by decide +kernel
theorem dX6_morning_13 : decode cX6_morning 13 = .ok (.aload_n 0, 1) := by decide +kernel
theorem dX6_morning_14 : decode cX6_morning 14 = .ok (.getfield 36, 3) := by decide +kernel
theorem dX6_morning_17 : decode cX6_morning 17 = .ok (.aload_n 0, 1) := by decide +kernel
theorem dX6_morning_18 : decode cX6_morning 18 = .ok (.getfield 29, 3) := by decide +kernel
theorem dX6_morning_21 : decode cX6_morning 21 = .ok (.invokevirtual 147, 3) := by decide +kernel
theorem dX6_morning_24 : decode cX6_morning 24 = .ok (.aload_n 0, 1) := by decide +kernel
theorem dX6_morning_25 : decode cX6_morning 25 = .ok (.getfield 29, 3) := by decide +kernel
theorem dX6_morning_28 : decode cX6_morning 28 = .ok (.aload_n 0, 1) := by decide +kernel
theorem dX6_morning_29 : decode cX6_morning 29 = .ok (.getfield 19, 3) := by decide +kernel
theorem dX6_morning_32 : decode cX6_morning 32 = .ok (.invokevirtual 189, 3) := by decide +kernel
theorem dX6_morning_35 : decode cX6_morning 35 = .ok (.ireturn, 1) := by decide +kernel
theorem dX6_undo_0 : decode cX6_undo 0 = .ok (.aload_n 0, 1) := by decide +kernel
theorem dX6_undo_1 : decode cX6_undo 1 = .ok (.getfield 36, 3) := by decide +kernel
theorem dX6_undo_4 : decode cX6_undo 4 = .ok (.aload_n 0, 1) := by decide +kernel
theorem dX6_undo_5 : decode cX6_undo 5 = .ok (.getfield 29, 3) := by decide +kernel
theorem dX6_undo_8 : decode cX6_undo 8 = .ok (.invokevirtual 192, 3) := by decide +kernel
theorem dX6_undo_11 : decode cX6_undo 11 = .ok (.ifCond .eq 13, 3) := by decide +kernel
theorem dX6_undo_14 : decode cX6_undo 14 = .ok (.aload_n 0, 1) := by decide +kernel
theorem dX6_undo_15 : decode cX6_undo 15 = .ok (.getfield 36, 3) := by decide +kernel
theorem dX6_undo_18 : decode cX6_undo 18 = .ok (.getfield 196, 3) := by decide +kernel
theorem dX6_undo_21 : decode cX6_undo 21 = .ok (.goto 5, 3) := by decide +kernel
theorem dX6_undo_24 : decode cX6_undo 24 = .ok (.bipush (-4), 2) := by decide +kernel
theorem dX6_undo_26 : decode cX6_undo 26 = .ok (.ireturn, 1) := by decide +kernel
theorem dX6_keep_0 : decode cX6_keep 0 = .ok (.iload_n 1, 1) := by decide +kernel
theorem dX6_keep_1 : decode cX6_keep 1 = .ok (.iconst 0, 1) := by decide +kernel
theorem dX6_keep_2 : decode cX6_keep 2 = .ok (.iconst 1, 1) := by decide +kernel
theorem dX6_keep_3 : decode cX6_keep 3 = .ok (.invokestatic 66, 3) := by decide +kernel
theorem dX6_keep_6 : decode cX6_keep 6 = .ok (.ifCond .eq 6, 3) := by decide +kernel
theorem dX6_keep_9 : decode cX6_keep 9 = .ok (.bipush (-2), 2) := by decide +kernel
theorem dX6_keep_11 : decode cX6_keep 11 = .ok (.ireturn, 1) := by decide +kernel
theorem dX6_keep_12 : decode cX6_keep 12 = .ok (.aload_n 0, 1) := by decide +kernel
theorem dX6_keep_13 : decode cX6_keep 13 = .ok (.getfield 40, 3) := by decide +kernel
theorem dX6_keep_16 : decode cX6_keep 16 = .ok (.iload_n 1, 1) := by decide +kernel
theorem dX6_keep_17 : decode cX6_keep 17 = .ok (.aaload, 1) := by decide +kernel
theorem dX6_keep_18 : decode cX6_keep 18 = .ok (.aload_n 0, 1) := by decide +kernel
theorem dX6_keep_19 : decode cX6_keep 19 = .ok (.getfield 29, 3) := by decide +kernel
theorem dX6_keep_22 : decode cX6_keep 22 = .ok (.invokevirtual 199, 3) := by decide +kernel
theorem dX6_keep_25 : decode cX6_keep 25 = .ok (.aload_n 0, 1) := by decide +kernel
theorem dX6_keep_26 : decode cX6_keep 26 = .ok (.getfield 44, 3) := by decide +kernel
theorem dX6_keep_29 : decode cX6_keep 29 = .ok (.iload_n 1, 1) := by decide +kernel
theorem dX6_keep_30 : decode cX6_keep 30 = .ok (.iconst 1, 1) := by decide +kernel
theorem dX6_keep_31 : decode cX6_keep 31 = .ok (.bastore, 1) := by decide +kernel
theorem dX6_keep_32 : decode cX6_keep 32 = .ok (.aload_n 0, 1) := by decide +kernel
theorem dX6_keep_33 : decode cX6_keep 33 = .ok (.getfield 29, 3) := by decide +kernel
theorem dX6_keep_36 : decode cX6_keep 36 = .ok (.getfield 154, 3) := by decide +kernel
theorem dX6_keep_39 : decode cX6_keep 39 = .ok (.ireturn, 1) := by decide +kernel
theorem dX6_back_0 : decode cX6_back 0 = .ok (.iload_n 1, 1) := by decide +kernel
theorem dX6_back_1 : decode cX6_back 1 = .ok (.iconst 0, 1) := by decide +kernel
theorem dX6_back_2 : decode cX6_back 2 = .ok (.iconst 1, 1) := by decide +kernel
theorem dX6_back_3 : decode cX6_back 3 = .ok (.invokestatic 66, 3) := by decide +kernel
theorem dX6_back_6 : decode cX6_back 6 = .ok (.ifCond .eq 6, 3) := by decide +kernel
theorem dX6_back_9 : decode cX6_back 9 = .ok (.bipush (-2), 2) := by decide +kernel
theorem dX6_back_11 : decode cX6_back 11 = .ok (.ireturn, 1) := by decide +kernel
theorem dX6_back_12 : decode cX6_back 12 = .ok (.aload_n 0, 1) := by decide +kernel
theorem dX6_back_13 : decode cX6_back 13 = .ok (.getfield 44, 3) := by decide +kernel
theorem dX6_back_16 : decode cX6_back 16 = .ok (.iload_n 1, 1) := by decide +kernel
theorem dX6_back_17 : decode cX6_back 17 = .ok (.baload, 1) := by decide +kernel
theorem dX6_back_18 : decode cX6_back 18 = .ok (.ifCond .ne 6, 3) := by decide +kernel
theorem dX6_back_21 : decode cX6_back 21 = .ok (.bipush (-4), 2) := by decide +kernel
theorem dX6_back_23 : decode cX6_back 23 = .ok (.ireturn, 1) := by decide +kernel
theorem dX6_back_24 : decode cX6_back 24 = .ok (.aload_n 0, 1) := by decide +kernel
theorem dX6_back_25 : decode cX6_back 25 = .ok (.getfield 29, 3) := by decide +kernel
theorem dX6_back_28 : decode cX6_back 28 = .ok (.aload_n 0, 1) := by decide +kernel
theorem dX6_back_29 : decode cX6_back 29 = .ok (.getfield 40, 3) := by decide +kernel
theorem dX6_back_32 : decode cX6_back 32 = .ok (.iload_n 1, 1) := by decide +kernel
theorem dX6_back_33 : decode cX6_back 33 = .ok (.aaload, 1) := by decide +kernel
theorem dX6_back_34 : decode cX6_back 34 = .ok (.invokevirtual 199, 3) := by decide +kernel
theorem dX6_back_37 : decode cX6_back 37 = .ok (.aload_n 0, 1) := by decide +kernel
theorem dX6_back_38 : decode cX6_back 38 = .ok (.getfield 36, 3) := by decide +kernel
theorem dX6_back_41 : decode cX6_back 41 = .ok (.invokevirtual 201, 3) := by decide +kernel
theorem dX6_back_44 : decode cX6_back 44 = .ok (.aload_n 0, 1) := by decide +kernel
theorem dX6_back_45 : decode cX6_back 45 = .ok (.getfield 29, 3) := by decide +kernel
theorem dX6_back_48 : decode cX6_back 48 = .ok (.getfield 154, 3) := by decide +kernel
theorem dX6_back_51 : decode cX6_back 51 = .ok (.ireturn, 1) := by decide +kernel
theorem dX6_soon_0 : decode cX6_soon 0 = .ok (.iload_n 1, 1) := by decide +kernel
theorem dX6_soon_1 : decode cX6_soon 1 = .ok (.iconst 0, 1) := by decide +kernel
theorem dX6_soon_2 : decode cX6_soon 2 = .ok (.iconst 1, 1) := by decide +kernel
theorem dX6_soon_3 : decode cX6_soon 3 = .ok (.invokestatic 66, 3) := by decide +kernel
theorem dX6_soon_6 : decode cX6_soon 6 = .ok (.ifCond .eq 6, 3) := by decide +kernel
theorem dX6_soon_9 : decode cX6_soon 9 = .ok (.bipush (-3), 2) := by decide +kernel
theorem dX6_soon_11 : decode cX6_soon 11 = .ok (.ireturn, 1) := by decide +kernel
theorem dX6_soon_12 : decode cX6_soon 12 = .ok (.aload_n 0, 1) := by decide +kernel
theorem dX6_soon_13 : decode cX6_soon 13 = .ok (.invokevirtual 204, 3) := by decide +kernel
theorem dX6_soon_16 : decode cX6_soon 16 = .ok (.istore_n 2, 1) := by decide +kernel
theorem dX6_soon_17 : decode cX6_soon 17 = .ok (.iload_n 1, 1) := by decide +kernel
theorem dX6_soon_18 : decode cX6_soon 18 = .ok (.ifCond .eq 8, 3) := by decide +kernel
theorem dX6_soon_21 : decode cX6_soon 21 = .ok (.iload_n 2, 1) := by decide +kernel
theorem dX6_soon_22 : decode cX6_soon 22 = .ok (.iconst (-1), 1) := by decide +kernel
theorem dX6_soon_23 : decode cX6_soon 23 = .ok (.if_icmp .ne 5, 3) := by decide +kernel
theorem dX6_soon_26 : decode cX6_soon 26 = .ok (.iload_n 2, 1) := by decide +kernel
theorem dX6_soon_27 : decode cX6_soon 27 = .ok (.ireturn, 1) := by decide +kernel
theorem dX6_soon_28 : decode cX6_soon 28 = .ok (.aload_n 0, 1) := by decide +kernel
theorem dX6_soon_29 : decode cX6_soon 29 = .ok (.getfield 29, 3) := by decide +kernel
theorem dX6_soon_32 : decode cX6_soon 32 = .ok (.getfield 208, 3) := by decide +kernel
theorem dX6_soon_35 : decode cX6_soon 35 = .ok (.invokestatic 181, 3) := by decide +kernel
theorem dX6_soon_38 : decode cX6_soon 38 = .ok (.iload_n 2, 1) := by decide +kernel
theorem dX6_soon_39 : decode cX6_soon 39 = .ok (.aload_n 0, 1) := by decide +kernel
theorem dX6_soon_40 : decode cX6_soon 40 = .ok (.getfield 19, 3) := by decide +kernel
theorem dX6_soon_43 : decode cX6_soon 43 = .ok (.getfield 157, 3) := by decide +kernel
theorem dX6_soon_46 : decode cX6_soon 46 = .ok (.imul, 1) := by decide +kernel
theorem dX6_soon_47 : decode cX6_soon 47 = .ok (.invokestatic 166, 3) := by decide +kernel
theorem dX6_soon_50 : decode cX6_soon 50 = .ok (.ireturn, 1) := by decide +kernel
theorem dX6_plan_0 : decode cX6_plan 0 = .ok (.iload_n 1, 1) := by decide +kernel
theorem dX6_plan_1 : decode cX6_plan 1 = .ok (.iconst (-1), 1) := by decide +kernel
theorem dX6_plan_2 : decode cX6_plan 2 = .ok (.if_icmp .eq 17, 3) := by decide +kernel
theorem dX6_plan_5 : decode cX6_plan 5 = .ok (.aload_n 0, 1) := by decide +kernel
theorem dX6_plan_6 : decode cX6_plan 6 = .ok (.getfield 19, 3) := by decide +kernel
theorem dX6_plan_9 : decode cX6_plan 9 = .ok (.iload_n 1, 1) := by decide +kernel
theorem dX6_plan_10 : decode cX6_plan 10 = .ok (.invokevirtual 91, 3) := by decide +kernel
theorem dX6_plan_13 : decode cX6_plan 13 = .ok (.ifCond .ne 6, 3) := by decide +kernel
theorem dX6_plan_16 : decode cX6_plan 16 = .ok (.bipush (-2), 2) := by decide +kernel
theorem dX6_plan_18 : decode cX6_plan 18 = .ok (.ireturn, 1) := by decide +kernel
theorem dX6_plan_19 : decode cX6_plan 19 = .ok (.aload_n 0, 1) := by decide +kernel
theorem dX6_plan_20 : decode cX6_plan 20 = .ok (.getfield 51, 3) := by decide +kernel
theorem dX6_plan_23 : decode cX6_plan 23 = .ok (.aload_n 0, 1) := by decide +kernel
theorem dX6_plan_24 : decode cX6_plan 24 = .ok (.getfield 19, 3) := by decide +kernel
theorem dX6_plan_27 : decode cX6_plan 27 = .ok (.aload_n 0, 1) := by decide +kernel
theorem dX6_plan_28 : decode cX6_plan 28 = .ok (.getfield 29, 3) := by decide +kernel
theorem dX6_plan_31 : decode cX6_plan 31 = .ok (.invokevirtual 211, 3) := by decide +kernel
theorem dX6_plan_34 : decode cX6_plan 34 = .ok (.iload_n 1, 1) := by decide +kernel
theorem dX6_plan_35 : decode cX6_plan 35 = .ok (.iconst (-1), 1) := by decide +kernel
theorem dX6_plan_36 : decode cX6_plan 36 = .ok (.if_icmp .ne 14, 3) := by decide +kernel
theorem dX6_plan_39 : decode cX6_plan 39 = .ok (.aload_n 0, 1) := by decide +kernel
theorem dX6_plan_40 : decode cX6_plan 40 = .ok (.getfield 51, 3) := by decide +kernel
theorem dX6_plan_43 : decode cX6_plan 43 = .ok (.iconst 0, 1) := by decide +kernel
theorem dX6_plan_44 : decode cX6_plan 44 = .ok (.invokevirtual 215, 3) := by decide +kernel
theorem dX6_plan_47 : decode cX6_plan 47 = .ok (.goto 11, 3) := by decide +kernel
theorem dX6_plan_50 : decode cX6_plan 50 = .ok (.aload_n 0, 1) := by decide +kernel
theorem dX6_plan_51 : decode cX6_plan 51 = .ok (.getfield 51, 3) := by decide +kernel
theorem dX6_plan_54 : decode cX6_plan 54 = .ok (.iload_n 1, 1) := by decide +kernel
theorem dX6_plan_55 : decode cX6_plan 55 = .ok (.invokevirtual 218, 3) := by decide +kernel
theorem dX6_plan_58 : decode cX6_plan 58 = .ok (.ireturn, 1) := by decide +kernel
theorem dX6_feel_0 : decode cX6_feel 0 = .ok (.iload_n 1, 1) := by decide +kernel
theorem dX6_feel_1 : decode cX6_feel 1 = .ok (.iconst 0, 1) := by decide +kernel
theorem dX6_feel_2 : decode cX6_feel 2 = .ok (.bipush 6, 2) := by decide +kernel
theorem dX6_feel_4 : decode cX6_feel 4 = .ok (.invokestatic 66, 3) := by decide +kernel
theorem dX6_feel_7 : decode cX6_feel 7 = .ok (.ifCond .ne 12, 3) := by decide +kernel
theorem dX6_feel_10 : decode cX6_feel 10 = .ok (.iload_n 2, 1) := by decide +kernel
theorem dX6_feel_11 : decode cX6_feel 11 = .ok (.iconst 0, 1) := by decide +kernel
theorem dX6_feel_12 : decode cX6_feel 12 = .ok (.iconst 1, 1) := by decide +kernel
theorem dX6_feel_13 : decode cX6_feel 13 = .ok (.invokestatic 66, 3) := by decide +kernel
theorem dX6_feel_16 : decode cX6_feel 16 = .ok (.ifCond .eq 6, 3) := by decide +kernel
theorem dX6_feel_19 : decode cX6_feel 19 = .ok (.bipush (-3), 2) := by decide +kernel
theorem dX6_feel_21 : decode cX6_feel 21 = .ok (.ireturn, 1) := by decide +kernel
theorem dX6_feel_22 : decode cX6_feel 22 = .ok (.aload_n 0, 1) := by decide +kernel
theorem dX6_feel_23 : decode cX6_feel 23 = .ok (.getfield 51, 3) := by decide +kernel
theorem dX6_feel_26 : decode cX6_feel 26 = .ok (.aload_n 0, 1) := by decide +kernel
theorem dX6_feel_27 : decode cX6_feel 27 = .ok (.getfield 19, 3) := by decide +kernel
theorem dX6_feel_30 : decode cX6_feel 30 = .ok (.aload_n 0, 1) := by decide +kernel
theorem dX6_feel_31 : decode cX6_feel 31 = .ok (.getfield 29, 3) := by decide +kernel
theorem dX6_feel_34 : decode cX6_feel 34 = .ok (.invokevirtual 211, 3) := by decide +kernel
theorem dX6_feel_37 : decode cX6_feel 37 = .ok (.aload_n 0, 1) := by decide +kernel
theorem dX6_feel_38 : decode cX6_feel 38 = .ok (.getfield 51, 3) := by decide +kernel
theorem dX6_feel_41 : decode cX6_feel 41 = .ok (.aload_n 0, 1) := by decide +kernel
theorem dX6_feel_42 : decode cX6_feel 42 = .ok (.getfield 19, 3) := by decide +kernel
theorem dX6_feel_45 : decode cX6_feel 45 = .ok (.invokevirtual 221, 3) := by decide +kernel
theorem dX6_feel_48 : decode cX6_feel 48 = .ok (.aload_n 0, 1) := by decide +kernel
theorem dX6_feel_49 : decode cX6_feel 49 = .ok (.getfield 29, 3) := by decide +kernel
theorem dX6_feel_52 : decode cX6_feel 52 = .ok (.getfield 115, 3) := by decide +kernel
theorem dX6_feel_55 : decode cX6_feel 55 = .ok (.iconst (-1), 1) := by decide +kernel
theorem dX6_feel_56 : decode cX6_feel 56 = .ok (.ixor, 1) := by decide +kernel
theorem dX6_feel_57 : decode cX6_feel 57 = .ok (.iand, 1) := by decide +kernel
theorem dX6_feel_58 : decode cX6_feel 58 = .ok (.iload_n 1, 1) := by decide +kernel
theorem dX6_feel_59 : decode cX6_feel 59 = .ok (.invokevirtual 224, 3) := by decide +kernel
theorem dX6_feel_62 : decode cX6_feel 62 = .ok (.istore_n 3, 1) := by decide +kernel
theorem dX6_feel_63 : decode cX6_feel 63 = .ok (.iload_n 2, 1) := by decide +kernel
theorem dX6_feel_64 : decode cX6_feel 64 = .ok (.ifCond .ne 7, 3) := by decide +kernel
theorem dX6_feel_67 : decode cX6_feel 67 = .ok (.iload_n 3, 1) := by decide +kernel
theorem dX6_feel_68 : decode cX6_feel 68 = .ok (.goto 11, 3) := by decide +kernel
theorem dX6_feel_71 : decode cX6_feel 71 = .ok (.aload_n 0, 1) := by decide +kernel
theorem dX6_feel_72 : decode cX6_feel 72 = .ok (.getfield 51, 3) := by decide +kernel
theorem dX6_feel_75 : decode cX6_feel 75 = .ok (.iload_n 3, 1) := by decide +kernel
theorem dX6_feel_76 : decode cX6_feel 76 = .ok (.invokevirtual 215, 3) := by decide +kernel
theorem dX6_feel_79 : decode cX6_feel 79 = .ok (.ireturn, 1) := by decide +kernel
theorem dX6_names_0 : decode cX6_names 0 = .ok (.iload_n 1, 1) := by decide +kernel
theorem dX6_names_1 : decode cX6_names 1 = .ok (.lookupswitch 44 #[(0, 27), (1, 36)], 27) := by decide +kernel
theorem dX6_names_28 : decode cX6_names 28 = .ok (.aload_n 0, 1) := by decide +kernel
theorem dX6_names_29 : decode cX6_names 29 = .ok (.getfield 19, 3) := by decide +kernel
theorem dX6_names_32 : decode cX6_names 32 = .ok (.iconst 0, 1) := by decide +kernel
theorem dX6_names_33 : decode cX6_names 33 = .ok (.invokevirtual 227, 3) := by decide +kernel
theorem dX6_names_36 : decode cX6_names 36 = .ok (.ireturn, 1) := by decide +kernel
theorem dX6_names_37 : decode cX6_names 37 = .ok (.aload_n 0, 1) := by decide +kernel
theorem dX6_names_38 : decode cX6_names 38 = .ok (.getfield 19, 3) := by decide +kernel
theorem dX6_names_41 : decode cX6_names 41 = .ok (.invokevirtual 230, 3) := by decide +kernel
theorem dX6_names_44 : decode cX6_names 44 = .ok (.ireturn, 1) := by decide +kernel
theorem dX6_names_45 : decode cX6_names 45 = .ok (.bipush (-3), 2) := by decide +kernel
theorem dX6_names_47 : decode cX6_names 47 = .ok (.ireturn, 1) := by decide +kernel
theorem dX6_came_0 : decode cX6_came 0 = .ok (.iload_n 1, 1) := by decide +kernel
theorem dX6_came_1 : decode cX6_came 1 = .ok (.iconst 0, 1) := by decide +kernel
theorem dX6_came_2 : decode cX6_came 2 = .ok (.aload_n 0, 1) := by decide +kernel
theorem dX6_came_3 : decode cX6_came 3 = .ok (.getfield 19, 3) := by decide +kernel
theorem dX6_came_6 : decode cX6_came 6 = .ok (.getfield 233, 3) := by decide +kernel
theorem dX6_came_9 : decode cX6_came 9 = .ok (.invokestatic 236, 3) := by decide +kernel
theorem dX6_came_12 : decode cX6_came 12 = .ok (.invokestatic 66, 3) := by decide +kernel
theorem dX6_came_15 : decode cX6_came 15 = .ok (.ifCond .eq 8, 3) := by decide +kernel
theorem dX6_came_18 : decode cX6_came 18 = .ok (.bipush (-2), 2) := by decide +kernel
theorem dX6_came_20 : decode cX6_came 20 = .ok (.goto 11, 3) := by decide +kernel
theorem dX6_came_23 : decode cX6_came 23 = .ok (.aload_n 0, 1) := by decide +kernel
theorem dX6_came_24 : decode cX6_came 24 = .ok (.getfield 19, 3) := by decide +kernel
theorem dX6_came_27 : decode cX6_came 27 = .ok (.iload_n 1, 1) := by decide +kernel
theorem dX6_came_28 : decode cX6_came 28 = .ok (.invokevirtual 227, 3) := by decide +kernel
theorem dX6_came_31 : decode cX6_came 31 = .ok (.ireturn, 1) := by decide +kernel
theorem dX6_seen_0 : decode cX6_seen 0 = .ok (.aload_n 0, 1) := by decide +kernel
theorem dX6_seen_1 : decode cX6_seen 1 = .ok (.getfield 19, 3) := by decide +kernel
theorem dX6_seen_4 : decode cX6_seen 4 = .ok (.iload_n 1, 1) := by decide +kernel
theorem dX6_seen_5 : decode cX6_seen 5 = .ok (.invokevirtual 91, 3) := by decide +kernel
theorem dX6_seen_8 : decode cX6_seen 8 = .ok (.ifCond .eq 14, 3) := by decide +kernel
theorem dX6_seen_11 : decode cX6_seen 11 = .ok (.aload_n 0, 1) := by decide +kernel
theorem dX6_seen_12 : decode cX6_seen 12 = .ok (.getfield 19, 3) := by decide +kernel
theorem dX6_seen_15 : decode cX6_seen 15 = .ok (.iload_n 2, 1) := by decide +kernel
theorem dX6_seen_16 : decode cX6_seen 16 = .ok (.invokevirtual 106, 3) := by decide +kernel
theorem dX6_seen_19 : decode cX6_seen 19 = .ok (.ifCond .ne 6, 3) := by decide +kernel
theorem dX6_seen_22 : decode cX6_seen 22 = .ok (.bipush (-2), 2) := by decide +kernel
theorem dX6_seen_24 : decode cX6_seen 24 = .ok (.ireturn, 1) := by decide +kernel
theorem dX6_seen_25 : decode cX6_seen 25 = .ok (.iload_n 3, 1) := by decide +kernel
theorem dX6_seen_26 : decode cX6_seen 26 = .ok (.iconst 0, 1) := by decide +kernel
theorem dX6_seen_27 : decode cX6_seen 27 = .ok (.iconst 1, 1) := by decide +kernel
theorem dX6_seen_28 : decode cX6_seen 28 = .ok (.invokestatic 66, 3) := by decide +kernel
theorem dX6_seen_31 : decode cX6_seen 31 = .ok (.ifCond .eq 6, 3) := by decide +kernel
theorem dX6_seen_34 : decode cX6_seen 34 = .ok (.bipush (-3), 2) := by decide +kernel
theorem dX6_seen_36 : decode cX6_seen 36 = .ok (.ireturn, 1) := by decide +kernel
theorem dX6_seen_37 : decode cX6_seen 37 = .ok (.aload_n 0, 1) := by decide +kernel
theorem dX6_seen_38 : decode cX6_seen 38 = .ok (.getfield 58, 3) := by decide +kernel
theorem dX6_seen_41 : decode cX6_seen 41 = .ok (.iload_n 1, 1) := by decide +kernel
theorem dX6_seen_42 : decode cX6_seen 42 = .ok (.iload_n 2, 1) := by decide +kernel
theorem dX6_seen_43 : decode cX6_seen 43 = .ok (.iload_n 3, 1) := by decide +kernel
theorem dX6_seen_44 : decode cX6_seen 44 = .ok (.iconst 1, 1) := by decide +kernel
theorem dX6_seen_45 : decode cX6_seen 45 = .ok (.if_icmp .ne 7, 3) := by decide +kernel
theorem dX6_seen_48 : decode cX6_seen 48 = .ok (.iconst 1, 1) := by decide +kernel
theorem dX6_seen_49 : decode cX6_seen 49 = .ok (.goto 4, 3) := by decide +kernel
theorem dX6_seen_52 : decode cX6_seen 52 = .ok (.iconst 0, 1) := by decide +kernel
theorem dX6_seen_53 : decode cX6_seen 53 = .ok (.invokevirtual 239, 3) := by decide +kernel
theorem dX6_seen_56 : decode cX6_seen 56 = .ok (.ifCond .eq 13, 3) := by decide +kernel
theorem dX6_seen_59 : decode cX6_seen 59 = .ok (.aload_n 0, 1) := by decide +kernel
theorem dX6_seen_60 : decode cX6_seen 60 = .ok (.getfield 58, 3) := by decide +kernel
theorem dX6_seen_63 : decode cX6_seen 63 = .ok (.getfield 242, 3) := by decide +kernel
theorem dX6_seen_66 : decode cX6_seen 66 = .ok (.goto 5, 3) := by decide +kernel
theorem dX6_seen_69 : decode cX6_seen 69 = .ok (.bipush (-5), 2) := by decide +kernel
theorem dX6_seen_71 : decode cX6_seen 71 = .ok (.ireturn, 1) := by decide +kernel
theorem dX6_forget_0 : decode cX6_forget 0 = .ok (.aload_n 0, 1) := by decide +kernel
theorem dX6_forget_1 : decode cX6_forget 1 = .ok (.getfield 58, 3) := by decide +kernel
theorem dX6_forget_4 : decode cX6_forget 4 = .ok (.getfield 242, 3) := by decide +kernel
theorem dX6_forget_7 : decode cX6_forget 7 = .ok (.istore_n 1, 1) := by decide +kernel
theorem dX6_forget_8 : decode cX6_forget 8 = .ok (.aload_n 0, 1) := by decide +kernel
theorem dX6_forget_9 : decode cX6_forget 9 = .ok (.getfield 58, 3) := by decide +kernel
theorem dX6_forget_12 : decode cX6_forget 12 = .ok (.iconst 0, 1) := by decide +kernel
theorem dX6_forget_13 : decode cX6_forget 13 = .ok (.putfield 242, 3) := by decide +kernel
theorem dX6_forget_16 : decode cX6_forget 16 = .ok (.iload_n 1, 1) := by decide +kernel
theorem dX6_forget_17 : decode cX6_forget 17 = .ok (.ireturn, 1) := by decide +kernel
theorem dX6_strong_0 : decode cX6_strong 0 = .ok (.aload_n 0, 1) := by decide +kernel
theorem dX6_strong_1 : decode cX6_strong 1 = .ok (.getfield 19, 3) := by decide +kernel
theorem dX6_strong_4 : decode cX6_strong 4 = .ok (.iload_n 1, 1) := by decide +kernel
theorem dX6_strong_5 : decode cX6_strong 5 = .ok (.invokevirtual 106, 3) := by decide +kernel
theorem dX6_strong_8 : decode cX6_strong 8 = .ok (.ifCond .ne 6, 3) := by decide +kernel
theorem dX6_strong_11 : decode cX6_strong 11 = .ok (.bipush (-2), 2) := by decide +kernel
theorem dX6_strong_13 : decode cX6_strong 13 = .ok (.ireturn, 1) := by decide +kernel
theorem dX6_strong_14 : decode cX6_strong 14 = .ok (.iload_n 2, 1) := by decide +kernel
theorem dX6_strong_15 : decode cX6_strong 15 = .ok (.lookupswitch 51 #[(0, 25), (1, 38)], 25) := by decide +kernel
theorem dX6_strong_40 : decode cX6_strong 40 = .ok (.aload_n 0, 1) := by decide +kernel
theorem dX6_strong_41 : decode cX6_strong 41 = .ok (.getfield 58, 3) := by decide +kernel
theorem dX6_strong_44 : decode cX6_strong 44 = .ok (.aload_n 0, 1) := by decide +kernel
theorem dX6_strong_45 : decode cX6_strong 45 = .ok (.getfield 19, 3) := by decide +kernel
theorem dX6_strong_48 : decode cX6_strong 48 = .ok (.iload_n 1, 1) := by decide +kernel
theorem dX6_strong_49 : decode cX6_strong 49 = .ok (.invokevirtual 243, 3) := by decide +kernel
theorem dX6_strong_52 : decode cX6_strong 52 = .ok (.ireturn, 1) := by decide +kernel
theorem dX6_strong_53 : decode cX6_strong 53 = .ok (.aload_n 0, 1) := by decide +kernel
theorem dX6_strong_54 : decode cX6_strong 54 = .ok (.getfield 58, 3) := by decide +kernel
theorem dX6_strong_57 : decode cX6_strong 57 = .ok (.aload_n 0, 1) := by decide +kernel
theorem dX6_strong_58 : decode cX6_strong 58 = .ok (.getfield 19, 3) := by decide +kernel
theorem dX6_strong_61 : decode cX6_strong 61 = .ok (.iload_n 1, 1) := by decide +kernel
theorem dX6_strong_62 : decode cX6_strong 62 = .ok (.invokevirtual 247, 3) := by decide +kernel
theorem dX6_strong_65 : decode cX6_strong 65 = .ok (.ireturn, 1) := by decide +kernel
theorem dX6_strong_66 : decode cX6_strong 66 = .ok (.bipush (-3), 2) := by decide +kernel
theorem dX6_strong_68 : decode cX6_strong 68 = .ok (.ireturn, 1) := by decide +kernel
theorem dX6_boasts_0 : decode cX6_boasts 0 = .ok (.iload_n 1, 1) := by decide +kernel
theorem dX6_boasts_1 : decode cX6_boasts 1 = .ok (.iconst 0, 1) := by decide +kernel
theorem dX6_boasts_2 : decode cX6_boasts 2 = .ok (.bipush 6, 2) := by decide +kernel
theorem dX6_boasts_4 : decode cX6_boasts 4 = .ok (.invokestatic 66, 3) := by decide +kernel
theorem dX6_boasts_7 : decode cX6_boasts 7 = .ok (.ifCond .ne 43, 3) := by decide +kernel
theorem dX6_boasts_10 : decode cX6_boasts 10 = .ok (.iload_n 2, 1) := by decide +kernel
theorem dX6_boasts_11 : decode cX6_boasts 11 = .ok (.iconst 0, 1) := by decide +kernel
theorem dX6_boasts_12 : decode cX6_boasts 12 = .ok (.bipush 20, 2) := by decide +kernel
theorem dX6_boasts_14 : decode cX6_boasts 14 = .ok (.invokestatic 66, 3) := by decide +kernel
theorem dX6_boasts_17 : decode cX6_boasts 17 = .ok (.ifCond .ne 33, 3) := by decide +kernel
theorem dX6_boasts_20 : decode cX6_boasts 20 = .ok (.iload_n 3, 1) := by decide +kernel
theorem dX6_boasts_21 : decode cX6_boasts 21 = .ok (.iconst 0, 1) := by decide +kernel
theorem dX6_boasts_22 : decode cX6_boasts 22 = .ok (.iconst 5, 1) := by decide +kernel
theorem dX6_boasts_23 : decode cX6_boasts 23 = .ok (.invokestatic 66, 3) := by decide +kernel
theorem dX6_boasts_26 : decode cX6_boasts 26 = .ok (.ifCond .ne 24, 3) := by decide +kernel
theorem dX6_boasts_29 : decode cX6_boasts 29 = .ok (.iload 4, 2) := by decide +kernel
theorem dX6_boasts_31 : decode cX6_boasts 31 = .ok (.iconst 0, 1) := by decide +kernel
theorem dX6_boasts_32 : decode cX6_boasts 32 = .ok (.bipush 9, 2) := by decide +kernel
theorem dX6_boasts_34 : decode cX6_boasts 34 = .ok (.invokestatic 66, 3) := by decide +kernel
theorem dX6_boasts_37 : decode cX6_boasts 37 = .ok (.ifCond .ne 13, 3) := by decide +kernel
theorem dX6_boasts_40 : decode cX6_boasts 40 = .ok (.iload 5, 2) := by decide +kernel
theorem dX6_boasts_42 : decode cX6_boasts 42 = .ok (.iconst 0, 1) := by decide +kernel
theorem dX6_boasts_43 : decode cX6_boasts 43 = .ok (.iconst 1, 1) := by decide +kernel
theorem dX6_boasts_44 : decode cX6_boasts 44 = .ok (.invokestatic 66, 3) := by decide +kernel
theorem dX6_boasts_47 : decode cX6_boasts 47 = .ok (.ifCond .eq 6, 3) := by decide +kernel
theorem dX6_boasts_50 : decode cX6_boasts 50 = .ok (.bipush (-3), 2) := by decide +kernel
theorem dX6_boasts_52 : decode cX6_boasts 52 = .ok (.ireturn, 1) := by decide +kernel
theorem dX6_boasts_53 : decode cX6_boasts 53 = .ok (.iconst 1, 1) := by decide +kernel
theorem dX6_boasts_54 : decode cX6_boasts 54 = .ok (.istore 6, 2) := by decide +kernel
theorem dX6_boasts_56 : decode cX6_boasts 56 = .ok (.iconst 1, 1) := by decide +kernel
theorem dX6_boasts_57 : decode cX6_boasts 57 = .ok (.istore 7, 2) := by decide +kernel
theorem dX6_boasts_59 : decode cX6_boasts 59 = .ok (.iconst 0, 1) := by decide +kernel
theorem dX6_boasts_60 : decode cX6_boasts 60 = .ok (.istore 8, 2) := by decide +kernel
theorem dX6_boasts_62 : decode cX6_boasts 62 = .ok (.iload 8, 2) := by decide +kernel
theorem dX6_boasts_64 : decode cX6_boasts 64 = .ok (.iload_n 1, 1) := by decide +kernel
theorem dX6_boasts_65 : decode cX6_boasts 65 = .ok (.if_icmp .ge 31, 3) := by decide +kernel
theorem dX6_boasts_68 : decode cX6_boasts 68 = .ok (.iload 6, 2) := by decide +kernel
theorem dX6_boasts_70 : decode cX6_boasts 70 = .ok (.iload_n 2, 1) := by decide +kernel
theorem dX6_boasts_71 : decode cX6_boasts 71 = .ok (.iload 8, 2) := by decide +kernel
theorem dX6_boasts_73 : decode cX6_boasts 73 = .ok (.iload_n 3, 1) := by decide +kernel
theorem dX6_boasts_74 : decode cX6_boasts 74 = .ok (.imul, 1) := by decide +kernel
theorem dX6_boasts_75 : decode cX6_boasts 75 = .ok (.iadd, 1) := by decide +kernel
theorem dX6_boasts_76 : decode cX6_boasts 76 = .ok (.iload 4, 2) := by decide +kernel
theorem dX6_boasts_78 : decode cX6_boasts 78 = .ok (.invokestatic 250, 3) := by decide +kernel
theorem dX6_boasts_81 : decode cX6_boasts 81 = .ok (.imul, 1) := by decide +kernel
theorem dX6_boasts_82 : decode cX6_boasts 82 = .ok (.istore 6, 2) := by decide +kernel
theorem dX6_boasts_84 : decode cX6_boasts 84 = .ok (.iload 7, 2) := by decide +kernel
theorem dX6_boasts_86 : decode cX6_boasts 86 = .ok (.iconst 5, 1) := by decide +kernel
theorem dX6_boasts_87 : decode cX6_boasts 87 = .ok (.imul, 1) := by decide +kernel
theorem dX6_boasts_88 : decode cX6_boasts 88 = .ok (.istore 7, 2) := by decide +kernel
theorem dX6_boasts_90 : decode cX6_boasts 90 = .ok (.iinc 8 1, 3) := by decide +kernel
theorem dX6_boasts_93 : decode cX6_boasts 93 = .ok (.goto (-31), 3) := by decide +kernel
theorem dX6_boasts_96 : decode cX6_boasts 96 = .ok (.iconst 0, 1) := by decide +kernel
theorem dX6_boasts_97 : decode cX6_boasts 97 = .ok (.istore 8, 2) := by decide +kernel
theorem dX6_boasts_99 : decode cX6_boasts 99 = .ok (.iload 8, 2) := by decide +kernel
theorem dX6_boasts_101 : decode cX6_boasts 101 = .ok (.iload_n 1, 1) := by decide +kernel
theorem dX6_boasts_102 : decode cX6_boasts 102 = .ok (.if_icmp .ge 35, 3) := by decide +kernel
theorem dX6_boasts_105 : decode cX6_boasts 105 = .ok (.iload 6, 2) := by decide +kernel
theorem dX6_boasts_107 : decode cX6_boasts 107 = .ok (.iconst 5, 1) := by decide +kernel
theorem dX6_boasts_108 : decode cX6_boasts 108 = .ok (.irem, 1) := by decide +kernel
theorem dX6_boasts_109 : decode cX6_boasts 109 = .ok (.ifCond .ne 22, 3) := by decide +kernel
theorem dX6_boasts_112 : decode cX6_boasts 112 = .ok (.iload 7, 2) := by decide +kernel
theorem dX6_boasts_114 : decode cX6_boasts 114 = .ok (.iconst 5, 1) := by decide +kernel
theorem dX6_boasts_115 : decode cX6_boasts 115 = .ok (.irem, 1) := by decide +kernel
theorem dX6_boasts_116 : decode cX6_boasts 116 = .ok (.ifCond .ne 15, 3) := by decide +kernel
theorem dX6_boasts_119 : decode cX6_boasts 119 = .ok (.iload 6, 2) := by decide +kernel
theorem dX6_boasts_121 : decode cX6_boasts 121 = .ok (.iconst 5, 1) := by decide +kernel
theorem dX6_boasts_122 : decode cX6_boasts 122 = .ok (.idiv, 1) := by decide +kernel
theorem dX6_boasts_123 : decode cX6_boasts 123 = .ok (.istore 6, 2) := by decide +kernel
theorem dX6_boasts_125 : decode cX6_boasts 125 = .ok (.iload 7, 2) := by decide +kernel
theorem dX6_boasts_127 : decode cX6_boasts 127 = .ok (.iconst 5, 1) := by decide +kernel
theorem dX6_boasts_128 : decode cX6_boasts 128 = .ok (.idiv, 1) := by decide +kernel
theorem dX6_boasts_129 : decode cX6_boasts 129 = .ok (.istore 7, 2) := by decide +kernel
theorem dX6_boasts_131 : decode cX6_boasts 131 = .ok (.iinc 8 1, 3) := by decide +kernel
theorem dX6_boasts_134 : decode cX6_boasts 134 = .ok (.goto (-35), 3) := by decide +kernel
theorem dX6_boasts_137 : decode cX6_boasts 137 = .ok (.iload 5, 2) := by decide +kernel
theorem dX6_boasts_139 : decode cX6_boasts 139 = .ok (.ifCond .ne 8, 3) := by decide +kernel
theorem dX6_boasts_142 : decode cX6_boasts 142 = .ok (.iload 6, 2) := by decide +kernel
theorem dX6_boasts_144 : decode cX6_boasts 144 = .ok (.goto 5, 3) := by decide +kernel
theorem dX6_boasts_147 : decode cX6_boasts 147 = .ok (.iload 7, 2) := by decide +kernel
theorem dX6_boasts_149 : decode cX6_boasts 149 = .ok (.ireturn, 1) := by decide +kernel
theorem dX6_count_0 : decode cX6_count 0 = .ok (.iload_n 1, 1) := by decide +kernel
theorem dX6_count_1 : decode cX6_count 1 = .ok (.tableswitch 203 0 14 #[75, 83, 91, 99, 107, 115, 123, 131, 147, 155, 163, 171, 179, 187, 195], 75) := by decide +kernel
theorem dX6_count_76 : decode cX6_count 76 = .ok (.aload_n 0, 1) := by decide +kernel
theorem dX6_count_77 : decode cX6_count 77 = .ok (.getfield 19, 3) := by decide +kernel
theorem dX6_count_80 : decode cX6_count 80 = .ok (.getfield 253, 3) := by decide +kernel
theorem dX6_count_83 : decode cX6_count 83 = .ok (.ireturn, 1) := by decide +kernel
theorem dX6_count_84 : decode cX6_count 84 = .ok (.aload_n 0, 1) := by decide +kernel
theorem dX6_count_85 : decode cX6_count 85 = .ok (.getfield 19, 3) := by decide +kernel
theorem dX6_count_88 : decode cX6_count 88 = .ok (.getfield 256, 3) := by decide +kernel
theorem dX6_count_91 : decode cX6_count 91 = .ok (.ireturn, 1) := by decide +kernel
theorem dX6_count_92 : decode cX6_count 92 = .ok (.aload_n 0, 1) := by decide +kernel
theorem dX6_count_93 : decode cX6_count 93 = .ok (.getfield 19, 3) := by decide +kernel
theorem dX6_count_96 : decode cX6_count 96 = .ok (.getfield 233, 3) := by decide +kernel
theorem dX6_count_99 : decode cX6_count 99 = .ok (.ireturn, 1) := by decide +kernel
theorem dX6_count_100 : decode cX6_count 100 = .ok (.aload_n 0, 1) := by decide +kernel
theorem dX6_count_101 : decode cX6_count 101 = .ok (.getfield 29, 3) := by decide +kernel
theorem dX6_count_104 : decode cX6_count 104 = .ok (.getfield 154, 3) := by decide +kernel
theorem dX6_count_107 : decode cX6_count 107 = .ok (.ireturn, 1) := by decide +kernel
theorem dX6_count_108 : decode cX6_count 108 = .ok (.aload_n 0, 1) := by decide +kernel
theorem dX6_count_109 : decode cX6_count 109 = .ok (.getfield 29, 3) := by decide +kernel
theorem dX6_count_112 : decode cX6_count 112 = .ok (.getfield 144, 3) := by decide +kernel
theorem dX6_count_115 : decode cX6_count 115 = .ok (.ireturn, 1) := by decide +kernel
theorem dX6_count_116 : decode cX6_count 116 = .ok (.aload_n 0, 1) := by decide +kernel
theorem dX6_count_117 : decode cX6_count 117 = .ok (.getfield 29, 3) := by decide +kernel
theorem dX6_count_120 : decode cX6_count 120 = .ok (.getfield 151, 3) := by decide +kernel
theorem dX6_count_123 : decode cX6_count 123 = .ok (.ireturn, 1) := by decide +kernel
theorem dX6_count_124 : decode cX6_count 124 = .ok (.aload_n 0, 1) := by decide +kernel
theorem dX6_count_125 : decode cX6_count 125 = .ok (.getfield 29, 3) := by decide +kernel
theorem dX6_count_128 : decode cX6_count 128 = .ok (.getfield 163, 3) := by decide +kernel
theorem dX6_count_131 : decode cX6_count 131 = .ok (.ireturn, 1) := by decide +kernel
theorem dX6_count_132 : decode cX6_count 132 = .ok (.aload_n 0, 1) := by decide +kernel
theorem dX6_count_133 : decode cX6_count 133 = .ok (.getfield 29, 3) := by decide +kernel
theorem dX6_count_136 : decode cX6_count 136 = .ok (.getfield 140, 3) := by decide +kernel
theorem dX6_count_139 : decode cX6_count 139 = .ok (.ifCond .eq 7, 3) := by decide +kernel
theorem dX6_count_142 : decode cX6_count 142 = .ok (.iconst 1, 1) := by decide +kernel
theorem dX6_count_143 : decode cX6_count 143 = .ok (.goto 4, 3) := by decide +kernel
theorem dX6_count_146 : decode cX6_count 146 = .ok (.iconst 0, 1) := by decide +kernel
theorem dX6_count_147 : decode cX6_count 147 = .ok (.ireturn, 1) := by decide +kernel
theorem dX6_count_148 : decode cX6_count 148 = .ok (.aload_n 0, 1) := by decide +kernel
theorem dX6_count_149 : decode cX6_count 149 = .ok (.getfield 29, 3) := by decide +kernel
theorem dX6_count_152 : decode cX6_count 152 = .ok (.getfield 208, 3) := by decide +kernel
theorem dX6_count_155 : decode cX6_count 155 = .ok (.ireturn, 1) := by decide +kernel
theorem dX6_count_156 : decode cX6_count 156 = .ok (.aload_n 0, 1) := by decide +kernel
theorem dX6_count_157 : decode cX6_count 157 = .ok (.getfield 29, 3) := by decide +kernel
theorem dX6_count_160 : decode cX6_count 160 = .ok (.getfield 259, 3) := by decide +kernel
theorem dX6_count_163 : decode cX6_count 163 = .ok (.ireturn, 1) := by decide +kernel
theorem dX6_count_164 : decode cX6_count 164 = .ok (.aload_n 0, 1) := by decide +kernel
theorem dX6_count_165 : decode cX6_count 165 = .ok (.getfield 29, 3) := by decide +kernel
theorem dX6_count_168 : decode cX6_count 168 = .ok (.getfield 262, 3) := by decide +kernel
theorem dX6_count_171 : decode cX6_count 171 = .ok (.ireturn, 1) := by decide +kernel
theorem dX6_count_172 : decode cX6_count 172 = .ok (.aload_n 0, 1) := by decide +kernel
theorem dX6_count_173 : decode cX6_count 173 = .ok (.getfield 29, 3) := by decide +kernel
theorem dX6_count_176 : decode cX6_count 176 = .ok (.getfield 115, 3) := by decide +kernel
theorem dX6_count_179 : decode cX6_count 179 = .ok (.ireturn, 1) := by decide +kernel
theorem dX6_count_180 : decode cX6_count 180 = .ok (.aload_n 0, 1) := by decide +kernel
theorem dX6_count_181 : decode cX6_count 181 = .ok (.getfield 58, 3) := by decide +kernel
theorem dX6_count_184 : decode cX6_count 184 = .ok (.getfield 242, 3) := by decide +kernel
theorem dX6_count_187 : decode cX6_count 187 = .ok (.ireturn, 1) := by decide +kernel
theorem dX6_count_188 : decode cX6_count 188 = .ok (.aload_n 0, 1) := by decide +kernel
theorem dX6_count_189 : decode cX6_count 189 = .ok (.getfield 36, 3) := by decide +kernel
theorem dX6_count_192 : decode cX6_count 192 = .ok (.getfield 196, 3) := by decide +kernel
theorem dX6_count_195 : decode cX6_count 195 = .ok (.ireturn, 1) := by decide +kernel
theorem dX6_count_196 : decode cX6_count 196 = .ok (.aload_n 0, 1) := by decide +kernel
theorem dX6_count_197 : decode cX6_count 197 = .ok (.getfield 10, 3) := by decide +kernel
theorem dX6_count_200 : decode cX6_count 200 = .ok (.getfield 74, 3) := by decide +kernel
theorem dX6_count_203 : decode cX6_count 203 = .ok (.ireturn, 1) := by decide +kernel
theorem dX6_count_204 : decode cX6_count 204 = .ok (.bipush (-3), 2) := by decide +kernel
theorem dX6_count_206 : decode cX6_count 206 = .ok (.ireturn, 1) := by decide +kernel
theorem dX6_beginAnew_0 : decode cX6_beginAnew 0 = .ok (.aload_n 0, 1) := by decide +kernel
theorem dX6_beginAnew_1 : decode cX6_beginAnew 1 = .ok (.getfield 29, 3) := by decide +kernel
theorem dX6_beginAnew_4 : decode cX6_beginAnew 4 = .ok (.aload_n 0, 1) := by decide +kernel
theorem dX6_beginAnew_5 : decode cX6_beginAnew 5 = .ok (.getfield 19, 3) := by decide +kernel
theorem dX6_beginAnew_8 : decode cX6_beginAnew 8 = .ok (.invokevirtual 62, 3) := by decide +kernel
theorem dX6_beginAnew_11 : decode cX6_beginAnew 11 = .ok (.aload_n 0, 1) := by decide +kernel
theorem dX6_beginAnew_12 : decode cX6_beginAnew 12 = .ok (.getfield 36, 3) := by decide +kernel
theorem dX6_beginAnew_15 : decode cX6_beginAnew 15 = .ok (.invokevirtual 201, 3) := by decide +kernel
theorem dX6_beginAnew_18 : decode cX6_beginAnew 18 = .ok (.aload_n 0, 1) := by decide +kernel
theorem dX6_beginAnew_19 : decode cX6_beginAnew 19 = .ok (.getfield 58, 3) := by decide +kernel
theorem dX6_beginAnew_22 : decode cX6_beginAnew 22 = .ok (.iconst 0, 1) := by decide +kernel
theorem dX6_beginAnew_23 : decode cX6_beginAnew 23 = .ok (.putfield 242, 3) := by decide +kernel
theorem dX6_beginAnew_26 : decode cX6_beginAnew 26 = .ok (.iconst 0, 1) := by decide +kernel
theorem dX6_beginAnew_27 : decode cX6_beginAnew 27 = .ok (.istore_n 1, 1) := by decide +kernel
theorem dX6_beginAnew_28 : decode cX6_beginAnew 28 = .ok (.iload_n 1, 1) := by decide +kernel
theorem dX6_beginAnew_29 : decode cX6_beginAnew 29 = .ok (.iconst 2, 1) := by decide +kernel
theorem dX6_beginAnew_30 : decode cX6_beginAnew 30 = .ok (.if_icmp .ge 16, 3) := by decide +kernel
theorem dX6_beginAnew_33 : decode cX6_beginAnew 33 = .ok (.aload_n 0, 1) := by decide +kernel
theorem dX6_beginAnew_34 : decode cX6_beginAnew 34 = .ok (.getfield 44, 3) := by decide +kernel
theorem dX6_beginAnew_37 : decode cX6_beginAnew 37 = .ok (.iload_n 1, 1) := by decide +kernel
theorem dX6_beginAnew_38 : decode cX6_beginAnew 38 = .ok (.iconst 0, 1) := by decide +kernel
theorem dX6_beginAnew_39 : decode cX6_beginAnew 39 = .ok (.bastore, 1) := by decide +kernel
theorem dX6_beginAnew_40 : decode cX6_beginAnew 40 = .ok (.iinc 1 1, 3) := by decide +kernel
theorem dX6_beginAnew_43 : decode cX6_beginAnew 43 = .ok (.goto (-15), 3) := by decide +kernel
theorem dX6_beginAnew_46 : decode cX6_beginAnew 46 = .ok (.return_, 1) := by decide +kernel
theorem dX6_daysTillBlinded_0 : decode cX6_daysTillBlinded 0 = .ok (.aload_n 0, 1) := by decide +kernel
theorem dX6_daysTillBlinded_1 : decode cX6_daysTillBlinded 1 = .ok (.getfield 29, 3) := by decide +kernel
theorem dX6_daysTillBlinded_4 : decode cX6_daysTillBlinded 4 = .ok (.getfield 140, 3) := by decide +kernel
theorem dX6_daysTillBlinded_7 : decode cX6_daysTillBlinded 7 = .ok (.ifCond .eq 5, 3) := by decide +kernel
theorem dX6_daysTillBlinded_10 : decode cX6_daysTillBlinded 10 = .ok (.iconst (-1), 1) := by decide +kernel
theorem dX6_daysTillBlinded_11 : decode cX6_daysTillBlinded 11 = .ok (.ireturn, 1) := by decide +kernel
theorem dX6_daysTillBlinded_12 : decode cX6_daysTillBlinded 12 = .ok (.iconst 0, 1) := by decide +kernel
theorem dX6_daysTillBlinded_13 : decode cX6_daysTillBlinded 13 = .ok (.aload_n 0, 1) := by decide +kernel
theorem dX6_daysTillBlinded_14 : decode cX6_daysTillBlinded 14 = .ok (.getfield 19, 3) := by decide +kernel
theorem dX6_daysTillBlinded_17 : decode cX6_daysTillBlinded 17 = .ok (.getfield 175, 3) := by decide +kernel
theorem dX6_daysTillBlinded_20 : decode cX6_daysTillBlinded 20 = .ok (.aload_n 0, 1) := by decide +kernel
theorem dX6_daysTillBlinded_21 : decode cX6_daysTillBlinded 21 = .ok (.getfield 29, 3) := by decide +kernel
theorem dX6_daysTillBlinded_24 : decode cX6_daysTillBlinded 24 = .ok (.getfield 163, 3) := by decide +kernel
theorem dX6_daysTillBlinded_27 : decode cX6_daysTillBlinded 27 = .ok (.isub, 1) := by decide +kernel
theorem dX6_daysTillBlinded_28 : decode cX6_daysTillBlinded 28 = .ok (.invokestatic 265, 3) := by decide +kernel
theorem dX6_daysTillBlinded_31 : decode cX6_daysTillBlinded 31 = .ok (.istore_n 1, 1) := by decide +kernel
theorem dX6_daysTillBlinded_32 : decode cX6_daysTillBlinded 32 = .ok (.iload_n 1, 1) := by decide +kernel
theorem dX6_daysTillBlinded_33 : decode cX6_daysTillBlinded 33 = .ok (.ifCond .ne 21, 3) := by decide +kernel
theorem dX6_daysTillBlinded_36 : decode cX6_daysTillBlinded 36 = .ok (.aload_n 0, 1) := by decide +kernel
theorem dX6_daysTillBlinded_37 : decode cX6_daysTillBlinded 37 = .ok (.getfield 29, 3) := by decide +kernel
theorem dX6_daysTillBlinded_40 : decode cX6_daysTillBlinded 40 = .ok (.getfield 151, 3) := by decide +kernel
theorem dX6_daysTillBlinded_43 : decode cX6_daysTillBlinded 43 = .ok (.aload_n 0, 1) := by decide +kernel
theorem dX6_daysTillBlinded_44 : decode cX6_daysTillBlinded 44 = .ok (.getfield 29, 3) := by decide +kernel
theorem dX6_daysTillBlinded_47 : decode cX6_daysTillBlinded 47 = .ok (.getfield 144, 3) := by decide +kernel
theorem dX6_daysTillBlinded_50 : decode cX6_daysTillBlinded 50 = .ok (.iadd, 1) := by decide +kernel
theorem dX6_daysTillBlinded_51 : decode cX6_daysTillBlinded 51 = .ok (.goto 10, 3) := by decide +kernel
theorem dX6_daysTillBlinded_54 : decode cX6_daysTillBlinded 54 = .ok (.aload_n 0, 1) := by decide +kernel
theorem dX6_daysTillBlinded_55 : decode cX6_daysTillBlinded 55 = .ok (.getfield 29, 3) := by decide +kernel
theorem dX6_daysTillBlinded_58 : decode cX6_daysTillBlinded 58 = .ok (.getfield 144, 3) := by decide +kernel
theorem dX6_daysTillBlinded_61 : decode cX6_daysTillBlinded 61 = .ok (.istore_n 2, 1) := by decide +kernel
theorem dX6_daysTillBlinded_62 : decode cX6_daysTillBlinded 62 = .ok (.iload_n 2, 1) := by decide +kernel
theorem dX6_daysTillBlinded_63 : decode cX6_daysTillBlinded 63 = .ok (.aload_n 0, 1) := by decide +kernel
theorem dX6_daysTillBlinded_64 : decode cX6_daysTillBlinded 64 = .ok (.getfield 19, 3) := by decide +kernel
theorem dX6_daysTillBlinded_67 : decode cX6_daysTillBlinded 67 = .ok (.getfield 172, 3) := by decide +kernel
theorem dX6_daysTillBlinded_70 : decode cX6_daysTillBlinded 70 = .ok (.if_icmp .lt 7, 3) := by decide +kernel
theorem dX6_daysTillBlinded_73 : decode cX6_daysTillBlinded 73 = .ok (.iload_n 1, 1) := by decide +kernel
theorem dX6_daysTillBlinded_74 : decode cX6_daysTillBlinded 74 = .ok (.goto 4, 3) := by decide +kernel
theorem dX6_daysTillBlinded_77 : decode cX6_daysTillBlinded 77 = .ok (.iconst (-1), 1) := by decide +kernel
theorem dX6_daysTillBlinded_78 : decode cX6_daysTillBlinded 78 = .ok (.ireturn, 1) := by decide +kernel
theorem dX6_fallsThatMiss_0 : decode cX6_fallsThatMiss 0 = .ok (.iload_n 0, 1) := by decide +kernel
theorem dX6_fallsThatMiss_1 : decode cX6_fallsThatMiss 1 = .ok (.bipush 10, 2) := by decide +kernel
theorem dX6_fallsThatMiss_3 : decode cX6_fallsThatMiss 3 = .ok (.if_icmp .ge 7, 3) := by decide +kernel
theorem dX6_fallsThatMiss_6 : decode cX6_fallsThatMiss 6 = .ok (.iconst 0, 1) := by decide +kernel
theorem dX6_fallsThatMiss_7 : decode cX6_fallsThatMiss 7 = .ok (.goto 11, 3) := by decide +kernel
theorem dX6_fallsThatMiss_10 : decode cX6_fallsThatMiss 10 = .ok (.iload_n 0, 1) := by decide +kernel
theorem dX6_fallsThatMiss_11 : decode cX6_fallsThatMiss 11 = .ok (.bipush 10, 2) := by decide +kernel
theorem dX6_fallsThatMiss_13 : decode cX6_fallsThatMiss 13 = .ok (.isub, 1) := by decide +kernel
theorem dX6_fallsThatMiss_14 : decode cX6_fallsThatMiss 14 = .ok (.iconst 5, 1) := by decide +kernel
theorem dX6_fallsThatMiss_15 : decode cX6_fallsThatMiss 15 = .ok (.idiv, 1) := by decide +kernel
theorem dX6_fallsThatMiss_16 : decode cX6_fallsThatMiss 16 = .ok (.iconst 1, 1) := by decide +kernel
theorem dX6_fallsThatMiss_17 : decode cX6_fallsThatMiss 17 = .ok (.iadd, 1) := by decide +kernel
theorem dX6_fallsThatMiss_18 : decode cX6_fallsThatMiss 18 = .ok (.istore_n 2, 1) := by decide +kernel
theorem dX6_fallsThatMiss_19 : decode cX6_fallsThatMiss 19 = .ok (.iconst 0, 1) := by decide +kernel
theorem dX6_fallsThatMiss_20 : decode cX6_fallsThatMiss 20 = .ok (.iload_n 1, 1) := by decide +kernel
theorem dX6_fallsThatMiss_21 : decode cX6_fallsThatMiss 21 = .ok (.iload_n 2, 1) := by decide +kernel
theorem dX6_fallsThatMiss_22 : decode cX6_fallsThatMiss 22 = .ok (.isub, 1) := by decide +kernel
theorem dX6_fallsThatMiss_23 : decode cX6_fallsThatMiss 23 = .ok (.iconst 1, 1) := by decide +kernel
theorem dX6_fallsThatMiss_24 : decode cX6_fallsThatMiss 24 = .ok (.iadd, 1) := by decide +kernel
theorem dX6_fallsThatMiss_25 : decode cX6_fallsThatMiss 25 = .ok (.invokestatic 265, 3) := by decide +kernel
theorem dX6_fallsThatMiss_28 : decode cX6_fallsThatMiss 28 = .ok (.istore_n 3, 1) := by decide +kernel
theorem dX6_fallsThatMiss_29 : decode cX6_fallsThatMiss 29 = .ok (.iconst 0, 1) := by decide +kernel
theorem dX6_fallsThatMiss_30 : decode cX6_fallsThatMiss 30 = .ok (.iconst 5, 1) := by decide +kernel
theorem dX6_fallsThatMiss_31 : decode cX6_fallsThatMiss 31 = .ok (.iload_n 3, 1) := by decide +kernel
theorem dX6_fallsThatMiss_32 : decode cX6_fallsThatMiss 32 = .ok (.isub, 1) := by decide +kernel
theorem dX6_fallsThatMiss_33 : decode cX6_fallsThatMiss 33 = .ok (.invokestatic 265, 3) := by decide +kernel
theorem dX6_fallsThatMiss_36 : decode cX6_fallsThatMiss 36 = .ok (.ireturn, 1) := by decide +kernel
theorem dX6_isUnderKind_0 : decode cX6_isUnderKind 0 = .ok (.iload_n 0, 1) := by decide +kernel
theorem dX6_isUnderKind_1 : decode cX6_isUnderKind 1 = .ok (.iconst 1, 1) := by decide +kernel
theorem dX6_isUnderKind_2 : decode cX6_isUnderKind 2 = .ok (.iadd, 1) := by decide +kernel
theorem dX6_isUnderKind_3 : decode cX6_isUnderKind 3 = .ok (.istore_n 2, 1) := by decide +kernel
theorem dX6_isUnderKind_4 : decode cX6_isUnderKind 4 = .ok (.iconst 0, 1) := by decide +kernel
theorem dX6_isUnderKind_5 : decode cX6_isUnderKind 5 = .ok (.istore_n 3, 1) := by decide +kernel
theorem dX6_isUnderKind_6 : decode cX6_isUnderKind 6 = .ok (.iload_n 3, 1) := by decide +kernel
theorem dX6_isUnderKind_7 : decode cX6_isUnderKind 7 = .ok (.getstatic 131, 3) := by decide +kernel
theorem dX6_isUnderKind_10 : decode cX6_isUnderKind 10 = .ok (.arraylength, 1) := by decide +kernel
theorem dX6_isUnderKind_11 : decode cX6_isUnderKind 11 = .ok (.if_icmp .ge 34, 3) := by decide +kernel
theorem dX6_isUnderKind_14 : decode cX6_isUnderKind 14 = .ok (.iload_n 2, 1) := by decide +kernel
theorem dX6_isUnderKind_15 : decode cX6_isUnderKind 15 = .ok (.ifCond .lt 30, 3) := by decide +kernel
theorem dX6_isUnderKind_18 : decode cX6_isUnderKind 18 = .ok (.iload_n 2, 1) := by decide +kernel
theorem dX6_isUnderKind_19 : decode cX6_isUnderKind 19 = .ok (.getstatic 131, 3) := by decide +kernel
theorem dX6_isUnderKind_22 : decode cX6_isUnderKind 22 = .ok (.arraylength, 1) := by decide +kernel
theorem dX6_isUnderKind_23 : decode cX6_isUnderKind 23 = .ok (.if_icmp .ge 22, 3) := by decide +kernel
theorem dX6_isUnderKind_26 : decode cX6_isUnderKind 26 = .ok (.iload_n 2, 1) := by decide +kernel
theorem dX6_isUnderKind_27 : decode cX6_isUnderKind 27 = .ok (.iload_n 1, 1) := by decide +kernel
theorem dX6_isUnderKind_28 : decode cX6_isUnderKind 28 = .ok (.if_icmp .ne 5, 3) := by decide +kernel
theorem dX6_isUnderKind_31 : decode cX6_isUnderKind 31 = .ok (.iconst 1, 1) := by decide +kernel
theorem dX6_isUnderKind_32 : decode cX6_isUnderKind 32 = .ok (.ireturn, 1) := by decide +kernel
theorem dX6_isUnderKind_33 : decode cX6_isUnderKind 33 = .ok (.getstatic 131, 3) := by decide +kernel
theorem dX6_isUnderKind_36 : decode cX6_isUnderKind 36 = .ok (.iload_n 2, 1) := by decide +kernel
theorem dX6_isUnderKind_37 : decode cX6_isUnderKind 37 = .ok (.iaload, 1) := by decide +kernel
theorem dX6_isUnderKind_38 : decode cX6_isUnderKind 38 = .ok (.istore_n 2, 1) := by decide +kernel
theorem dX6_isUnderKind_39 : decode cX6_isUnderKind 39 = .ok (.iinc 3 1, 3) := by decide +kernel
theorem dX6_isUnderKind_42 : decode cX6_isUnderKind 42 = .ok (.goto (-36), 3) := by decide +kernel
theorem dX6_isUnderKind_45 : decode cX6_isUnderKind 45 = .ok (.iconst 0, 1) := by decide +kernel
theorem dX6_isUnderKind_46 : decode cX6_isUnderKind 46 = .ok (.ireturn, 1) := by decide +kernel
theorem dX6_bearing_0 : decode cX6_bearing 0 = .ok (.iload_n 0, 1) := by decide +kernel
theorem dX6_bearing_1 : decode cX6_bearing 1 = .ok (.tableswitch 45 1 3 #[27, 33, 37], 27) := by decide +kernel
theorem dX6_bearing_28 : decode cX6_bearing 28 = .ok (.iload_n 1, 1) := by decide +kernel
theorem dX6_bearing_29 : decode cX6_bearing 29 = .ok (.iload_n 1, 1) := by decide +kernel
theorem dX6_bearing_30 : decode cX6_bearing 30 = .ok (.iconst 2, 1) := by decide +kernel
theorem dX6_bearing_31 : decode cX6_bearing 31 = .ok (.idiv, 1) := by decide +kernel
theorem dX6_bearing_32 : decode cX6_bearing 32 = .ok (.iadd, 1) := by decide +kernel
theorem dX6_bearing_33 : decode cX6_bearing 33 = .ok (.ireturn, 1) := by decide +kernel
theorem dX6_bearing_34 : decode cX6_bearing 34 = .ok (.iconst 2, 1) := by decide +kernel
theorem dX6_bearing_35 : decode cX6_bearing 35 = .ok (.iload_n 1, 1) := by decide +kernel
theorem dX6_bearing_36 : decode cX6_bearing 36 = .ok (.imul, 1) := by decide +kernel
theorem dX6_bearing_37 : decode cX6_bearing 37 = .ok (.ireturn, 1) := by decide +kernel
theorem dX6_bearing_38 : decode cX6_bearing 38 = .ok (.iconst 0, 1) := by decide +kernel
theorem dX6_bearing_39 : decode cX6_bearing 39 = .ok (.iload_n 1, 1) := by decide +kernel
theorem dX6_bearing_40 : decode cX6_bearing 40 = .ok (.iconst 3, 1) := by decide +kernel
theorem dX6_bearing_41 : decode cX6_bearing 41 = .ok (.isub, 1) := by decide +kernel
theorem dX6_bearing_42 : decode cX6_bearing 42 = .ok (.invokestatic 265, 3) := by decide +kernel
theorem dX6_bearing_45 : decode cX6_bearing 45 = .ok (.ireturn, 1) := by decide +kernel
theorem dX6_bearing_46 : decode cX6_bearing 46 = .ok (.iload_n 1, 1) := by decide +kernel
theorem dX6_bearing_47 : decode cX6_bearing 47 = .ok (.ireturn, 1) := by decide +kernel
theorem dX6_isOutside_0 : decode cX6_isOutside 0 = .ok (.iload_n 0, 1) := by decide +kernel
theorem dX6_isOutside_1 : decode cX6_isOutside 1 = .ok (.iload_n 1, 1) := by decide +kernel
theorem dX6_isOutside_2 : decode cX6_isOutside 2 = .ok (.if_icmp .lt 8, 3) := by decide +kernel
theorem dX6_isOutside_5 : decode cX6_isOutside 5 = .ok (.iload_n 0, 1) := by decide +kernel
theorem dX6_isOutside_6 : decode cX6_isOutside 6 = .ok (.iload_n 2, 1) := by decide +kernel
theorem dX6_isOutside_7 : decode cX6_isOutside 7 = .ok (.if_icmp .le 7, 3) := by decide +kernel
theorem dX6_isOutside_10 : decode cX6_isOutside 10 = .ok (.iconst 1, 1) := by decide +kernel
theorem dX6_isOutside_11 : decode cX6_isOutside 11 = .ok (.goto 4, 3) := by decide +kernel
theorem dX6_isOutside_14 : decode cX6_isOutside 14 = .ok (.iconst 0, 1) := by decide +kernel
theorem dX6_isOutside_15 : decode cX6_isOutside 15 = .ok (.ireturn, 1) := by decide +kernel
theorem dX6_hasBit_0 : decode cX6_hasBit 0 = .ok (.iload_n 0, 1) := by decide +kernel
theorem dX6_hasBit_1 : decode cX6_hasBit 1 = .ok (.iload_n 1, 1) := by decide +kernel
theorem dX6_hasBit_2 : decode cX6_hasBit 2 = .ok (.ishr, 1) := by decide +kernel
theorem dX6_hasBit_3 : decode cX6_hasBit 3 = .ok (.iconst 1, 1) := by decide +kernel
theorem dX6_hasBit_4 : decode cX6_hasBit 4 = .ok (.iand, 1) := by decide +kernel
theorem dX6_hasBit_5 : decode cX6_hasBit 5 = .ok (.iconst 1, 1) := by decide +kernel
theorem dX6_hasBit_6 : decode cX6_hasBit 6 = .ok (.if_icmp .ne 7, 3) := by decide +kernel
theorem dX6_hasBit_9 : decode cX6_hasBit 9 = .ok (.iconst 1, 1) := by decide +kernel
theorem dX6_hasBit_10 : decode cX6_hasBit 10 = .ok (.goto 4, 3) := by decide +kernel
theorem dX6_hasBit_13 : decode cX6_hasBit 13 = .ok (.iconst 0, 1) := by decide +kernel
theorem dX6_hasBit_14 : decode cX6_hasBit 14 = .ok (.ireturn, 1) := by decide +kernel
theorem dX6_allBits_0 : decode cX6_allBits 0 = .ok (.iconst 1, 1) := by decide +kernel
theorem dX6_allBits_1 : decode cX6_allBits 1 = .ok (.iload_n 0, 1) := by decide +kernel
theorem dX6_allBits_2 : decode cX6_allBits 2 = .ok (.ishl, 1) := by decide +kernel
theorem dX6_allBits_3 : decode cX6_allBits 3 = .ok (.iconst 1, 1) := by decide +kernel
theorem dX6_allBits_4 : decode cX6_allBits 4 = .ok (.isub, 1) := by decide +kernel
theorem dX6_allBits_5 : decode cX6_allBits 5 = .ok (.ireturn, 1) := by decide +kernel
