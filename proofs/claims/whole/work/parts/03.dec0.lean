theorem dX0_init_0 : decode cX0_init 0 = .ok (.aload_n 0, 1) := by decide +kernel
theorem dX0_init_1 : decode cX0_init 1 = .ok (.invokespecial 3, 3) := by decide +kernel
theorem dX0_init_4 : decode cX0_init 4 = .ok (.aload_n 0, 1) := by decide +kernel
theorem dX0_init_5 : decode cX0_init 5 = .ok (.bipush 8, 2) := by decide +kernel
theorem dX0_init_7 : decode cX0_init 7 = .ok (.anewarray 9, 3) := by decide +kernel
theorem dX0_init_10 : decode cX0_init 10 = .ok (.putfield 11, 3) := by decide +kernel
theorem dX0_init_13 : decode cX0_init 13 = .ok (.iconst 0, 1) := by decide +kernel
theorem dX0_init_14 : decode cX0_init 14 = .ok (.istore_n 1, 1) := by decide +kernel
theorem dX0_init_15 : decode cX0_init 15 = .ok (.iload_n 1, 1) := by decide +kernel
theorem dX0_init_16 : decode cX0_init 16 = .ok (.bipush 8, 2) := by decide +kernel
theorem dX0_init_18 : decode cX0_init 18 = .ok (.if_icmp .ge 22, 3) := by decide +kernel
theorem dX0_init_21 : decode cX0_init 21 = .ok (.aload_n 0, 1) := by decide +kernel
theorem dX0_init_22 : decode cX0_init 22 = .ok (.getfield 11, 3) := by decide +kernel
theorem dX0_init_25 : decode cX0_init 25 = .ok (.iload_n 1, 1) := by decide +kernel
theorem dX0_init_26 : decode cX0_init 26 = .ok (.new 9, 3) := by decide +kernel
theorem dX0_init_29 : decode cX0_init 29 = .ok (.dup, 1) := by decide +kernel
theorem dX0_init_30 : decode cX0_init 30 = .ok (.invokespecial 17, 3) := by decide +kernel
theorem dX0_init_33 : decode cX0_init 33 = .ok (.aastore, 1) := by decide +kernel
theorem dX0_init_34 : decode cX0_init 34 = .ok (.iinc 1 1, 3) := by decide +kernel
theorem dX0_init_37 : decode cX0_init 37 = .ok (.goto (-22), 3) := by decide +kernel
theorem dX0_init_40 : decode cX0_init 40 = .ok (.return_, 1) := by decide +kernel
theorem dX0_clear_0 : decode cX0_clear 0 = .ok (.aload_n 0, 1) := by decide +kernel
theorem dX0_clear_1 : decode cX0_clear 1 = .ok (.iconst 0, 1) := by decide +kernel
theorem dX0_clear_2 : decode cX0_clear 2 = .ok (.putfield 18, 3) := by decide +kernel
theorem dX0_clear_5 : decode cX0_clear 5 = .ok (.return_, 1) := by decide +kernel
theorem dX0_push_0 : decode cX0_push 0 = .ok (.aload_n 0, 1) := by decide +kernel
theorem dX0_push_1 : decode cX0_push 1 = .ok (.getfield 11, 3) := by decide +kernel
theorem dX0_push_4 : decode cX0_push 4 = .ok (.aload_n 0, 1) := by decide +kernel
theorem dX0_push_5 : decode cX0_push 5 = .ok (.getfield 22, 3) := by decide +kernel
theorem dX0_push_8 : decode cX0_push 8 = .ok (.aaload, 1) := by decide +kernel
theorem dX0_push_9 : decode cX0_push 9 = .ok (.aload_n 1, 1) := by decide +kernel
theorem dX0_push_10 : decode cX0_push 10 = .ok (.invokevirtual 25, 3) := by decide +kernel
theorem dX0_push_13 : decode cX0_push 13 = .ok (.aload_n 0, 1) := by decide +kernel
theorem dX0_push_14 : decode cX0_push 14 = .ok (.aload_n 0, 1) := by decide +kernel
theorem dX0_push_15 : decode cX0_push 15 = .ok (.getfield 22, 3) := by decide +kernel
theorem dX0_push_18 : decode cX0_push 18 = .ok (.iconst 1, 1) := by decide +kernel
theorem dX0_push_19 : decode cX0_push 19 = .ok (.iadd, 1) := by decide +kernel
theorem dX0_push_20 : decode cX0_push 20 = .ok (.bipush 8, 2) := by decide +kernel
theorem dX0_push_22 : decode cX0_push 22 = .ok (.irem, 1) := by decide +kernel
theorem dX0_push_23 : decode cX0_push 23 = .ok (.putfield 22, 3) := by decide +kernel
theorem dX0_push_26 : decode cX0_push 26 = .ok (.aload_n 0, 1) := by decide +kernel
theorem dX0_push_27 : decode cX0_push 27 = .ok (.bipush 8, 2) := by decide +kernel
theorem dX0_push_29 : decode cX0_push 29 = .ok (.aload_n 0, 1) := by decide +kernel
theorem dX0_push_30 : decode cX0_push 30 = .ok (.getfield 18, 3) := by decide +kernel
theorem dX0_push_33 : decode cX0_push 33 = .ok (.iconst 1, 1) := by decide +kernel
theorem dX0_push_34 : decode cX0_push 34 = .ok (.iadd, 1) := by decide +kernel
theorem dX0_push_35 : decode cX0_push 35 = .ok (.invokestatic 29, 3) := by decide +kernel
theorem dX0_push_38 : decode cX0_push 38 = .ok (.putfield 18, 3) := by decide +kernel
theorem dX0_push_41 : decode cX0_push 41 = .ok (.return_, 1) := by decide +kernel
theorem dX0_pop_0 : decode cX0_pop 0 = .ok (.aload_n 0, 1) := by decide +kernel
theorem dX0_pop_1 : decode cX0_pop 1 = .ok (.getfield 18, 3) := by decide +kernel
theorem dX0_pop_4 : decode cX0_pop 4 = .ok (.ifCond .ne 5, 3) := by decide +kernel
theorem dX0_pop_7 : decode cX0_pop 7 = .ok (.iconst 0, 1) := by decide +kernel
theorem dX0_pop_8 : decode cX0_pop 8 = .ok (.ireturn, 1) := by decide +kernel
theorem dX0_pop_9 : decode cX0_pop 9 = .ok (.aload_n 0, 1) := by decide +kernel
theorem dX0_pop_10 : decode cX0_pop 10 = .ok (.aload_n 0, 1) := by decide +kernel
theorem dX0_pop_11 : decode cX0_pop 11 = .ok (.getfield 22, 3) := by decide +kernel
theorem dX0_pop_14 : decode cX0_pop 14 = .ok (.bipush 8, 2) := by decide +kernel
theorem dX0_pop_16 : decode cX0_pop 16 = .ok (.iadd, 1) := by decide +kernel
theorem dX0_pop_17 : decode cX0_pop 17 = .ok (.iconst 1, 1) := by decide +kernel
theorem dX0_pop_18 : decode cX0_pop 18 = .ok (.isub, 1) := by decide +kernel
theorem dX0_pop_19 : decode cX0_pop 19 = .ok (.bipush 8, 2) := by decide +kernel
theorem dX0_pop_21 : decode cX0_pop 21 = .ok (.irem, 1) := by decide +kernel
theorem dX0_pop_22 : decode cX0_pop 22 = .ok (.putfield 22, 3) := by decide +kernel
theorem dX0_pop_25 : decode cX0_pop 25 = .ok (.aload_n 1, 1) := by decide +kernel
theorem dX0_pop_26 : decode cX0_pop 26 = .ok (.aload_n 0, 1) := by decide +kernel
theorem dX0_pop_27 : decode cX0_pop 27 = .ok (.getfield 11, 3) := by decide +kernel
theorem dX0_pop_30 : decode cX0_pop 30 = .ok (.aload_n 0, 1) := by decide +kernel
theorem dX0_pop_31 : decode cX0_pop 31 = .ok (.getfield 22, 3) := by decide +kernel
theorem dX0_pop_34 : decode cX0_pop 34 = .ok (.aaload, 1) := by decide +kernel
theorem dX0_pop_35 : decode cX0_pop 35 = .ok (.invokevirtual 25, 3) := by decide +kernel
theorem dX0_pop_38 : decode cX0_pop 38 = .ok (.aload_n 0, 1) := by decide +kernel
theorem dX0_pop_39 : decode cX0_pop 39 = .ok (.dup, 1) := by decide +kernel
theorem dX0_pop_40 : decode cX0_pop 40 = .ok (.getfield 18, 3) := by decide +kernel
theorem dX0_pop_43 : decode cX0_pop 43 = .ok (.iconst 1, 1) := by decide +kernel
theorem dX0_pop_44 : decode cX0_pop 44 = .ok (.isub, 1) := by decide +kernel
theorem dX0_pop_45 : decode cX0_pop 45 = .ok (.putfield 18, 3) := by decide +kernel
theorem dX0_pop_48 : decode cX0_pop 48 = .ok (.iconst 1, 1) := by decide +kernel
theorem dX0_pop_49 : decode cX0_pop 49 = .ok (.ireturn, 1) := by decide +kernel
theorem dX1_init_0 : decode cX1_init 0 = .ok (.aload_n 0, 1) := by decide +kernel
theorem dX1_init_1 : decode cX1_init 1 = .ok (.invokespecial 3, 3) := by decide +kernel
theorem dX1_init_4 : decode cX1_init 4 = .ok (.aload_n 0, 1) := by decide +kernel
theorem dX1_init_5 : decode cX1_init 5 = .ok (.bipush 6, 2) := by decide +kernel
theorem dX1_init_7 : decode cX1_init 7 = .ok (.newarray .int, 2) := by decide +kernel
theorem dX1_init_9 : decode cX1_init 9 = .ok (.putfield 9, 3) := by decide +kernel
theorem dX1_init_12 : decode cX1_init 12 = .ok (.aload_n 0, 1) := by decide +kernel
theorem dX1_init_13 : decode cX1_init 13 = .ok (.sipush 448, 3) := by decide +kernel
theorem dX1_init_16 : decode cX1_init 16 = .ok (.newarray .int, 2) := by decide +kernel
theorem dX1_init_18 : decode cX1_init 18 = .ok (.putfield 15, 3) := by decide +kernel
theorem dX1_init_21 : decode cX1_init 21 = .ok (.return_, 1) := by decide +kernel
theorem dX1_reckon_0 : decode cX1_reckon 0 = .ok (.iconst 1, 1) := by decide +kernel
theorem dX1_reckon_1 : decode cX1_reckon 1 = .ok (.aload_n 1, 1) := by decide +kernel
theorem dX1_reckon_2 : decode cX1_reckon 2 = .ok (.getfield 18, 3) := by decide +kernel
theorem dX1_reckon_5 : decode cX1_reckon 5 = .ok (.ishl, 1) := by decide +kernel
theorem dX1_reckon_6 : decode cX1_reckon 6 = .ok (.istore_n 3, 1) := by decide +kernel
theorem dX1_reckon_7 : decode cX1_reckon 7 = .ok (.iconst 5, 1) := by decide +kernel
theorem dX1_reckon_8 : decode cX1_reckon 8 = .ok (.istore 4, 2) := by decide +kernel
theorem dX1_reckon_10 : decode cX1_reckon 10 = .ok (.iload 4, 2) := by decide +kernel
theorem dX1_reckon_12 : decode cX1_reckon 12 = .ok (.ifCond .lt 66, 3) := by decide +kernel
theorem dX1_reckon_15 : decode cX1_reckon 15 = .ok (.aload_n 0, 1) := by decide +kernel
theorem dX1_reckon_16 : decode cX1_reckon 16 = .ok (.getfield 9, 3) := by decide +kernel
theorem dX1_reckon_19 : decode cX1_reckon 19 = .ok (.iload 4, 2) := by decide +kernel
theorem dX1_reckon_21 : decode cX1_reckon 21 = .ok (.aload_n 1, 1) := by decide +kernel
theorem dX1_reckon_22 : decode cX1_reckon 22 = .ok (.aload_n 2, 1) := by decide +kernel
theorem dX1_reckon_23 : decode cX1_reckon 23 = .ok (.iload 4, 2) := by decide +kernel
theorem dX1_reckon_25 : decode cX1_reckon 25 = .ok (.invokestatic 24, 3) := by decide +kernel
theorem dX1_reckon_28 : decode cX1_reckon 28 = .ok (.iastore, 1) := by decide +kernel
theorem dX1_reckon_29 : decode cX1_reckon 29 = .ok (.iconst 0, 1) := by decide +kernel
theorem dX1_reckon_30 : decode cX1_reckon 30 = .ok (.istore 5, 2) := by decide +kernel
theorem dX1_reckon_32 : decode cX1_reckon 32 = .ok (.iload 5, 2) := by decide +kernel
theorem dX1_reckon_34 : decode cX1_reckon 34 = .ok (.iload_n 3, 1) := by decide +kernel
theorem dX1_reckon_35 : decode cX1_reckon 35 = .ok (.if_icmp .ge 37, 3) := by decide +kernel
theorem dX1_reckon_38 : decode cX1_reckon 38 = .ok (.iload 5, 2) := by decide +kernel
theorem dX1_reckon_40 : decode cX1_reckon 40 = .ok (.bipush 64, 2) := by decide +kernel
theorem dX1_reckon_42 : decode cX1_reckon 42 = .ok (.if_icmp .ge 30, 3) := by decide +kernel
theorem dX1_reckon_45 : decode cX1_reckon 45 = .ok (.aload_n 0, 1) := by decide +kernel
theorem dX1_reckon_46 : decode cX1_reckon 46 = .ok (.getfield 15, 3) := by decide +kernel
theorem dX1_reckon_49 : decode cX1_reckon 49 = .ok (.iload 4, 2) := by decide +kernel
theorem dX1_reckon_51 : decode cX1_reckon 51 = .ok (.bipush 64, 2) := by decide +kernel
theorem dX1_reckon_53 : decode cX1_reckon 53 = .ok (.imul, 1) := by decide +kernel
theorem dX1_reckon_54 : decode cX1_reckon 54 = .ok (.iload 5, 2) := by decide +kernel
theorem dX1_reckon_56 : decode cX1_reckon 56 = .ok (.iadd, 1) := by decide +kernel
theorem dX1_reckon_57 : decode cX1_reckon 57 = .ok (.aload_n 0, 1) := by decide +kernel
theorem dX1_reckon_58 : decode cX1_reckon 58 = .ok (.iload 4, 2) := by decide +kernel
theorem dX1_reckon_60 : decode cX1_reckon 60 = .ok (.iload 5, 2) := by decide +kernel
theorem dX1_reckon_62 : decode cX1_reckon 62 = .ok (.invokevirtual 28, 3) := by decide +kernel
theorem dX1_reckon_65 : decode cX1_reckon 65 = .ok (.iastore, 1) := by decide +kernel
theorem dX1_reckon_66 : decode cX1_reckon 66 = .ok (.iinc 5 1, 3) := by decide +kernel
theorem dX1_reckon_69 : decode cX1_reckon 69 = .ok (.goto (-37), 3) := by decide +kernel
theorem dX1_reckon_72 : decode cX1_reckon 72 = .ok (.iinc 4 (-1), 3) := by decide +kernel
theorem dX1_reckon_75 : decode cX1_reckon 75 = .ok (.goto (-65), 3) := by decide +kernel
theorem dX1_reckon_78 : decode cX1_reckon 78 = .ok (.return_, 1) := by decide +kernel
theorem dX1_fitting_0 : decode cX1_fitting 0 = .ok (.iconst 0, 1) := by decide +kernel
theorem dX1_fitting_1 : decode cX1_fitting 1 = .ok (.istore_n 3, 1) := by decide +kernel
theorem dX1_fitting_2 : decode cX1_fitting 2 = .ok (.iconst 0, 1) := by decide +kernel
theorem dX1_fitting_3 : decode cX1_fitting 3 = .ok (.istore 4, 2) := by decide +kernel
theorem dX1_fitting_5 : decode cX1_fitting 5 = .ok (.iload 4, 2) := by decide +kernel
theorem dX1_fitting_7 : decode cX1_fitting 7 = .ok (.bipush 6, 2) := by decide +kernel
theorem dX1_fitting_9 : decode cX1_fitting 9 = .ok (.if_icmp .ge 49, 3) := by decide +kernel
theorem dX1_fitting_12 : decode cX1_fitting 12 = .ok (.aload_n 1, 1) := by decide +kernel
theorem dX1_fitting_13 : decode cX1_fitting 13 = .ok (.getfield 32, 3) := by decide +kernel
theorem dX1_fitting_16 : decode cX1_fitting 16 = .ok (.iload_n 2, 1) := by decide +kernel
theorem dX1_fitting_17 : decode cX1_fitting 17 = .ok (.invokestatic 37, 3) := by decide +kernel
theorem dX1_fitting_20 : decode cX1_fitting 20 = .ok (.ifCond .eq 32, 3) := by decide +kernel
theorem dX1_fitting_23 : decode cX1_fitting 23 = .ok (.aload_n 1, 1) := by decide +kernel
theorem dX1_fitting_24 : decode cX1_fitting 24 = .ok (.getfield 41, 3) := by decide +kernel
theorem dX1_fitting_27 : decode cX1_fitting 27 = .ok (.iload 4, 2) := by decide +kernel
theorem dX1_fitting_29 : decode cX1_fitting 29 = .ok (.invokestatic 37, 3) := by decide +kernel
theorem dX1_fitting_32 : decode cX1_fitting 32 = .ok (.ifCond .ne 20, 3) := by decide +kernel
theorem dX1_fitting_35 : decode cX1_fitting 35 = .ok (.aload_n 0, 1) := by decide +kernel
theorem dX1_fitting_36 : decode cX1_fitting 36 = .ok (.iload 4, 2) := by decide +kernel
theorem dX1_fitting_38 : decode cX1_fitting 38 = .ok (.iload_n 2, 1) := by decide +kernel
theorem dX1_fitting_39 : decode cX1_fitting 39 = .ok (.invokevirtual 44, 3) := by decide +kernel
theorem dX1_fitting_42 : decode cX1_fitting 42 = .ok (.ifCond .eq 10, 3) := by decide +kernel
theorem dX1_fitting_45 : decode cX1_fitting 45 = .ok (.iload_n 3, 1) := by decide +kernel
theorem dX1_fitting_46 : decode cX1_fitting 46 = .ok (.iconst 1, 1) := by decide +kernel
theorem dX1_fitting_47 : decode cX1_fitting 47 = .ok (.iload 4, 2) := by decide +kernel
theorem dX1_fitting_49 : decode cX1_fitting 49 = .ok (.ishl, 1) := by decide +kernel
theorem dX1_fitting_50 : decode cX1_fitting 50 = .ok (.ior, 1) := by decide +kernel
theorem dX1_fitting_51 : decode cX1_fitting 51 = .ok (.istore_n 3, 1) := by decide +kernel
theorem dX1_fitting_52 : decode cX1_fitting 52 = .ok (.iinc 4 1, 3) := by decide +kernel
theorem dX1_fitting_55 : decode cX1_fitting 55 = .ok (.goto (-50), 3) := by decide +kernel
theorem dX1_fitting_58 : decode cX1_fitting 58 = .ok (.iload_n 3, 1) := by decide +kernel
theorem dX1_fitting_59 : decode cX1_fitting 59 = .ok (.ireturn, 1) := by decide +kernel
theorem dX1_bestFrom_0 : decode cX1_bestFrom 0 = .ok (.iload_n 1, 1) := by decide +kernel
theorem dX1_bestFrom_1 : decode cX1_bestFrom 1 = .ok (.iconst 1, 1) := by decide +kernel
theorem dX1_bestFrom_2 : decode cX1_bestFrom 2 = .ok (.iadd, 1) := by decide +kernel
theorem dX1_bestFrom_3 : decode cX1_bestFrom 3 = .ok (.bipush 64, 2) := by decide +kernel
theorem dX1_bestFrom_5 : decode cX1_bestFrom 5 = .ok (.imul, 1) := by decide +kernel
theorem dX1_bestFrom_6 : decode cX1_bestFrom 6 = .ok (.istore_n 3, 1) := by decide +kernel
theorem dX1_bestFrom_7 : decode cX1_bestFrom 7 = .ok (.aload_n 0, 1) := by decide +kernel
theorem dX1_bestFrom_8 : decode cX1_bestFrom 8 = .ok (.getfield 15, 3) := by decide +kernel
theorem dX1_bestFrom_11 : decode cX1_bestFrom 11 = .ok (.iload_n 3, 1) := by decide +kernel
theorem dX1_bestFrom_12 : decode cX1_bestFrom 12 = .ok (.iload_n 2, 1) := by decide +kernel
theorem dX1_bestFrom_13 : decode cX1_bestFrom 13 = .ok (.iadd, 1) := by decide +kernel
theorem dX1_bestFrom_14 : decode cX1_bestFrom 14 = .ok (.iaload, 1) := by decide +kernel
theorem dX1_bestFrom_15 : decode cX1_bestFrom 15 = .ok (.istore 4, 2) := by decide +kernel
theorem dX1_bestFrom_17 : decode cX1_bestFrom 17 = .ok (.aload_n 0, 1) := by decide +kernel
theorem dX1_bestFrom_18 : decode cX1_bestFrom 18 = .ok (.getfield 9, 3) := by decide +kernel
theorem dX1_bestFrom_21 : decode cX1_bestFrom 21 = .ok (.iload_n 1, 1) := by decide +kernel
theorem dX1_bestFrom_22 : decode cX1_bestFrom 22 = .ok (.iaload, 1) := by decide +kernel
theorem dX1_bestFrom_23 : decode cX1_bestFrom 23 = .ok (.iload_n 2, 1) := by decide +kernel
theorem dX1_bestFrom_24 : decode cX1_bestFrom 24 = .ok (.iconst (-1), 1) := by decide +kernel
theorem dX1_bestFrom_25 : decode cX1_bestFrom 25 = .ok (.ixor, 1) := by decide +kernel
theorem dX1_bestFrom_26 : decode cX1_bestFrom 26 = .ok (.iand, 1) := by decide +kernel
theorem dX1_bestFrom_27 : decode cX1_bestFrom 27 = .ok (.istore 5, 2) := by decide +kernel
theorem dX1_bestFrom_29 : decode cX1_bestFrom 29 = .ok (.iconst 0, 1) := by decide +kernel
theorem dX1_bestFrom_30 : decode cX1_bestFrom 30 = .ok (.istore 6, 2) := by decide +kernel
theorem dX1_bestFrom_32 : decode cX1_bestFrom 32 = .ok (.iload 5, 2) := by decide +kernel
theorem dX1_bestFrom_34 : decode cX1_bestFrom 34 = .ok (.iload 6, 2) := by decide +kernel
theorem dX1_bestFrom_36 : decode cX1_bestFrom 36 = .ok (.ishr, 1) := by decide +kernel
theorem dX1_bestFrom_37 : decode cX1_bestFrom 37 = .ok (.ifCond .eq 48, 3) := by decide +kernel
theorem dX1_bestFrom_40 : decode cX1_bestFrom 40 = .ok (.iload 6, 2) := by decide +kernel
theorem dX1_bestFrom_42 : decode cX1_bestFrom 42 = .ok (.bipush 6, 2) := by decide +kernel
theorem dX1_bestFrom_44 : decode cX1_bestFrom 44 = .ok (.if_icmp .ge 41, 3) := by decide +kernel
theorem dX1_bestFrom_47 : decode cX1_bestFrom 47 = .ok (.iload 5, 2) := by decide +kernel
theorem dX1_bestFrom_49 : decode cX1_bestFrom 49 = .ok (.iload 6, 2) := by decide +kernel
theorem dX1_bestFrom_51 : decode cX1_bestFrom 51 = .ok (.invokestatic 37, 3) := by decide +kernel
theorem dX1_bestFrom_54 : decode cX1_bestFrom 54 = .ok (.ifCond .eq 25, 3) := by decide +kernel
theorem dX1_bestFrom_57 : decode cX1_bestFrom 57 = .ok (.iload 4, 2) := by decide +kernel
theorem dX1_bestFrom_59 : decode cX1_bestFrom 59 = .ok (.iconst 1, 1) := by decide +kernel
theorem dX1_bestFrom_60 : decode cX1_bestFrom 60 = .ok (.aload_n 0, 1) := by decide +kernel
theorem dX1_bestFrom_61 : decode cX1_bestFrom 61 = .ok (.getfield 15, 3) := by decide +kernel
theorem dX1_bestFrom_64 : decode cX1_bestFrom 64 = .ok (.iload_n 3, 1) := by decide +kernel
theorem dX1_bestFrom_65 : decode cX1_bestFrom 65 = .ok (.iload_n 2, 1) := by decide +kernel
theorem dX1_bestFrom_66 : decode cX1_bestFrom 66 = .ok (.iconst 1, 1) := by decide +kernel
theorem dX1_bestFrom_67 : decode cX1_bestFrom 67 = .ok (.iload 6, 2) := by decide +kernel
theorem dX1_bestFrom_69 : decode cX1_bestFrom 69 = .ok (.ishl, 1) := by decide +kernel
theorem dX1_bestFrom_70 : decode cX1_bestFrom 70 = .ok (.ior, 1) := by decide +kernel
theorem dX1_bestFrom_71 : decode cX1_bestFrom 71 = .ok (.iadd, 1) := by decide +kernel
theorem dX1_bestFrom_72 : decode cX1_bestFrom 72 = .ok (.iaload, 1) := by decide +kernel
theorem dX1_bestFrom_73 : decode cX1_bestFrom 73 = .ok (.iadd, 1) := by decide +kernel
theorem dX1_bestFrom_74 : decode cX1_bestFrom 74 = .ok (.invokestatic 47, 3) := by decide +kernel
theorem dX1_bestFrom_77 : decode cX1_bestFrom 77 = .ok (.istore 4, 2) := by decide +kernel
theorem dX1_bestFrom_79 : decode cX1_bestFrom 79 = .ok (.iinc 6 1, 3) := by decide +kernel
theorem dX1_bestFrom_82 : decode cX1_bestFrom 82 = .ok (.goto (-50), 3) := by decide +kernel
theorem dX1_bestFrom_85 : decode cX1_bestFrom 85 = .ok (.iload 4, 2) := by decide +kernel
theorem dX1_bestFrom_87 : decode cX1_bestFrom 87 = .ok (.ireturn, 1) := by decide +kernel
theorem dX1_mostOut_0 : decode cX1_mostOut 0 = .ok (.iload_n 1, 1) := by decide +kernel
theorem dX1_mostOut_1 : decode cX1_mostOut 1 = .ok (.ifCond .lt 18, 3) := by decide +kernel
theorem dX1_mostOut_4 : decode cX1_mostOut 4 = .ok (.iload_n 1, 1) := by decide +kernel
theorem dX1_mostOut_5 : decode cX1_mostOut 5 = .ok (.bipush 64, 2) := by decide +kernel
theorem dX1_mostOut_7 : decode cX1_mostOut 7 = .ok (.if_icmp .ge 12, 3) := by decide +kernel
theorem dX1_mostOut_10 : decode cX1_mostOut 10 = .ok (.aload_n 0, 1) := by decide +kernel
theorem dX1_mostOut_11 : decode cX1_mostOut 11 = .ok (.getfield 15, 3) := by decide +kernel
theorem dX1_mostOut_14 : decode cX1_mostOut 14 = .ok (.iload_n 1, 1) := by decide +kernel
theorem dX1_mostOut_15 : decode cX1_mostOut 15 = .ok (.iaload, 1) := by decide +kernel
theorem dX1_mostOut_16 : decode cX1_mostOut 16 = .ok (.goto 4, 3) := by decide +kernel
theorem dX1_mostOut_19 : decode cX1_mostOut 19 = .ok (.iconst 0, 1) := by decide +kernel
theorem dX1_mostOut_20 : decode cX1_mostOut 20 = .ok (.ireturn, 1) := by decide +kernel
theorem dX1_sheepOf_0 : decode cX1_sheepOf 0 = .ok (.iconst 0, 1) := by decide +kernel
theorem dX1_sheepOf_1 : decode cX1_sheepOf 1 = .ok (.istore_n 2, 1) := by decide +kernel
theorem dX1_sheepOf_2 : decode cX1_sheepOf 2 = .ok (.iconst (-1), 1) := by decide +kernel
theorem dX1_sheepOf_3 : decode cX1_sheepOf 3 = .ok (.istore_n 3, 1) := by decide +kernel
theorem dX1_sheepOf_4 : decode cX1_sheepOf 4 = .ok (.iconst 0, 1) := by decide +kernel
theorem dX1_sheepOf_5 : decode cX1_sheepOf 5 = .ok (.istore 4, 2) := by decide +kernel
theorem dX1_sheepOf_7 : decode cX1_sheepOf 7 = .ok (.iload 4, 2) := by decide +kernel
theorem dX1_sheepOf_9 : decode cX1_sheepOf 9 = .ok (.iload_n 1, 1) := by decide +kernel
theorem dX1_sheepOf_10 : decode cX1_sheepOf 10 = .ok (.if_icmp .gt 35, 3) := by decide +kernel
theorem dX1_sheepOf_13 : decode cX1_sheepOf 13 = .ok (.iload 4, 2) := by decide +kernel
theorem dX1_sheepOf_15 : decode cX1_sheepOf 15 = .ok (.bipush 6, 2) := by decide +kernel
theorem dX1_sheepOf_17 : decode cX1_sheepOf 17 = .ok (.if_icmp .ge 28, 3) := by decide +kernel
theorem dX1_sheepOf_20 : decode cX1_sheepOf 20 = .ok (.aload_n 0, 1) := by decide +kernel
theorem dX1_sheepOf_21 : decode cX1_sheepOf 21 = .ok (.iload 4, 2) := by decide +kernel
theorem dX1_sheepOf_23 : decode cX1_sheepOf 23 = .ok (.iload_n 2, 1) := by decide +kernel
theorem dX1_sheepOf_24 : decode cX1_sheepOf 24 = .ok (.invokevirtual 52, 3) := by decide +kernel
theorem dX1_sheepOf_27 : decode cX1_sheepOf 27 = .ok (.istore_n 3, 1) := by decide +kernel
theorem dX1_sheepOf_28 : decode cX1_sheepOf 28 = .ok (.iload_n 3, 1) := by decide +kernel
theorem dX1_sheepOf_29 : decode cX1_sheepOf 29 = .ok (.iconst (-1), 1) := by decide +kernel
theorem dX1_sheepOf_30 : decode cX1_sheepOf 30 = .ok (.if_icmp .eq 9, 3) := by decide +kernel
theorem dX1_sheepOf_33 : decode cX1_sheepOf 33 = .ok (.iload_n 2, 1) := by decide +kernel
theorem dX1_sheepOf_34 : decode cX1_sheepOf 34 = .ok (.iconst 1, 1) := by decide +kernel
theorem dX1_sheepOf_35 : decode cX1_sheepOf 35 = .ok (.iload_n 3, 1) := by decide +kernel
theorem dX1_sheepOf_36 : decode cX1_sheepOf 36 = .ok (.ishl, 1) := by decide +kernel
theorem dX1_sheepOf_37 : decode cX1_sheepOf 37 = .ok (.ior, 1) := by decide +kernel
theorem dX1_sheepOf_38 : decode cX1_sheepOf 38 = .ok (.istore_n 2, 1) := by decide +kernel
theorem dX1_sheepOf_39 : decode cX1_sheepOf 39 = .ok (.iinc 4 1, 3) := by decide +kernel
theorem dX1_sheepOf_42 : decode cX1_sheepOf 42 = .ok (.goto (-35), 3) := by decide +kernel
theorem dX1_sheepOf_45 : decode cX1_sheepOf 45 = .ok (.iload_n 3, 1) := by decide +kernel
theorem dX1_sheepOf_46 : decode cX1_sheepOf 46 = .ok (.ireturn, 1) := by decide +kernel
theorem dX1_firstBest_0 : decode cX1_firstBest 0 = .ok (.aload_n 0, 1) := by decide +kernel
theorem dX1_firstBest_1 : decode cX1_firstBest 1 = .ok (.getfield 9, 3) := by decide +kernel
theorem dX1_firstBest_4 : decode cX1_firstBest 4 = .ok (.iload_n 1, 1) := by decide +kernel
theorem dX1_firstBest_5 : decode cX1_firstBest 5 = .ok (.iaload, 1) := by decide +kernel
theorem dX1_firstBest_6 : decode cX1_firstBest 6 = .ok (.iload_n 2, 1) := by decide +kernel
theorem dX1_firstBest_7 : decode cX1_firstBest 7 = .ok (.iconst (-1), 1) := by decide +kernel
theorem dX1_firstBest_8 : decode cX1_firstBest 8 = .ok (.ixor, 1) := by decide +kernel
theorem dX1_firstBest_9 : decode cX1_firstBest 9 = .ok (.iand, 1) := by decide +kernel
theorem dX1_firstBest_10 : decode cX1_firstBest 10 = .ok (.istore_n 3, 1) := by decide +kernel
theorem dX1_firstBest_11 : decode cX1_firstBest 11 = .ok (.iconst 0, 1) := by decide +kernel
theorem dX1_firstBest_12 : decode cX1_firstBest 12 = .ok (.istore 4, 2) := by decide +kernel
theorem dX1_firstBest_14 : decode cX1_firstBest 14 = .ok (.iload 4, 2) := by decide +kernel
theorem dX1_firstBest_16 : decode cX1_firstBest 16 = .ok (.bipush 6, 2) := by decide +kernel
theorem dX1_firstBest_18 : decode cX1_firstBest 18 = .ok (.if_icmp .ge 55, 3) := by decide +kernel
theorem dX1_firstBest_21 : decode cX1_firstBest 21 = .ok (.iload_n 3, 1) := by decide +kernel
theorem dX1_firstBest_22 : decode cX1_firstBest 22 = .ok (.iload 4, 2) := by decide +kernel
theorem dX1_firstBest_24 : decode cX1_firstBest 24 = .ok (.invokestatic 37, 3) := by decide +kernel
theorem dX1_firstBest_27 : decode cX1_firstBest 27 = .ok (.ifCond .eq 40, 3) := by decide +kernel
theorem dX1_firstBest_30 : decode cX1_firstBest 30 = .ok (.iconst 1, 1) := by decide +kernel
theorem dX1_firstBest_31 : decode cX1_firstBest 31 = .ok (.aload_n 0, 1) := by decide +kernel
theorem dX1_firstBest_32 : decode cX1_firstBest 32 = .ok (.getfield 15, 3) := by decide +kernel
theorem dX1_firstBest_35 : decode cX1_firstBest 35 = .ok (.iload_n 1, 1) := by decide +kernel
theorem dX1_firstBest_36 : decode cX1_firstBest 36 = .ok (.iconst 1, 1) := by decide +kernel
theorem dX1_firstBest_37 : decode cX1_firstBest 37 = .ok (.iadd, 1) := by decide +kernel
theorem dX1_firstBest_38 : decode cX1_firstBest 38 = .ok (.bipush 64, 2) := by decide +kernel
theorem dX1_firstBest_40 : decode cX1_firstBest 40 = .ok (.imul, 1) := by decide +kernel
theorem dX1_firstBest_41 : decode cX1_firstBest 41 = .ok (.iload_n 2, 1) := by decide +kernel
theorem dX1_firstBest_42 : decode cX1_firstBest 42 = .ok (.iconst 1, 1) := by decide +kernel
theorem dX1_firstBest_43 : decode cX1_firstBest 43 = .ok (.iload 4, 2) := by decide +kernel
theorem dX1_firstBest_45 : decode cX1_firstBest 45 = .ok (.ishl, 1) := by decide +kernel
theorem dX1_firstBest_46 : decode cX1_firstBest 46 = .ok (.ior, 1) := by decide +kernel
theorem dX1_firstBest_47 : decode cX1_firstBest 47 = .ok (.iadd, 1) := by decide +kernel
theorem dX1_firstBest_48 : decode cX1_firstBest 48 = .ok (.iaload, 1) := by decide +kernel
theorem dX1_firstBest_49 : decode cX1_firstBest 49 = .ok (.iadd, 1) := by decide +kernel
theorem dX1_firstBest_50 : decode cX1_firstBest 50 = .ok (.aload_n 0, 1) := by decide +kernel
theorem dX1_firstBest_51 : decode cX1_firstBest 51 = .ok (.getfield 15, 3) := by decide +kernel
theorem dX1_firstBest_54 : decode cX1_firstBest 54 = .ok (.iload_n 1, 1) := by decide +kernel
theorem dX1_firstBest_55 : decode cX1_firstBest 55 = .ok (.bipush 64, 2) := by decide +kernel
theorem dX1_firstBest_57 : decode cX1_firstBest 57 = .ok (.imul, 1) := by decide +kernel
theorem dX1_firstBest_58 : decode cX1_firstBest 58 = .ok (.iload_n 2, 1) := by decide +kernel
theorem dX1_firstBest_59 : decode cX1_firstBest 59 = .ok (.iadd, 1) := by decide +kernel
theorem dX1_firstBest_60 : decode cX1_firstBest 60 = .ok (.iaload, 1) := by decide +kernel
theorem dX1_firstBest_61 : decode cX1_firstBest 61 = .ok (.if_icmp .ne 6, 3) := by decide +kernel
theorem dX1_firstBest_64 : decode cX1_firstBest 64 = .ok (.iload 4, 2) := by decide +kernel
theorem dX1_firstBest_66 : decode cX1_firstBest 66 = .ok (.ireturn, 1) := by decide +kernel
theorem dX1_firstBest_67 : decode cX1_firstBest 67 = .ok (.iinc 4 1, 3) := by decide +kernel
theorem dX1_firstBest_70 : decode cX1_firstBest 70 = .ok (.goto (-56), 3) := by decide +kernel
theorem dX1_firstBest_73 : decode cX1_firstBest 73 = .ok (.iconst (-1), 1) := by decide +kernel
theorem dX1_firstBest_74 : decode cX1_firstBest 74 = .ok (.ireturn, 1) := by decide +kernel
theorem dX1_bestFelt_0 : decode cX1_bestFelt 0 = .ok (.iload_n 2, 1) := by decide +kernel
theorem dX1_bestFelt_1 : decode cX1_bestFelt 1 = .ok (.iload_n 1, 1) := by decide +kernel
theorem dX1_bestFelt_2 : decode cX1_bestFelt 2 = .ok (.invokestatic 55, 3) := by decide +kernel
theorem dX1_bestFelt_5 : decode cX1_bestFelt 5 = .ok (.invokestatic 61, 3) := by decide +kernel
theorem dX1_bestFelt_8 : decode cX1_bestFelt 8 = .ok (.istore_n 3, 1) := by decide +kernel
theorem dX1_bestFelt_9 : decode cX1_bestFelt 9 = .ok (.iconst 0, 1) := by decide +kernel
theorem dX1_bestFelt_10 : decode cX1_bestFelt 10 = .ok (.istore 4, 2) := by decide +kernel
theorem dX1_bestFelt_12 : decode cX1_bestFelt 12 = .ok (.bipush 7, 2) := by decide +kernel
theorem dX1_bestFelt_14 : decode cX1_bestFelt 14 = .ok (.istore 5, 2) := by decide +kernel
theorem dX1_bestFelt_16 : decode cX1_bestFelt 16 = .ok (.iconst 0, 1) := by decide +kernel
theorem dX1_bestFelt_17 : decode cX1_bestFelt 17 = .ok (.istore 6, 2) := by decide +kernel
theorem dX1_bestFelt_19 : decode cX1_bestFelt 19 = .ok (.iload 6, 2) := by decide +kernel
theorem dX1_bestFelt_21 : decode cX1_bestFelt 21 = .ok (.bipush 64, 2) := by decide +kernel
theorem dX1_bestFelt_23 : decode cX1_bestFelt 23 = .ok (.if_icmp .ge 52, 3) := by decide +kernel
theorem dX1_bestFelt_26 : decode cX1_bestFelt 26 = .ok (.iload 6, 2) := by decide +kernel
theorem dX1_bestFelt_28 : decode cX1_bestFelt 28 = .ok (.iload_n 1, 1) := by decide +kernel
theorem dX1_bestFelt_29 : decode cX1_bestFelt 29 = .ok (.iconst (-1), 1) := by decide +kernel
theorem dX1_bestFelt_30 : decode cX1_bestFelt 30 = .ok (.ixor, 1) := by decide +kernel
theorem dX1_bestFelt_31 : decode cX1_bestFelt 31 = .ok (.iand, 1) := by decide +kernel
theorem dX1_bestFelt_32 : decode cX1_bestFelt 32 = .ok (.ifCond .ne 37, 3) := by decide +kernel
theorem dX1_bestFelt_35 : decode cX1_bestFelt 35 = .ok (.iload 6, 2) := by decide +kernel
theorem dX1_bestFelt_37 : decode cX1_bestFelt 37 = .ok (.invokestatic 55, 3) := by decide +kernel
theorem dX1_bestFelt_40 : decode cX1_bestFelt 40 = .ok (.iload_n 3, 1) := by decide +kernel
theorem dX1_bestFelt_41 : decode cX1_bestFelt 41 = .ok (.if_icmp .ne 28, 3) := by decide +kernel
theorem dX1_bestFelt_44 : decode cX1_bestFelt 44 = .ok (.aload_n 0, 1) := by decide +kernel
theorem dX1_bestFelt_45 : decode cX1_bestFelt 45 = .ok (.getfield 15, 3) := by decide +kernel
theorem dX1_bestFelt_48 : decode cX1_bestFelt 48 = .ok (.iload 6, 2) := by decide +kernel
theorem dX1_bestFelt_50 : decode cX1_bestFelt 50 = .ok (.iaload, 1) := by decide +kernel
theorem dX1_bestFelt_51 : decode cX1_bestFelt 51 = .ok (.iload 5, 2) := by decide +kernel
theorem dX1_bestFelt_53 : decode cX1_bestFelt 53 = .ok (.if_icmp .ge 16, 3) := by decide +kernel
theorem dX1_bestFelt_56 : decode cX1_bestFelt 56 = .ok (.aload_n 0, 1) := by decide +kernel
theorem dX1_bestFelt_57 : decode cX1_bestFelt 57 = .ok (.getfield 15, 3) := by decide +kernel
theorem dX1_bestFelt_60 : decode cX1_bestFelt 60 = .ok (.iload 6, 2) := by decide +kernel
theorem dX1_bestFelt_62 : decode cX1_bestFelt 62 = .ok (.iaload, 1) := by decide +kernel
theorem dX1_bestFelt_63 : decode cX1_bestFelt 63 = .ok (.istore 5, 2) := by decide +kernel
theorem dX1_bestFelt_65 : decode cX1_bestFelt 65 = .ok (.iload 6, 2) := by decide +kernel
theorem dX1_bestFelt_67 : decode cX1_bestFelt 67 = .ok (.istore 4, 2) := by decide +kernel
theorem dX1_bestFelt_69 : decode cX1_bestFelt 69 = .ok (.iinc 6 1, 3) := by decide +kernel
theorem dX1_bestFelt_72 : decode cX1_bestFelt 72 = .ok (.goto (-53), 3) := by decide +kernel
theorem dX1_bestFelt_75 : decode cX1_bestFelt 75 = .ok (.iload 4, 2) := by decide +kernel
theorem dX1_bestFelt_77 : decode cX1_bestFelt 77 = .ok (.ireturn, 1) := by decide +kernel
theorem dX2_init_0 : decode cX2_init 0 = .ok (.aload_n 0, 1) := by decide +kernel
theorem dX2_init_1 : decode cX2_init 1 = .ok (.invokespecial 3, 3) := by decide +kernel
theorem dX2_init_4 : decode cX2_init 4 = .ok (.aload_n 0, 1) := by decide +kernel
theorem dX2_init_5 : decode cX2_init 5 = .ok (.bipush 6, 2) := by decide +kernel
theorem dX2_init_7 : decode cX2_init 7 = .ok (.newarray .int, 2) := by decide +kernel
theorem dX2_init_9 : decode cX2_init 9 = .ok (.putfield 9, 3) := by decide +kernel
theorem dX2_init_12 : decode cX2_init 12 = .ok (.return_, 1) := by decide +kernel
theorem dX2_begin_0 : decode cX2_begin 0 = .ok (.aload_n 0, 1) := by decide +kernel
theorem dX2_begin_1 : decode cX2_begin 1 = .ok (.iconst 0, 1) := by decide +kernel
theorem dX2_begin_2 : decode cX2_begin 2 = .ok (.putfield 15, 3) := by decide +kernel
theorem dX2_begin_5 : decode cX2_begin 5 = .ok (.aload_n 0, 1) := by decide +kernel
theorem dX2_begin_6 : decode cX2_begin 6 = .ok (.aload_n 1, 1) := by decide +kernel
theorem dX2_begin_7 : decode cX2_begin 7 = .ok (.getfield 19, 3) := by decide +kernel
theorem dX2_begin_10 : decode cX2_begin 10 = .ok (.putfield 24, 3) := by decide +kernel
theorem dX2_begin_13 : decode cX2_begin 13 = .ok (.aload_n 0, 1) := by decide +kernel
theorem dX2_begin_14 : decode cX2_begin 14 = .ok (.iconst 0, 1) := by decide +kernel
theorem dX2_begin_15 : decode cX2_begin 15 = .ok (.putfield 27, 3) := by decide +kernel
theorem dX2_begin_18 : decode cX2_begin 18 = .ok (.aload_n 0, 1) := by decide +kernel
theorem dX2_begin_19 : decode cX2_begin 19 = .ok (.iconst 0, 1) := by decide +kernel
theorem dX2_begin_20 : decode cX2_begin 20 = .ok (.putfield 30, 3) := by decide +kernel
theorem dX2_begin_23 : decode cX2_begin 23 = .ok (.aload_n 0, 1) := by decide +kernel
theorem dX2_begin_24 : decode cX2_begin 24 = .ok (.iconst 0, 1) := by decide +kernel
theorem dX2_begin_25 : decode cX2_begin 25 = .ok (.putfield 33, 3) := by decide +kernel
theorem dX2_begin_28 : decode cX2_begin 28 = .ok (.aload_n 0, 1) := by decide +kernel
theorem dX2_begin_29 : decode cX2_begin 29 = .ok (.aload_n 1, 1) := by decide +kernel
theorem dX2_begin_30 : decode cX2_begin 30 = .ok (.getfield 37, 3) := by decide +kernel
theorem dX2_begin_33 : decode cX2_begin 33 = .ok (.invokestatic 40, 3) := by decide +kernel
theorem dX2_begin_36 : decode cX2_begin 36 = .ok (.putfield 44, 3) := by decide +kernel
theorem dX2_begin_39 : decode cX2_begin 39 = .ok (.aload_n 0, 1) := by decide +kernel
theorem dX2_begin_40 : decode cX2_begin 40 = .ok (.iconst 0, 1) := by decide +kernel
theorem dX2_begin_41 : decode cX2_begin 41 = .ok (.putfield 47, 3) := by decide +kernel
theorem dX2_begin_44 : decode cX2_begin 44 = .ok (.aload_n 0, 1) := by decide +kernel
theorem dX2_begin_45 : decode cX2_begin 45 = .ok (.iconst 0, 1) := by decide +kernel
theorem dX2_begin_46 : decode cX2_begin 46 = .ok (.putfield 50, 3) := by decide +kernel
theorem dX2_begin_49 : decode cX2_begin 49 = .ok (.aload_n 0, 1) := by decide +kernel
theorem dX2_begin_50 : decode cX2_begin 50 = .ok (.iconst 0, 1) := by decide +kernel
theorem dX2_begin_51 : decode cX2_begin 51 = .ok (.putfield 53, 3) := by decide +kernel
theorem dX2_begin_54 : decode cX2_begin 54 = .ok (.iconst 0, 1) := by decide +kernel
theorem dX2_begin_55 : decode cX2_begin 55 = .ok (.istore_n 2, 1) := by decide +kernel
theorem dX2_begin_56 : decode cX2_begin 56 = .ok (.iload_n 2, 1) := by decide +kernel
theorem dX2_begin_57 : decode cX2_begin 57 = .ok (.bipush 6, 2) := by decide +kernel
theorem dX2_begin_59 : decode cX2_begin 59 = .ok (.if_icmp .ge 16, 3) := by decide +kernel
theorem dX2_begin_62 : decode cX2_begin 62 = .ok (.aload_n 0, 1) := by decide +kernel
theorem dX2_begin_63 : decode cX2_begin 63 = .ok (.getfield 9, 3) := by decide +kernel
theorem dX2_begin_66 : decode cX2_begin 66 = .ok (.iload_n 2, 1) := by decide +kernel
theorem dX2_begin_67 : decode cX2_begin 67 = .ok (.iconst (-1), 1) := by decide +kernel
theorem dX2_begin_68 : decode cX2_begin 68 = .ok (.iastore, 1) := by decide +kernel
theorem dX2_begin_69 : decode cX2_begin 69 = .ok (.iinc 2 1, 3) := by decide +kernel
theorem dX2_begin_72 : decode cX2_begin 72 = .ok (.goto (-16), 3) := by decide +kernel
theorem dX2_begin_75 : decode cX2_begin 75 = .ok (.return_, 1) := by decide +kernel
theorem dX2_copy_0 : decode cX2_copy 0 = .ok (.aload_n 0, 1) := by decide +kernel
theorem dX2_copy_1 : decode cX2_copy 1 = .ok (.aload_n 1, 1) := by decide +kernel
theorem dX2_copy_2 : decode cX2_copy 2 = .ok (.getfield 15, 3) := by decide +kernel
theorem dX2_copy_5 : decode cX2_copy 5 = .ok (.putfield 15, 3) := by decide +kernel
theorem dX2_copy_8 : decode cX2_copy 8 = .ok (.aload_n 0, 1) := by decide +kernel
theorem dX2_copy_9 : decode cX2_copy 9 = .ok (.aload_n 1, 1) := by decide +kernel
theorem dX2_copy_10 : decode cX2_copy 10 = .ok (.getfield 24, 3) := by decide +kernel
theorem dX2_copy_13 : decode cX2_copy 13 = .ok (.putfield 24, 3) := by decide +kernel
theorem dX2_copy_16 : decode cX2_copy 16 = .ok (.aload_n 0, 1) := by decide +kernel
theorem dX2_copy_17 : decode cX2_copy 17 = .ok (.aload_n 1, 1) := by decide +kernel
theorem dX2_copy_18 : decode cX2_copy 18 = .ok (.getfield 27, 3) := by decide +kernel
theorem dX2_copy_21 : decode cX2_copy 21 = .ok (.putfield 27, 3) := by decide +kernel
theorem dX2_copy_24 : decode cX2_copy 24 = .ok (.aload_n 0, 1) := by decide +kernel
theorem dX2_copy_25 : decode cX2_copy 25 = .ok (.aload_n 1, 1) := by decide +kernel
theorem dX2_copy_26 : decode cX2_copy 26 = .ok (.getfield 30, 3) := by decide +kernel
theorem dX2_copy_29 : decode cX2_copy 29 = .ok (.putfield 30, 3) := by decide +kernel
theorem dX2_copy_32 : decode cX2_copy 32 = .ok (.aload_n 0, 1) := by decide +kernel
theorem dX2_copy_33 : decode cX2_copy 33 = .ok (.aload_n 1, 1) := by decide +kernel
theorem dX2_copy_34 : decode cX2_copy 34 = .ok (.getfield 33, 3) := by decide +kernel
theorem dX2_copy_37 : decode cX2_copy 37 = .ok (.putfield 33, 3) := by decide +kernel
theorem dX2_copy_40 : decode cX2_copy 40 = .ok (.aload_n 0, 1) := by decide +kernel
theorem dX2_copy_41 : decode cX2_copy 41 = .ok (.aload_n 1, 1) := by decide +kernel
theorem dX2_copy_42 : decode cX2_copy 42 = .ok (.getfield 44, 3) := by decide +kernel
theorem dX2_copy_45 : decode cX2_copy 45 = .ok (.putfield 44, 3) := by decide +kernel
theorem dX2_copy_48 : decode cX2_copy 48 = .ok (.aload_n 0, 1) := by decide +kernel
theorem dX2_copy_49 : decode cX2_copy 49 = .ok (.aload_n 1, 1) := by decide +kernel
theorem dX2_copy_50 : decode cX2_copy 50 = .ok (.getfield 47, 3) := by decide +kernel
theorem dX2_copy_53 : decode cX2_copy 53 = .ok (.putfield 47, 3) := by decide +kernel
theorem dX2_copy_56 : decode cX2_copy 56 = .ok (.aload_n 0, 1) := by decide +kernel
theorem dX2_copy_57 : decode cX2_copy 57 = .ok (.aload_n 1, 1) := by decide +kernel
theorem dX2_copy_58 : decode cX2_copy 58 = .ok (.getfield 50, 3) := by decide +kernel
theorem dX2_copy_61 : decode cX2_copy 61 = .ok (.putfield 50, 3) := by decide +kernel
theorem dX2_copy_64 : decode cX2_copy 64 = .ok (.aload_n 0, 1) := by decide +kernel
theorem dX2_copy_65 : decode cX2_copy 65 = .ok (.aload_n 1, 1) := by decide +kernel
theorem dX2_copy_66 : decode cX2_copy 66 = .ok (.getfield 53, 3) := by decide +kernel
theorem dX2_copy_69 : decode cX2_copy 69 = .ok (.putfield 53, 3) := by decide +kernel
theorem dX2_copy_72 : decode cX2_copy 72 = .ok (.aload_n 1, 1) := by decide +kernel
theorem dX2_copy_73 : decode cX2_copy 73 = .ok (.getfield 9, 3) := by decide +kernel
theorem dX2_copy_76 : decode cX2_copy 76 = .ok (.iconst 0, 1) := by decide +kernel
theorem dX2_copy_77 : decode cX2_copy 77 = .ok (.aload_n 0, 1) := by decide +kernel
theorem dX2_copy_78 : decode cX2_copy 78 = .ok (.getfield 9, 3) := by decide +kernel
theorem dX2_copy_81 : decode cX2_copy 81 = .ok (.iconst 0, 1) := by decide +kernel
theorem dX2_copy_82 : decode cX2_copy 82 = .ok (.bipush 6, 2) := by decide +kernel
theorem dX2_copy_84 : decode cX2_copy 84 = .ok (.invokestatic 56, 3) := by decide +kernel
theorem dX2_copy_87 : decode cX2_copy 87 = .ok (.return_, 1) := by decide +kernel
theorem dX2_stateOf_0 : decode cX2_stateOf 0 = .ok (.aload_n 0, 1) := by decide +kernel
theorem dX2_stateOf_1 : decode cX2_stateOf 1 = .ok (.getfield 44, 3) := by decide +kernel
theorem dX2_stateOf_4 : decode cX2_stateOf 4 = .ok (.iload_n 1, 1) := by decide +kernel
theorem dX2_stateOf_5 : decode cX2_stateOf 5 = .ok (.invokestatic 62, 3) := by decide +kernel
theorem dX2_stateOf_8 : decode cX2_stateOf 8 = .ok (.ifCond .eq 5, 3) := by decide +kernel
theorem dX2_stateOf_11 : decode cX2_stateOf 11 = .ok (.iconst 0, 1) := by decide +kernel
theorem dX2_stateOf_12 : decode cX2_stateOf 12 = .ok (.ireturn, 1) := by decide +kernel
theorem dX2_stateOf_13 : decode cX2_stateOf 13 = .ok (.aload_n 0, 1) := by decide +kernel
theorem dX2_stateOf_14 : decode cX2_stateOf 14 = .ok (.getfield 47, 3) := by decide +kernel
theorem dX2_stateOf_17 : decode cX2_stateOf 17 = .ok (.iload_n 1, 1) := by decide +kernel
theorem dX2_stateOf_18 : decode cX2_stateOf 18 = .ok (.invokestatic 62, 3) := by decide +kernel
theorem dX2_stateOf_21 : decode cX2_stateOf 21 = .ok (.ifCond .eq 7, 3) := by decide +kernel
theorem dX2_stateOf_24 : decode cX2_stateOf 24 = .ok (.iconst 1, 1) := by decide +kernel
theorem dX2_stateOf_25 : decode cX2_stateOf 25 = .ok (.goto 4, 3) := by decide +kernel
theorem dX2_stateOf_28 : decode cX2_stateOf 28 = .ok (.iconst 2, 1) := by decide +kernel
theorem dX2_stateOf_29 : decode cX2_stateOf 29 = .ok (.ireturn, 1) := by decide +kernel
theorem dX2_whoIsUnder_0 : decode cX2_whoIsUnder 0 = .ok (.iconst 0, 1) := by decide +kernel
theorem dX2_whoIsUnder_1 : decode cX2_whoIsUnder 1 = .ok (.istore_n 2, 1) := by decide +kernel
theorem dX2_whoIsUnder_2 : decode cX2_whoIsUnder 2 = .ok (.iload_n 2, 1) := by decide +kernel
theorem dX2_whoIsUnder_3 : decode cX2_whoIsUnder 3 = .ok (.bipush 6, 2) := by decide +kernel
theorem dX2_whoIsUnder_5 : decode cX2_whoIsUnder 5 = .ok (.if_icmp .ge 21, 3) := by decide +kernel
theorem dX2_whoIsUnder_8 : decode cX2_whoIsUnder 8 = .ok (.aload_n 0, 1) := by decide +kernel
theorem dX2_whoIsUnder_9 : decode cX2_whoIsUnder 9 = .ok (.getfield 9, 3) := by decide +kernel
theorem dX2_whoIsUnder_12 : decode cX2_whoIsUnder 12 = .ok (.iload_n 2, 1) := by decide +kernel
theorem dX2_whoIsUnder_13 : decode cX2_whoIsUnder 13 = .ok (.iaload, 1) := by decide +kernel
theorem dX2_whoIsUnder_14 : decode cX2_whoIsUnder 14 = .ok (.iload_n 1, 1) := by decide +kernel
theorem dX2_whoIsUnder_15 : decode cX2_whoIsUnder 15 = .ok (.if_icmp .ne 5, 3) := by decide +kernel
theorem dX2_whoIsUnder_18 : decode cX2_whoIsUnder 18 = .ok (.iload_n 2, 1) := by decide +kernel
theorem dX2_whoIsUnder_19 : decode cX2_whoIsUnder 19 = .ok (.ireturn, 1) := by decide +kernel
theorem dX2_whoIsUnder_20 : decode cX2_whoIsUnder 20 = .ok (.iinc 2 1, 3) := by decide +kernel
theorem dX2_whoIsUnder_23 : decode cX2_whoIsUnder 23 = .ok (.goto (-21), 3) := by decide +kernel
theorem dX2_whoIsUnder_26 : decode cX2_whoIsUnder 26 = .ok (.iconst (-1), 1) := by decide +kernel
theorem dX2_whoIsUnder_27 : decode cX2_whoIsUnder 27 = .ok (.ireturn, 1) := by decide +kernel
theorem dX2_canHide_0 : decode cX2_canHide 0 = .ok (.aload_n 0, 1) := by decide +kernel
theorem dX2_canHide_1 : decode cX2_canHide 1 = .ok (.getfield 44, 3) := by decide +kernel
theorem dX2_canHide_4 : decode cX2_canHide 4 = .ok (.iload_n 1, 1) := by decide +kernel
theorem dX2_canHide_5 : decode cX2_canHide 5 = .ok (.invokestatic 62, 3) := by decide +kernel
theorem dX2_canHide_8 : decode cX2_canHide 8 = .ok (.ifCond .ne 5, 3) := by decide +kernel
theorem dX2_canHide_11 : decode cX2_canHide 11 = .ok (.iconst 0, 1) := by decide +kernel
theorem dX2_canHide_12 : decode cX2_canHide 12 = .ok (.ireturn, 1) := by decide +kernel
theorem dX2_canHide_13 : decode cX2_canHide 13 = .ok (.iload_n 2, 1) := by decide +kernel
theorem dX2_canHide_14 : decode cX2_canHide 14 = .ok (.iconst (-1), 1) := by decide +kernel
theorem dX2_canHide_15 : decode cX2_canHide 15 = .ok (.if_icmp .ne 29, 3) := by decide +kernel
theorem dX2_canHide_18 : decode cX2_canHide 18 = .ok (.iload_n 1, 1) := by decide +kernel
theorem dX2_canHide_19 : decode cX2_canHide 19 = .ok (.ifCond .lt 23, 3) := by decide +kernel
theorem dX2_canHide_22 : decode cX2_canHide 22 = .ok (.iload_n 1, 1) := by decide +kernel
theorem dX2_canHide_23 : decode cX2_canHide 23 = .ok (.bipush 6, 2) := by decide +kernel
theorem dX2_canHide_25 : decode cX2_canHide 25 = .ok (.if_icmp .ge 17, 3) := by decide +kernel
theorem dX2_canHide_28 : decode cX2_canHide 28 = .ok (.aload_n 0, 1) := by decide +kernel
theorem dX2_canHide_29 : decode cX2_canHide 29 = .ok (.getfield 9, 3) := by decide +kernel
theorem dX2_canHide_32 : decode cX2_canHide 32 = .ok (.iload_n 1, 1) := by decide +kernel
theorem dX2_canHide_33 : decode cX2_canHide 33 = .ok (.iaload, 1) := by decide +kernel
theorem dX2_canHide_34 : decode cX2_canHide 34 = .ok (.iconst (-1), 1) := by decide +kernel
theorem dX2_canHide_35 : decode cX2_canHide 35 = .ok (.if_icmp .eq 7, 3) := by decide +kernel
theorem dX2_canHide_38 : decode cX2_canHide 38 = .ok (.iconst 1, 1) := by decide +kernel
theorem dX2_canHide_39 : decode cX2_canHide 39 = .ok (.goto 4, 3) := by decide +kernel
theorem dX2_canHide_42 : decode cX2_canHide 42 = .ok (.iconst 0, 1) := by decide +kernel
theorem dX2_canHide_43 : decode cX2_canHide 43 = .ok (.ireturn, 1) := by decide +kernel
theorem dX2_canHide_44 : decode cX2_canHide 44 = .ok (.aload_n 0, 1) := by decide +kernel
theorem dX2_canHide_45 : decode cX2_canHide 45 = .ok (.getfield 53, 3) := by decide +kernel
theorem dX2_canHide_48 : decode cX2_canHide 48 = .ok (.iload_n 2, 1) := by decide +kernel
theorem dX2_canHide_49 : decode cX2_canHide 49 = .ok (.invokestatic 62, 3) := by decide +kernel
theorem dX2_canHide_52 : decode cX2_canHide 52 = .ok (.ifCond .ne 16, 3) := by decide +kernel
theorem dX2_canHide_55 : decode cX2_canHide 55 = .ok (.aload_n 0, 1) := by decide +kernel
theorem dX2_canHide_56 : decode cX2_canHide 56 = .ok (.iload_n 2, 1) := by decide +kernel
theorem dX2_canHide_57 : decode cX2_canHide 57 = .ok (.invokevirtual 66, 3) := by decide +kernel
theorem dX2_canHide_60 : decode cX2_canHide 60 = .ok (.iconst (-1), 1) := by decide +kernel
theorem dX2_canHide_61 : decode cX2_canHide 61 = .ok (.if_icmp .ne 7, 3) := by decide +kernel
theorem dX2_canHide_64 : decode cX2_canHide 64 = .ok (.iconst 1, 1) := by decide +kernel
theorem dX2_canHide_65 : decode cX2_canHide 65 = .ok (.goto 4, 3) := by decide +kernel
theorem dX2_canHide_68 : decode cX2_canHide 68 = .ok (.iconst 0, 1) := by decide +kernel
theorem dX2_canHide_69 : decode cX2_canHide 69 = .ok (.ireturn, 1) := by decide +kernel
theorem dX2_eatFirst_0 : decode cX2_eatFirst 0 = .ok (.iconst 0, 1) := by decide +kernel
theorem dX2_eatFirst_1 : decode cX2_eatFirst 1 = .ok (.istore_n 2, 1) := by decide +kernel
theorem dX2_eatFirst_2 : decode cX2_eatFirst 2 = .ok (.iload_n 1, 1) := by decide +kernel
theorem dX2_eatFirst_3 : decode cX2_eatFirst 3 = .ok (.istore_n 3, 1) := by decide +kernel
theorem dX2_eatFirst_4 : decode cX2_eatFirst 4 = .ok (.iconst 0, 1) := by decide +kernel
theorem dX2_eatFirst_5 : decode cX2_eatFirst 5 = .ok (.istore 4, 2) := by decide +kernel
theorem dX2_eatFirst_7 : decode cX2_eatFirst 7 = .ok (.iload 4, 2) := by decide +kernel
theorem dX2_eatFirst_9 : decode cX2_eatFirst 9 = .ok (.bipush 6, 2) := by decide +kernel
theorem dX2_eatFirst_11 : decode cX2_eatFirst 11 = .ok (.if_icmp .ge 43, 3) := by decide +kernel
theorem dX2_eatFirst_14 : decode cX2_eatFirst 14 = .ok (.iload_n 3, 1) := by decide +kernel
theorem dX2_eatFirst_15 : decode cX2_eatFirst 15 = .ok (.ifCond .le 39, 3) := by decide +kernel
theorem dX2_eatFirst_18 : decode cX2_eatFirst 18 = .ok (.aload_n 0, 1) := by decide +kernel
theorem dX2_eatFirst_19 : decode cX2_eatFirst 19 = .ok (.getfield 44, 3) := by decide +kernel
theorem dX2_eatFirst_22 : decode cX2_eatFirst 22 = .ok (.iload 4, 2) := by decide +kernel
theorem dX2_eatFirst_24 : decode cX2_eatFirst 24 = .ok (.invokestatic 62, 3) := by decide +kernel
theorem dX2_eatFirst_27 : decode cX2_eatFirst 27 = .ok (.ifCond .eq 21, 3) := by decide +kernel
theorem dX2_eatFirst_30 : decode cX2_eatFirst 30 = .ok (.iload_n 2, 1) := by decide +kernel
theorem dX2_eatFirst_31 : decode cX2_eatFirst 31 = .ok (.iconst 1, 1) := by decide +kernel
theorem dX2_eatFirst_32 : decode cX2_eatFirst 32 = .ok (.iload 4, 2) := by decide +kernel
theorem dX2_eatFirst_34 : decode cX2_eatFirst 34 = .ok (.ishl, 1) := by decide +kernel
theorem dX2_eatFirst_35 : decode cX2_eatFirst 35 = .ok (.ior, 1) := by decide +kernel
theorem dX2_eatFirst_36 : decode cX2_eatFirst 36 = .ok (.istore_n 2, 1) := by decide +kernel
theorem dX2_eatFirst_37 : decode cX2_eatFirst 37 = .ok (.aload_n 0, 1) := by decide +kernel
theorem dX2_eatFirst_38 : decode cX2_eatFirst 38 = .ok (.getfield 9, 3) := by decide +kernel
theorem dX2_eatFirst_41 : decode cX2_eatFirst 41 = .ok (.iload 4, 2) := by decide +kernel
theorem dX2_eatFirst_43 : decode cX2_eatFirst 43 = .ok (.iconst (-1), 1) := by decide +kernel
theorem dX2_eatFirst_44 : decode cX2_eatFirst 44 = .ok (.iastore, 1) := by decide +kernel
theorem dX2_eatFirst_45 : decode cX2_eatFirst 45 = .ok (.iinc 3 (-1), 3) := by decide +kernel
theorem dX2_eatFirst_48 : decode cX2_eatFirst 48 = .ok (.iinc 4 1, 3) := by decide +kernel
theorem dX2_eatFirst_51 : decode cX2_eatFirst 51 = .ok (.goto (-44), 3) := by decide +kernel
theorem dX2_eatFirst_54 : decode cX2_eatFirst 54 = .ok (.aload_n 0, 1) := by decide +kernel
theorem dX2_eatFirst_55 : decode cX2_eatFirst 55 = .ok (.dup, 1) := by decide +kernel
theorem dX2_eatFirst_56 : decode cX2_eatFirst 56 = .ok (.getfield 44, 3) := by decide +kernel
theorem dX2_eatFirst_59 : decode cX2_eatFirst 59 = .ok (.iload_n 2, 1) := by decide +kernel
theorem dX2_eatFirst_60 : decode cX2_eatFirst 60 = .ok (.iconst (-1), 1) := by decide +kernel
theorem dX2_eatFirst_61 : decode cX2_eatFirst 61 = .ok (.ixor, 1) := by decide +kernel
theorem dX2_eatFirst_62 : decode cX2_eatFirst 62 = .ok (.iand, 1) := by decide +kernel
theorem dX2_eatFirst_63 : decode cX2_eatFirst 63 = .ok (.putfield 44, 3) := by decide +kernel
theorem dX2_eatFirst_66 : decode cX2_eatFirst 66 = .ok (.aload_n 0, 1) := by decide +kernel
theorem dX2_eatFirst_67 : decode cX2_eatFirst 67 = .ok (.dup, 1) := by decide +kernel
theorem dX2_eatFirst_68 : decode cX2_eatFirst 68 = .ok (.getfield 50, 3) := by decide +kernel
theorem dX2_eatFirst_71 : decode cX2_eatFirst 71 = .ok (.iload_n 2, 1) := by decide +kernel
theorem dX2_eatFirst_72 : decode cX2_eatFirst 72 = .ok (.ior, 1) := by decide +kernel
theorem dX2_eatFirst_73 : decode cX2_eatFirst 73 = .ok (.putfield 50, 3) := by decide +kernel
theorem dX2_eatFirst_76 : decode cX2_eatFirst 76 = .ok (.iload_n 2, 1) := by decide +kernel
theorem dX2_eatFirst_77 : decode cX2_eatFirst 77 = .ok (.ireturn, 1) := by decide +kernel
theorem dX2_leave_0 : decode cX2_leave 0 = .ok (.iconst 0, 1) := by decide +kernel
theorem dX2_leave_1 : decode cX2_leave 1 = .ok (.istore_n 2, 1) := by decide +kernel
theorem dX2_leave_2 : decode cX2_leave 2 = .ok (.iconst 0, 1) := by decide +kernel
theorem dX2_leave_3 : decode cX2_leave 3 = .ok (.istore_n 3, 1) := by decide +kernel
theorem dX2_leave_4 : decode cX2_leave 4 = .ok (.iload_n 3, 1) := by decide +kernel
theorem dX2_leave_5 : decode cX2_leave 5 = .ok (.bipush 6, 2) := by decide +kernel
theorem dX2_leave_7 : decode cX2_leave 7 = .ok (.if_icmp .ge 91, 3) := by decide +kernel
theorem dX2_leave_10 : decode cX2_leave 10 = .ok (.aload_n 0, 1) := by decide +kernel
theorem dX2_leave_11 : decode cX2_leave 11 = .ok (.getfield 9, 3) := by decide +kernel
theorem dX2_leave_14 : decode cX2_leave 14 = .ok (.iload_n 3, 1) := by decide +kernel
theorem dX2_leave_15 : decode cX2_leave 15 = .ok (.iaload, 1) := by decide +kernel
theorem dX2_leave_16 : decode cX2_leave 16 = .ok (.istore 4, 2) := by decide +kernel
theorem dX2_leave_18 : decode cX2_leave 18 = .ok (.iload 4, 2) := by decide +kernel
theorem dX2_leave_20 : decode cX2_leave 20 = .ok (.iconst (-1), 1) := by decide +kernel
theorem dX2_leave_21 : decode cX2_leave 21 = .ok (.if_icmp .ne 6, 3) := by decide +kernel
theorem dX2_leave_24 : decode cX2_leave 24 = .ok (.goto 68, 3) := by decide +kernel
theorem dX2_leave_27 : decode cX2_leave 27 = .ok (.aload_n 0, 1) := by decide +kernel
theorem dX2_leave_28 : decode cX2_leave 28 = .ok (.getfield 9, 3) := by decide +kernel
theorem dX2_leave_31 : decode cX2_leave 31 = .ok (.iload_n 3, 1) := by decide +kernel
theorem dX2_leave_32 : decode cX2_leave 32 = .ok (.iconst (-1), 1) := by decide +kernel
theorem dX2_leave_33 : decode cX2_leave 33 = .ok (.iastore, 1) := by decide +kernel
theorem dX2_leave_34 : decode cX2_leave 34 = .ok (.aload_n 0, 1) := by decide +kernel
theorem dX2_leave_35 : decode cX2_leave 35 = .ok (.dup, 1) := by decide +kernel
theorem dX2_leave_36 : decode cX2_leave 36 = .ok (.getfield 44, 3) := by decide +kernel
theorem dX2_leave_39 : decode cX2_leave 39 = .ok (.iconst 1, 1) := by decide +kernel
theorem dX2_leave_40 : decode cX2_leave 40 = .ok (.iload_n 3, 1) := by decide +kernel
theorem dX2_leave_41 : decode cX2_leave 41 = .ok (.ishl, 1) := by decide +kernel
theorem dX2_leave_42 : decode cX2_leave 42 = .ok (.iconst (-1), 1) := by decide +kernel
theorem dX2_leave_43 : decode cX2_leave 43 = .ok (.ixor, 1) := by decide +kernel
theorem dX2_leave_44 : decode cX2_leave 44 = .ok (.iand, 1) := by decide +kernel
theorem dX2_leave_45 : decode cX2_leave 45 = .ok (.putfield 44, 3) := by decide +kernel
theorem dX2_leave_48 : decode cX2_leave 48 = .ok (.aload_n 1, 1) := by decide +kernel
theorem dX2_leave_49 : decode cX2_leave 49 = .ok (.iload 4, 2) := by decide +kernel
theorem dX2_leave_51 : decode cX2_leave 51 = .ok (.iload_n 3, 1) := by decide +kernel
theorem dX2_leave_52 : decode cX2_leave 52 = .ok (.invokevirtual 69, 3) := by decide +kernel
theorem dX2_leave_55 : decode cX2_leave 55 = .ok (.ifCond .eq 25, 3) := by decide +kernel
theorem dX2_leave_58 : decode cX2_leave 58 = .ok (.iload_n 2, 1) := by decide +kernel
theorem dX2_leave_59 : decode cX2_leave 59 = .ok (.iconst 1, 1) := by decide +kernel
theorem dX2_leave_60 : decode cX2_leave 60 = .ok (.iload_n 3, 1) := by decide +kernel
theorem dX2_leave_61 : decode cX2_leave 61 = .ok (.ishl, 1) := by decide +kernel
theorem dX2_leave_62 : decode cX2_leave 62 = .ok (.ior, 1) := by decide +kernel
theorem dX2_leave_63 : decode cX2_leave 63 = .ok (.istore_n 2, 1) := by decide +kernel
theorem dX2_leave_64 : decode cX2_leave 64 = .ok (.aload_n 0, 1) := by decide +kernel
theorem dX2_leave_65 : decode cX2_leave 65 = .ok (.dup, 1) := by decide +kernel
theorem dX2_leave_66 : decode cX2_leave 66 = .ok (.getfield 53, 3) := by decide +kernel
theorem dX2_leave_69 : decode cX2_leave 69 = .ok (.iconst 1, 1) := by decide +kernel
theorem dX2_leave_70 : decode cX2_leave 70 = .ok (.iload 4, 2) := by decide +kernel
theorem dX2_leave_72 : decode cX2_leave 72 = .ok (.ishl, 1) := by decide +kernel
theorem dX2_leave_73 : decode cX2_leave 73 = .ok (.ior, 1) := by decide +kernel
theorem dX2_leave_74 : decode cX2_leave 74 = .ok (.putfield 53, 3) := by decide +kernel
theorem dX2_leave_77 : decode cX2_leave 77 = .ok (.goto 15, 3) := by decide +kernel
theorem dX2_leave_80 : decode cX2_leave 80 = .ok (.aload_n 0, 1) := by decide +kernel
theorem dX2_leave_81 : decode cX2_leave 81 = .ok (.dup, 1) := by decide +kernel
theorem dX2_leave_82 : decode cX2_leave 82 = .ok (.getfield 50, 3) := by decide +kernel
theorem dX2_leave_85 : decode cX2_leave 85 = .ok (.iconst 1, 1) := by decide +kernel
theorem dX2_leave_86 : decode cX2_leave 86 = .ok (.iload_n 3, 1) := by decide +kernel
theorem dX2_leave_87 : decode cX2_leave 87 = .ok (.ishl, 1) := by decide +kernel
theorem dX2_leave_88 : decode cX2_leave 88 = .ok (.ior, 1) := by decide +kernel
theorem dX2_leave_89 : decode cX2_leave 89 = .ok (.putfield 50, 3) := by decide +kernel
theorem dX2_leave_92 : decode cX2_leave 92 = .ok (.iinc 3 1, 3) := by decide +kernel
theorem dX2_leave_95 : decode cX2_leave 95 = .ok (.goto (-91), 3) := by decide +kernel
theorem dX2_leave_98 : decode cX2_leave 98 = .ok (.aload_n 0, 1) := by decide +kernel
theorem dX2_leave_99 : decode cX2_leave 99 = .ok (.dup, 1) := by decide +kernel
theorem dX2_leave_100 : decode cX2_leave 100 = .ok (.getfield 47, 3) := by decide +kernel
theorem dX2_leave_103 : decode cX2_leave 103 = .ok (.iload_n 2, 1) := by decide +kernel
theorem dX2_leave_104 : decode cX2_leave 104 = .ok (.ior, 1) := by decide +kernel
theorem dX2_leave_105 : decode cX2_leave 105 = .ok (.putfield 47, 3) := by decide +kernel
theorem dX2_leave_108 : decode cX2_leave 108 = .ok (.iload_n 2, 1) := by decide +kernel
theorem dX2_leave_109 : decode cX2_leave 109 = .ok (.ireturn, 1) := by decide +kernel
theorem dX3_init_0 : decode cX3_init 0 = .ok (.aload_n 0, 1) := by decide +kernel
theorem dX3_init_1 : decode cX3_init 1 = .ok (.invokespecial 3, 3) := by decide +kernel
theorem dX3_init_4 : decode cX3_init 4 = .ok (.aload_n 0, 1) := by decide +kernel
theorem dX3_init_5 : decode cX3_init 5 = .ok (.bipush 6, 2) := by decide +kernel
theorem dX3_init_7 : decode cX3_init 7 = .ok (.newarray .int, 2) := by decide +kernel
theorem dX3_init_9 : decode cX3_init 9 = .ok (.putfield 9, 3) := by decide +kernel
theorem dX3_init_12 : decode cX3_init 12 = .ok (.aload_n 0, 1) := by decide +kernel
theorem dX3_init_13 : decode cX3_init 13 = .ok (.bipush 6, 2) := by decide +kernel
theorem dX3_init_15 : decode cX3_init 15 = .ok (.newarray .int, 2) := by decide +kernel
theorem dX3_init_17 : decode cX3_init 17 = .ok (.putfield 15, 3) := by decide +kernel
theorem dX3_init_20 : decode cX3_init 20 = .ok (.aload_n 0, 1) := by decide +kernel
theorem dX3_init_21 : decode cX3_init 21 = .ok (.bipush 6, 2) := by decide +kernel
theorem dX3_init_23 : decode cX3_init 23 = .ok (.newarray .boolean, 2) := by decide +kernel
theorem dX3_init_25 : decode cX3_init 25 = .ok (.putfield 18, 3) := by decide +kernel
theorem dX3_init_28 : decode cX3_init 28 = .ok (.return_, 1) := by decide +kernel
theorem dX3_add_0 : decode cX3_add 0 = .ok (.aload_n 0, 1) := by decide +kernel
theorem dX3_add_1 : decode cX3_add 1 = .ok (.getfield 22, 3) := by decide +kernel
theorem dX3_add_4 : decode cX3_add 4 = .ok (.bipush 6, 2) := by decide +kernel
theorem dX3_add_6 : decode cX3_add 6 = .ok (.if_icmp .lt 5, 3) := by decide +kernel
theorem dX3_add_9 : decode cX3_add 9 = .ok (.iconst 0, 1) := by decide +kernel
theorem dX3_add_10 : decode cX3_add 10 = .ok (.ireturn, 1) := by decide +kernel
theorem dX3_add_11 : decode cX3_add 11 = .ok (.aload_n 0, 1) := by decide +kernel
theorem dX3_add_12 : decode cX3_add 12 = .ok (.getfield 9, 3) := by decide +kernel
theorem dX3_add_15 : decode cX3_add 15 = .ok (.aload_n 0, 1) := by decide +kernel
theorem dX3_add_16 : decode cX3_add 16 = .ok (.getfield 22, 3) := by decide +kernel
theorem dX3_add_19 : decode cX3_add 19 = .ok (.iload_n 1, 1) := by decide +kernel
theorem dX3_add_20 : decode cX3_add 20 = .ok (.iastore, 1) := by decide +kernel
theorem dX3_add_21 : decode cX3_add 21 = .ok (.aload_n 0, 1) := by decide +kernel
theorem dX3_add_22 : decode cX3_add 22 = .ok (.getfield 15, 3) := by decide +kernel
theorem dX3_add_25 : decode cX3_add 25 = .ok (.aload_n 0, 1) := by decide +kernel
theorem dX3_add_26 : decode cX3_add 26 = .ok (.getfield 22, 3) := by decide +kernel
theorem dX3_add_29 : decode cX3_add 29 = .ok (.iload_n 2, 1) := by decide +kernel
theorem dX3_add_30 : decode cX3_add 30 = .ok (.iastore, 1) := by decide +kernel
theorem dX3_add_31 : decode cX3_add 31 = .ok (.aload_n 0, 1) := by decide +kernel
theorem dX3_add_32 : decode cX3_add 32 = .ok (.getfield 18, 3) := by decide +kernel
theorem dX3_add_35 : decode cX3_add 35 = .ok (.aload_n 0, 1) := by decide +kernel
theorem dX3_add_36 : decode cX3_add 36 = .ok (.getfield 22, 3) := by decide +kernel
theorem dX3_add_39 : decode cX3_add 39 = .ok (.iload_n 3, 1) := by decide +kernel
theorem dX3_add_40 : decode cX3_add 40 = .ok (.bastore, 1) := by decide +kernel
theorem dX3_add_41 : decode cX3_add 41 = .ok (.aload_n 0, 1) := by decide +kernel
theorem dX3_add_42 : decode cX3_add 42 = .ok (.dup, 1) := by decide +kernel
theorem dX3_add_43 : decode cX3_add 43 = .ok (.getfield 22, 3) := by decide +kernel
theorem dX3_add_46 : decode cX3_add 46 = .ok (.iconst 1, 1) := by decide +kernel
theorem dX3_add_47 : decode cX3_add 47 = .ok (.iadd, 1) := by decide +kernel
theorem dX3_add_48 : decode cX3_add 48 = .ok (.putfield 22, 3) := by decide +kernel
theorem dX3_add_51 : decode cX3_add 51 = .ok (.iconst 1, 1) := by decide +kernel
theorem dX3_add_52 : decode cX3_add 52 = .ok (.ireturn, 1) := by decide +kernel
theorem dX3_leastStrong_0 : decode cX3_leastStrong 0 = .ok (.iconst 1, 1) := by decide +kernel
theorem dX3_leastStrong_1 : decode cX3_leastStrong 1 = .ok (.istore_n 3, 1) := by decide +kernel
theorem dX3_leastStrong_2 : decode cX3_leastStrong 2 = .ok (.iload_n 3, 1) := by decide +kernel
theorem dX3_leastStrong_3 : decode cX3_leastStrong 3 = .ok (.bipush 20, 2) := by decide +kernel
theorem dX3_leastStrong_5 : decode cX3_leastStrong 5 = .ok (.if_icmp .gt 21, 3) := by decide +kernel
theorem dX3_leastStrong_8 : decode cX3_leastStrong 8 = .ok (.aload_n 0, 1) := by decide +kernel
theorem dX3_leastStrong_9 : decode cX3_leastStrong 9 = .ok (.aload_n 1, 1) := by decide +kernel
theorem dX3_leastStrong_10 : decode cX3_leastStrong 10 = .ok (.iload_n 2, 1) := by decide +kernel
theorem dX3_leastStrong_11 : decode cX3_leastStrong 11 = .ok (.iload_n 3, 1) := by decide +kernel
theorem dX3_leastStrong_12 : decode cX3_leastStrong 12 = .ok (.invokevirtual 26, 3) := by decide +kernel
theorem dX3_leastStrong_15 : decode cX3_leastStrong 15 = .ok (.ifCond .eq 5, 3) := by decide +kernel
theorem dX3_leastStrong_18 : decode cX3_leastStrong 18 = .ok (.iload_n 3, 1) := by decide +kernel
theorem dX3_leastStrong_19 : decode cX3_leastStrong 19 = .ok (.ireturn, 1) := by decide +kernel
theorem dX3_leastStrong_20 : decode cX3_leastStrong 20 = .ok (.iinc 3 1, 3) := by decide +kernel
theorem dX3_leastStrong_23 : decode cX3_leastStrong 23 = .ok (.goto (-21), 3) := by decide +kernel
theorem dX3_leastStrong_26 : decode cX3_leastStrong 26 = .ok (.iconst (-1), 1) := by decide +kernel
theorem dX3_leastStrong_27 : decode cX3_leastStrong 27 = .ok (.ireturn, 1) := by decide +kernel
theorem dX3_greatestStrong_0 : decode cX3_greatestStrong 0 = .ok (.bipush 20, 2) := by decide +kernel
theorem dX3_greatestStrong_2 : decode cX3_greatestStrong 2 = .ok (.istore_n 3, 1) := by decide +kernel
theorem dX3_greatestStrong_3 : decode cX3_greatestStrong 3 = .ok (.iload_n 3, 1) := by decide +kernel
theorem dX3_greatestStrong_4 : decode cX3_greatestStrong 4 = .ok (.iconst 1, 1) := by decide +kernel
theorem dX3_greatestStrong_5 : decode cX3_greatestStrong 5 = .ok (.if_icmp .lt 21, 3) := by decide +kernel
theorem dX3_greatestStrong_8 : decode cX3_greatestStrong 8 = .ok (.aload_n 0, 1) := by decide +kernel
theorem dX3_greatestStrong_9 : decode cX3_greatestStrong 9 = .ok (.aload_n 1, 1) := by decide +kernel
theorem dX3_greatestStrong_10 : decode cX3_greatestStrong 10 = .ok (.iload_n 2, 1) := by decide +kernel
theorem dX3_greatestStrong_11 : decode cX3_greatestStrong 11 = .ok (.iload_n 3, 1) := by decide +kernel
theorem dX3_greatestStrong_12 : decode cX3_greatestStrong 12 = .ok (.invokevirtual 26, 3) := by decide +kernel
theorem dX3_greatestStrong_15 : decode cX3_greatestStrong 15 = .ok (.ifCond .eq 5, 3) := by decide +kernel
theorem dX3_greatestStrong_18 : decode cX3_greatestStrong 18 = .ok (.iload_n 3, 1) := by decide +kernel
theorem dX3_greatestStrong_19 : decode cX3_greatestStrong 19 = .ok (.ireturn, 1) := by decide +kernel
theorem dX3_greatestStrong_20 : decode cX3_greatestStrong 20 = .ok (.iinc 3 (-1), 3) := by decide +kernel
theorem dX3_greatestStrong_23 : decode cX3_greatestStrong 23 = .ok (.goto (-20), 3) := by decide +kernel
theorem dX3_greatestStrong_26 : decode cX3_greatestStrong 26 = .ok (.iconst (-1), 1) := by decide +kernel
theorem dX3_greatestStrong_27 : decode cX3_greatestStrong 27 = .ok (.ireturn, 1) := by decide +kernel
theorem dX3_wouldBeSo_0 : decode cX3_wouldBeSo 0 = .ok (.aload_n 1, 1) := by decide +kernel
theorem dX3_wouldBeSo_1 : decode cX3_wouldBeSo 1 = .ok (.getfield 30, 3) := by decide +kernel
theorem dX3_wouldBeSo_4 : decode cX3_wouldBeSo 4 = .ok (.iload_n 2, 1) := by decide +kernel
theorem dX3_wouldBeSo_5 : decode cX3_wouldBeSo 5 = .ok (.iaload, 1) := by decide +kernel
theorem dX3_wouldBeSo_6 : decode cX3_wouldBeSo 6 = .ok (.iload_n 3, 1) := by decide +kernel
theorem dX3_wouldBeSo_7 : decode cX3_wouldBeSo 7 = .ok (.invokestatic 35, 3) := by decide +kernel
theorem dX3_wouldBeSo_10 : decode cX3_wouldBeSo 10 = .ok (.istore 4, 2) := by decide +kernel
theorem dX3_wouldBeSo_12 : decode cX3_wouldBeSo 12 = .ok (.iconst 0, 1) := by decide +kernel
theorem dX3_wouldBeSo_13 : decode cX3_wouldBeSo 13 = .ok (.istore 5, 2) := by decide +kernel
theorem dX3_wouldBeSo_15 : decode cX3_wouldBeSo 15 = .ok (.iload 5, 2) := by decide +kernel
theorem dX3_wouldBeSo_17 : decode cX3_wouldBeSo 17 = .ok (.aload_n 0, 1) := by decide +kernel
theorem dX3_wouldBeSo_18 : decode cX3_wouldBeSo 18 = .ok (.getfield 22, 3) := by decide +kernel
theorem dX3_wouldBeSo_21 : decode cX3_wouldBeSo 21 = .ok (.if_icmp .ge 54, 3) := by decide +kernel
theorem dX3_wouldBeSo_24 : decode cX3_wouldBeSo 24 = .ok (.aload_n 0, 1) := by decide +kernel
theorem dX3_wouldBeSo_25 : decode cX3_wouldBeSo 25 = .ok (.getfield 15, 3) := by decide +kernel
theorem dX3_wouldBeSo_28 : decode cX3_wouldBeSo 28 = .ok (.iload 5, 2) := by decide +kernel
theorem dX3_wouldBeSo_30 : decode cX3_wouldBeSo 30 = .ok (.iaload, 1) := by decide +kernel
theorem dX3_wouldBeSo_31 : decode cX3_wouldBeSo 31 = .ok (.iload_n 2, 1) := by decide +kernel
theorem dX3_wouldBeSo_32 : decode cX3_wouldBeSo 32 = .ok (.if_icmp .ne 37, 3) := by decide +kernel
theorem dX3_wouldBeSo_35 : decode cX3_wouldBeSo 35 = .ok (.iload 4, 2) := by decide +kernel
theorem dX3_wouldBeSo_37 : decode cX3_wouldBeSo 37 = .ok (.aload_n 1, 1) := by decide +kernel
theorem dX3_wouldBeSo_38 : decode cX3_wouldBeSo 38 = .ok (.getfield 39, 3) := by decide +kernel
theorem dX3_wouldBeSo_41 : decode cX3_wouldBeSo 41 = .ok (.aload_n 0, 1) := by decide +kernel
theorem dX3_wouldBeSo_42 : decode cX3_wouldBeSo 42 = .ok (.getfield 9, 3) := by decide +kernel
theorem dX3_wouldBeSo_45 : decode cX3_wouldBeSo 45 = .ok (.iload 5, 2) := by decide +kernel
theorem dX3_wouldBeSo_47 : decode cX3_wouldBeSo 47 = .ok (.iaload, 1) := by decide +kernel
theorem dX3_wouldBeSo_48 : decode cX3_wouldBeSo 48 = .ok (.iaload, 1) := by decide +kernel
theorem dX3_wouldBeSo_49 : decode cX3_wouldBeSo 49 = .ok (.if_icmp .lt 7, 3) := by decide +kernel
theorem dX3_wouldBeSo_52 : decode cX3_wouldBeSo 52 = .ok (.iconst 1, 1) := by decide +kernel
theorem dX3_wouldBeSo_53 : decode cX3_wouldBeSo 53 = .ok (.goto 4, 3) := by decide +kernel
theorem dX3_wouldBeSo_56 : decode cX3_wouldBeSo 56 = .ok (.iconst 0, 1) := by decide +kernel
theorem dX3_wouldBeSo_57 : decode cX3_wouldBeSo 57 = .ok (.aload_n 0, 1) := by decide +kernel
theorem dX3_wouldBeSo_58 : decode cX3_wouldBeSo 58 = .ok (.getfield 18, 3) := by decide +kernel
theorem dX3_wouldBeSo_61 : decode cX3_wouldBeSo 61 = .ok (.iload 5, 2) := by decide +kernel
theorem dX3_wouldBeSo_63 : decode cX3_wouldBeSo 63 = .ok (.baload, 1) := by decide +kernel
theorem dX3_wouldBeSo_64 : decode cX3_wouldBeSo 64 = .ok (.if_icmp .eq 5, 3) := by decide +kernel
theorem dX3_wouldBeSo_67 : decode cX3_wouldBeSo 67 = .ok (.iconst 0, 1) := by decide +kernel
theorem dX3_wouldBeSo_68 : decode cX3_wouldBeSo 68 = .ok (.ireturn, 1) := by decide +kernel
theorem dX3_wouldBeSo_69 : decode cX3_wouldBeSo 69 = .ok (.iinc 5 1, 3) := by decide +kernel
theorem dX3_wouldBeSo_72 : decode cX3_wouldBeSo 72 = .ok (.goto (-57), 3) := by decide +kernel
theorem dX3_wouldBeSo_75 : decode cX3_wouldBeSo 75 = .ok (.iconst 1, 1) := by decide +kernel
theorem dX3_wouldBeSo_76 : decode cX3_wouldBeSo 76 = .ok (.ireturn, 1) := by decide +kernel
theorem dX4_init_0 : decode cX4_init 0 = .ok (.aload_n 0, 1) := by decide +kernel
theorem dX4_init_1 : decode cX4_init 1 = .ok (.invokespecial 3, 3) := by decide +kernel
theorem dX4_init_4 : decode cX4_init 4 = .ok (.aload_n 0, 1) := by decide +kernel
theorem dX4_init_5 : decode cX4_init 5 = .ok (.sipush 160, 3) := by decide +kernel
theorem dX4_init_8 : decode cX4_init 8 = .ok (.newarray .char, 2) := by decide +kernel
theorem dX4_init_10 : decode cX4_init 10 = .ok (.putfield 9, 3) := by decide +kernel
theorem dX4_init_13 : decode cX4_init 13 = .ok (.return_, 1) := by decide +kernel
theorem dX4_add_0 : decode cX4_add 0 = .ok (.aload_n 0, 1) := by decide +kernel
theorem dX4_add_1 : decode cX4_add 1 = .ok (.getfield 15, 3) := by decide +kernel
theorem dX4_add_4 : decode cX4_add 4 = .ok (.sipush 160, 3) := by decide +kernel
theorem dX4_add_7 : decode cX4_add 7 = .ok (.if_icmp .lt 5, 3) := by decide +kernel
theorem dX4_add_10 : decode cX4_add 10 = .ok (.iconst 0, 1) := by decide +kernel
theorem dX4_add_11 : decode cX4_add 11 = .ok (.ireturn, 1) := by decide +kernel
theorem dX4_add_12 : decode cX4_add 12 = .ok (.aload_n 0, 1) := by decide +kernel
theorem dX4_add_13 : decode cX4_add 13 = .ok (.getfield 9, 3) := by decide +kernel
theorem dX4_add_16 : decode cX4_add 16 = .ok (.aload_n 0, 1) := by decide +kernel
theorem dX4_add_17 : decode cX4_add 17 = .ok (.dup, 1) := by decide +kernel
theorem dX4_add_18 : decode cX4_add 18 = .ok (.getfield 15, 3) := by decide +kernel
theorem dX4_add_21 : decode cX4_add 21 = .ok (.dup_x1, 1) := by decide +kernel
theorem dX4_add_22 : decode cX4_add 22 = .ok (.iconst 1, 1) := by decide +kernel
theorem dX4_add_23 : decode cX4_add 23 = .ok (.iadd, 1) := by decide +kernel
theorem dX4_add_24 : decode cX4_add 24 = .ok (.putfield 15, 3) := by decide +kernel
theorem dX4_add_27 : decode cX4_add 27 = .ok (.iload_n 1, 1) := by decide +kernel
theorem dX4_add_28 : decode cX4_add 28 = .ok (.castore, 1) := by decide +kernel
theorem dX4_add_29 : decode cX4_add 29 = .ok (.iconst 1, 1) := by decide +kernel
theorem dX4_add_30 : decode cX4_add 30 = .ok (.ireturn, 1) := by decide +kernel
theorem dX4_read_0 : decode cX4_read 0 = .ok (.aload_n 0, 1) := by decide +kernel
theorem dX4_read_1 : decode cX4_read 1 = .ok (.iconst 0, 1) := by decide +kernel
theorem dX4_read_2 : decode cX4_read 2 = .ok (.putfield 19, 3) := by decide +kernel
theorem dX4_read_5 : decode cX4_read 5 = .ok (.iconst 0, 1) := by decide +kernel
theorem dX4_read_6 : decode cX4_read 6 = .ok (.istore_n 2, 1) := by decide +kernel
theorem dX4_read_7 : decode cX4_read 7 = .ok (.iload_n 2, 1) := by decide +kernel
theorem dX4_read_8 : decode cX4_read 8 = .ok (.bipush 14, 2) := by decide +kernel
theorem dX4_read_10 : decode cX4_read 10 = .ok (.if_icmp .ge 65, 3) := by decide +kernel
theorem dX4_read_13 : decode cX4_read 13 = .ok (.aload_n 0, 1) := by decide +kernel
theorem dX4_read_14 : decode cX4_read 14 = .ok (.aload_n 1, 1) := by decide +kernel
theorem dX4_read_15 : decode cX4_read 15 = .ok (.invokevirtual 22, 3) := by decide +kernel
theorem dX4_read_18 : decode cX4_read 18 = .ok (.ifCond .ne 8, 3) := by decide +kernel
theorem dX4_read_21 : decode cX4_read 21 = .ok (.aload_n 0, 1) := by decide +kernel
theorem dX4_read_22 : decode cX4_read 22 = .ok (.getfield 26, 3) := by decide +kernel
theorem dX4_read_25 : decode cX4_read 25 = .ok (.ireturn, 1) := by decide +kernel
theorem dX4_read_26 : decode cX4_read 26 = .ok (.aload_n 0, 1) := by decide +kernel
theorem dX4_read_27 : decode cX4_read 27 = .ok (.invokevirtual 29, 3) := by decide +kernel
theorem dX4_read_30 : decode cX4_read 30 = .ok (.aload_n 0, 1) := by decide +kernel
theorem dX4_read_31 : decode cX4_read 31 = .ok (.getfield 26, 3) := by decide +kernel
theorem dX4_read_34 : decode cX4_read 34 = .ok (.aload_n 0, 1) := by decide +kernel
theorem dX4_read_35 : decode cX4_read 35 = .ok (.getfield 15, 3) := by decide +kernel
theorem dX4_read_38 : decode cX4_read 38 = .ok (.if_icmp .lt 12, 3) := by decide +kernel
theorem dX4_read_41 : decode cX4_read 41 = .ok (.aload_n 0, 1) := by decide +kernel
theorem dX4_read_42 : decode cX4_read 42 = .ok (.iload_n 2, 1) := by decide +kernel
theorem dX4_read_43 : decode cX4_read 43 = .ok (.iconst 1, 1) := by decide +kernel
theorem dX4_read_44 : decode cX4_read 44 = .ok (.iadd, 1) := by decide +kernel
theorem dX4_read_45 : decode cX4_read 45 = .ok (.putfield 32, 3) := by decide +kernel
theorem dX4_read_48 : decode cX4_read 48 = .ok (.iconst (-1), 1) := by decide +kernel
theorem dX4_read_49 : decode cX4_read 49 = .ok (.ireturn, 1) := by decide +kernel
theorem dX4_read_50 : decode cX4_read 50 = .ok (.aload_n 0, 1) := by decide +kernel
theorem dX4_read_51 : decode cX4_read 51 = .ok (.getfield 9, 3) := by decide +kernel
theorem dX4_read_54 : decode cX4_read 54 = .ok (.aload_n 0, 1) := by decide +kernel
theorem dX4_read_55 : decode cX4_read 55 = .ok (.getfield 26, 3) := by decide +kernel
theorem dX4_read_58 : decode cX4_read 58 = .ok (.caload, 1) := by decide +kernel
theorem dX4_read_59 : decode cX4_read 59 = .ok (.bipush 59, 2) := by decide +kernel
theorem dX4_read_61 : decode cX4_read 61 = .ok (.if_icmp .eq 8, 3) := by decide +kernel
theorem dX4_read_64 : decode cX4_read 64 = .ok (.aload_n 0, 1) := by decide +kernel
theorem dX4_read_65 : decode cX4_read 65 = .ok (.getfield 26, 3) := by decide +kernel
theorem dX4_read_68 : decode cX4_read 68 = .ok (.ireturn, 1) := by decide +kernel
theorem dX4_read_69 : decode cX4_read 69 = .ok (.iinc 2 1, 3) := by decide +kernel
theorem dX4_read_72 : decode cX4_read 72 = .ok (.goto (-65), 3) := by decide +kernel
theorem dX4_read_75 : decode cX4_read 75 = .ok (.aload_n 0, 1) := by decide +kernel
theorem dX4_read_76 : decode cX4_read 76 = .ok (.getfield 26, 3) := by decide +kernel
theorem dX4_read_79 : decode cX4_read 79 = .ok (.ireturn, 1) := by decide +kernel
theorem dX4_readClause_0 : decode cX4_readClause 0 = .ok (.aload_n 0, 1) := by decide +kernel
theorem dX4_readClause_1 : decode cX4_readClause 1 = .ok (.invokevirtual 29, 3) := by decide +kernel
theorem dX4_readClause_4 : decode cX4_readClause 4 = .ok (.aload_n 0, 1) := by decide +kernel
theorem dX4_readClause_5 : decode cX4_readClause 5 = .ok (.invokevirtual 35, 3) := by decide +kernel
theorem dX4_readClause_8 : decode cX4_readClause 8 = .ok (.istore_n 2, 1) := by decide +kernel
theorem dX4_readClause_9 : decode cX4_readClause 9 = .ok (.iload_n 2, 1) := by decide +kernel
theorem dX4_readClause_10 : decode cX4_readClause 10 = .ok (.iconst (-1), 1) := by decide +kernel
theorem dX4_readClause_11 : decode cX4_readClause 11 = .ok (.if_icmp .eq 11, 3) := by decide +kernel
theorem dX4_readClause_14 : decode cX4_readClause 14 = .ok (.aload_n 1, 1) := by decide +kernel
theorem dX4_readClause_15 : decode cX4_readClause 15 = .ok (.iload_n 2, 1) := by decide +kernel
theorem dX4_readClause_16 : decode cX4_readClause 16 = .ok (.invokevirtual 39, 3) := by decide +kernel
theorem dX4_readClause_19 : decode cX4_readClause 19 = .ok (.ifCond .ne 5, 3) := by decide +kernel
theorem dX4_readClause_22 : decode cX4_readClause 22 = .ok (.iconst 0, 1) := by decide +kernel
theorem dX4_readClause_23 : decode cX4_readClause 23 = .ok (.ireturn, 1) := by decide +kernel
theorem dX4_readClause_24 : decode cX4_readClause 24 = .ok (.iconst 0, 1) := by decide +kernel
theorem dX4_readClause_25 : decode cX4_readClause 25 = .ok (.istore_n 3, 1) := by decide +kernel
theorem dX4_readClause_26 : decode cX4_readClause 26 = .ok (.iload_n 2, 1) := by decide +kernel
theorem dX4_readClause_27 : decode cX4_readClause 27 = .ok (.ifCond .eq 36, 3) := by decide +kernel
theorem dX4_readClause_30 : decode cX4_readClause 30 = .ok (.aload_n 0, 1) := by decide +kernel
theorem dX4_readClause_31 : decode cX4_readClause 31 = .ok (.invokevirtual 29, 3) := by decide +kernel
theorem dX4_readClause_34 : decode cX4_readClause 34 = .ok (.aload_n 0, 1) := by decide +kernel
theorem dX4_readClause_35 : decode cX4_readClause 35 = .ok (.invokevirtual 45, 3) := by decide +kernel
theorem dX4_readClause_38 : decode cX4_readClause 38 = .ok (.istore_n 3, 1) := by decide +kernel
theorem dX4_readClause_39 : decode cX4_readClause 39 = .ok (.iload_n 3, 1) := by decide +kernel
theorem dX4_readClause_40 : decode cX4_readClause 40 = .ok (.iconst (-1), 1) := by decide +kernel
theorem dX4_readClause_41 : decode cX4_readClause 41 = .ok (.if_icmp .eq 20, 3) := by decide +kernel
theorem dX4_readClause_44 : decode cX4_readClause 44 = .ok (.iload_n 3, 1) := by decide +kernel
theorem dX4_readClause_45 : decode cX4_readClause 45 = .ok (.getstatic 48, 3) := by decide +kernel
theorem dX4_readClause_48 : decode cX4_readClause 48 = .ok (.iload_n 2, 1) := by decide +kernel
theorem dX4_readClause_49 : decode cX4_readClause 49 = .ok (.iaload, 1) := by decide +kernel
theorem dX4_readClause_50 : decode cX4_readClause 50 = .ok (.getstatic 52, 3) := by decide +kernel
theorem dX4_readClause_53 : decode cX4_readClause 53 = .ok (.iload_n 2, 1) := by decide +kernel
theorem dX4_readClause_54 : decode cX4_readClause 54 = .ok (.iaload, 1) := by decide +kernel
theorem dX4_readClause_55 : decode cX4_readClause 55 = .ok (.invokestatic 55, 3) := by decide +kernel
theorem dX4_readClause_58 : decode cX4_readClause 58 = .ok (.ifCond .eq 5, 3) := by decide +kernel
theorem dX4_readClause_61 : decode cX4_readClause 61 = .ok (.iconst 0, 1) := by decide +kernel
theorem dX4_readClause_62 : decode cX4_readClause 62 = .ok (.ireturn, 1) := by decide +kernel
theorem dX4_readClause_63 : decode cX4_readClause 63 = .ok (.aload_n 1, 1) := by decide +kernel
theorem dX4_readClause_64 : decode cX4_readClause 64 = .ok (.iload_n 2, 1) := by decide +kernel
theorem dX4_readClause_65 : decode cX4_readClause 65 = .ok (.iload_n 3, 1) := by decide +kernel
theorem dX4_readClause_66 : decode cX4_readClause 66 = .ok (.invokevirtual 59, 3) := by decide +kernel
theorem dX4_readClause_69 : decode cX4_readClause 69 = .ok (.iconst 1, 1) := by decide +kernel
theorem dX4_readClause_70 : decode cX4_readClause 70 = .ok (.ireturn, 1) := by decide +kernel
theorem dX4_nextToken_0 : decode cX4_nextToken 0 = .ok (.aload_n 0, 1) := by decide +kernel
theorem dX4_nextToken_1 : decode cX4_nextToken 1 = .ok (.aload_n 0, 1) := by decide +kernel
theorem dX4_nextToken_2 : decode cX4_nextToken 2 = .ok (.getfield 19, 3) := by decide +kernel
theorem dX4_nextToken_5 : decode cX4_nextToken 5 = .ok (.putfield 26, 3) := by decide +kernel
theorem dX4_nextToken_8 : decode cX4_nextToken 8 = .ok (.aload_n 0, 1) := by decide +kernel
theorem dX4_nextToken_9 : decode cX4_nextToken 9 = .ok (.getfield 26, 3) := by decide +kernel
theorem dX4_nextToken_12 : decode cX4_nextToken 12 = .ok (.aload_n 0, 1) := by decide +kernel
theorem dX4_nextToken_13 : decode cX4_nextToken 13 = .ok (.getfield 15, 3) := by decide +kernel
theorem dX4_nextToken_16 : decode cX4_nextToken 16 = .ok (.if_icmp .ge 30, 3) := by decide +kernel
theorem dX4_nextToken_19 : decode cX4_nextToken 19 = .ok (.aload_n 0, 1) := by decide +kernel
theorem dX4_nextToken_20 : decode cX4_nextToken 20 = .ok (.getfield 9, 3) := by decide +kernel
theorem dX4_nextToken_23 : decode cX4_nextToken 23 = .ok (.aload_n 0, 1) := by decide +kernel
theorem dX4_nextToken_24 : decode cX4_nextToken 24 = .ok (.getfield 26, 3) := by decide +kernel
theorem dX4_nextToken_27 : decode cX4_nextToken 27 = .ok (.caload, 1) := by decide +kernel
theorem dX4_nextToken_28 : decode cX4_nextToken 28 = .ok (.bipush 32, 2) := by decide +kernel
theorem dX4_nextToken_30 : decode cX4_nextToken 30 = .ok (.if_icmp .ne 16, 3) := by decide +kernel
theorem dX4_nextToken_33 : decode cX4_nextToken 33 = .ok (.aload_n 0, 1) := by decide +kernel
theorem dX4_nextToken_34 : decode cX4_nextToken 34 = .ok (.dup, 1) := by decide +kernel
theorem dX4_nextToken_35 : decode cX4_nextToken 35 = .ok (.getfield 26, 3) := by decide +kernel
theorem dX4_nextToken_38 : decode cX4_nextToken 38 = .ok (.iconst 1, 1) := by decide +kernel
theorem dX4_nextToken_39 : decode cX4_nextToken 39 = .ok (.iadd, 1) := by decide +kernel
theorem dX4_nextToken_40 : decode cX4_nextToken 40 = .ok (.putfield 26, 3) := by decide +kernel
theorem dX4_nextToken_43 : decode cX4_nextToken 43 = .ok (.goto (-35), 3) := by decide +kernel
theorem dX4_nextToken_46 : decode cX4_nextToken 46 = .ok (.aload_n 0, 1) := by decide +kernel
theorem dX4_nextToken_47 : decode cX4_nextToken 47 = .ok (.aload_n 0, 1) := by decide +kernel
theorem dX4_nextToken_48 : decode cX4_nextToken 48 = .ok (.getfield 26, 3) := by decide +kernel
theorem dX4_nextToken_51 : decode cX4_nextToken 51 = .ok (.putfield 19, 3) := by decide +kernel
theorem dX4_nextToken_54 : decode cX4_nextToken 54 = .ok (.aload_n 0, 1) := by decide +kernel
theorem dX4_nextToken_55 : decode cX4_nextToken 55 = .ok (.getfield 26, 3) := by decide +kernel
theorem dX4_nextToken_58 : decode cX4_nextToken 58 = .ok (.aload_n 0, 1) := by decide +kernel
theorem dX4_nextToken_59 : decode cX4_nextToken 59 = .ok (.getfield 15, 3) := by decide +kernel
theorem dX4_nextToken_62 : decode cX4_nextToken 62 = .ok (.if_icmp .lt 4, 3) := by decide +kernel
theorem dX4_nextToken_65 : decode cX4_nextToken 65 = .ok (.return_, 1) := by decide +kernel
theorem dX4_nextToken_66 : decode cX4_nextToken 66 = .ok (.aload_n 0, 1) := by decide +kernel
theorem dX4_nextToken_67 : decode cX4_nextToken 67 = .ok (.dup, 1) := by decide +kernel
theorem dX4_nextToken_68 : decode cX4_nextToken 68 = .ok (.getfield 19, 3) := by decide +kernel
theorem dX4_nextToken_71 : decode cX4_nextToken 71 = .ok (.iconst 1, 1) := by decide +kernel
theorem dX4_nextToken_72 : decode cX4_nextToken 72 = .ok (.iadd, 1) := by decide +kernel
theorem dX4_nextToken_73 : decode cX4_nextToken 73 = .ok (.putfield 19, 3) := by decide +kernel
theorem dX4_nextToken_76 : decode cX4_nextToken 76 = .ok (.aload_n 0, 1) := by decide +kernel
theorem dX4_nextToken_77 : decode cX4_nextToken 77 = .ok (.getfield 9, 3) := by decide +kernel
theorem dX4_nextToken_80 : decode cX4_nextToken 80 = .ok (.aload_n 0, 1) := by decide +kernel
theorem dX4_nextToken_81 : decode cX4_nextToken 81 = .ok (.getfield 26, 3) := by decide +kernel
theorem dX4_nextToken_84 : decode cX4_nextToken 84 = .ok (.caload, 1) := by decide +kernel
theorem dX4_nextToken_85 : decode cX4_nextToken 85 = .ok (.invokestatic 63, 3) := by decide +kernel
theorem dX4_nextToken_88 : decode cX4_nextToken 88 = .ok (.istore_n 1, 1) := by decide +kernel
theorem dX4_nextToken_89 : decode cX4_nextToken 89 = .ok (.aload_n 0, 1) := by decide +kernel
theorem dX4_nextToken_90 : decode cX4_nextToken 90 = .ok (.getfield 9, 3) := by decide +kernel
theorem dX4_nextToken_93 : decode cX4_nextToken 93 = .ok (.aload_n 0, 1) := by decide +kernel
theorem dX4_nextToken_94 : decode cX4_nextToken 94 = .ok (.getfield 26, 3) := by decide +kernel
theorem dX4_nextToken_97 : decode cX4_nextToken 97 = .ok (.caload, 1) := by decide +kernel
theorem dX4_nextToken_98 : decode cX4_nextToken 98 = .ok (.invokestatic 67, 3) := by decide +kernel
theorem dX4_nextToken_101 : decode cX4_nextToken 101 = .ok (.istore_n 2, 1) := by decide +kernel
theorem dX4_nextToken_102 : decode cX4_nextToken 102 = .ok (.aload_n 0, 1) := by decide +kernel
theorem dX4_nextToken_103 : decode cX4_nextToken 103 = .ok (.getfield 19, 3) := by decide +kernel
theorem dX4_nextToken_106 : decode cX4_nextToken 106 = .ok (.aload_n 0, 1) := by decide +kernel
theorem dX4_nextToken_107 : decode cX4_nextToken 107 = .ok (.getfield 15, 3) := by decide +kernel
theorem dX4_nextToken_110 : decode cX4_nextToken 110 = .ok (.if_icmp .ge 54, 3) := by decide +kernel
theorem dX4_nextToken_113 : decode cX4_nextToken 113 = .ok (.iload_n 1, 1) := by decide +kernel
theorem dX4_nextToken_114 : decode cX4_nextToken 114 = .ok (.ifCond .eq 18, 3) := by decide +kernel
theorem dX4_nextToken_117 : decode cX4_nextToken 117 = .ok (.aload_n 0, 1) := by decide +kernel
theorem dX4_nextToken_118 : decode cX4_nextToken 118 = .ok (.getfield 9, 3) := by decide +kernel
theorem dX4_nextToken_121 : decode cX4_nextToken 121 = .ok (.aload_n 0, 1) := by decide +kernel
theorem dX4_nextToken_122 : decode cX4_nextToken 122 = .ok (.getfield 19, 3) := by decide +kernel
theorem dX4_nextToken_125 : decode cX4_nextToken 125 = .ok (.caload, 1) := by decide +kernel
theorem dX4_nextToken_126 : decode cX4_nextToken 126 = .ok (.invokestatic 63, 3) := by decide +kernel
theorem dX4_nextToken_129 : decode cX4_nextToken 129 = .ok (.ifCond .ne 22, 3) := by decide +kernel
theorem dX4_nextToken_132 : decode cX4_nextToken 132 = .ok (.iload_n 2, 1) := by decide +kernel
theorem dX4_nextToken_133 : decode cX4_nextToken 133 = .ok (.ifCond .eq 31, 3) := by decide +kernel
theorem dX4_nextToken_136 : decode cX4_nextToken 136 = .ok (.aload_n 0, 1) := by decide +kernel
theorem dX4_nextToken_137 : decode cX4_nextToken 137 = .ok (.getfield 9, 3) := by decide +kernel
theorem dX4_nextToken_140 : decode cX4_nextToken 140 = .ok (.aload_n 0, 1) := by decide +kernel
theorem dX4_nextToken_141 : decode cX4_nextToken 141 = .ok (.getfield 19, 3) := by decide +kernel
theorem dX4_nextToken_144 : decode cX4_nextToken 144 = .ok (.caload, 1) := by decide +kernel
theorem dX4_nextToken_145 : decode cX4_nextToken 145 = .ok (.invokestatic 67, 3) := by decide +kernel
theorem dX4_nextToken_148 : decode cX4_nextToken 148 = .ok (.ifCond .eq 16, 3) := by decide +kernel
theorem dX4_nextToken_151 : decode cX4_nextToken 151 = .ok (.aload_n 0, 1) := by decide +kernel
theorem dX4_nextToken_152 : decode cX4_nextToken 152 = .ok (.dup, 1) := by decide +kernel
theorem dX4_nextToken_153 : decode cX4_nextToken 153 = .ok (.getfield 19, 3) := by decide +kernel
theorem dX4_nextToken_156 : decode cX4_nextToken 156 = .ok (.iconst 1, 1) := by decide +kernel
theorem dX4_nextToken_157 : decode cX4_nextToken 157 = .ok (.iadd, 1) := by decide +kernel
theorem dX4_nextToken_158 : decode cX4_nextToken 158 = .ok (.putfield 19, 3) := by decide +kernel
theorem dX4_nextToken_161 : decode cX4_nextToken 161 = .ok (.goto (-59), 3) := by decide +kernel
theorem dX4_nextToken_164 : decode cX4_nextToken 164 = .ok (.return_, 1) := by decide +kernel
theorem dX4_wordHere_0 : decode cX4_wordHere 0 = .ok (.iconst 0, 1) := by decide +kernel
theorem dX4_wordHere_1 : decode cX4_wordHere 1 = .ok (.istore_n 1, 1) := by decide +kernel
theorem dX4_wordHere_2 : decode cX4_wordHere 2 = .ok (.iload_n 1, 1) := by decide +kernel
theorem dX4_wordHere_3 : decode cX4_wordHere 3 = .ok (.bipush 11, 2) := by decide +kernel
theorem dX4_wordHere_5 : decode cX4_wordHere 5 = .ok (.if_icmp .ge 22, 3) := by decide +kernel
theorem dX4_wordHere_8 : decode cX4_wordHere 8 = .ok (.aload_n 0, 1) := by decide +kernel
theorem dX4_wordHere_9 : decode cX4_wordHere 9 = .ok (.iload_n 1, 1) := by decide +kernel
theorem dX4_wordHere_10 : decode cX4_wordHere 10 = .ok (.invokestatic 70, 3) := by decide +kernel
theorem dX4_wordHere_13 : decode cX4_wordHere 13 = .ok (.invokevirtual 74, 3) := by decide +kernel
theorem dX4_wordHere_16 : decode cX4_wordHere 16 = .ok (.ifCond .eq 5, 3) := by decide +kernel
theorem dX4_wordHere_19 : decode cX4_wordHere 19 = .ok (.iload_n 1, 1) := by decide +kernel
theorem dX4_wordHere_20 : decode cX4_wordHere 20 = .ok (.ireturn, 1) := by decide +kernel
theorem dX4_wordHere_21 : decode cX4_wordHere 21 = .ok (.iinc 1 1, 3) := by decide +kernel
theorem dX4_wordHere_24 : decode cX4_wordHere 24 = .ok (.goto (-22), 3) := by decide +kernel
theorem dX4_wordHere_27 : decode cX4_wordHere 27 = .ok (.iconst (-1), 1) := by decide +kernel
theorem dX4_wordHere_28 : decode cX4_wordHere 28 = .ok (.ireturn, 1) := by decide +kernel
theorem dX4_tokenIs_0 : decode cX4_tokenIs 0 = .ok (.aload_n 0, 1) := by decide +kernel
theorem dX4_tokenIs_1 : decode cX4_tokenIs 1 = .ok (.getfield 19, 3) := by decide +kernel
theorem dX4_tokenIs_4 : decode cX4_tokenIs 4 = .ok (.aload_n 0, 1) := by decide +kernel
theorem dX4_tokenIs_5 : decode cX4_tokenIs 5 = .ok (.getfield 26, 3) := by decide +kernel
theorem dX4_tokenIs_8 : decode cX4_tokenIs 8 = .ok (.isub, 1) := by decide +kernel
theorem dX4_tokenIs_9 : decode cX4_tokenIs 9 = .ok (.aload_n 1, 1) := by decide +kernel
theorem dX4_tokenIs_10 : decode cX4_tokenIs 10 = .ok (.invokevirtual 78, 3) := by decide +kernel
theorem dX4_tokenIs_13 : decode cX4_tokenIs 13 = .ok (.if_icmp .eq 5, 3) := by decide +kernel
theorem dX4_tokenIs_16 : decode cX4_tokenIs 16 = .ok (.iconst 0, 1) := by decide +kernel
theorem dX4_tokenIs_17 : decode cX4_tokenIs 17 = .ok (.ireturn, 1) := by decide +kernel
theorem dX4_tokenIs_18 : decode cX4_tokenIs 18 = .ok (.iconst 0, 1) := by decide +kernel
theorem dX4_tokenIs_19 : decode cX4_tokenIs 19 = .ok (.istore_n 2, 1) := by decide +kernel
theorem dX4_tokenIs_20 : decode cX4_tokenIs 20 = .ok (.iload_n 2, 1) := by decide +kernel
theorem dX4_tokenIs_21 : decode cX4_tokenIs 21 = .ok (.aload_n 1, 1) := by decide +kernel
theorem dX4_tokenIs_22 : decode cX4_tokenIs 22 = .ok (.invokevirtual 78, 3) := by decide +kernel
theorem dX4_tokenIs_25 : decode cX4_tokenIs 25 = .ok (.if_icmp .ge 30, 3) := by decide +kernel
theorem dX4_tokenIs_28 : decode cX4_tokenIs 28 = .ok (.aload_n 0, 1) := by decide +kernel
theorem dX4_tokenIs_29 : decode cX4_tokenIs 29 = .ok (.getfield 9, 3) := by decide +kernel
theorem dX4_tokenIs_32 : decode cX4_tokenIs 32 = .ok (.aload_n 0, 1) := by decide +kernel
theorem dX4_tokenIs_33 : decode cX4_tokenIs 33 = .ok (.getfield 26, 3) := by decide +kernel
theorem dX4_tokenIs_36 : decode cX4_tokenIs 36 = .ok (.iload_n 2, 1) := by decide +kernel
theorem dX4_tokenIs_37 : decode cX4_tokenIs 37 = .ok (.iadd, 1) := by decide +kernel
theorem dX4_tokenIs_38 : decode cX4_tokenIs 38 = .ok (.caload, 1) := by decide +kernel
theorem dX4_tokenIs_39 : decode cX4_tokenIs 39 = .ok (.aload_n 1, 1) := by decide +kernel
theorem dX4_tokenIs_40 : decode cX4_tokenIs 40 = .ok (.iload_n 2, 1) := by decide +kernel
theorem dX4_tokenIs_41 : decode cX4_tokenIs 41 = .ok (.invokevirtual 82, 3) := by decide +kernel
theorem dX4_tokenIs_44 : decode cX4_tokenIs 44 = .ok (.if_icmp .eq 5, 3) := by decide +kernel
theorem dX4_tokenIs_47 : decode cX4_tokenIs 47 = .ok (.iconst 0, 1) := by decide +kernel
theorem dX4_tokenIs_48 : decode cX4_tokenIs 48 = .ok (.ireturn, 1) := by decide +kernel
theorem dX4_tokenIs_49 : decode cX4_tokenIs 49 = .ok (.iinc 2 1, 3) := by decide +kernel
theorem dX4_tokenIs_52 : decode cX4_tokenIs 52 = .ok (.goto (-32), 3) := by decide +kernel
theorem dX4_tokenIs_55 : decode cX4_tokenIs 55 = .ok (.iconst 1, 1) := by decide +kernel
theorem dX4_tokenIs_56 : decode cX4_tokenIs 56 = .ok (.ireturn, 1) := by decide +kernel
theorem dX4_numberHere_0 : decode cX4_numberHere 0 = .ok (.aload_n 0, 1) := by decide +kernel
theorem dX4_numberHere_1 : decode cX4_numberHere 1 = .ok (.getfield 26, 3) := by decide +kernel
theorem dX4_numberHere_4 : decode cX4_numberHere 4 = .ok (.aload_n 0, 1) := by decide +kernel
theorem dX4_numberHere_5 : decode cX4_numberHere 5 = .ok (.getfield 15, 3) := by decide +kernel
theorem dX4_numberHere_8 : decode cX4_numberHere 8 = .ok (.if_icmp .ge 31, 3) := by decide +kernel
theorem dX4_numberHere_11 : decode cX4_numberHere 11 = .ok (.aload_n 0, 1) := by decide +kernel
theorem dX4_numberHere_12 : decode cX4_numberHere 12 = .ok (.getfield 19, 3) := by decide +kernel
theorem dX4_numberHere_15 : decode cX4_numberHere 15 = .ok (.aload_n 0, 1) := by decide +kernel
theorem dX4_numberHere_16 : decode cX4_numberHere 16 = .ok (.getfield 26, 3) := by decide +kernel
theorem dX4_numberHere_19 : decode cX4_numberHere 19 = .ok (.isub, 1) := by decide +kernel
theorem dX4_numberHere_20 : decode cX4_numberHere 20 = .ok (.iconst 3, 1) := by decide +kernel
theorem dX4_numberHere_21 : decode cX4_numberHere 21 = .ok (.if_icmp .gt 18, 3) := by decide +kernel
theorem dX4_numberHere_24 : decode cX4_numberHere 24 = .ok (.aload_n 0, 1) := by decide +kernel
theorem dX4_numberHere_25 : decode cX4_numberHere 25 = .ok (.getfield 9, 3) := by decide +kernel
theorem dX4_numberHere_28 : decode cX4_numberHere 28 = .ok (.aload_n 0, 1) := by decide +kernel
theorem dX4_numberHere_29 : decode cX4_numberHere 29 = .ok (.getfield 26, 3) := by decide +kernel
theorem dX4_numberHere_32 : decode cX4_numberHere 32 = .ok (.caload, 1) := by decide +kernel
theorem dX4_numberHere_33 : decode cX4_numberHere 33 = .ok (.invokestatic 67, 3) := by decide +kernel
theorem dX4_numberHere_36 : decode cX4_numberHere 36 = .ok (.ifCond .ne 5, 3) := by decide +kernel
theorem dX4_numberHere_39 : decode cX4_numberHere 39 = .ok (.iconst (-1), 1) := by decide +kernel
theorem dX4_numberHere_40 : decode cX4_numberHere 40 = .ok (.ireturn, 1) := by decide +kernel
theorem dX4_numberHere_41 : decode cX4_numberHere 41 = .ok (.iconst 0, 1) := by decide +kernel
theorem dX4_numberHere_42 : decode cX4_numberHere 42 = .ok (.istore_n 1, 1) := by decide +kernel
theorem dX4_numberHere_43 : decode cX4_numberHere 43 = .ok (.aload_n 0, 1) := by decide +kernel
theorem dX4_numberHere_44 : decode cX4_numberHere 44 = .ok (.getfield 26, 3) := by decide +kernel
theorem dX4_numberHere_47 : decode cX4_numberHere 47 = .ok (.istore_n 2, 1) := by decide +kernel
theorem dX4_numberHere_48 : decode cX4_numberHere 48 = .ok (.iload_n 2, 1) := by decide +kernel
theorem dX4_numberHere_49 : decode cX4_numberHere 49 = .ok (.aload_n 0, 1) := by decide +kernel
theorem dX4_numberHere_50 : decode cX4_numberHere 50 = .ok (.getfield 19, 3) := by decide +kernel
theorem dX4_numberHere_53 : decode cX4_numberHere 53 = .ok (.if_icmp .ge 24, 3) := by decide +kernel
theorem dX4_numberHere_56 : decode cX4_numberHere 56 = .ok (.bipush 10, 2) := by decide +kernel
theorem dX4_numberHere_58 : decode cX4_numberHere 58 = .ok (.iload_n 1, 1) := by decide +kernel
theorem dX4_numberHere_59 : decode cX4_numberHere 59 = .ok (.imul, 1) := by decide +kernel
theorem dX4_numberHere_60 : decode cX4_numberHere 60 = .ok (.aload_n 0, 1) := by decide +kernel
theorem dX4_numberHere_61 : decode cX4_numberHere 61 = .ok (.getfield 9, 3) := by decide +kernel
theorem dX4_numberHere_64 : decode cX4_numberHere 64 = .ok (.iload_n 2, 1) := by decide +kernel
theorem dX4_numberHere_65 : decode cX4_numberHere 65 = .ok (.caload, 1) := by decide +kernel
theorem dX4_numberHere_66 : decode cX4_numberHere 66 = .ok (.iadd, 1) := by decide +kernel
theorem dX4_numberHere_67 : decode cX4_numberHere 67 = .ok (.bipush 48, 2) := by decide +kernel
theorem dX4_numberHere_69 : decode cX4_numberHere 69 = .ok (.isub, 1) := by decide +kernel
theorem dX4_numberHere_70 : decode cX4_numberHere 70 = .ok (.istore_n 1, 1) := by decide +kernel
theorem dX4_numberHere_71 : decode cX4_numberHere 71 = .ok (.iinc 2 1, 3) := by decide +kernel
theorem dX4_numberHere_74 : decode cX4_numberHere 74 = .ok (.goto (-26), 3) := by decide +kernel
theorem dX4_numberHere_77 : decode cX4_numberHere 77 = .ok (.iload_n 1, 1) := by decide +kernel
theorem dX4_numberHere_78 : decode cX4_numberHere 78 = .ok (.ireturn, 1) := by decide +kernel
theorem dX4_isSmall_0 : decode cX4_isSmall 0 = .ok (.iload_n 0, 1) := by decide +kernel
theorem dX4_isSmall_1 : decode cX4_isSmall 1 = .ok (.bipush 97, 2) := by decide +kernel
theorem dX4_isSmall_3 : decode cX4_isSmall 3 = .ok (.if_icmp .lt 13, 3) := by decide +kernel
theorem dX4_isSmall_6 : decode cX4_isSmall 6 = .ok (.iload_n 0, 1) := by decide +kernel
theorem dX4_isSmall_7 : decode cX4_isSmall 7 = .ok (.bipush 122, 2) := by decide +kernel
theorem dX4_isSmall_9 : decode cX4_isSmall 9 = .ok (.if_icmp .gt 7, 3) := by decide +kernel
theorem dX4_isSmall_12 : decode cX4_isSmall 12 = .ok (.iconst 1, 1) := by decide +kernel
theorem dX4_isSmall_13 : decode cX4_isSmall 13 = .ok (.goto 4, 3) := by decide +kernel
theorem dX4_isSmall_16 : decode cX4_isSmall 16 = .ok (.iconst 0, 1) := by decide +kernel
theorem dX4_isSmall_17 : decode cX4_isSmall 17 = .ok (.ireturn, 1) := by decide +kernel
theorem dX4_isDigit_0 : decode cX4_isDigit 0 = .ok (.iload_n 0, 1) := by decide +kernel
theorem dX4_isDigit_1 : decode cX4_isDigit 1 = .ok (.bipush 48, 2) := by decide +kernel
theorem dX4_isDigit_3 : decode cX4_isDigit 3 = .ok (.if_icmp .lt 13, 3) := by decide +kernel
theorem dX4_isDigit_6 : decode cX4_isDigit 6 = .ok (.iload_n 0, 1) := by decide +kernel
theorem dX4_isDigit_7 : decode cX4_isDigit 7 = .ok (.bipush 57, 2) := by decide +kernel
theorem dX4_isDigit_9 : decode cX4_isDigit 9 = .ok (.if_icmp .gt 7, 3) := by decide +kernel
theorem dX4_isDigit_12 : decode cX4_isDigit 12 = .ok (.iconst 1, 1) := by decide +kernel
theorem dX4_isDigit_13 : decode cX4_isDigit 13 = .ok (.goto 4, 3) := by decide +kernel
theorem dX4_isDigit_16 : decode cX4_isDigit 16 = .ok (.iconst 0, 1) := by decide +kernel
theorem dX4_isDigit_17 : decode cX4_isDigit 17 = .ok (.ireturn, 1) := by decide +kernel
theorem dX4_spelling_0 : decode cX4_spelling 0 = .ok (.iload_n 0, 1) := by decide +kernel
theorem dX4_spelling_1 : decode cX4_spelling 1 = .ok (.tableswitch 85 0 9 #[55, 58, 61, 64, 67, 70, 73, 76, 79, 82], 55) := by decide +kernel
theorem dX4_spelling_56 : decode cX4_spelling 56 = .ok (.ldc 86, 2) := by decide +kernel
theorem dX4_spelling_58 : decode cX4_spelling 58 = .ok (.areturn, 1) := by decide +kernel
theorem dX4_spelling_59 : decode cX4_spelling 59 = .ok (.ldc 88, 2) := by decide +kernel
theorem dX4_spelling_61 : decode cX4_spelling 61 = .ok (.areturn, 1) := by decide +kernel
theorem dX4_spelling_62 : decode cX4_spelling 62 = .ok (.ldc 90, 2) := by decide +kernel
theorem dX4_spelling_64 : decode cX4_spelling 64 = .ok (.areturn, 1) := by decide +kernel
theorem dX4_spelling_65 : decode cX4_spelling 65 = .ok (.ldc 92, 2) := by decide +kernel
theorem dX4_spelling_67 : decode cX4_spelling 67 = .ok (.areturn, 1) := by decide +kernel
theorem dX4_spelling_68 : decode cX4_spelling 68 = .ok (.ldc 94, 2) := by decide +kernel
theorem dX4_spelling_70 : decode cX4_spelling 70 = .ok (.areturn, 1) := by decide +kernel
theorem dX4_spelling_71 : decode cX4_spelling 71 = .ok (.ldc 96, 2) := by decide +kernel
theorem dX4_spelling_73 : decode cX4_spelling 73 = .ok (.areturn, 1) := by decide +kernel
theorem dX4_spelling_74 : decode cX4_spelling 74 = .ok (.ldc 98, 2) := by decide +kernel
theorem dX4_spelling_76 : decode cX4_spelling 76 = .ok (.areturn, 1) := by decide +kernel
theorem dX4_spelling_77 : decode cX4_spelling 77 = .ok (.ldc 100, 2) := by decide +kernel
theorem dX4_spelling_79 : decode cX4_spelling 79 = .ok (.areturn, 1) := by decide +kernel
theorem dX4_spelling_80 : decode cX4_spelling 80 = .ok (.ldc 102, 2) := by decide +kernel
theorem dX4_spelling_82 : decode cX4_spelling 82 = .ok (.areturn, 1) := by decide +kernel
theorem dX4_spelling_83 : decode cX4_spelling 83 = .ok (.ldc 104, 2) := by decide +kernel
theorem dX4_spelling_85 : decode cX4_spelling 85 = .ok (.areturn, 1) := by decide +kernel
theorem dX4_spelling_86 : decode cX4_spelling 86 = .ok (.ldc 106, 2) := by decide +kernel
theorem dX4_spelling_88 : decode cX4_spelling 88 = .ok (.areturn, 1) := by decide +kernel
theorem dX5_init_0 : decode cX5_init 0 = .ok (.aload_n 0, 1) := by decide +kernel
theorem dX5_init_1 : decode cX5_init 1 = .ok (.invokespecial 3, 3) := by decide +kernel
theorem dX5_init_4 : decode cX5_init 4 = .ok (.aload_n 0, 1) := by decide +kernel
theorem dX5_init_5 : decode cX5_init 5 = .ok (.bipush 6, 2) := by decide +kernel
theorem dX5_init_7 : decode cX5_init 7 = .ok (.newarray .int, 2) := by decide +kernel
theorem dX5_init_9 : decode cX5_init 9 = .ok (.putfield 9, 3) := by decide +kernel
theorem dX5_init_12 : decode cX5_init 12 = .ok (.aload_n 0, 1) := by decide +kernel
theorem dX5_init_13 : decode cX5_init 13 = .ok (.bipush 6, 2) := by decide +kernel
theorem dX5_init_15 : decode cX5_init 15 = .ok (.newarray .int, 2) := by decide +kernel
theorem dX5_init_17 : decode cX5_init 17 = .ok (.putfield 15, 3) := by decide +kernel
theorem dX5_init_20 : decode cX5_init 20 = .ok (.aload_n 0, 1) := by decide +kernel
theorem dX5_init_21 : decode cX5_init 21 = .ok (.bipush 6, 2) := by decide +kernel
theorem dX5_init_23 : decode cX5_init 23 = .ok (.newarray .int, 2) := by decide +kernel
theorem dX5_init_25 : decode cX5_init 25 = .ok (.putfield 18, 3) := by decide +kernel
theorem dX5_init_28 : decode cX5_init 28 = .ok (.aload_n 0, 1) := by decide +kernel
theorem dX5_init_29 : decode cX5_init 29 = .ok (.iconst 4, 1) := by decide +kernel
theorem dX5_init_30 : decode cX5_init 30 = .ok (.newarray .int, 2) := by decide +kernel
theorem dX5_init_32 : decode cX5_init 32 = .ok (.putfield 21, 3) := by decide +kernel
theorem dX5_init_35 : decode cX5_init 35 = .ok (.aload_n 0, 1) := by decide +kernel
theorem dX5_init_36 : decode cX5_init 36 = .ok (.invokevirtual 24, 3) := by decide +kernel
theorem dX5_init_39 : decode cX5_init 39 = .ok (.return_, 1) := by decide +kernel
theorem dX5_reset_0 : decode cX5_reset 0 = .ok (.aload_n 0, 1) := by decide +kernel
theorem dX5_reset_1 : decode cX5_reset 1 = .ok (.iconst 0, 1) := by decide +kernel
theorem dX5_reset_2 : decode cX5_reset 2 = .ok (.putfield 27, 3) := by decide +kernel
theorem dX5_reset_5 : decode cX5_reset 5 = .ok (.aload_n 0, 1) := by decide +kernel
theorem dX5_reset_6 : decode cX5_reset 6 = .ok (.iconst 0, 1) := by decide +kernel
theorem dX5_reset_7 : decode cX5_reset 7 = .ok (.putfield 31, 3) := by decide +kernel
theorem dX5_reset_10 : decode cX5_reset 10 = .ok (.aload_n 0, 1) := by decide +kernel
theorem dX5_reset_11 : decode cX5_reset 11 = .ok (.iconst 0, 1) := by decide +kernel
theorem dX5_reset_12 : decode cX5_reset 12 = .ok (.putfield 34, 3) := by decide +kernel
theorem dX5_reset_15 : decode cX5_reset 15 = .ok (.aload_n 0, 1) := by decide +kernel
theorem dX5_reset_16 : decode cX5_reset 16 = .ok (.bipush 12, 2) := by decide +kernel
theorem dX5_reset_18 : decode cX5_reset 18 = .ok (.putfield 37, 3) := by decide +kernel
theorem dX5_reset_21 : decode cX5_reset 21 = .ok (.aload_n 0, 1) := by decide +kernel
theorem dX5_reset_22 : decode cX5_reset 22 = .ok (.iconst 3, 1) := by decide +kernel
theorem dX5_reset_23 : decode cX5_reset 23 = .ok (.putfield 40, 3) := by decide +kernel
theorem dX5_reset_26 : decode cX5_reset 26 = .ok (.aload_n 0, 1) := by decide +kernel
theorem dX5_reset_27 : decode cX5_reset 27 = .ok (.iconst 4, 1) := by decide +kernel
theorem dX5_reset_28 : decode cX5_reset 28 = .ok (.putfield 43, 3) := by decide +kernel
theorem dX5_reset_31 : decode cX5_reset 31 = .ok (.aload_n 0, 1) := by decide +kernel
theorem dX5_reset_32 : decode cX5_reset 32 = .ok (.iconst 2, 1) := by decide +kernel
theorem dX5_reset_33 : decode cX5_reset 33 = .ok (.putfield 46, 3) := by decide +kernel
theorem dX5_reset_36 : decode cX5_reset 36 = .ok (.return_, 1) := by decide +kernel
theorem dX5_copy_0 : decode cX5_copy 0 = .ok (.aload_n 0, 1) := by decide +kernel
theorem dX5_copy_1 : decode cX5_copy 1 = .ok (.aload_n 1, 1) := by decide +kernel
theorem dX5_copy_2 : decode cX5_copy 2 = .ok (.getfield 27, 3) := by decide +kernel
theorem dX5_copy_5 : decode cX5_copy 5 = .ok (.putfield 27, 3) := by decide +kernel
theorem dX5_copy_8 : decode cX5_copy 8 = .ok (.aload_n 0, 1) := by decide +kernel
theorem dX5_copy_9 : decode cX5_copy 9 = .ok (.aload_n 1, 1) := by decide +kernel
theorem dX5_copy_10 : decode cX5_copy 10 = .ok (.getfield 31, 3) := by decide +kernel
theorem dX5_copy_13 : decode cX5_copy 13 = .ok (.putfield 31, 3) := by decide +kernel
theorem dX5_copy_16 : decode cX5_copy 16 = .ok (.aload_n 0, 1) := by decide +kernel
theorem dX5_copy_17 : decode cX5_copy 17 = .ok (.aload_n 1, 1) := by decide +kernel
theorem dX5_copy_18 : decode cX5_copy 18 = .ok (.getfield 34, 3) := by decide +kernel
theorem dX5_copy_21 : decode cX5_copy 21 = .ok (.putfield 34, 3) := by decide +kernel
theorem dX5_copy_24 : decode cX5_copy 24 = .ok (.aload_n 0, 1) := by decide +kernel
theorem dX5_copy_25 : decode cX5_copy 25 = .ok (.aload_n 1, 1) := by decide +kernel
theorem dX5_copy_26 : decode cX5_copy 26 = .ok (.getfield 37, 3) := by decide +kernel
theorem dX5_copy_29 : decode cX5_copy 29 = .ok (.putfield 37, 3) := by decide +kernel
theorem dX5_copy_32 : decode cX5_copy 32 = .ok (.aload_n 0, 1) := by decide +kernel
theorem dX5_copy_33 : decode cX5_copy 33 = .ok (.aload_n 1, 1) := by decide +kernel
theorem dX5_copy_34 : decode cX5_copy 34 = .ok (.getfield 40, 3) := by decide +kernel
theorem dX5_copy_37 : decode cX5_copy 37 = .ok (.putfield 40, 3) := by decide +kernel
theorem dX5_copy_40 : decode cX5_copy 40 = .ok (.aload_n 0, 1) := by decide +kernel
theorem dX5_copy_41 : decode cX5_copy 41 = .ok (.aload_n 1, 1) := by decide +kernel
theorem dX5_copy_42 : decode cX5_copy 42 = .ok (.getfield 43, 3) := by decide +kernel
theorem dX5_copy_45 : decode cX5_copy 45 = .ok (.putfield 43, 3) := by decide +kernel
theorem dX5_copy_48 : decode cX5_copy 48 = .ok (.aload_n 0, 1) := by decide +kernel
theorem dX5_copy_49 : decode cX5_copy 49 = .ok (.aload_n 1, 1) := by decide +kernel
theorem dX5_copy_50 : decode cX5_copy 50 = .ok (.getfield 46, 3) := by decide +kernel
theorem dX5_copy_53 : decode cX5_copy 53 = .ok (.putfield 46, 3) := by decide +kernel
theorem dX5_copy_56 : decode cX5_copy 56 = .ok (.aload_n 1, 1) := by decide +kernel
theorem dX5_copy_57 : decode cX5_copy 57 = .ok (.getfield 9, 3) := by decide +kernel
theorem dX5_copy_60 : decode cX5_copy 60 = .ok (.iconst 0, 1) := by decide +kernel
theorem dX5_copy_61 : decode cX5_copy 61 = .ok (.aload_n 0, 1) := by decide +kernel
theorem dX5_copy_62 : decode cX5_copy 62 = .ok (.getfield 9, 3) := by decide +kernel
theorem dX5_copy_65 : decode cX5_copy 65 = .ok (.iconst 0, 1) := by decide +kernel
theorem dX5_copy_66 : decode cX5_copy 66 = .ok (.bipush 6, 2) := by decide +kernel
theorem dX5_copy_68 : decode cX5_copy 68 = .ok (.invokestatic 49, 3) := by decide +kernel
theorem dX5_copy_71 : decode cX5_copy 71 = .ok (.aload_n 1, 1) := by decide +kernel
theorem dX5_copy_72 : decode cX5_copy 72 = .ok (.getfield 15, 3) := by decide +kernel
theorem dX5_copy_75 : decode cX5_copy 75 = .ok (.iconst 0, 1) := by decide +kernel
theorem dX5_copy_76 : decode cX5_copy 76 = .ok (.aload_n 0, 1) := by decide +kernel
theorem dX5_copy_77 : decode cX5_copy 77 = .ok (.getfield 15, 3) := by decide +kernel
theorem dX5_copy_80 : decode cX5_copy 80 = .ok (.iconst 0, 1) := by decide +kernel
theorem dX5_copy_81 : decode cX5_copy 81 = .ok (.bipush 6, 2) := by decide +kernel
theorem dX5_copy_83 : decode cX5_copy 83 = .ok (.invokestatic 49, 3) := by decide +kernel
theorem dX5_copy_86 : decode cX5_copy 86 = .ok (.aload_n 1, 1) := by decide +kernel
theorem dX5_copy_87 : decode cX5_copy 87 = .ok (.getfield 18, 3) := by decide +kernel
theorem dX5_copy_90 : decode cX5_copy 90 = .ok (.iconst 0, 1) := by decide +kernel
theorem dX5_copy_91 : decode cX5_copy 91 = .ok (.aload_n 0, 1) := by decide +kernel
theorem dX5_copy_92 : decode cX5_copy 92 = .ok (.getfield 18, 3) := by decide +kernel
theorem dX5_copy_95 : decode cX5_copy 95 = .ok (.iconst 0, 1) := by decide +kernel
theorem dX5_copy_96 : decode cX5_copy 96 = .ok (.bipush 6, 2) := by decide +kernel
theorem dX5_copy_98 : decode cX5_copy 98 = .ok (.invokestatic 49, 3) := by decide +kernel
theorem dX5_copy_101 : decode cX5_copy 101 = .ok (.aload_n 1, 1) := by decide +kernel
theorem dX5_copy_102 : decode cX5_copy 102 = .ok (.getfield 21, 3) := by decide +kernel
theorem dX5_copy_105 : decode cX5_copy 105 = .ok (.iconst 0, 1) := by decide +kernel
theorem dX5_copy_106 : decode cX5_copy 106 = .ok (.aload_n 0, 1) := by decide +kernel
theorem dX5_copy_107 : decode cX5_copy 107 = .ok (.getfield 21, 3) := by decide +kernel
theorem dX5_copy_110 : decode cX5_copy 110 = .ok (.iconst 0, 1) := by decide +kernel
theorem dX5_copy_111 : decode cX5_copy 111 = .ok (.iconst 4, 1) := by decide +kernel
theorem dX5_copy_112 : decode cX5_copy 112 = .ok (.invokestatic 49, 3) := by decide +kernel
theorem dX5_copy_115 : decode cX5_copy 115 = .ok (.return_, 1) := by decide +kernel
theorem dX5_hasRoomFor_0 : decode cX5_hasRoomFor 0 = .ok (.iload_n 1, 1) := by decide +kernel
theorem dX5_hasRoomFor_1 : decode cX5_hasRoomFor 1 = .ok (.tableswitch 83 1 6 #[39, 54, 54, 54, 54, 69], 39) := by decide +kernel
theorem dX5_hasRoomFor_40 : decode cX5_hasRoomFor 40 = .ok (.aload_n 0, 1) := by decide +kernel
theorem dX5_hasRoomFor_41 : decode cX5_hasRoomFor 41 = .ok (.getfield 27, 3) := by decide +kernel
theorem dX5_hasRoomFor_44 : decode cX5_hasRoomFor 44 = .ok (.bipush 6, 2) := by decide +kernel
theorem dX5_hasRoomFor_46 : decode cX5_hasRoomFor 46 = .ok (.if_icmp .ge 7, 3) := by decide +kernel
theorem dX5_hasRoomFor_49 : decode cX5_hasRoomFor 49 = .ok (.iconst 1, 1) := by decide +kernel
theorem dX5_hasRoomFor_50 : decode cX5_hasRoomFor 50 = .ok (.goto 4, 3) := by decide +kernel
theorem dX5_hasRoomFor_53 : decode cX5_hasRoomFor 53 = .ok (.iconst 0, 1) := by decide +kernel
theorem dX5_hasRoomFor_54 : decode cX5_hasRoomFor 54 = .ok (.ireturn, 1) := by decide +kernel
theorem dX5_hasRoomFor_55 : decode cX5_hasRoomFor 55 = .ok (.aload_n 0, 1) := by decide +kernel
theorem dX5_hasRoomFor_56 : decode cX5_hasRoomFor 56 = .ok (.getfield 31, 3) := by decide +kernel
theorem dX5_hasRoomFor_59 : decode cX5_hasRoomFor 59 = .ok (.bipush 6, 2) := by decide +kernel
theorem dX5_hasRoomFor_61 : decode cX5_hasRoomFor 61 = .ok (.if_icmp .ge 7, 3) := by decide +kernel
theorem dX5_hasRoomFor_64 : decode cX5_hasRoomFor 64 = .ok (.iconst 1, 1) := by decide +kernel
theorem dX5_hasRoomFor_65 : decode cX5_hasRoomFor 65 = .ok (.goto 4, 3) := by decide +kernel
theorem dX5_hasRoomFor_68 : decode cX5_hasRoomFor 68 = .ok (.iconst 0, 1) := by decide +kernel
theorem dX5_hasRoomFor_69 : decode cX5_hasRoomFor 69 = .ok (.ireturn, 1) := by decide +kernel
theorem dX5_hasRoomFor_70 : decode cX5_hasRoomFor 70 = .ok (.aload_n 0, 1) := by decide +kernel
theorem dX5_hasRoomFor_71 : decode cX5_hasRoomFor 71 = .ok (.getfield 34, 3) := by decide +kernel
theorem dX5_hasRoomFor_74 : decode cX5_hasRoomFor 74 = .ok (.iconst 4, 1) := by decide +kernel
theorem dX5_hasRoomFor_75 : decode cX5_hasRoomFor 75 = .ok (.if_icmp .ge 7, 3) := by decide +kernel
theorem dX5_hasRoomFor_78 : decode cX5_hasRoomFor 78 = .ok (.iconst 1, 1) := by decide +kernel
theorem dX5_hasRoomFor_79 : decode cX5_hasRoomFor 79 = .ok (.goto 4, 3) := by decide +kernel
theorem dX5_hasRoomFor_82 : decode cX5_hasRoomFor 82 = .ok (.iconst 0, 1) := by decide +kernel
theorem dX5_hasRoomFor_83 : decode cX5_hasRoomFor 83 = .ok (.ireturn, 1) := by decide +kernel
theorem dX5_hasRoomFor_84 : decode cX5_hasRoomFor 84 = .ok (.iconst 1, 1) := by decide +kernel
theorem dX5_hasRoomFor_85 : decode cX5_hasRoomFor 85 = .ok (.ireturn, 1) := by decide +kernel
theorem dX5_tell_0 : decode cX5_tell 0 = .ok (.aload_n 0, 1) := by decide +kernel
theorem dX5_tell_1 : decode cX5_tell 1 = .ok (.iload_n 1, 1) := by decide +kernel
theorem dX5_tell_2 : decode cX5_tell 2 = .ok (.invokevirtual 55, 3) := by decide +kernel
theorem dX5_tell_5 : decode cX5_tell 5 = .ok (.ifCond .ne 4, 3) := by decide +kernel
theorem dX5_tell_8 : decode cX5_tell 8 = .ok (.return_, 1) := by decide +kernel
theorem dX5_tell_9 : decode cX5_tell 9 = .ok (.iload_n 1, 1) := by decide +kernel
theorem dX5_tell_10 : decode cX5_tell 10 = .ok (.tableswitch 173 0 10 #[58, 65, 85, 94, 103, 112, 121, 141, 149, 157, 165], 58) := by decide +kernel
theorem dX5_tell_68 : decode cX5_tell 68 = .ok (.aload_n 0, 1) := by decide +kernel
theorem dX5_tell_69 : decode cX5_tell 69 = .ok (.invokevirtual 24, 3) := by decide +kernel
theorem dX5_tell_72 : decode cX5_tell 72 = .ok (.goto 111, 3) := by decide +kernel
theorem dX5_tell_75 : decode cX5_tell 75 = .ok (.aload_n 0, 1) := by decide +kernel
theorem dX5_tell_76 : decode cX5_tell 76 = .ok (.getfield 9, 3) := by decide +kernel
theorem dX5_tell_79 : decode cX5_tell 79 = .ok (.aload_n 0, 1) := by decide +kernel
theorem dX5_tell_80 : decode cX5_tell 80 = .ok (.dup, 1) := by decide +kernel
theorem dX5_tell_81 : decode cX5_tell 81 = .ok (.getfield 27, 3) := by decide +kernel
theorem dX5_tell_84 : decode cX5_tell 84 = .ok (.dup_x1, 1) := by decide +kernel
theorem dX5_tell_85 : decode cX5_tell 85 = .ok (.iconst 1, 1) := by decide +kernel
theorem dX5_tell_86 : decode cX5_tell 86 = .ok (.iadd, 1) := by decide +kernel
theorem dX5_tell_87 : decode cX5_tell 87 = .ok (.putfield 27, 3) := by decide +kernel
theorem dX5_tell_90 : decode cX5_tell 90 = .ok (.iload_n 2, 1) := by decide +kernel
theorem dX5_tell_91 : decode cX5_tell 91 = .ok (.iastore, 1) := by decide +kernel
theorem dX5_tell_92 : decode cX5_tell 92 = .ok (.goto 91, 3) := by decide +kernel
theorem dX5_tell_95 : decode cX5_tell 95 = .ok (.aload_n 0, 1) := by decide +kernel
theorem dX5_tell_96 : decode cX5_tell 96 = .ok (.iconst 0, 1) := by decide +kernel
theorem dX5_tell_97 : decode cX5_tell 97 = .ok (.iload_n 2, 1) := by decide +kernel
theorem dX5_tell_98 : decode cX5_tell 98 = .ok (.invokevirtual 59, 3) := by decide +kernel
theorem dX5_tell_101 : decode cX5_tell 101 = .ok (.goto 82, 3) := by decide +kernel
theorem dX5_tell_104 : decode cX5_tell 104 = .ok (.aload_n 0, 1) := by decide +kernel
theorem dX5_tell_105 : decode cX5_tell 105 = .ok (.iconst 1, 1) := by decide +kernel
theorem dX5_tell_106 : decode cX5_tell 106 = .ok (.iload_n 2, 1) := by decide +kernel
theorem dX5_tell_107 : decode cX5_tell 107 = .ok (.invokevirtual 59, 3) := by decide +kernel
theorem dX5_tell_110 : decode cX5_tell 110 = .ok (.goto 73, 3) := by decide +kernel
theorem dX5_tell_113 : decode cX5_tell 113 = .ok (.aload_n 0, 1) := by decide +kernel
theorem dX5_tell_114 : decode cX5_tell 114 = .ok (.iconst 2, 1) := by decide +kernel
theorem dX5_tell_115 : decode cX5_tell 115 = .ok (.iload_n 2, 1) := by decide +kernel
theorem dX5_tell_116 : decode cX5_tell 116 = .ok (.invokevirtual 59, 3) := by decide +kernel
theorem dX5_tell_119 : decode cX5_tell 119 = .ok (.goto 64, 3) := by decide +kernel
theorem dX5_tell_122 : decode cX5_tell 122 = .ok (.aload_n 0, 1) := by decide +kernel
theorem dX5_tell_123 : decode cX5_tell 123 = .ok (.iconst 3, 1) := by decide +kernel
theorem dX5_tell_124 : decode cX5_tell 124 = .ok (.iload_n 2, 1) := by decide +kernel
theorem dX5_tell_125 : decode cX5_tell 125 = .ok (.invokevirtual 59, 3) := by decide +kernel
theorem dX5_tell_128 : decode cX5_tell 128 = .ok (.goto 55, 3) := by decide +kernel
theorem dX5_tell_131 : decode cX5_tell 131 = .ok (.aload_n 0, 1) := by decide +kernel
theorem dX5_tell_132 : decode cX5_tell 132 = .ok (.getfield 21, 3) := by decide +kernel
theorem dX5_tell_135 : decode cX5_tell 135 = .ok (.aload_n 0, 1) := by decide +kernel
theorem dX5_tell_136 : decode cX5_tell 136 = .ok (.dup, 1) := by decide +kernel
theorem dX5_tell_137 : decode cX5_tell 137 = .ok (.getfield 34, 3) := by decide +kernel
theorem dX5_tell_140 : decode cX5_tell 140 = .ok (.dup_x1, 1) := by decide +kernel
theorem dX5_tell_141 : decode cX5_tell 141 = .ok (.iconst 1, 1) := by decide +kernel
theorem dX5_tell_142 : decode cX5_tell 142 = .ok (.iadd, 1) := by decide +kernel
theorem dX5_tell_143 : decode cX5_tell 143 = .ok (.putfield 34, 3) := by decide +kernel
theorem dX5_tell_146 : decode cX5_tell 146 = .ok (.iload_n 2, 1) := by decide +kernel
theorem dX5_tell_147 : decode cX5_tell 147 = .ok (.iastore, 1) := by decide +kernel
theorem dX5_tell_148 : decode cX5_tell 148 = .ok (.goto 35, 3) := by decide +kernel
theorem dX5_tell_151 : decode cX5_tell 151 = .ok (.aload_n 0, 1) := by decide +kernel
theorem dX5_tell_152 : decode cX5_tell 152 = .ok (.iload_n 2, 1) := by decide +kernel
theorem dX5_tell_153 : decode cX5_tell 153 = .ok (.putfield 37, 3) := by decide +kernel
theorem dX5_tell_156 : decode cX5_tell 156 = .ok (.goto 27, 3) := by decide +kernel
theorem dX5_tell_159 : decode cX5_tell 159 = .ok (.aload_n 0, 1) := by decide +kernel
theorem dX5_tell_160 : decode cX5_tell 160 = .ok (.iload_n 2, 1) := by decide +kernel
theorem dX5_tell_161 : decode cX5_tell 161 = .ok (.putfield 40, 3) := by decide +kernel
theorem dX5_tell_164 : decode cX5_tell 164 = .ok (.goto 19, 3) := by decide +kernel
theorem dX5_tell_167 : decode cX5_tell 167 = .ok (.aload_n 0, 1) := by decide +kernel
theorem dX5_tell_168 : decode cX5_tell 168 = .ok (.iload_n 2, 1) := by decide +kernel
theorem dX5_tell_169 : decode cX5_tell 169 = .ok (.putfield 43, 3) := by decide +kernel
theorem dX5_tell_172 : decode cX5_tell 172 = .ok (.goto 11, 3) := by decide +kernel
theorem dX5_tell_175 : decode cX5_tell 175 = .ok (.aload_n 0, 1) := by decide +kernel
theorem dX5_tell_176 : decode cX5_tell 176 = .ok (.iload_n 2, 1) := by decide +kernel
theorem dX5_tell_177 : decode cX5_tell 177 = .ok (.putfield 46, 3) := by decide +kernel
theorem dX5_tell_180 : decode cX5_tell 180 = .ok (.goto 3, 3) := by decide +kernel
theorem dX5_tell_183 : decode cX5_tell 183 = .ok (.return_, 1) := by decide +kernel
theorem dX5_addSheep_0 : decode cX5_addSheep 0 = .ok (.aload_n 0, 1) := by decide +kernel
theorem dX5_addSheep_1 : decode cX5_addSheep 1 = .ok (.getfield 15, 3) := by decide +kernel
theorem dX5_addSheep_4 : decode cX5_addSheep 4 = .ok (.aload_n 0, 1) := by decide +kernel
theorem dX5_addSheep_5 : decode cX5_addSheep 5 = .ok (.getfield 31, 3) := by decide +kernel
theorem dX5_addSheep_8 : decode cX5_addSheep 8 = .ok (.iload_n 1, 1) := by decide +kernel
theorem dX5_addSheep_9 : decode cX5_addSheep 9 = .ok (.iastore, 1) := by decide +kernel
theorem dX5_addSheep_10 : decode cX5_addSheep 10 = .ok (.aload_n 0, 1) := by decide +kernel
theorem dX5_addSheep_11 : decode cX5_addSheep 11 = .ok (.getfield 18, 3) := by decide +kernel
theorem dX5_addSheep_14 : decode cX5_addSheep 14 = .ok (.aload_n 0, 1) := by decide +kernel
theorem dX5_addSheep_15 : decode cX5_addSheep 15 = .ok (.getfield 31, 3) := by decide +kernel
theorem dX5_addSheep_18 : decode cX5_addSheep 18 = .ok (.iload_n 2, 1) := by decide +kernel
theorem dX5_addSheep_19 : decode cX5_addSheep 19 = .ok (.iastore, 1) := by decide +kernel
theorem dX5_addSheep_20 : decode cX5_addSheep 20 = .ok (.aload_n 0, 1) := by decide +kernel
theorem dX5_addSheep_21 : decode cX5_addSheep 21 = .ok (.dup, 1) := by decide +kernel
theorem dX5_addSheep_22 : decode cX5_addSheep 22 = .ok (.getfield 31, 3) := by decide +kernel
theorem dX5_addSheep_25 : decode cX5_addSheep 25 = .ok (.iconst 1, 1) := by decide +kernel
theorem dX5_addSheep_26 : decode cX5_addSheep 26 = .ok (.iadd, 1) := by decide +kernel
theorem dX5_addSheep_27 : decode cX5_addSheep 27 = .ok (.putfield 31, 3) := by decide +kernel
theorem dX5_addSheep_30 : decode cX5_addSheep 30 = .ok (.return_, 1) := by decide +kernel
theorem dX5_hasMan_0 : decode cX5_hasMan 0 = .ok (.iload_n 1, 1) := by decide +kernel
theorem dX5_hasMan_1 : decode cX5_hasMan 1 = .ok (.ifCond .lt 15, 3) := by decide +kernel
theorem dX5_hasMan_4 : decode cX5_hasMan 4 = .ok (.iload_n 1, 1) := by decide +kernel
theorem dX5_hasMan_5 : decode cX5_hasMan 5 = .ok (.aload_n 0, 1) := by decide +kernel
theorem dX5_hasMan_6 : decode cX5_hasMan 6 = .ok (.getfield 27, 3) := by decide +kernel
theorem dX5_hasMan_9 : decode cX5_hasMan 9 = .ok (.if_icmp .ge 7, 3) := by decide +kernel
theorem dX5_hasMan_12 : decode cX5_hasMan 12 = .ok (.iconst 1, 1) := by decide +kernel
theorem dX5_hasMan_13 : decode cX5_hasMan 13 = .ok (.goto 4, 3) := by decide +kernel
theorem dX5_hasMan_16 : decode cX5_hasMan 16 = .ok (.iconst 0, 1) := by decide +kernel
theorem dX5_hasMan_17 : decode cX5_hasMan 17 = .ok (.ireturn, 1) := by decide +kernel
theorem dX5_hasSheep_0 : decode cX5_hasSheep 0 = .ok (.iload_n 1, 1) := by decide +kernel
theorem dX5_hasSheep_1 : decode cX5_hasSheep 1 = .ok (.ifCond .lt 15, 3) := by decide +kernel
theorem dX5_hasSheep_4 : decode cX5_hasSheep 4 = .ok (.iload_n 1, 1) := by decide +kernel
theorem dX5_hasSheep_5 : decode cX5_hasSheep 5 = .ok (.aload_n 0, 1) := by decide +kernel
theorem dX5_hasSheep_6 : decode cX5_hasSheep 6 = .ok (.getfield 31, 3) := by decide +kernel
theorem dX5_hasSheep_9 : decode cX5_hasSheep 9 = .ok (.if_icmp .ge 7, 3) := by decide +kernel
theorem dX5_hasSheep_12 : decode cX5_hasSheep 12 = .ok (.iconst 1, 1) := by decide +kernel
theorem dX5_hasSheep_13 : decode cX5_hasSheep 13 = .ok (.goto 4, 3) := by decide +kernel
theorem dX5_hasSheep_16 : decode cX5_hasSheep 16 = .ok (.iconst 0, 1) := by decide +kernel
theorem dX5_hasSheep_17 : decode cX5_hasSheep 17 = .ok (.ireturn, 1) := by decide +kernel
theorem dX5_hasNeighbour_0 : decode cX5_hasNeighbour 0 = .ok (.iload_n 1, 1) := by decide +kernel
theorem dX5_hasNeighbour_1 : decode cX5_hasNeighbour 1 = .ok (.ifCond .lt 15, 3) := by decide +kernel
theorem dX5_hasNeighbour_4 : decode cX5_hasNeighbour 4 = .ok (.iload_n 1, 1) := by decide +kernel
theorem dX5_hasNeighbour_5 : decode cX5_hasNeighbour 5 = .ok (.aload_n 0, 1) := by decide +kernel
theorem dX5_hasNeighbour_6 : decode cX5_hasNeighbour 6 = .ok (.getfield 34, 3) := by decide +kernel
theorem dX5_hasNeighbour_9 : decode cX5_hasNeighbour 9 = .ok (.if_icmp .ge 7, 3) := by decide +kernel
theorem dX5_hasNeighbour_12 : decode cX5_hasNeighbour 12 = .ok (.iconst 1, 1) := by decide +kernel
theorem dX5_hasNeighbour_13 : decode cX5_hasNeighbour 13 = .ok (.goto 4, 3) := by decide +kernel
theorem dX5_hasNeighbour_16 : decode cX5_hasNeighbour 16 = .ok (.iconst 0, 1) := by decide +kernel
theorem dX5_hasNeighbour_17 : decode cX5_hasNeighbour 17 = .ok (.ireturn, 1) := by decide +kernel
theorem dX5_allSheep_0 : decode cX5_allSheep 0 = .ok (.aload_n 0, 1) := by decide +kernel
theorem dX5_allSheep_1 : decode cX5_allSheep 1 = .ok (.getfield 31, 3) := by decide +kernel
theorem dX5_allSheep_4 : decode cX5_allSheep 4 = .ok (.invokestatic 63, 3) := by decide +kernel
theorem dX5_allSheep_7 : decode cX5_allSheep 7 = .ok (.ireturn, 1) := by decide +kernel
theorem dX5_bears_0 : decode cX5_bears 0 = .ok (.aload_n 0, 1) := by decide +kernel
theorem dX5_bears_1 : decode cX5_bears 1 = .ok (.iload_n 1, 1) := by decide +kernel
theorem dX5_bears_2 : decode cX5_bears 2 = .ok (.invokevirtual 67, 3) := by decide +kernel
theorem dX5_bears_5 : decode cX5_bears 5 = .ok (.ifCond .eq 21, 3) := by decide +kernel
theorem dX5_bears_8 : decode cX5_bears 8 = .ok (.aload_n 0, 1) := by decide +kernel
theorem dX5_bears_9 : decode cX5_bears 9 = .ok (.getfield 15, 3) := by decide +kernel
theorem dX5_bears_12 : decode cX5_bears 12 = .ok (.iload_n 1, 1) := by decide +kernel
theorem dX5_bears_13 : decode cX5_bears 13 = .ok (.iaload, 1) := by decide +kernel
theorem dX5_bears_14 : decode cX5_bears 14 = .ok (.aload_n 0, 1) := by decide +kernel
theorem dX5_bears_15 : decode cX5_bears 15 = .ok (.getfield 18, 3) := by decide +kernel
theorem dX5_bears_18 : decode cX5_bears 18 = .ok (.iload_n 1, 1) := by decide +kernel
theorem dX5_bears_19 : decode cX5_bears 19 = .ok (.iaload, 1) := by decide +kernel
theorem dX5_bears_20 : decode cX5_bears 20 = .ok (.invokestatic 70, 3) := by decide +kernel
theorem dX5_bears_23 : decode cX5_bears 23 = .ok (.goto 4, 3) := by decide +kernel
theorem dX5_bears_26 : decode cX5_bears 26 = .ok (.iconst 0, 1) := by decide +kernel
theorem dX5_bears_27 : decode cX5_bears 27 = .ok (.ireturn, 1) := by decide +kernel
theorem dX5_bearsMan_0 : decode cX5_bearsMan 0 = .ok (.aload_n 0, 1) := by decide +kernel
theorem dX5_bearsMan_1 : decode cX5_bearsMan 1 = .ok (.iload_n 1, 1) := by decide +kernel
theorem dX5_bearsMan_2 : decode cX5_bearsMan 2 = .ok (.invokevirtual 67, 3) := by decide +kernel
theorem dX5_bearsMan_5 : decode cX5_bearsMan 5 = .ok (.ifCond .eq 29, 3) := by decide +kernel
theorem dX5_bearsMan_8 : decode cX5_bearsMan 8 = .ok (.aload_n 0, 1) := by decide +kernel
theorem dX5_bearsMan_9 : decode cX5_bearsMan 9 = .ok (.iload_n 2, 1) := by decide +kernel
theorem dX5_bearsMan_10 : decode cX5_bearsMan 10 = .ok (.invokevirtual 74, 3) := by decide +kernel
theorem dX5_bearsMan_13 : decode cX5_bearsMan 13 = .ok (.ifCond .eq 21, 3) := by decide +kernel
theorem dX5_bearsMan_16 : decode cX5_bearsMan 16 = .ok (.aload_n 0, 1) := by decide +kernel
theorem dX5_bearsMan_17 : decode cX5_bearsMan 17 = .ok (.iload_n 1, 1) := by decide +kernel
theorem dX5_bearsMan_18 : decode cX5_bearsMan 18 = .ok (.invokevirtual 77, 3) := by decide +kernel
theorem dX5_bearsMan_21 : decode cX5_bearsMan 21 = .ok (.aload_n 0, 1) := by decide +kernel
theorem dX5_bearsMan_22 : decode cX5_bearsMan 22 = .ok (.getfield 9, 3) := by decide +kernel
theorem dX5_bearsMan_25 : decode cX5_bearsMan 25 = .ok (.iload_n 2, 1) := by decide +kernel
theorem dX5_bearsMan_26 : decode cX5_bearsMan 26 = .ok (.iaload, 1) := by decide +kernel
theorem dX5_bearsMan_27 : decode cX5_bearsMan 27 = .ok (.if_icmp .lt 7, 3) := by decide +kernel
theorem dX5_bearsMan_30 : decode cX5_bearsMan 30 = .ok (.iconst 1, 1) := by decide +kernel
theorem dX5_bearsMan_31 : decode cX5_bearsMan 31 = .ok (.goto 4, 3) := by decide +kernel
theorem dX5_bearsMan_34 : decode cX5_bearsMan 34 = .ok (.iconst 0, 1) := by decide +kernel
theorem dX5_bearsMan_35 : decode cX5_bearsMan 35 = .ok (.ireturn, 1) := by decide +kernel
theorem dX5_comers_0 : decode cX5_comers 0 = .ok (.iconst 0, 1) := by decide +kernel
theorem dX5_comers_1 : decode cX5_comers 1 = .ok (.istore_n 2, 1) := by decide +kernel
theorem dX5_comers_2 : decode cX5_comers 2 = .ok (.iconst 0, 1) := by decide +kernel
theorem dX5_comers_3 : decode cX5_comers 3 = .ok (.istore_n 3, 1) := by decide +kernel
theorem dX5_comers_4 : decode cX5_comers 4 = .ok (.iload_n 3, 1) := by decide +kernel
theorem dX5_comers_5 : decode cX5_comers 5 = .ok (.aload_n 0, 1) := by decide +kernel
theorem dX5_comers_6 : decode cX5_comers 6 = .ok (.getfield 34, 3) := by decide +kernel
theorem dX5_comers_9 : decode cX5_comers 9 = .ok (.if_icmp .ge 28, 3) := by decide +kernel
theorem dX5_comers_12 : decode cX5_comers 12 = .ok (.aload_n 0, 1) := by decide +kernel
theorem dX5_comers_13 : decode cX5_comers 13 = .ok (.getfield 21, 3) := by decide +kernel
theorem dX5_comers_16 : decode cX5_comers 16 = .ok (.iload_n 3, 1) := by decide +kernel
theorem dX5_comers_17 : decode cX5_comers 17 = .ok (.iaload, 1) := by decide +kernel
theorem dX5_comers_18 : decode cX5_comers 18 = .ok (.iload_n 1, 1) := by decide +kernel
theorem dX5_comers_19 : decode cX5_comers 19 = .ok (.invokestatic 80, 3) := by decide +kernel
theorem dX5_comers_22 : decode cX5_comers 22 = .ok (.ifCond .ne 9, 3) := by decide +kernel
theorem dX5_comers_25 : decode cX5_comers 25 = .ok (.iload_n 2, 1) := by decide +kernel
theorem dX5_comers_26 : decode cX5_comers 26 = .ok (.iconst 1, 1) := by decide +kernel
theorem dX5_comers_27 : decode cX5_comers 27 = .ok (.iload_n 3, 1) := by decide +kernel
theorem dX5_comers_28 : decode cX5_comers 28 = .ok (.ishl, 1) := by decide +kernel
theorem dX5_comers_29 : decode cX5_comers 29 = .ok (.ior, 1) := by decide +kernel
theorem dX5_comers_30 : decode cX5_comers 30 = .ok (.istore_n 2, 1) := by decide +kernel
theorem dX5_comers_31 : decode cX5_comers 31 = .ok (.iinc 3 1, 3) := by decide +kernel
theorem dX5_comers_34 : decode cX5_comers 34 = .ok (.goto (-30), 3) := by decide +kernel
theorem dX5_comers_37 : decode cX5_comers 37 = .ok (.iload_n 2, 1) := by decide +kernel
theorem dX5_comers_38 : decode cX5_comers 38 = .ok (.ireturn, 1) := by decide +kernel
theorem dX5_namesFor_0 : decode cX5_namesFor 0 = .ok (.iconst 0, 1) := by decide +kernel
theorem dX5_namesFor_1 : decode cX5_namesFor 1 = .ok (.istore_n 2, 1) := by decide +kernel
theorem dX5_namesFor_2 : decode cX5_namesFor 2 = .ok (.iconst 0, 1) := by decide +kernel
theorem dX5_namesFor_3 : decode cX5_namesFor 3 = .ok (.istore_n 3, 1) := by decide +kernel
theorem dX5_namesFor_4 : decode cX5_namesFor 4 = .ok (.iload_n 3, 1) := by decide +kernel
theorem dX5_namesFor_5 : decode cX5_namesFor 5 = .ok (.bipush 8, 2) := by decide +kernel
theorem dX5_namesFor_7 : decode cX5_namesFor 7 = .ok (.if_icmp .ge 24, 3) := by decide +kernel
theorem dX5_namesFor_10 : decode cX5_namesFor 10 = .ok (.aload_n 0, 1) := by decide +kernel
theorem dX5_namesFor_11 : decode cX5_namesFor 11 = .ok (.iload_n 3, 1) := by decide +kernel
theorem dX5_namesFor_12 : decode cX5_namesFor 12 = .ok (.invokevirtual 84, 3) := by decide +kernel
theorem dX5_namesFor_15 : decode cX5_namesFor 15 = .ok (.iload_n 1, 1) := by decide +kernel
theorem dX5_namesFor_16 : decode cX5_namesFor 16 = .ok (.if_icmp .ne 9, 3) := by decide +kernel
theorem dX5_namesFor_19 : decode cX5_namesFor 19 = .ok (.iload_n 2, 1) := by decide +kernel
theorem dX5_namesFor_20 : decode cX5_namesFor 20 = .ok (.iconst 1, 1) := by decide +kernel
theorem dX5_namesFor_21 : decode cX5_namesFor 21 = .ok (.iload_n 3, 1) := by decide +kernel
theorem dX5_namesFor_22 : decode cX5_namesFor 22 = .ok (.ishl, 1) := by decide +kernel
theorem dX5_namesFor_23 : decode cX5_namesFor 23 = .ok (.ior, 1) := by decide +kernel
theorem dX5_namesFor_24 : decode cX5_namesFor 24 = .ok (.istore_n 2, 1) := by decide +kernel
theorem dX5_namesFor_25 : decode cX5_namesFor 25 = .ok (.iinc 3 1, 3) := by decide +kernel
theorem dX5_namesFor_28 : decode cX5_namesFor 28 = .ok (.goto (-24), 3) := by decide +kernel
theorem dX5_namesFor_31 : decode cX5_namesFor 31 = .ok (.iload_n 2, 1) := by decide +kernel
theorem dX5_namesFor_32 : decode cX5_namesFor 32 = .ok (.ireturn, 1) := by decide +kernel
theorem dX5_quietestName_0 : decode cX5_quietestName 0 = .ok (.iconst 0, 1) := by decide +kernel
theorem dX5_quietestName_1 : decode cX5_quietestName 1 = .ok (.istore_n 1, 1) := by decide +kernel
theorem dX5_quietestName_2 : decode cX5_quietestName 2 = .ok (.iconst 5, 1) := by decide +kernel
theorem dX5_quietestName_3 : decode cX5_quietestName 3 = .ok (.istore_n 2, 1) := by decide +kernel
theorem dX5_quietestName_4 : decode cX5_quietestName 4 = .ok (.iconst 0, 1) := by decide +kernel
theorem dX5_quietestName_5 : decode cX5_quietestName 5 = .ok (.istore_n 3, 1) := by decide +kernel
theorem dX5_quietestName_6 : decode cX5_quietestName 6 = .ok (.iload_n 3, 1) := by decide +kernel
theorem dX5_quietestName_7 : decode cX5_quietestName 7 = .ok (.bipush 8, 2) := by decide +kernel
theorem dX5_quietestName_9 : decode cX5_quietestName 9 = .ok (.if_icmp .ge 30, 3) := by decide +kernel
theorem dX5_quietestName_12 : decode cX5_quietestName 12 = .ok (.aload_n 0, 1) := by decide +kernel
theorem dX5_quietestName_13 : decode cX5_quietestName 13 = .ok (.iload_n 3, 1) := by decide +kernel
theorem dX5_quietestName_14 : decode cX5_quietestName 14 = .ok (.invokevirtual 84, 3) := by decide +kernel
theorem dX5_quietestName_17 : decode cX5_quietestName 17 = .ok (.invokestatic 87, 3) := by decide +kernel
theorem dX5_quietestName_20 : decode cX5_quietestName 20 = .ok (.istore 4, 2) := by decide +kernel
theorem dX5_quietestName_22 : decode cX5_quietestName 22 = .ok (.iload 4, 2) := by decide +kernel
theorem dX5_quietestName_24 : decode cX5_quietestName 24 = .ok (.iload_n 2, 1) := by decide +kernel
theorem dX5_quietestName_25 : decode cX5_quietestName 25 = .ok (.if_icmp .ge 8, 3) := by decide +kernel
theorem dX5_quietestName_28 : decode cX5_quietestName 28 = .ok (.iload 4, 2) := by decide +kernel
theorem dX5_quietestName_30 : decode cX5_quietestName 30 = .ok (.istore_n 2, 1) := by decide +kernel
theorem dX5_quietestName_31 : decode cX5_quietestName 31 = .ok (.iload_n 3, 1) := by decide +kernel
theorem dX5_quietestName_32 : decode cX5_quietestName 32 = .ok (.istore_n 1, 1) := by decide +kernel
theorem dX5_quietestName_33 : decode cX5_quietestName 33 = .ok (.iinc 3 1, 3) := by decide +kernel
theorem dX5_quietestName_36 : decode cX5_quietestName 36 = .ok (.goto (-30), 3) := by decide +kernel
theorem dX5_quietestName_39 : decode cX5_quietestName 39 = .ok (.iload_n 1, 1) := by decide +kernel
theorem dX5_quietestName_40 : decode cX5_quietestName 40 = .ok (.ireturn, 1) := by decide +kernel
theorem dJ6_bitCount_0f7a4_0 : decode cJ6_bitCount_0f7a4 0 = .ok (.iload_n 0, 1) := by decide +kernel
theorem dJ6_bitCount_0f7a4_1 : decode cJ6_bitCount_0f7a4 1 = .ok (.iload_n 0, 1) := by decide +kernel
theorem dJ6_bitCount_0f7a4_2 : decode cJ6_bitCount_0f7a4 2 = .ok (.iconst 1, 1) := by decide +kernel
theorem dJ6_bitCount_0f7a4_3 : decode cJ6_bitCount_0f7a4 3 = .ok (.iushr, 1) := by decide +kernel
theorem dJ6_bitCount_0f7a4_4 : decode cJ6_bitCount_0f7a4 4 = .ok (.ldc_w 265, 3) := by decide +kernel
theorem dJ6_bitCount_0f7a4_7 : decode cJ6_bitCount_0f7a4 7 = .ok (.iand, 1) := by decide +kernel
theorem dJ6_bitCount_0f7a4_8 : decode cJ6_bitCount_0f7a4 8 = .ok (.isub, 1) := by decide +kernel
theorem dJ6_bitCount_0f7a4_9 : decode cJ6_bitCount_0f7a4 9 = .ok (.istore_n 0, 1) := by decide +kernel
theorem dJ6_bitCount_0f7a4_10 : decode cJ6_bitCount_0f7a4 10 = .ok (.iload_n 0, 1) := by decide +kernel
theorem dJ6_bitCount_0f7a4_11 : decode cJ6_bitCount_0f7a4 11 = .ok (.ldc_w 266, 3) := by decide +kernel
theorem dJ6_bitCount_0f7a4_14 : decode cJ6_bitCount_0f7a4 14 = .ok (.iand, 1) := by decide +kernel
theorem dJ6_bitCount_0f7a4_15 : decode cJ6_bitCount_0f7a4 15 = .ok (.iload_n 0, 1) := by decide +kernel
theorem dJ6_bitCount_0f7a4_16 : decode cJ6_bitCount_0f7a4 16 = .ok (.iconst 2, 1) := by decide +kernel
theorem dJ6_bitCount_0f7a4_17 : decode cJ6_bitCount_0f7a4 17 = .ok (.iushr, 1) := by decide +kernel
theorem dJ6_bitCount_0f7a4_18 : decode cJ6_bitCount_0f7a4 18 = .ok (.ldc_w 266, 3) := by decide +kernel
theorem dJ6_bitCount_0f7a4_21 : decode cJ6_bitCount_0f7a4 21 = .ok (.iand, 1) := by decide +kernel
theorem dJ6_bitCount_0f7a4_22 : decode cJ6_bitCount_0f7a4 22 = .ok (.iadd, 1) := by decide +kernel
theorem dJ6_bitCount_0f7a4_23 : decode cJ6_bitCount_0f7a4 23 = .ok (.istore_n 0, 1) := by decide +kernel
theorem dJ6_bitCount_0f7a4_24 : decode cJ6_bitCount_0f7a4 24 = .ok (.iload_n 0, 1) := by decide +kernel
theorem dJ6_bitCount_0f7a4_25 : decode cJ6_bitCount_0f7a4 25 = .ok (.iload_n 0, 1) := by decide +kernel
theorem dJ6_bitCount_0f7a4_26 : decode cJ6_bitCount_0f7a4 26 = .ok (.iconst 4, 1) := by decide +kernel
theorem dJ6_bitCount_0f7a4_27 : decode cJ6_bitCount_0f7a4 27 = .ok (.iushr, 1) := by decide +kernel
theorem dJ6_bitCount_0f7a4_28 : decode cJ6_bitCount_0f7a4 28 = .ok (.iadd, 1) := by decide +kernel
theorem dJ6_bitCount_0f7a4_29 : decode cJ6_bitCount_0f7a4 29 = .ok (.ldc_w 267, 3) := by decide +kernel
theorem dJ6_bitCount_0f7a4_32 : decode cJ6_bitCount_0f7a4 32 = .ok (.iand, 1) := by decide +kernel
theorem dJ6_bitCount_0f7a4_33 : decode cJ6_bitCount_0f7a4 33 = .ok (.istore_n 0, 1) := by decide +kernel
theorem dJ6_bitCount_0f7a4_34 : decode cJ6_bitCount_0f7a4 34 = .ok (.iload_n 0, 1) := by decide +kernel
theorem dJ6_bitCount_0f7a4_35 : decode cJ6_bitCount_0f7a4 35 = .ok (.iload_n 0, 1) := by decide +kernel
theorem dJ6_bitCount_0f7a4_36 : decode cJ6_bitCount_0f7a4 36 = .ok (.bipush 8, 2) := by decide +kernel
theorem dJ6_bitCount_0f7a4_38 : decode cJ6_bitCount_0f7a4 38 = .ok (.iushr, 1) := by decide +kernel
theorem dJ6_bitCount_0f7a4_39 : decode cJ6_bitCount_0f7a4 39 = .ok (.iadd, 1) := by decide +kernel
theorem dJ6_bitCount_0f7a4_40 : decode cJ6_bitCount_0f7a4 40 = .ok (.istore_n 0, 1) := by decide +kernel
theorem dJ6_bitCount_0f7a4_41 : decode cJ6_bitCount_0f7a4 41 = .ok (.iload_n 0, 1) := by decide +kernel
theorem dJ6_bitCount_0f7a4_42 : decode cJ6_bitCount_0f7a4 42 = .ok (.iload_n 0, 1) := by decide +kernel
theorem dJ6_bitCount_0f7a4_43 : decode cJ6_bitCount_0f7a4 43 = .ok (.bipush 16, 2) := by decide +kernel
theorem dJ6_bitCount_0f7a4_45 : decode cJ6_bitCount_0f7a4 45 = .ok (.iushr, 1) := by decide +kernel
theorem dJ6_bitCount_0f7a4_46 : decode cJ6_bitCount_0f7a4 46 = .ok (.iadd, 1) := by decide +kernel
theorem dJ6_bitCount_0f7a4_47 : decode cJ6_bitCount_0f7a4 47 = .ok (.istore_n 0, 1) := by decide +kernel
theorem dJ6_bitCount_0f7a4_48 : decode cJ6_bitCount_0f7a4 48 = .ok (.iload_n 0, 1) := by decide +kernel
theorem dJ6_bitCount_0f7a4_49 : decode cJ6_bitCount_0f7a4 49 = .ok (.bipush 63, 2) := by decide +kernel
theorem dJ6_bitCount_0f7a4_51 : decode cJ6_bitCount_0f7a4 51 = .ok (.iand, 1) := by decide +kernel
theorem dJ6_bitCount_0f7a4_52 : decode cJ6_bitCount_0f7a4 52 = .ok (.ireturn, 1) := by decide +kernel
theorem dJ9_max_7cf53_0 : decode cJ9_max_7cf53 0 = .ok (.iload_n 0, 1) := by decide +kernel
theorem dJ9_max_7cf53_1 : decode cJ9_max_7cf53 1 = .ok (.iload_n 1, 1) := by decide +kernel
theorem dJ9_max_7cf53_2 : decode cJ9_max_7cf53 2 = .ok (.if_icmp .lt 7, 3) := by decide +kernel
theorem dJ9_max_7cf53_5 : decode cJ9_max_7cf53 5 = .ok (.iload_n 0, 1) := by decide +kernel
theorem dJ9_max_7cf53_6 : decode cJ9_max_7cf53 6 = .ok (.goto 4, 3) := by decide +kernel
theorem dJ9_max_7cf53_9 : decode cJ9_max_7cf53 9 = .ok (.iload_n 1, 1) := by decide +kernel
theorem dJ9_max_7cf53_10 : decode cJ9_max_7cf53 10 = .ok (.ireturn, 1) := by decide +kernel
theorem dJ9_min_7cf53_0 : decode cJ9_min_7cf53 0 = .ok (.iload_n 0, 1) := by decide +kernel
theorem dJ9_min_7cf53_1 : decode cJ9_min_7cf53 1 = .ok (.iload_n 1, 1) := by decide +kernel
theorem dJ9_min_7cf53_2 : decode cJ9_min_7cf53 2 = .ok (.if_icmp .gt 7, 3) := by decide +kernel
theorem dJ9_min_7cf53_5 : decode cJ9_min_7cf53 5 = .ok (.iload_n 0, 1) := by decide +kernel
theorem dJ9_min_7cf53_6 : decode cJ9_min_7cf53 6 = .ok (.goto 4, 3) := by decide +kernel
theorem dJ9_min_7cf53_9 : decode cJ9_min_7cf53 9 = .ok (.iload_n 1, 1) := by decide +kernel
theorem dJ9_min_7cf53_10 : decode cJ9_min_7cf53 10 = .ok (.ireturn, 1) := by decide +kernel
theorem dJ0_length_8abf5_0 : decode cJ0_length_8abf5 0 = .ok (.aload_n 0, 1) := by decide +kernel
theorem dJ0_length_8abf5_1 : decode cJ0_length_8abf5 1 = .ok (.getfield 9, 3) := by decide +kernel
theorem dJ0_length_8abf5_4 : decode cJ0_length_8abf5 4 = .ok (.arraylength, 1) := by decide +kernel
theorem dJ0_length_8abf5_5 : decode cJ0_length_8abf5 5 = .ok (.aload_n 0, 1) := by decide +kernel
theorem dJ0_length_8abf5_6 : decode cJ0_length_8abf5 6 = .ok (.invokevirtual 335, 3) := by decide +kernel
theorem dJ0_length_8abf5_9 : decode cJ0_length_8abf5 9 = .ok (.ishr, 1) := by decide +kernel
theorem dJ0_length_8abf5_10 : decode cJ0_length_8abf5 10 = .ok (.ireturn, 1) := by decide +kernel
theorem dJ0_charAt_5068e_0 : decode cJ0_charAt_5068e 0 = .ok (.aload_n 0, 1) := by decide +kernel
theorem dJ0_charAt_5068e_1 : decode cJ0_charAt_5068e 1 = .ok (.invokevirtual 492, 3) := by decide +kernel
theorem dJ0_charAt_5068e_4 : decode cJ0_charAt_5068e 4 = .ok (.ifCond .eq 12, 3) := by decide +kernel
theorem dJ0_charAt_5068e_7 : decode cJ0_charAt_5068e 7 = .ok (.aload_n 0, 1) := by decide +kernel
theorem dJ0_charAt_5068e_8 : decode cJ0_charAt_5068e 8 = .ok (.getfield 9, 3) := by decide +kernel
theorem dJ0_charAt_5068e_11 : decode cJ0_charAt_5068e 11 = .ok (.iload_n 1, 1) := by decide +kernel
theorem dJ0_charAt_5068e_12 : decode cJ0_charAt_5068e 12 = .ok (.invokestatic 495, 3) := by decide +kernel
theorem dJ0_charAt_5068e_15 : decode cJ0_charAt_5068e 15 = .ok (.ireturn, 1) := by decide +kernel
theorem dJ0_charAt_5068e_16 : decode cJ0_charAt_5068e 16 = .ok (.aload_n 0, 1) := by decide +kernel
theorem dJ0_charAt_5068e_17 : decode cJ0_charAt_5068e 17 = .ok (.getfield 9, 3) := by decide +kernel
theorem dJ0_charAt_5068e_20 : decode cJ0_charAt_5068e 20 = .ok (.iload_n 1, 1) := by decide +kernel
theorem dJ0_charAt_5068e_21 : decode cJ0_charAt_5068e 21 = .ok (.invokestatic 498, 3) := by decide +kernel
theorem dJ0_charAt_5068e_24 : decode cJ0_charAt_5068e 24 = .ok (.ireturn, 1) := by decide +kernel
theorem dJ0_coder_7d493_0 : decode cJ0_coder_7d493 0 = .ok (.getstatic 38, 3) := by decide +kernel
theorem dJ0_coder_7d493_3 : decode cJ0_coder_7d493 3 = .ok (.ifCond .eq 10, 3) := by decide +kernel
theorem dJ0_coder_7d493_6 : decode cJ0_coder_7d493 6 = .ok (.aload_n 0, 1) := by decide +kernel
theorem dJ0_coder_7d493_7 : decode cJ0_coder_7d493 7 = .ok (.getfield 15, 3) := by decide +kernel
theorem dJ0_coder_7d493_10 : decode cJ0_coder_7d493 10 = .ok (.goto 4, 3) := by decide +kernel
theorem dJ0_coder_7d493_13 : decode cJ0_coder_7d493 13 = .ok (.iconst 1, 1) := by decide +kernel
theorem dJ0_coder_7d493_14 : decode cJ0_coder_7d493 14 = .ok (.ireturn, 1) := by decide +kernel
theorem dJ0_isLatin1_aae02_0 : decode cJ0_isLatin1_aae02 0 = .ok (.getstatic 38, 3) := by decide +kernel
theorem dJ0_isLatin1_aae02_3 : decode cJ0_isLatin1_aae02 3 = .ok (.ifCond .eq 14, 3) := by decide +kernel
theorem dJ0_isLatin1_aae02_6 : decode cJ0_isLatin1_aae02 6 = .ok (.aload_n 0, 1) := by decide +kernel
theorem dJ0_isLatin1_aae02_7 : decode cJ0_isLatin1_aae02 7 = .ok (.getfield 15, 3) := by decide +kernel
theorem dJ0_isLatin1_aae02_10 : decode cJ0_isLatin1_aae02 10 = .ok (.ifCond .ne 7, 3) := by decide +kernel
theorem dJ0_isLatin1_aae02_13 : decode cJ0_isLatin1_aae02 13 = .ok (.iconst 1, 1) := by decide +kernel
theorem dJ0_isLatin1_aae02_14 : decode cJ0_isLatin1_aae02 14 = .ok (.goto 4, 3) := by decide +kernel
theorem dJ0_isLatin1_aae02_17 : decode cJ0_isLatin1_aae02 17 = .ok (.iconst 0, 1) := by decide +kernel
theorem dJ0_isLatin1_aae02_18 : decode cJ0_isLatin1_aae02 18 = .ok (.ireturn, 1) := by decide +kernel
theorem dJ0_checkIndex_df160_0 : decode cJ0_checkIndex_df160 0 = .ok (.iload_n 0, 1) := by decide +kernel
theorem dJ0_checkIndex_df160_1 : decode cJ0_checkIndex_df160 1 = .ok (.iload_n 1, 1) := by decide +kernel
theorem dJ0_checkIndex_df160_2 : decode cJ0_checkIndex_df160 2 = .ok (.getstatic 1053, 3) := by decide +kernel
theorem dJ0_checkIndex_df160_5 : decode cJ0_checkIndex_df160 5 = .ok (.invokestatic 1059, 3) := by decide +kernel
theorem dJ0_checkIndex_df160_8 : decode cJ0_checkIndex_df160 8 = .ok (.pop, 1) := by decide +kernel
theorem dJ0_checkIndex_df160_9 : decode cJ0_checkIndex_df160 9 = .ok (.return_, 1) := by decide +kernel
theorem dJ1_charAt_3b067_0 : decode cJ1_charAt_3b067 0 = .ok (.iload_n 1, 1) := by decide +kernel
theorem dJ1_charAt_3b067_1 : decode cJ1_charAt_3b067 1 = .ok (.aload_n 0, 1) := by decide +kernel
theorem dJ1_charAt_3b067_2 : decode cJ1_charAt_3b067 2 = .ok (.arraylength, 1) := by decide +kernel
theorem dJ1_charAt_3b067_3 : decode cJ1_charAt_3b067 3 = .ok (.invokestatic 9, 3) := by decide +kernel
theorem dJ1_charAt_3b067_6 : decode cJ1_charAt_3b067 6 = .ok (.aload_n 0, 1) := by decide +kernel
theorem dJ1_charAt_3b067_7 : decode cJ1_charAt_3b067 7 = .ok (.iload_n 1, 1) := by decide +kernel
theorem dJ1_charAt_3b067_8 : decode cJ1_charAt_3b067 8 = .ok (.baload, 1) := by decide +kernel
theorem dJ1_charAt_3b067_9 : decode cJ1_charAt_3b067 9 = .ok (.sipush 255, 3) := by decide +kernel
theorem dJ1_charAt_3b067_12 : decode cJ1_charAt_3b067 12 = .ok (.iand, 1) := by decide +kernel
theorem dJ1_charAt_3b067_13 : decode cJ1_charAt_3b067 13 = .ok (.i2c, 1) := by decide +kernel
theorem dJ1_charAt_3b067_14 : decode cJ1_charAt_3b067 14 = .ok (.ireturn, 1) := by decide +kernel
theorem dJ2_getChar_3b067_0 : decode cJ2_getChar_3b067 0 = .ok (.getstatic 44, 3) := by decide +kernel
theorem dJ2_getChar_3b067_3 : decode cJ2_getChar_3b067 3 = .ok (.ifCond .ne 25, 3) := by decide +kernel
theorem dJ2_getChar_3b067_6 : decode cJ2_getChar_3b067 6 = .ok (.iload_n 1, 1) := by decide +kernel
theorem dJ2_getChar_3b067_7 : decode cJ2_getChar_3b067 7 = .ok (.ifCond .lt 11, 3) := by decide +kernel
theorem dJ2_getChar_3b067_10 : decode cJ2_getChar_3b067 10 = .ok (.iload_n 1, 1) := by decide +kernel
theorem dJ2_getChar_3b067_11 : decode cJ2_getChar_3b067 11 = .ok (.aload_n 0, 1) := by decide +kernel
theorem dJ2_getChar_3b067_12 : decode cJ2_getChar_3b067 12 = .ok (.invokestatic 48, 3) := by decide +kernel
theorem dJ2_getChar_3b067_15 : decode cJ2_getChar_3b067 15 = .ok (.if_icmp .lt 13, 3) := by decide +kernel
theorem dJ2_getChar_3b067_18 : decode cJ2_getChar_3b067 18 = .ok (.new 52, 3) := by decide +kernel
theorem dJ2_getChar_3b067_21 : decode cJ2_getChar_3b067 21 = .ok (.dup, 1) := by decide +kernel
theorem dJ2_getChar_3b067_22 : decode cJ2_getChar_3b067 22 = .ok (.ldc 54, 2) := by decide +kernel
theorem dJ2_getChar_3b067_24 : decode cJ2_getChar_3b067 24 = .ok (.invokespecial 56, 3) := by decide +kernel
theorem dJ2_getChar_3b067_27 : decode cJ2_getChar_3b067 27 = .ok (.athrow, 1) := by decide +kernel
theorem dJ2_getChar_3b067_28 : decode cJ2_getChar_3b067 28 = .ok (.iload_n 1, 1) := by decide +kernel
theorem dJ2_getChar_3b067_29 : decode cJ2_getChar_3b067 29 = .ok (.iconst 1, 1) := by decide +kernel
theorem dJ2_getChar_3b067_30 : decode cJ2_getChar_3b067 30 = .ok (.ishl, 1) := by decide +kernel
theorem dJ2_getChar_3b067_31 : decode cJ2_getChar_3b067 31 = .ok (.istore_n 1, 1) := by decide +kernel
theorem dJ2_getChar_3b067_32 : decode cJ2_getChar_3b067 32 = .ok (.aload_n 0, 1) := by decide +kernel
theorem dJ2_getChar_3b067_33 : decode cJ2_getChar_3b067 33 = .ok (.iload_n 1, 1) := by decide +kernel
theorem dJ2_getChar_3b067_34 : decode cJ2_getChar_3b067 34 = .ok (.iinc 1 1, 3) := by decide +kernel
theorem dJ2_getChar_3b067_37 : decode cJ2_getChar_3b067 37 = .ok (.baload, 1) := by decide +kernel
theorem dJ2_getChar_3b067_38 : decode cJ2_getChar_3b067 38 = .ok (.sipush 255, 3) := by decide +kernel
theorem dJ2_getChar_3b067_41 : decode cJ2_getChar_3b067 41 = .ok (.iand, 1) := by decide +kernel
theorem dJ2_getChar_3b067_42 : decode cJ2_getChar_3b067 42 = .ok (.getstatic 59, 3) := by decide +kernel
theorem dJ2_getChar_3b067_45 : decode cJ2_getChar_3b067 45 = .ok (.ishl, 1) := by decide +kernel
theorem dJ2_getChar_3b067_46 : decode cJ2_getChar_3b067 46 = .ok (.aload_n 0, 1) := by decide +kernel
theorem dJ2_getChar_3b067_47 : decode cJ2_getChar_3b067 47 = .ok (.iload_n 1, 1) := by decide +kernel
theorem dJ2_getChar_3b067_48 : decode cJ2_getChar_3b067 48 = .ok (.baload, 1) := by decide +kernel
theorem dJ2_getChar_3b067_49 : decode cJ2_getChar_3b067 49 = .ok (.sipush 255, 3) := by decide +kernel
theorem dJ2_getChar_3b067_52 : decode cJ2_getChar_3b067 52 = .ok (.iand, 1) := by decide +kernel
theorem dJ2_getChar_3b067_53 : decode cJ2_getChar_3b067 53 = .ok (.getstatic 63, 3) := by decide +kernel
theorem dJ2_getChar_3b067_56 : decode cJ2_getChar_3b067 56 = .ok (.ishl, 1) := by decide +kernel
theorem dJ2_getChar_3b067_57 : decode cJ2_getChar_3b067 57 = .ok (.ior, 1) := by decide +kernel
theorem dJ2_getChar_3b067_58 : decode cJ2_getChar_3b067 58 = .ok (.i2c, 1) := by decide +kernel
theorem dJ2_getChar_3b067_59 : decode cJ2_getChar_3b067 59 = .ok (.ireturn, 1) := by decide +kernel
theorem dJ2_length_9d52b_0 : decode cJ2_length_9d52b 0 = .ok (.aload_n 0, 1) := by decide +kernel
theorem dJ2_length_9d52b_1 : decode cJ2_length_9d52b 1 = .ok (.arraylength, 1) := by decide +kernel
theorem dJ2_length_9d52b_2 : decode cJ2_length_9d52b 2 = .ok (.iconst 1, 1) := by decide +kernel
theorem dJ2_length_9d52b_3 : decode cJ2_length_9d52b 3 = .ok (.ishr, 1) := by decide +kernel
theorem dJ2_length_9d52b_4 : decode cJ2_length_9d52b 4 = .ok (.ireturn, 1) := by decide +kernel
theorem dJ2_charAt_3b067_0 : decode cJ2_charAt_3b067 0 = .ok (.iload_n 1, 1) := by decide +kernel
theorem dJ2_charAt_3b067_1 : decode cJ2_charAt_3b067 1 = .ok (.aload_n 0, 1) := by decide +kernel
theorem dJ2_charAt_3b067_2 : decode cJ2_charAt_3b067 2 = .ok (.invokestatic 67, 3) := by decide +kernel
theorem dJ2_charAt_3b067_5 : decode cJ2_charAt_3b067 5 = .ok (.aload_n 0, 1) := by decide +kernel
theorem dJ2_charAt_3b067_6 : decode cJ2_charAt_3b067 6 = .ok (.iload_n 1, 1) := by decide +kernel
theorem dJ2_charAt_3b067_7 : decode cJ2_charAt_3b067 7 = .ok (.invokestatic 71, 3) := by decide +kernel
theorem dJ2_charAt_3b067_10 : decode cJ2_charAt_3b067 10 = .ok (.ireturn, 1) := by decide +kernel
theorem dJ2_checkIndex_2214a_0 : decode cJ2_checkIndex_2214a 0 = .ok (.iload_n 0, 1) := by decide +kernel
theorem dJ2_checkIndex_2214a_1 : decode cJ2_checkIndex_2214a 1 = .ok (.aload_n 1, 1) := by decide +kernel
theorem dJ2_checkIndex_2214a_2 : decode cJ2_checkIndex_2214a 2 = .ok (.invokestatic 48, 3) := by decide +kernel
theorem dJ2_checkIndex_2214a_5 : decode cJ2_checkIndex_2214a 5 = .ok (.invokestatic 414, 3) := by decide +kernel
theorem dJ2_checkIndex_2214a_8 : decode cJ2_checkIndex_2214a 8 = .ok (.return_, 1) := by decide +kernel
theorem dJ3_checkIndex_8e157_0 : decode cJ3_checkIndex_8e157 0 = .ok (.iload_n 0, 1) := by decide +kernel
theorem dJ3_checkIndex_8e157_1 : decode cJ3_checkIndex_8e157 1 = .ok (.ifCond .lt 8, 3) := by decide +kernel
theorem dJ3_checkIndex_8e157_4 : decode cJ3_checkIndex_8e157 4 = .ok (.iload_n 0, 1) := by decide +kernel
theorem dJ3_checkIndex_8e157_5 : decode cJ3_checkIndex_8e157 5 = .ok (.iload_n 1, 1) := by decide +kernel
theorem dJ3_checkIndex_8e157_6 : decode cJ3_checkIndex_8e157 6 = .ok (.if_icmp .lt 10, 3) := by decide +kernel
theorem dJ3_checkIndex_8e157_9 : decode cJ3_checkIndex_8e157 9 = .ok (.aload_n 2, 1) := by decide +kernel
theorem dJ3_checkIndex_8e157_10 : decode cJ3_checkIndex_8e157 10 = .ok (.iload_n 0, 1) := by decide +kernel
theorem dJ3_checkIndex_8e157_11 : decode cJ3_checkIndex_8e157 11 = .ok (.iload_n 1, 1) := by decide +kernel
theorem dJ3_checkIndex_8e157_12 : decode cJ3_checkIndex_8e157 12 = .ok (.invokestatic 95, 3) := by decide +kernel
theorem dJ3_checkIndex_8e157_15 : decode cJ3_checkIndex_8e157 15 = .ok (.athrow, 1) := by decide +kernel
theorem dJ3_checkIndex_8e157_16 : decode cJ3_checkIndex_8e157 16 = .ok (.iload_n 0, 1) := by decide +kernel
theorem dJ3_checkIndex_8e157_17 : decode cJ3_checkIndex_8e157 17 = .ok (.ireturn, 1) := by decide +kernel
