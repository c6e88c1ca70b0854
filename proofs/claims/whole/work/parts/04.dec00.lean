theorem dX0_init_0 : decode cX0_init 0 = .ok (.aload_n 0, 1) := by decide +kernel
theorem dX0_init_1 : decode cX0_init 1 = .ok (.invokespecial 3, 3) := by decide +kernel
theorem dX0_init_4 : decode cX0_init 4 = .ok (.aload_n 0, 1) := by decide +kernel
theorem dX0_init_5 : decode cX0_init 5 = .ok (.bipush 40, 2) := by decide +kernel
theorem dX0_init_7 : decode cX0_init 7 = .ok (.newarray .int, 2) := by decide +kernel
theorem dX0_init_9 : decode cX0_init 9 = .ok (.putfield 9, 3) := by decide +kernel
theorem dX0_init_12 : decode cX0_init 12 = .ok (.aload_n 0, 1) := by decide +kernel
theorem dX0_init_13 : decode cX0_init 13 = .ok (.bipush 80, 2) := by decide +kernel
theorem dX0_init_15 : decode cX0_init 15 = .ok (.newarray .int, 2) := by decide +kernel
theorem dX0_init_17 : decode cX0_init 17 = .ok (.putfield 15, 3) := by decide +kernel
theorem dX0_init_20 : decode cX0_init 20 = .ok (.aload_n 0, 1) := by decide +kernel
theorem dX0_init_21 : decode cX0_init 21 = .ok (.new 18, 3) := by decide +kernel
theorem dX0_init_24 : decode cX0_init 24 = .ok (.dup, 1) := by decide +kernel
theorem dX0_init_25 : decode cX0_init 25 = .ok (.aload_n 1, 1) := by decide +kernel
theorem dX0_init_26 : decode cX0_init 26 = .ok (.aload_n 2, 1) := by decide +kernel
theorem dX0_init_27 : decode cX0_init 27 = .ok (.invokespecial 20, 3) := by decide +kernel
theorem dX0_init_30 : decode cX0_init 30 = .ok (.putfield 23, 3) := by decide +kernel
theorem dX0_init_33 : decode cX0_init 33 = .ok (.return_, 1) := by decide +kernel
theorem dX0_empty_0 : decode cX0_empty 0 = .ok (.aload_n 0, 1) := by decide +kernel
theorem dX0_empty_1 : decode cX0_empty 1 = .ok (.bipush 40, 2) := by decide +kernel
theorem dX0_empty_3 : decode cX0_empty 3 = .ok (.putfield 27, 3) := by decide +kernel
theorem dX0_empty_6 : decode cX0_empty 6 = .ok (.aload_n 0, 1) := by decide +kernel
theorem dX0_empty_7 : decode cX0_empty 7 = .ok (.iconst 0, 1) := by decide +kernel
theorem dX0_empty_8 : decode cX0_empty 8 = .ok (.putfield 31, 3) := by decide +kernel
theorem dX0_empty_11 : decode cX0_empty 11 = .ok (.aload_n 0, 1) := by decide +kernel
theorem dX0_empty_12 : decode cX0_empty 12 = .ok (.getfield 23, 3) := by decide +kernel
theorem dX0_empty_15 : decode cX0_empty 15 = .ok (.invokevirtual 34, 3) := by decide +kernel
theorem dX0_empty_18 : decode cX0_empty 18 = .ok (.return_, 1) := by decide +kernel
theorem dX0_push_0 : decode cX0_push 0 = .ok (.aload_n 0, 1) := by decide +kernel
theorem dX0_push_1 : decode cX0_push 1 = .ok (.getfield 31, 3) := by decide +kernel
theorem dX0_push_4 : decode cX0_push 4 = .ok (.bipush 40, 2) := by decide +kernel
theorem dX0_push_6 : decode cX0_push 6 = .ok (.if_icmp .lt 5, 3) := by decide +kernel
theorem dX0_push_9 : decode cX0_push 9 = .ok (.iconst 0, 1) := by decide +kernel
theorem dX0_push_10 : decode cX0_push 10 = .ok (.ireturn, 1) := by decide +kernel
theorem dX0_push_11 : decode cX0_push 11 = .ok (.aload_n 0, 1) := by decide +kernel
theorem dX0_push_12 : decode cX0_push 12 = .ok (.getfield 23, 3) := by decide +kernel
theorem dX0_push_15 : decode cX0_push 15 = .ok (.aload_n 0, 1) := by decide +kernel
theorem dX0_push_16 : decode cX0_push 16 = .ok (.getfield 31, 3) := by decide +kernel
theorem dX0_push_19 : decode cX0_push 19 = .ok (.iload_n 1, 1) := by decide +kernel
theorem dX0_push_20 : decode cX0_push 20 = .ok (.iload_n 2, 1) := by decide +kernel
theorem dX0_push_21 : decode cX0_push 21 = .ok (.invokevirtual 37, 3) := by decide +kernel
theorem dX0_push_24 : decode cX0_push 24 = .ok (.istore_n 3, 1) := by decide +kernel
theorem dX0_push_25 : decode cX0_push 25 = .ok (.iload_n 3, 1) := by decide +kernel
theorem dX0_push_26 : decode cX0_push 26 = .ok (.ifCond .ne 5, 3) := by decide +kernel
theorem dX0_push_29 : decode cX0_push 29 = .ok (.iconst 0, 1) := by decide +kernel
theorem dX0_push_30 : decode cX0_push 30 = .ok (.ireturn, 1) := by decide +kernel
theorem dX0_push_31 : decode cX0_push 31 = .ok (.iload_n 2, 1) := by decide +kernel
theorem dX0_push_32 : decode cX0_push 32 = .ok (.ifCond .ne 26, 3) := by decide +kernel
theorem dX0_push_35 : decode cX0_push 35 = .ok (.aload_n 0, 1) := by decide +kernel
theorem dX0_push_36 : decode cX0_push 36 = .ok (.dup, 1) := by decide +kernel
theorem dX0_push_37 : decode cX0_push 37 = .ok (.getfield 27, 3) := by decide +kernel
theorem dX0_push_40 : decode cX0_push 40 = .ok (.iconst 1, 1) := by decide +kernel
theorem dX0_push_41 : decode cX0_push 41 = .ok (.isub, 1) := by decide +kernel
theorem dX0_push_42 : decode cX0_push 42 = .ok (.putfield 27, 3) := by decide +kernel
theorem dX0_push_45 : decode cX0_push 45 = .ok (.aload_n 0, 1) := by decide +kernel
theorem dX0_push_46 : decode cX0_push 46 = .ok (.getfield 15, 3) := by decide +kernel
theorem dX0_push_49 : decode cX0_push 49 = .ok (.aload_n 0, 1) := by decide +kernel
theorem dX0_push_50 : decode cX0_push 50 = .ok (.getfield 27, 3) := by decide +kernel
theorem dX0_push_53 : decode cX0_push 53 = .ok (.iload_n 1, 1) := by decide +kernel
theorem dX0_push_54 : decode cX0_push 54 = .ok (.iastore, 1) := by decide +kernel
theorem dX0_push_55 : decode cX0_push 55 = .ok (.goto 18, 3) := by decide +kernel
theorem dX0_push_58 : decode cX0_push 58 = .ok (.aload_n 0, 1) := by decide +kernel
theorem dX0_push_59 : decode cX0_push 59 = .ok (.getfield 15, 3) := by decide +kernel
theorem dX0_push_62 : decode cX0_push 62 = .ok (.aload_n 0, 1) := by decide +kernel
theorem dX0_push_63 : decode cX0_push 63 = .ok (.getfield 27, 3) := by decide +kernel
theorem dX0_push_66 : decode cX0_push 66 = .ok (.aload_n 0, 1) := by decide +kernel
theorem dX0_push_67 : decode cX0_push 67 = .ok (.getfield 31, 3) := by decide +kernel
theorem dX0_push_70 : decode cX0_push 70 = .ok (.iadd, 1) := by decide +kernel
theorem dX0_push_71 : decode cX0_push 71 = .ok (.iload_n 1, 1) := by decide +kernel
theorem dX0_push_72 : decode cX0_push 72 = .ok (.iastore, 1) := by decide +kernel
theorem dX0_push_73 : decode cX0_push 73 = .ok (.aload_n 0, 1) := by decide +kernel
theorem dX0_push_74 : decode cX0_push 74 = .ok (.getfield 9, 3) := by decide +kernel
theorem dX0_push_77 : decode cX0_push 77 = .ok (.aload_n 0, 1) := by decide +kernel
theorem dX0_push_78 : decode cX0_push 78 = .ok (.getfield 31, 3) := by decide +kernel
theorem dX0_push_81 : decode cX0_push 81 = .ok (.iload_n 2, 1) := by decide +kernel
theorem dX0_push_82 : decode cX0_push 82 = .ok (.iastore, 1) := by decide +kernel
theorem dX0_push_83 : decode cX0_push 83 = .ok (.aload_n 0, 1) := by decide +kernel
theorem dX0_push_84 : decode cX0_push 84 = .ok (.dup, 1) := by decide +kernel
theorem dX0_push_85 : decode cX0_push 85 = .ok (.getfield 31, 3) := by decide +kernel
theorem dX0_push_88 : decode cX0_push 88 = .ok (.iconst 1, 1) := by decide +kernel
theorem dX0_push_89 : decode cX0_push 89 = .ok (.iadd, 1) := by decide +kernel
theorem dX0_push_90 : decode cX0_push 90 = .ok (.putfield 31, 3) := by decide +kernel
theorem dX0_push_93 : decode cX0_push 93 = .ok (.iload_n 3, 1) := by decide +kernel
theorem dX0_push_94 : decode cX0_push 94 = .ok (.ireturn, 1) := by decide +kernel
theorem dX0_pop_0 : decode cX0_pop 0 = .ok (.aload_n 0, 1) := by decide +kernel
theorem dX0_pop_1 : decode cX0_pop 1 = .ok (.getfield 31, 3) := by decide +kernel
theorem dX0_pop_4 : decode cX0_pop 4 = .ok (.ifCond .ne 5, 3) := by decide +kernel
theorem dX0_pop_7 : decode cX0_pop 7 = .ok (.iconst (-1), 1) := by decide +kernel
theorem dX0_pop_8 : decode cX0_pop 8 = .ok (.ireturn, 1) := by decide +kernel
theorem dX0_pop_9 : decode cX0_pop 9 = .ok (.aload_n 0, 1) := by decide +kernel
theorem dX0_pop_10 : decode cX0_pop 10 = .ok (.dup, 1) := by decide +kernel
theorem dX0_pop_11 : decode cX0_pop 11 = .ok (.getfield 31, 3) := by decide +kernel
theorem dX0_pop_14 : decode cX0_pop 14 = .ok (.iconst 1, 1) := by decide +kernel
theorem dX0_pop_15 : decode cX0_pop 15 = .ok (.isub, 1) := by decide +kernel
theorem dX0_pop_16 : decode cX0_pop 16 = .ok (.putfield 31, 3) := by decide +kernel
theorem dX0_pop_19 : decode cX0_pop 19 = .ok (.aload_n 0, 1) := by decide +kernel
theorem dX0_pop_20 : decode cX0_pop 20 = .ok (.getfield 9, 3) := by decide +kernel
theorem dX0_pop_23 : decode cX0_pop 23 = .ok (.aload_n 0, 1) := by decide +kernel
theorem dX0_pop_24 : decode cX0_pop 24 = .ok (.getfield 31, 3) := by decide +kernel
theorem dX0_pop_27 : decode cX0_pop 27 = .ok (.iaload, 1) := by decide +kernel
theorem dX0_pop_28 : decode cX0_pop 28 = .ok (.ifCond .ne 13, 3) := by decide +kernel
theorem dX0_pop_31 : decode cX0_pop 31 = .ok (.aload_n 0, 1) := by decide +kernel
theorem dX0_pop_32 : decode cX0_pop 32 = .ok (.dup, 1) := by decide +kernel
theorem dX0_pop_33 : decode cX0_pop 33 = .ok (.getfield 27, 3) := by decide +kernel
theorem dX0_pop_36 : decode cX0_pop 36 = .ok (.iconst 1, 1) := by decide +kernel
theorem dX0_pop_37 : decode cX0_pop 37 = .ok (.iadd, 1) := by decide +kernel
theorem dX0_pop_38 : decode cX0_pop 38 = .ok (.putfield 27, 3) := by decide +kernel
theorem dX0_pop_41 : decode cX0_pop 41 = .ok (.aload_n 0, 1) := by decide +kernel
theorem dX0_pop_42 : decode cX0_pop 42 = .ok (.invokevirtual 41, 3) := by decide +kernel
theorem dX0_pop_45 : decode cX0_pop 45 = .ok (.ireturn, 1) := by decide +kernel
theorem dX0_letterAt_0 : decode cX0_letterAt 0 = .ok (.aload_n 0, 1) := by decide +kernel
theorem dX0_letterAt_1 : decode cX0_letterAt 1 = .ok (.getfield 15, 3) := by decide +kernel
theorem dX0_letterAt_4 : decode cX0_letterAt 4 = .ok (.aload_n 0, 1) := by decide +kernel
theorem dX0_letterAt_5 : decode cX0_letterAt 5 = .ok (.getfield 27, 3) := by decide +kernel
theorem dX0_letterAt_8 : decode cX0_letterAt 8 = .ok (.iload_n 1, 1) := by decide +kernel
theorem dX0_letterAt_9 : decode cX0_letterAt 9 = .ok (.iadd, 1) := by decide +kernel
theorem dX0_letterAt_10 : decode cX0_letterAt 10 = .ok (.iaload, 1) := by decide +kernel
theorem dX0_letterAt_11 : decode cX0_letterAt 11 = .ok (.ireturn, 1) := by decide +kernel
theorem dX0_waysOn_0 : decode cX0_waysOn 0 = .ok (.iconst 0, 1) := by decide +kernel
theorem dX0_waysOn_1 : decode cX0_waysOn 1 = .ok (.istore_n 2, 1) := by decide +kernel
theorem dX0_waysOn_2 : decode cX0_waysOn 2 = .ok (.aload_n 0, 1) := by decide +kernel
theorem dX0_waysOn_3 : decode cX0_waysOn 3 = .ok (.getfield 31, 3) := by decide +kernel
theorem dX0_waysOn_6 : decode cX0_waysOn 6 = .ok (.bipush 40, 2) := by decide +kernel
theorem dX0_waysOn_8 : decode cX0_waysOn 8 = .ok (.if_icmp .lt 5, 3) := by decide +kernel
theorem dX0_waysOn_11 : decode cX0_waysOn 11 = .ok (.iload_n 2, 1) := by decide +kernel
theorem dX0_waysOn_12 : decode cX0_waysOn 12 = .ok (.ireturn, 1) := by decide +kernel
theorem dX0_waysOn_13 : decode cX0_waysOn 13 = .ok (.iconst 0, 1) := by decide +kernel
theorem dX0_waysOn_14 : decode cX0_waysOn 14 = .ok (.istore_n 3, 1) := by decide +kernel
theorem dX0_waysOn_15 : decode cX0_waysOn 15 = .ok (.iload_n 3, 1) := by decide +kernel
theorem dX0_waysOn_16 : decode cX0_waysOn 16 = .ok (.bipush 8, 2) := by decide +kernel
theorem dX0_waysOn_18 : decode cX0_waysOn 18 = .ok (.if_icmp .ge 31, 3) := by decide +kernel
theorem dX0_waysOn_21 : decode cX0_waysOn 21 = .ok (.aload_n 0, 1) := by decide +kernel
theorem dX0_waysOn_22 : decode cX0_waysOn 22 = .ok (.getfield 23, 3) := by decide +kernel
theorem dX0_waysOn_25 : decode cX0_waysOn 25 = .ok (.aload_n 0, 1) := by decide +kernel
theorem dX0_waysOn_26 : decode cX0_waysOn 26 = .ok (.getfield 31, 3) := by decide +kernel
theorem dX0_waysOn_29 : decode cX0_waysOn 29 = .ok (.iload_n 3, 1) := by decide +kernel
theorem dX0_waysOn_30 : decode cX0_waysOn 30 = .ok (.iload_n 1, 1) := by decide +kernel
theorem dX0_waysOn_31 : decode cX0_waysOn 31 = .ok (.invokevirtual 37, 3) := by decide +kernel
theorem dX0_waysOn_34 : decode cX0_waysOn 34 = .ok (.ifCond .le 9, 3) := by decide +kernel
theorem dX0_waysOn_37 : decode cX0_waysOn 37 = .ok (.iload_n 2, 1) := by decide +kernel
theorem dX0_waysOn_38 : decode cX0_waysOn 38 = .ok (.iconst 1, 1) := by decide +kernel
theorem dX0_waysOn_39 : decode cX0_waysOn 39 = .ok (.iload_n 3, 1) := by decide +kernel
theorem dX0_waysOn_40 : decode cX0_waysOn 40 = .ok (.ishl, 1) := by decide +kernel
theorem dX0_waysOn_41 : decode cX0_waysOn 41 = .ok (.ior, 1) := by decide +kernel
theorem dX0_waysOn_42 : decode cX0_waysOn 42 = .ok (.istore_n 2, 1) := by decide +kernel
theorem dX0_waysOn_43 : decode cX0_waysOn 43 = .ok (.iinc 3 1, 3) := by decide +kernel
theorem dX0_waysOn_46 : decode cX0_waysOn 46 = .ok (.goto (-31), 3) := by decide +kernel
theorem dX0_waysOn_49 : decode cX0_waysOn 49 = .ok (.iload_n 2, 1) := by decide +kernel
theorem dX0_waysOn_50 : decode cX0_waysOn 50 = .ok (.ireturn, 1) := by decide +kernel
theorem dX0_lowForth_0 : decode cX0_lowForth 0 = .ok (.aload_n 0, 1) := by decide +kernel
theorem dX0_lowForth_1 : decode cX0_lowForth 1 = .ok (.getfield 23, 3) := by decide +kernel
theorem dX0_lowForth_4 : decode cX0_lowForth 4 = .ok (.getfield 45, 3) := by decide +kernel
theorem dX0_lowForth_7 : decode cX0_lowForth 7 = .ok (.aload_n 0, 1) := by decide +kernel
theorem dX0_lowForth_8 : decode cX0_lowForth 8 = .ok (.getfield 31, 3) := by decide +kernel
theorem dX0_lowForth_11 : decode cX0_lowForth 11 = .ok (.iaload, 1) := by decide +kernel
theorem dX0_lowForth_12 : decode cX0_lowForth 12 = .ok (.ireturn, 1) := by decide +kernel
theorem dX0_lowBack_0 : decode cX0_lowBack 0 = .ok (.aload_n 0, 1) := by decide +kernel
theorem dX0_lowBack_1 : decode cX0_lowBack 1 = .ok (.getfield 23, 3) := by decide +kernel
theorem dX0_lowBack_4 : decode cX0_lowBack 4 = .ok (.getfield 48, 3) := by decide +kernel
theorem dX0_lowBack_7 : decode cX0_lowBack 7 = .ok (.aload_n 0, 1) := by decide +kernel
theorem dX0_lowBack_8 : decode cX0_lowBack 8 = .ok (.getfield 31, 3) := by decide +kernel
theorem dX0_lowBack_11 : decode cX0_lowBack 11 = .ok (.iaload, 1) := by decide +kernel
theorem dX0_lowBack_12 : decode cX0_lowBack 12 = .ok (.ireturn, 1) := by decide +kernel
theorem dX0_size_0 : decode cX0_size 0 = .ok (.aload_n 0, 1) := by decide +kernel
theorem dX0_size_1 : decode cX0_size 1 = .ok (.getfield 23, 3) := by decide +kernel
theorem dX0_size_4 : decode cX0_size 4 = .ok (.getfield 51, 3) := by decide +kernel
theorem dX0_size_7 : decode cX0_size 7 = .ok (.aload_n 0, 1) := by decide +kernel
theorem dX0_size_8 : decode cX0_size 8 = .ok (.getfield 31, 3) := by decide +kernel
theorem dX0_size_11 : decode cX0_size 11 = .ok (.iaload, 1) := by decide +kernel
theorem dX0_size_12 : decode cX0_size 12 = .ok (.ireturn, 1) := by decide +kernel
theorem dX1_init_0 : decode cX1_init 0 = .ok (.aload_n 0, 1) := by decide +kernel
theorem dX1_init_1 : decode cX1_init 1 = .ok (.invokespecial 3, 3) := by decide +kernel
theorem dX1_init_4 : decode cX1_init 4 = .ok (.aload_n 0, 1) := by decide +kernel
theorem dX1_init_5 : decode cX1_init 5 = .ok (.bipush 24, 2) := by decide +kernel
theorem dX1_init_7 : decode cX1_init 7 = .ok (.newarray .int, 2) := by decide +kernel
theorem dX1_init_9 : decode cX1_init 9 = .ok (.putfield 9, 3) := by decide +kernel
theorem dX1_init_12 : decode cX1_init 12 = .ok (.aload_n 0, 1) := by decide +kernel
theorem dX1_init_13 : decode cX1_init 13 = .ok (.bipush 24, 2) := by decide +kernel
theorem dX1_init_15 : decode cX1_init 15 = .ok (.newarray .int, 2) := by decide +kernel
theorem dX1_init_17 : decode cX1_init 17 = .ok (.putfield 15, 3) := by decide +kernel
theorem dX1_init_20 : decode cX1_init 20 = .ok (.aload_n 0, 1) := by decide +kernel
theorem dX1_init_21 : decode cX1_init 21 = .ok (.bipush 24, 2) := by decide +kernel
theorem dX1_init_23 : decode cX1_init 23 = .ok (.newarray .int, 2) := by decide +kernel
theorem dX1_init_25 : decode cX1_init 25 = .ok (.putfield 18, 3) := by decide +kernel
theorem dX1_init_28 : decode cX1_init 28 = .ok (.aload_n 0, 1) := by decide +kernel
theorem dX1_init_29 : decode cX1_init 29 = .ok (.bipush 24, 2) := by decide +kernel
theorem dX1_init_31 : decode cX1_init 31 = .ok (.newarray .int, 2) := by decide +kernel
theorem dX1_init_33 : decode cX1_init 33 = .ok (.putfield 21, 3) := by decide +kernel
theorem dX1_init_36 : decode cX1_init 36 = .ok (.aload_n 0, 1) := by decide +kernel
theorem dX1_init_37 : decode cX1_init 37 = .ok (.sipush 241, 3) := by decide +kernel
theorem dX1_init_40 : decode cX1_init 40 = .ok (.newarray .int, 2) := by decide +kernel
theorem dX1_init_42 : decode cX1_init 42 = .ok (.putfield 24, 3) := by decide +kernel
theorem dX1_init_45 : decode cX1_init 45 = .ok (.aload_n 0, 1) := by decide +kernel
theorem dX1_init_46 : decode cX1_init 46 = .ok (.sipush 241, 3) := by decide +kernel
theorem dX1_init_49 : decode cX1_init 49 = .ok (.newarray .int, 2) := by decide +kernel
theorem dX1_init_51 : decode cX1_init 51 = .ok (.putfield 27, 3) := by decide +kernel
theorem dX1_init_54 : decode cX1_init 54 = .ok (.aload_n 0, 1) := by decide +kernel
theorem dX1_init_55 : decode cX1_init 55 = .ok (.aload_n 1, 1) := by decide +kernel
theorem dX1_init_56 : decode cX1_init 56 = .ok (.putfield 30, 3) := by decide +kernel
theorem dX1_init_59 : decode cX1_init 59 = .ok (.aload_n 0, 1) := by decide +kernel
theorem dX1_init_60 : decode cX1_init 60 = .ok (.aload_n 2, 1) := by decide +kernel
theorem dX1_init_61 : decode cX1_init 61 = .ok (.putfield 34, 3) := by decide +kernel
theorem dX1_init_64 : decode cX1_init 64 = .ok (.aload_n 0, 1) := by decide +kernel
theorem dX1_init_65 : decode cX1_init 65 = .ok (.new 38, 3) := by decide +kernel
theorem dX1_init_68 : decode cX1_init 68 = .ok (.dup, 1) := by decide +kernel
theorem dX1_init_69 : decode cX1_init 69 = .ok (.aload_n 2, 1) := by decide +kernel
theorem dX1_init_70 : decode cX1_init 70 = .ok (.aload_n 3, 1) := by decide +kernel
theorem dX1_init_71 : decode cX1_init 71 = .ok (.invokespecial 40, 3) := by decide +kernel
theorem dX1_init_74 : decode cX1_init 74 = .ok (.putfield 43, 3) := by decide +kernel
theorem dX1_init_77 : decode cX1_init 77 = .ok (.return_, 1) := by decide +kernel
theorem dX1_forget_0 : decode cX1_forget 0 = .ok (.aload_n 0, 1) := by decide +kernel
theorem dX1_forget_1 : decode cX1_forget 1 = .ok (.iconst 0, 1) := by decide +kernel
theorem dX1_forget_2 : decode cX1_forget 2 = .ok (.putfield 47, 3) := by decide +kernel
theorem dX1_forget_5 : decode cX1_forget 5 = .ok (.aload_n 0, 1) := by decide +kernel
theorem dX1_forget_6 : decode cX1_forget 6 = .ok (.iconst 0, 1) := by decide +kernel
theorem dX1_forget_7 : decode cX1_forget 7 = .ok (.putfield 51, 3) := by decide +kernel
theorem dX1_forget_10 : decode cX1_forget 10 = .ok (.iconst 0, 1) := by decide +kernel
theorem dX1_forget_11 : decode cX1_forget 11 = .ok (.istore_n 1, 1) := by decide +kernel
theorem dX1_forget_12 : decode cX1_forget 12 = .ok (.iload_n 1, 1) := by decide +kernel
theorem dX1_forget_13 : decode cX1_forget 13 = .ok (.sipush 240, 3) := by decide +kernel
theorem dX1_forget_16 : decode cX1_forget 16 = .ok (.if_icmp .gt 16, 3) := by decide +kernel
theorem dX1_forget_19 : decode cX1_forget 19 = .ok (.aload_n 0, 1) := by decide +kernel
theorem dX1_forget_20 : decode cX1_forget 20 = .ok (.getfield 24, 3) := by decide +kernel
theorem dX1_forget_23 : decode cX1_forget 23 = .ok (.iload_n 1, 1) := by decide +kernel
theorem dX1_forget_24 : decode cX1_forget 24 = .ok (.iconst 0, 1) := by decide +kernel
theorem dX1_forget_25 : decode cX1_forget 25 = .ok (.iastore, 1) := by decide +kernel
theorem dX1_forget_26 : decode cX1_forget 26 = .ok (.iinc 1 1, 3) := by decide +kernel
theorem dX1_forget_29 : decode cX1_forget 29 = .ok (.goto (-17), 3) := by decide +kernel
theorem dX1_forget_32 : decode cX1_forget 32 = .ok (.return_, 1) := by decide +kernel
theorem dX1_run_0 : decode cX1_run 0 = .ok (.aload_n 0, 1) := by decide +kernel
theorem dX1_run_1 : decode cX1_run 1 = .ok (.iconst 0, 1) := by decide +kernel
theorem dX1_run_2 : decode cX1_run 2 = .ok (.putfield 54, 3) := by decide +kernel
theorem dX1_run_5 : decode cX1_run 5 = .ok (.aload_n 1, 1) := by decide +kernel
theorem dX1_run_6 : decode cX1_run 6 = .ok (.getfield 57, 3) := by decide +kernel
theorem dX1_run_9 : decode cX1_run 9 = .ok (.iconst 1, 1) := by decide +kernel
theorem dX1_run_10 : decode cX1_run 10 = .ok (.if_icmp .ge 4, 3) := by decide +kernel
theorem dX1_run_13 : decode cX1_run 13 = .ok (.return_, 1) := by decide +kernel
theorem dX1_run_14 : decode cX1_run 14 = .ok (.iload_n 2, 1) := by decide +kernel
theorem dX1_run_15 : decode cX1_run 15 = .ok (.iconst 5, 1) := by decide +kernel
theorem dX1_run_16 : decode cX1_run 16 = .ok (.imul, 1) := by decide +kernel
theorem dX1_run_17 : decode cX1_run 17 = .ok (.istore 5, 2) := by decide +kernel
theorem dX1_run_19 : decode cX1_run 19 = .ok (.iconst 0, 1) := by decide +kernel
theorem dX1_run_20 : decode cX1_run 20 = .ok (.istore 6, 2) := by decide +kernel
theorem dX1_run_22 : decode cX1_run 22 = .ok (.iload 6, 2) := by decide +kernel
theorem dX1_run_24 : decode cX1_run 24 = .ok (.aload_n 1, 1) := by decide +kernel
theorem dX1_run_25 : decode cX1_run 25 = .ok (.getfield 57, 3) := by decide +kernel
theorem dX1_run_28 : decode cX1_run 28 = .ok (.if_icmp .ge 128, 3) := by decide +kernel
theorem dX1_run_31 : decode cX1_run 31 = .ok (.aload_n 1, 1) := by decide +kernel
theorem dX1_run_32 : decode cX1_run 32 = .ok (.getfield 62, 3) := by decide +kernel
theorem dX1_run_35 : decode cX1_run 35 = .ok (.iload 5, 2) := by decide +kernel
theorem dX1_run_37 : decode cX1_run 37 = .ok (.iload 6, 2) := by decide +kernel
theorem dX1_run_39 : decode cX1_run 39 = .ok (.iadd, 1) := by decide +kernel
theorem dX1_run_40 : decode cX1_run 40 = .ok (.iaload, 1) := by decide +kernel
theorem dX1_run_41 : decode cX1_run 41 = .ok (.istore 7, 2) := by decide +kernel
theorem dX1_run_43 : decode cX1_run 43 = .ok (.iload 7, 2) := by decide +kernel
theorem dX1_run_45 : decode cX1_run 45 = .ok (.iload 4, 2) := by decide +kernel
theorem dX1_run_47 : decode cX1_run 47 = .ok (.imul, 1) := by decide +kernel
theorem dX1_run_48 : decode cX1_run 48 = .ok (.aload_n 1, 1) := by decide +kernel
theorem dX1_run_49 : decode cX1_run 49 = .ok (.getfield 57, 3) := by decide +kernel
theorem dX1_run_52 : decode cX1_run 52 = .ok (.idiv, 1) := by decide +kernel
theorem dX1_run_53 : decode cX1_run 53 = .ok (.istore 8, 2) := by decide +kernel
theorem dX1_run_55 : decode cX1_run 55 = .ok (.iload 7, 2) := by decide +kernel
theorem dX1_run_57 : decode cX1_run 57 = .ok (.iconst 1, 1) := by decide +kernel
theorem dX1_run_58 : decode cX1_run 58 = .ok (.iadd, 1) := by decide +kernel
theorem dX1_run_59 : decode cX1_run 59 = .ok (.iload 4, 2) := by decide +kernel
theorem dX1_run_61 : decode cX1_run 61 = .ok (.imul, 1) := by decide +kernel
theorem dX1_run_62 : decode cX1_run 62 = .ok (.aload_n 1, 1) := by decide +kernel
theorem dX1_run_63 : decode cX1_run 63 = .ok (.getfield 57, 3) := by decide +kernel
theorem dX1_run_66 : decode cX1_run 66 = .ok (.idiv, 1) := by decide +kernel
theorem dX1_run_67 : decode cX1_run 67 = .ok (.istore 9, 2) := by decide +kernel
theorem dX1_run_69 : decode cX1_run 69 = .ok (.iload 7, 2) := by decide +kernel
theorem dX1_run_71 : decode cX1_run 71 = .ok (.aload_n 1, 1) := by decide +kernel
theorem dX1_run_72 : decode cX1_run 72 = .ok (.getfield 62, 3) := by decide +kernel
theorem dX1_run_75 : decode cX1_run 75 = .ok (.iload 5, 2) := by decide +kernel
theorem dX1_run_77 : decode cX1_run 77 = .ok (.iaload, 1) := by decide +kernel
theorem dX1_run_78 : decode cX1_run 78 = .ok (.if_icmp .ge 25, 3) := by decide +kernel
theorem dX1_run_81 : decode cX1_run 81 = .ok (.aload_n 0, 1) := by decide +kernel
theorem dX1_run_82 : decode cX1_run 82 = .ok (.aload_n 3, 1) := by decide +kernel
theorem dX1_run_83 : decode cX1_run 83 = .ok (.iload 8, 2) := by decide +kernel
theorem dX1_run_85 : decode cX1_run 85 = .ok (.iload 9, 2) := by decide +kernel
theorem dX1_run_87 : decode cX1_run 87 = .ok (.aload_n 1, 1) := by decide +kernel
theorem dX1_run_88 : decode cX1_run 88 = .ok (.getfield 65, 3) := by decide +kernel
theorem dX1_run_91 : decode cX1_run 91 = .ok (.iload 5, 2) := by decide +kernel
theorem dX1_run_93 : decode cX1_run 93 = .ok (.iload 6, 2) := by decide +kernel
theorem dX1_run_95 : decode cX1_run 95 = .ok (.iadd, 1) := by decide +kernel
theorem dX1_run_96 : decode cX1_run 96 = .ok (.iaload, 1) := by decide +kernel
theorem dX1_run_97 : decode cX1_run 97 = .ok (.invokevirtual 68, 3) := by decide +kernel
theorem dX1_run_100 : decode cX1_run 100 = .ok (.goto 22, 3) := by decide +kernel
theorem dX1_run_103 : decode cX1_run 103 = .ok (.aload_n 0, 1) := by decide +kernel
theorem dX1_run_104 : decode cX1_run 104 = .ok (.aload_n 3, 1) := by decide +kernel
theorem dX1_run_105 : decode cX1_run 105 = .ok (.iload 8, 2) := by decide +kernel
theorem dX1_run_107 : decode cX1_run 107 = .ok (.iload 9, 2) := by decide +kernel
theorem dX1_run_109 : decode cX1_run 109 = .ok (.aload_n 1, 1) := by decide +kernel
theorem dX1_run_110 : decode cX1_run 110 = .ok (.getfield 65, 3) := by decide +kernel
theorem dX1_run_113 : decode cX1_run 113 = .ok (.iload 5, 2) := by decide +kernel
theorem dX1_run_115 : decode cX1_run 115 = .ok (.iload 6, 2) := by decide +kernel
theorem dX1_run_117 : decode cX1_run 117 = .ok (.iadd, 1) := by decide +kernel
theorem dX1_run_118 : decode cX1_run 118 = .ok (.iaload, 1) := by decide +kernel
theorem dX1_run_119 : decode cX1_run 119 = .ok (.invokevirtual 72, 3) := by decide +kernel
theorem dX1_run_122 : decode cX1_run 122 = .ok (.aload_n 0, 1) := by decide +kernel
theorem dX1_run_123 : decode cX1_run 123 = .ok (.getfield 54, 3) := by decide +kernel
theorem dX1_run_126 : decode cX1_run 126 = .ok (.ifCond .le 24, 3) := by decide +kernel
theorem dX1_run_129 : decode cX1_run 129 = .ok (.aload_n 0, 1) := by decide +kernel
theorem dX1_run_130 : decode cX1_run 130 = .ok (.getfield 18, 3) := by decide +kernel
theorem dX1_run_133 : decode cX1_run 133 = .ok (.aload_n 0, 1) := by decide +kernel
theorem dX1_run_134 : decode cX1_run 134 = .ok (.getfield 54, 3) := by decide +kernel
theorem dX1_run_137 : decode cX1_run 137 = .ok (.iconst 1, 1) := by decide +kernel
theorem dX1_run_138 : decode cX1_run 138 = .ok (.isub, 1) := by decide +kernel
theorem dX1_run_139 : decode cX1_run 139 = .ok (.aload_n 1, 1) := by decide +kernel
theorem dX1_run_140 : decode cX1_run 140 = .ok (.getfield 75, 3) := by decide +kernel
theorem dX1_run_143 : decode cX1_run 143 = .ok (.iload 5, 2) := by decide +kernel
theorem dX1_run_145 : decode cX1_run 145 = .ok (.iload 6, 2) := by decide +kernel
theorem dX1_run_147 : decode cX1_run 147 = .ok (.iadd, 1) := by decide +kernel
theorem dX1_run_148 : decode cX1_run 148 = .ok (.iaload, 1) := by decide +kernel
theorem dX1_run_149 : decode cX1_run 149 = .ok (.iastore, 1) := by decide +kernel
theorem dX1_run_150 : decode cX1_run 150 = .ok (.iinc 6 1, 3) := by decide +kernel
theorem dX1_run_153 : decode cX1_run 153 = .ok (.goto (-131), 3) := by decide +kernel
theorem dX1_run_156 : decode cX1_run 156 = .ok (.aload_n 0, 1) := by decide +kernel
theorem dX1_run_157 : decode cX1_run 157 = .ok (.getfield 43, 3) := by decide +kernel
theorem dX1_run_160 : decode cX1_run 160 = .ok (.invokevirtual 78, 3) := by decide +kernel
theorem dX1_run_163 : decode cX1_run 163 = .ok (.aload_n 0, 1) := by decide +kernel
theorem dX1_run_164 : decode cX1_run 164 = .ok (.iconst 0, 1) := by decide +kernel
theorem dX1_run_165 : decode cX1_run 165 = .ok (.iconst 0, 1) := by decide +kernel
theorem dX1_run_166 : decode cX1_run 166 = .ok (.invokevirtual 81, 3) := by decide +kernel
theorem dX1_run_169 : decode cX1_run 169 = .ok (.return_, 1) := by decide +kernel
theorem dX1_planLeftwards_0 : decode cX1_planLeftwards 0 = .ok (.iload_n 3, 1) := by decide +kernel
theorem dX1_planLeftwards_1 : decode cX1_planLeftwards 1 = .ok (.iconst 1, 1) := by decide +kernel
theorem dX1_planLeftwards_2 : decode cX1_planLeftwards 2 = .ok (.isub, 1) := by decide +kernel
theorem dX1_planLeftwards_3 : decode cX1_planLeftwards 3 = .ok (.istore 5, 2) := by decide +kernel
theorem dX1_planLeftwards_5 : decode cX1_planLeftwards 5 = .ok (.iload 5, 2) := by decide +kernel
theorem dX1_planLeftwards_7 : decode cX1_planLeftwards 7 = .ok (.iload_n 2, 1) := by decide +kernel
theorem dX1_planLeftwards_8 : decode cX1_planLeftwards 8 = .ok (.if_icmp .lt 20, 3) := by decide +kernel
theorem dX1_planLeftwards_11 : decode cX1_planLeftwards 11 = .ok (.aload_n 0, 1) := by decide +kernel
theorem dX1_planLeftwards_12 : decode cX1_planLeftwards 12 = .ok (.aload_n 1, 1) := by decide +kernel
theorem dX1_planLeftwards_13 : decode cX1_planLeftwards 13 = .ok (.iload 5, 2) := by decide +kernel
theorem dX1_planLeftwards_15 : decode cX1_planLeftwards 15 = .ok (.iaload, 1) := by decide +kernel
theorem dX1_planLeftwards_16 : decode cX1_planLeftwards 16 = .ok (.iconst 0, 1) := by decide +kernel
theorem dX1_planLeftwards_17 : decode cX1_planLeftwards 17 = .ok (.iload 4, 2) := by decide +kernel
theorem dX1_planLeftwards_19 : decode cX1_planLeftwards 19 = .ok (.invokevirtual 85, 3) := by decide +kernel
theorem dX1_planLeftwards_22 : decode cX1_planLeftwards 22 = .ok (.iinc 5 (-1), 3) := by decide +kernel
theorem dX1_planLeftwards_25 : decode cX1_planLeftwards 25 = .ok (.goto (-20), 3) := by decide +kernel
theorem dX1_planLeftwards_28 : decode cX1_planLeftwards 28 = .ok (.return_, 1) := by decide +kernel
theorem dX1_planRightwards_0 : decode cX1_planRightwards 0 = .ok (.iload_n 2, 1) := by decide +kernel
theorem dX1_planRightwards_1 : decode cX1_planRightwards 1 = .ok (.istore 5, 2) := by decide +kernel
theorem dX1_planRightwards_3 : decode cX1_planRightwards 3 = .ok (.iload 5, 2) := by decide +kernel
theorem dX1_planRightwards_5 : decode cX1_planRightwards 5 = .ok (.iload_n 3, 1) := by decide +kernel
theorem dX1_planRightwards_6 : decode cX1_planRightwards 6 = .ok (.if_icmp .ge 20, 3) := by decide +kernel
theorem dX1_planRightwards_9 : decode cX1_planRightwards 9 = .ok (.aload_n 0, 1) := by decide +kernel
theorem dX1_planRightwards_10 : decode cX1_planRightwards 10 = .ok (.aload_n 1, 1) := by decide +kernel
theorem dX1_planRightwards_11 : decode cX1_planRightwards 11 = .ok (.iload 5, 2) := by decide +kernel
theorem dX1_planRightwards_13 : decode cX1_planRightwards 13 = .ok (.iaload, 1) := by decide +kernel
theorem dX1_planRightwards_14 : decode cX1_planRightwards 14 = .ok (.iconst 1, 1) := by decide +kernel
theorem dX1_planRightwards_15 : decode cX1_planRightwards 15 = .ok (.iload 4, 2) := by decide +kernel
theorem dX1_planRightwards_17 : decode cX1_planRightwards 17 = .ok (.invokevirtual 85, 3) := by decide +kernel
theorem dX1_planRightwards_20 : decode cX1_planRightwards 20 = .ok (.iinc 5 1, 3) := by decide +kernel
theorem dX1_planRightwards_23 : decode cX1_planRightwards 23 = .ok (.goto (-20), 3) := by decide +kernel
theorem dX1_planRightwards_26 : decode cX1_planRightwards 26 = .ok (.return_, 1) := by decide +kernel
theorem dX1_planLetter_0 : decode cX1_planLetter 0 = .ok (.aload_n 0, 1) := by decide +kernel
theorem dX1_planLetter_1 : decode cX1_planLetter 1 = .ok (.getfield 54, 3) := by decide +kernel
theorem dX1_planLetter_4 : decode cX1_planLetter 4 = .ok (.bipush 24, 2) := by decide +kernel
theorem dX1_planLetter_6 : decode cX1_planLetter 6 = .ok (.if_icmp .ge 53, 3) := by decide +kernel
theorem dX1_planLetter_9 : decode cX1_planLetter 9 = .ok (.aload_n 0, 1) := by decide +kernel
theorem dX1_planLetter_10 : decode cX1_planLetter 10 = .ok (.getfield 9, 3) := by decide +kernel
theorem dX1_planLetter_13 : decode cX1_planLetter 13 = .ok (.aload_n 0, 1) := by decide +kernel
theorem dX1_planLetter_14 : decode cX1_planLetter 14 = .ok (.getfield 54, 3) := by decide +kernel
theorem dX1_planLetter_17 : decode cX1_planLetter 17 = .ok (.iload_n 1, 1) := by decide +kernel
theorem dX1_planLetter_18 : decode cX1_planLetter 18 = .ok (.iastore, 1) := by decide +kernel
theorem dX1_planLetter_19 : decode cX1_planLetter 19 = .ok (.aload_n 0, 1) := by decide +kernel
theorem dX1_planLetter_20 : decode cX1_planLetter 20 = .ok (.getfield 15, 3) := by decide +kernel
theorem dX1_planLetter_23 : decode cX1_planLetter 23 = .ok (.aload_n 0, 1) := by decide +kernel
theorem dX1_planLetter_24 : decode cX1_planLetter 24 = .ok (.getfield 54, 3) := by decide +kernel
theorem dX1_planLetter_27 : decode cX1_planLetter 27 = .ok (.iload_n 2, 1) := by decide +kernel
theorem dX1_planLetter_28 : decode cX1_planLetter 28 = .ok (.iastore, 1) := by decide +kernel
theorem dX1_planLetter_29 : decode cX1_planLetter 29 = .ok (.aload_n 0, 1) := by decide +kernel
theorem dX1_planLetter_30 : decode cX1_planLetter 30 = .ok (.getfield 18, 3) := by decide +kernel
theorem dX1_planLetter_33 : decode cX1_planLetter 33 = .ok (.aload_n 0, 1) := by decide +kernel
theorem dX1_planLetter_34 : decode cX1_planLetter 34 = .ok (.getfield 54, 3) := by decide +kernel
theorem dX1_planLetter_37 : decode cX1_planLetter 37 = .ok (.iconst 0, 1) := by decide +kernel
theorem dX1_planLetter_38 : decode cX1_planLetter 38 = .ok (.iastore, 1) := by decide +kernel
theorem dX1_planLetter_39 : decode cX1_planLetter 39 = .ok (.aload_n 0, 1) := by decide +kernel
theorem dX1_planLetter_40 : decode cX1_planLetter 40 = .ok (.getfield 21, 3) := by decide +kernel
theorem dX1_planLetter_43 : decode cX1_planLetter 43 = .ok (.aload_n 0, 1) := by decide +kernel
theorem dX1_planLetter_44 : decode cX1_planLetter 44 = .ok (.getfield 54, 3) := by decide +kernel
theorem dX1_planLetter_47 : decode cX1_planLetter 47 = .ok (.iload_n 3, 1) := by decide +kernel
theorem dX1_planLetter_48 : decode cX1_planLetter 48 = .ok (.iastore, 1) := by decide +kernel
theorem dX1_planLetter_49 : decode cX1_planLetter 49 = .ok (.aload_n 0, 1) := by decide +kernel
theorem dX1_planLetter_50 : decode cX1_planLetter 50 = .ok (.dup, 1) := by decide +kernel
theorem dX1_planLetter_51 : decode cX1_planLetter 51 = .ok (.getfield 54, 3) := by decide +kernel
theorem dX1_planLetter_54 : decode cX1_planLetter 54 = .ok (.iconst 1, 1) := by decide +kernel
theorem dX1_planLetter_55 : decode cX1_planLetter 55 = .ok (.iadd, 1) := by decide +kernel
theorem dX1_planLetter_56 : decode cX1_planLetter 56 = .ok (.putfield 54, 3) := by decide +kernel
theorem dX1_planLetter_59 : decode cX1_planLetter 59 = .ok (.return_, 1) := by decide +kernel
theorem dX1_goOn_0 : decode cX1_goOn 0 = .ok (.iload_n 1, 1) := by decide +kernel
theorem dX1_goOn_1 : decode cX1_goOn 1 = .ok (.aload_n 0, 1) := by decide +kernel
theorem dX1_goOn_2 : decode cX1_goOn 2 = .ok (.getfield 54, 3) := by decide +kernel
theorem dX1_goOn_5 : decode cX1_goOn 5 = .ok (.if_icmp .lt 10, 3) := by decide +kernel
theorem dX1_goOn_8 : decode cX1_goOn 8 = .ok (.aload_n 0, 1) := by decide +kernel
theorem dX1_goOn_9 : decode cX1_goOn 9 = .ok (.iload_n 1, 1) := by decide +kernel
theorem dX1_goOn_10 : decode cX1_goOn 10 = .ok (.iload_n 2, 1) := by decide +kernel
theorem dX1_goOn_11 : decode cX1_goOn 11 = .ok (.invokevirtual 89, 3) := by decide +kernel
theorem dX1_goOn_14 : decode cX1_goOn 14 = .ok (.return_, 1) := by decide +kernel
theorem dX1_goOn_15 : decode cX1_goOn 15 = .ok (.iconst 0, 1) := by decide +kernel
theorem dX1_goOn_16 : decode cX1_goOn 16 = .ok (.istore_n 3, 1) := by decide +kernel
theorem dX1_goOn_17 : decode cX1_goOn 17 = .ok (.iload_n 3, 1) := by decide +kernel
theorem dX1_goOn_18 : decode cX1_goOn 18 = .ok (.bipush 8, 2) := by decide +kernel
theorem dX1_goOn_20 : decode cX1_goOn 20 = .ok (.if_icmp .ge 98, 3) := by decide +kernel
theorem dX1_goOn_23 : decode cX1_goOn 23 = .ok (.iload_n 3, 1) := by decide +kernel
theorem dX1_goOn_24 : decode cX1_goOn 24 = .ok (.aload_n 0, 1) := by decide +kernel
theorem dX1_goOn_25 : decode cX1_goOn 25 = .ok (.getfield 9, 3) := by decide +kernel
theorem dX1_goOn_28 : decode cX1_goOn 28 = .ok (.iload_n 1, 1) := by decide +kernel
theorem dX1_goOn_29 : decode cX1_goOn 29 = .ok (.iaload, 1) := by decide +kernel
theorem dX1_goOn_30 : decode cX1_goOn 30 = .ok (.if_icmp .ne 7, 3) := by decide +kernel
theorem dX1_goOn_33 : decode cX1_goOn 33 = .ok (.iload_n 2, 1) := by decide +kernel
theorem dX1_goOn_34 : decode cX1_goOn 34 = .ok (.goto 6, 3) := by decide +kernel
theorem dX1_goOn_37 : decode cX1_goOn 37 = .ok (.iload_n 2, 1) := by decide +kernel
theorem dX1_goOn_38 : decode cX1_goOn 38 = .ok (.iconst 1, 1) := by decide +kernel
theorem dX1_goOn_39 : decode cX1_goOn 39 = .ok (.iadd, 1) := by decide +kernel
theorem dX1_goOn_40 : decode cX1_goOn 40 = .ok (.istore 4, 2) := by decide +kernel
theorem dX1_goOn_42 : decode cX1_goOn 42 = .ok (.aload_n 0, 1) := by decide +kernel
theorem dX1_goOn_43 : decode cX1_goOn 43 = .ok (.getfield 30, 3) := by decide +kernel
theorem dX1_goOn_46 : decode cX1_goOn 46 = .ok (.iload_n 3, 1) := by decide +kernel
theorem dX1_goOn_47 : decode cX1_goOn 47 = .ok (.invokevirtual 92, 3) := by decide +kernel
theorem dX1_goOn_50 : decode cX1_goOn 50 = .ok (.ifCond .eq 62, 3) := by decide +kernel
theorem dX1_goOn_53 : decode cX1_goOn 53 = .ok (.iload 4, 2) := by decide +kernel
theorem dX1_goOn_55 : decode cX1_goOn 55 = .ok (.aload_n 0, 1) := by decide +kernel
theorem dX1_goOn_56 : decode cX1_goOn 56 = .ok (.getfield 21, 3) := by decide +kernel
theorem dX1_goOn_59 : decode cX1_goOn 59 = .ok (.iload_n 1, 1) := by decide +kernel
theorem dX1_goOn_60 : decode cX1_goOn 60 = .ok (.iaload, 1) := by decide +kernel
theorem dX1_goOn_61 : decode cX1_goOn 61 = .ok (.if_icmp .gt 51, 3) := by decide +kernel
theorem dX1_goOn_64 : decode cX1_goOn 64 = .ok (.aload_n 0, 1) := by decide +kernel
theorem dX1_goOn_65 : decode cX1_goOn 65 = .ok (.dup, 1) := by decide +kernel
theorem dX1_goOn_66 : decode cX1_goOn 66 = .ok (.getfield 47, 3) := by decide +kernel
theorem dX1_goOn_69 : decode cX1_goOn 69 = .ok (.iconst 1, 1) := by decide +kernel
theorem dX1_goOn_70 : decode cX1_goOn 70 = .ok (.iadd, 1) := by decide +kernel
theorem dX1_goOn_71 : decode cX1_goOn 71 = .ok (.putfield 47, 3) := by decide +kernel
theorem dX1_goOn_74 : decode cX1_goOn 74 = .ok (.aload_n 0, 1) := by decide +kernel
theorem dX1_goOn_75 : decode cX1_goOn 75 = .ok (.getfield 43, 3) := by decide +kernel
theorem dX1_goOn_78 : decode cX1_goOn 78 = .ok (.iload_n 1, 1) := by decide +kernel
theorem dX1_goOn_79 : decode cX1_goOn 79 = .ok (.iload_n 3, 1) := by decide +kernel
theorem dX1_goOn_80 : decode cX1_goOn 80 = .ok (.aload_n 0, 1) := by decide +kernel
theorem dX1_goOn_81 : decode cX1_goOn 81 = .ok (.getfield 15, 3) := by decide +kernel
theorem dX1_goOn_84 : decode cX1_goOn 84 = .ok (.iload_n 1, 1) := by decide +kernel
theorem dX1_goOn_85 : decode cX1_goOn 85 = .ok (.iaload, 1) := by decide +kernel
theorem dX1_goOn_86 : decode cX1_goOn 86 = .ok (.invokevirtual 98, 3) := by decide +kernel
theorem dX1_goOn_89 : decode cX1_goOn 89 = .ok (.ifCond .le 23, 3) := by decide +kernel
theorem dX1_goOn_92 : decode cX1_goOn 92 = .ok (.iload 4, 2) := by decide +kernel
theorem dX1_goOn_94 : decode cX1_goOn 94 = .ok (.aload_n 0, 1) := by decide +kernel
theorem dX1_goOn_95 : decode cX1_goOn 95 = .ok (.getfield 18, 3) := by decide +kernel
theorem dX1_goOn_98 : decode cX1_goOn 98 = .ok (.iload_n 1, 1) := by decide +kernel
theorem dX1_goOn_99 : decode cX1_goOn 99 = .ok (.iaload, 1) := by decide +kernel
theorem dX1_goOn_100 : decode cX1_goOn 100 = .ok (.if_icmp .lt 12, 3) := by decide +kernel
theorem dX1_goOn_103 : decode cX1_goOn 103 = .ok (.aload_n 0, 1) := by decide +kernel
theorem dX1_goOn_104 : decode cX1_goOn 104 = .ok (.iload_n 1, 1) := by decide +kernel
theorem dX1_goOn_105 : decode cX1_goOn 105 = .ok (.iconst 1, 1) := by decide +kernel
theorem dX1_goOn_106 : decode cX1_goOn 106 = .ok (.iadd, 1) := by decide +kernel
theorem dX1_goOn_107 : decode cX1_goOn 107 = .ok (.iload 4, 2) := by decide +kernel
theorem dX1_goOn_109 : decode cX1_goOn 109 = .ok (.invokevirtual 81, 3) := by decide +kernel
theorem dX1_goOn_112 : decode cX1_goOn 112 = .ok (.iinc 3 1, 3) := by decide +kernel
theorem dX1_goOn_115 : decode cX1_goOn 115 = .ok (.goto (-98), 3) := by decide +kernel
theorem dX1_goOn_118 : decode cX1_goOn 118 = .ok (.return_, 1) := by decide +kernel
theorem dX1_noteFound_0 : decode cX1_noteFound 0 = .ok (.aload_n 0, 1) := by decide +kernel
theorem dX1_noteFound_1 : decode cX1_noteFound 1 = .ok (.getfield 43, 3) := by decide +kernel
theorem dX1_noteFound_4 : decode cX1_noteFound 4 = .ok (.getfield 102, 3) := by decide +kernel
theorem dX1_noteFound_7 : decode cX1_noteFound 7 = .ok (.iload_n 1, 1) := by decide +kernel
theorem dX1_noteFound_8 : decode cX1_noteFound 8 = .ok (.iaload, 1) := by decide +kernel
theorem dX1_noteFound_9 : decode cX1_noteFound 9 = .ok (.istore_n 3, 1) := by decide +kernel
theorem dX1_noteFound_10 : decode cX1_noteFound 10 = .ok (.aload_n 0, 1) := by decide +kernel
theorem dX1_noteFound_11 : decode cX1_noteFound 11 = .ok (.getfield 43, 3) := by decide +kernel
theorem dX1_noteFound_14 : decode cX1_noteFound 14 = .ok (.getfield 105, 3) := by decide +kernel
theorem dX1_noteFound_17 : decode cX1_noteFound 17 = .ok (.iload_n 1, 1) := by decide +kernel
theorem dX1_noteFound_18 : decode cX1_noteFound 18 = .ok (.iaload, 1) := by decide +kernel
theorem dX1_noteFound_19 : decode cX1_noteFound 19 = .ok (.istore 4, 2) := by decide +kernel
theorem dX1_noteFound_21 : decode cX1_noteFound 21 = .ok (.iload_n 3, 1) := by decide +kernel
theorem dX1_noteFound_22 : decode cX1_noteFound 22 = .ok (.istore 5, 2) := by decide +kernel
theorem dX1_noteFound_24 : decode cX1_noteFound 24 = .ok (.iload 5, 2) := by decide +kernel
theorem dX1_noteFound_26 : decode cX1_noteFound 26 = .ok (.iload_n 3, 1) := by decide +kernel
theorem dX1_noteFound_27 : decode cX1_noteFound 27 = .ok (.iload 4, 2) := by decide +kernel
theorem dX1_noteFound_29 : decode cX1_noteFound 29 = .ok (.iadd, 1) := by decide +kernel
theorem dX1_noteFound_30 : decode cX1_noteFound 30 = .ok (.if_icmp .ge 61, 3) := by decide +kernel
theorem dX1_noteFound_33 : decode cX1_noteFound 33 = .ok (.aload_n 0, 1) := by decide +kernel
theorem dX1_noteFound_34 : decode cX1_noteFound 34 = .ok (.getfield 34, 3) := by decide +kernel
theorem dX1_noteFound_37 : decode cX1_noteFound 37 = .ok (.getfield 108, 3) := by decide +kernel
theorem dX1_noteFound_40 : decode cX1_noteFound 40 = .ok (.iload 5, 2) := by decide +kernel
theorem dX1_noteFound_42 : decode cX1_noteFound 42 = .ok (.iaload, 1) := by decide +kernel
theorem dX1_noteFound_43 : decode cX1_noteFound 43 = .ok (.istore 6, 2) := by decide +kernel
theorem dX1_noteFound_45 : decode cX1_noteFound 45 = .ok (.aload_n 0, 1) := by decide +kernel
theorem dX1_noteFound_46 : decode cX1_noteFound 46 = .ok (.getfield 24, 3) := by decide +kernel
theorem dX1_noteFound_49 : decode cX1_noteFound 49 = .ok (.iload 6, 2) := by decide +kernel
theorem dX1_noteFound_51 : decode cX1_noteFound 51 = .ok (.iaload, 1) := by decide +kernel
theorem dX1_noteFound_52 : decode cX1_noteFound 52 = .ok (.ifCond .eq 14, 3) := by decide +kernel
theorem dX1_noteFound_55 : decode cX1_noteFound 55 = .ok (.iload_n 2, 1) := by decide +kernel
theorem dX1_noteFound_56 : decode cX1_noteFound 56 = .ok (.aload_n 0, 1) := by decide +kernel
theorem dX1_noteFound_57 : decode cX1_noteFound 57 = .ok (.getfield 27, 3) := by decide +kernel
theorem dX1_noteFound_60 : decode cX1_noteFound 60 = .ok (.iload 6, 2) := by decide +kernel
theorem dX1_noteFound_62 : decode cX1_noteFound 62 = .ok (.iaload, 1) := by decide +kernel
theorem dX1_noteFound_63 : decode cX1_noteFound 63 = .ok (.if_icmp .ge 11, 3) := by decide +kernel
theorem dX1_noteFound_66 : decode cX1_noteFound 66 = .ok (.aload_n 0, 1) := by decide +kernel
theorem dX1_noteFound_67 : decode cX1_noteFound 67 = .ok (.getfield 27, 3) := by decide +kernel
theorem dX1_noteFound_70 : decode cX1_noteFound 70 = .ok (.iload 6, 2) := by decide +kernel
theorem dX1_noteFound_72 : decode cX1_noteFound 72 = .ok (.iload_n 2, 1) := by decide +kernel
theorem dX1_noteFound_73 : decode cX1_noteFound 73 = .ok (.iastore, 1) := by decide +kernel
theorem dX1_noteFound_74 : decode cX1_noteFound 74 = .ok (.aload_n 0, 1) := by decide +kernel
theorem dX1_noteFound_75 : decode cX1_noteFound 75 = .ok (.getfield 24, 3) := by decide +kernel
theorem dX1_noteFound_78 : decode cX1_noteFound 78 = .ok (.iload 6, 2) := by decide +kernel
theorem dX1_noteFound_80 : decode cX1_noteFound 80 = .ok (.dup2, 1) := by decide +kernel
theorem dX1_noteFound_81 : decode cX1_noteFound 81 = .ok (.iaload, 1) := by decide +kernel
theorem dX1_noteFound_82 : decode cX1_noteFound 82 = .ok (.iconst 1, 1) := by decide +kernel
theorem dX1_noteFound_83 : decode cX1_noteFound 83 = .ok (.iadd, 1) := by decide +kernel
theorem dX1_noteFound_84 : decode cX1_noteFound 84 = .ok (.iastore, 1) := by decide +kernel
theorem dX1_noteFound_85 : decode cX1_noteFound 85 = .ok (.iinc 5 1, 3) := by decide +kernel
theorem dX1_noteFound_88 : decode cX1_noteFound 88 = .ok (.goto (-64), 3) := by decide +kernel
theorem dX1_noteFound_91 : decode cX1_noteFound 91 = .ok (.aload_n 0, 1) := by decide +kernel
theorem dX1_noteFound_92 : decode cX1_noteFound 92 = .ok (.dup, 1) := by decide +kernel
theorem dX1_noteFound_93 : decode cX1_noteFound 93 = .ok (.getfield 51, 3) := by decide +kernel
theorem dX1_noteFound_96 : decode cX1_noteFound 96 = .ok (.iload 4, 2) := by decide +kernel
theorem dX1_noteFound_98 : decode cX1_noteFound 98 = .ok (.iadd, 1) := by decide +kernel
theorem dX1_noteFound_99 : decode cX1_noteFound 99 = .ok (.putfield 51, 3) := by decide +kernel
theorem dX1_noteFound_102 : decode cX1_noteFound 102 = .ok (.return_, 1) := by decide +kernel
theorem dX2_init_0 : decode cX2_init 0 = .ok (.aload_n 0, 1) := by decide +kernel
theorem dX2_init_1 : decode cX2_init 1 = .ok (.invokespecial 3, 3) := by decide +kernel
theorem dX2_init_4 : decode cX2_init 4 = .ok (.aload_n 0, 1) := by decide +kernel
theorem dX2_init_5 : decode cX2_init 5 = .ok (.sipush 240, 3) := by decide +kernel
theorem dX2_init_8 : decode cX2_init 8 = .ok (.newarray .int, 2) := by decide +kernel
theorem dX2_init_10 : decode cX2_init 10 = .ok (.putfield 9, 3) := by decide +kernel
theorem dX2_init_13 : decode cX2_init 13 = .ok (.aload_n 0, 1) := by decide +kernel
theorem dX2_init_14 : decode cX2_init 14 = .ok (.sipush 240, 3) := by decide +kernel
theorem dX2_init_17 : decode cX2_init 17 = .ok (.newarray .int, 2) := by decide +kernel
theorem dX2_init_19 : decode cX2_init 19 = .ok (.putfield 15, 3) := by decide +kernel
theorem dX2_init_22 : decode cX2_init 22 = .ok (.aload_n 0, 1) := by decide +kernel
theorem dX2_init_23 : decode cX2_init 23 = .ok (.sipush 240, 3) := by decide +kernel
theorem dX2_init_26 : decode cX2_init 26 = .ok (.newarray .int, 2) := by decide +kernel
theorem dX2_init_28 : decode cX2_init 28 = .ok (.putfield 18, 3) := by decide +kernel
theorem dX2_init_31 : decode cX2_init 31 = .ok (.aload_n 0, 1) := by decide +kernel
theorem dX2_init_32 : decode cX2_init 32 = .ok (.aload_n 1, 1) := by decide +kernel
theorem dX2_init_33 : decode cX2_init 33 = .ok (.putfield 21, 3) := by decide +kernel
theorem dX2_init_36 : decode cX2_init 36 = .ok (.aload_n 0, 1) := by decide +kernel
theorem dX2_init_37 : decode cX2_init 37 = .ok (.aload_n 2, 1) := by decide +kernel
theorem dX2_init_38 : decode cX2_init 38 = .ok (.putfield 25, 3) := by decide +kernel
theorem dX2_init_41 : decode cX2_init 41 = .ok (.return_, 1) := by decide +kernel
theorem dX2_lettersAlike_0 : decode cX2_lettersAlike 0 = .ok (.iload_n 1, 1) := by decide +kernel
theorem dX2_lettersAlike_1 : decode cX2_lettersAlike 1 = .ok (.ifCond .le 14, 3) := by decide +kernel
theorem dX2_lettersAlike_4 : decode cX2_lettersAlike 4 = .ok (.iload_n 1, 1) := by decide +kernel
theorem dX2_lettersAlike_5 : decode cX2_lettersAlike 5 = .ok (.aload_n 0, 1) := by decide +kernel
theorem dX2_lettersAlike_6 : decode cX2_lettersAlike 6 = .ok (.getfield 21, 3) := by decide +kernel
theorem dX2_lettersAlike_9 : decode cX2_lettersAlike 9 = .ok (.getfield 29, 3) := by decide +kernel
theorem dX2_lettersAlike_12 : decode cX2_lettersAlike 12 = .ok (.if_icmp .le 5, 3) := by decide +kernel
theorem dX2_lettersAlike_15 : decode cX2_lettersAlike 15 = .ok (.iconst 0, 1) := by decide +kernel
theorem dX2_lettersAlike_16 : decode cX2_lettersAlike 16 = .ok (.ireturn, 1) := by decide +kernel
theorem dX2_lettersAlike_17 : decode cX2_lettersAlike 17 = .ok (.aload_n 0, 1) := by decide +kernel
theorem dX2_lettersAlike_18 : decode cX2_lettersAlike 18 = .ok (.getfield 25, 3) := by decide +kernel
theorem dX2_lettersAlike_21 : decode cX2_lettersAlike 21 = .ok (.getfield 35, 3) := by decide +kernel
theorem dX2_lettersAlike_24 : decode cX2_lettersAlike 24 = .ok (.iload_n 1, 1) := by decide +kernel
theorem dX2_lettersAlike_25 : decode cX2_lettersAlike 25 = .ok (.iaload, 1) := by decide +kernel
theorem dX2_lettersAlike_26 : decode cX2_lettersAlike 26 = .ok (.aload_n 0, 1) := by decide +kernel
theorem dX2_lettersAlike_27 : decode cX2_lettersAlike 27 = .ok (.getfield 21, 3) := by decide +kernel
theorem dX2_lettersAlike_30 : decode cX2_lettersAlike 30 = .ok (.getfield 40, 3) := by decide +kernel
theorem dX2_lettersAlike_33 : decode cX2_lettersAlike 33 = .ok (.aload_n 0, 1) := by decide +kernel
theorem dX2_lettersAlike_34 : decode cX2_lettersAlike 34 = .ok (.getfield 25, 3) := by decide +kernel
theorem dX2_lettersAlike_37 : decode cX2_lettersAlike 37 = .ok (.getfield 43, 3) := by decide +kernel
theorem dX2_lettersAlike_40 : decode cX2_lettersAlike 40 = .ok (.iload_n 1, 1) := by decide +kernel
theorem dX2_lettersAlike_41 : decode cX2_lettersAlike 41 = .ok (.iaload, 1) := by decide +kernel
theorem dX2_lettersAlike_42 : decode cX2_lettersAlike 42 = .ok (.iaload, 1) := by decide +kernel
theorem dX2_lettersAlike_43 : decode cX2_lettersAlike 43 = .ok (.invokestatic 46, 3) := by decide +kernel
theorem dX2_lettersAlike_46 : decode cX2_lettersAlike 46 = .ok (.ireturn, 1) := by decide +kernel
theorem dX2_listMaximals_0 : decode cX2_listMaximals 0 = .ok (.aload_n 0, 1) := by decide +kernel
theorem dX2_listMaximals_1 : decode cX2_listMaximals 1 = .ok (.iconst 0, 1) := by decide +kernel
theorem dX2_listMaximals_2 : decode cX2_listMaximals 2 = .ok (.putfield 52, 3) := by decide +kernel
theorem dX2_listMaximals_5 : decode cX2_listMaximals 5 = .ok (.iconst 1, 1) := by decide +kernel
theorem dX2_listMaximals_6 : decode cX2_listMaximals 6 = .ok (.istore_n 1, 1) := by decide +kernel
theorem dX2_listMaximals_7 : decode cX2_listMaximals 7 = .ok (.iload_n 1, 1) := by decide +kernel
theorem dX2_listMaximals_8 : decode cX2_listMaximals 8 = .ok (.aload_n 0, 1) := by decide +kernel
theorem dX2_listMaximals_9 : decode cX2_listMaximals 9 = .ok (.getfield 21, 3) := by decide +kernel
theorem dX2_listMaximals_12 : decode cX2_listMaximals 12 = .ok (.getfield 29, 3) := by decide +kernel
theorem dX2_listMaximals_15 : decode cX2_listMaximals 15 = .ok (.if_icmp .ge 24, 3) := by decide +kernel
theorem dX2_listMaximals_18 : decode cX2_listMaximals 18 = .ok (.aload_n 0, 1) := by decide +kernel
theorem dX2_listMaximals_19 : decode cX2_listMaximals 19 = .ok (.getfield 52, 3) := by decide +kernel
theorem dX2_listMaximals_22 : decode cX2_listMaximals 22 = .ok (.istore_n 2, 1) := by decide +kernel
theorem dX2_listMaximals_23 : decode cX2_listMaximals 23 = .ok (.aload_n 0, 1) := by decide +kernel
theorem dX2_listMaximals_24 : decode cX2_listMaximals 24 = .ok (.iload_n 1, 1) := by decide +kernel
theorem dX2_listMaximals_25 : decode cX2_listMaximals 25 = .ok (.invokevirtual 55, 3) := by decide +kernel
theorem dX2_listMaximals_28 : decode cX2_listMaximals 28 = .ok (.aload_n 0, 1) := by decide +kernel
theorem dX2_listMaximals_29 : decode cX2_listMaximals 29 = .ok (.iload_n 2, 1) := by decide +kernel
theorem dX2_listMaximals_30 : decode cX2_listMaximals 30 = .ok (.invokevirtual 59, 3) := by decide +kernel
theorem dX2_listMaximals_33 : decode cX2_listMaximals 33 = .ok (.iinc 1 1, 3) := by decide +kernel
theorem dX2_listMaximals_36 : decode cX2_listMaximals 36 = .ok (.goto (-29), 3) := by decide +kernel
theorem dX2_listMaximals_39 : decode cX2_listMaximals 39 = .ok (.return_, 1) := by decide +kernel
theorem dX2_listFrom_0 : decode cX2_listFrom 0 = .ok (.aload_n 0, 1) := by decide +kernel
theorem dX2_listFrom_1 : decode cX2_listFrom 1 = .ok (.iload_n 1, 1) := by decide +kernel
theorem dX2_listFrom_2 : decode cX2_listFrom 2 = .ok (.invokevirtual 62, 3) := by decide +kernel
theorem dX2_listFrom_5 : decode cX2_listFrom 5 = .ok (.istore_n 2, 1) := by decide +kernel
theorem dX2_listFrom_6 : decode cX2_listFrom 6 = .ok (.aload_n 0, 1) := by decide +kernel
theorem dX2_listFrom_7 : decode cX2_listFrom 7 = .ok (.iload_n 1, 1) := by decide +kernel
theorem dX2_listFrom_8 : decode cX2_listFrom 8 = .ok (.iconst 1, 1) := by decide +kernel
theorem dX2_listFrom_9 : decode cX2_listFrom 9 = .ok (.iadd, 1) := by decide +kernel
theorem dX2_listFrom_10 : decode cX2_listFrom 10 = .ok (.invokevirtual 62, 3) := by decide +kernel
theorem dX2_listFrom_13 : decode cX2_listFrom 13 = .ok (.istore_n 3, 1) := by decide +kernel
theorem dX2_listFrom_14 : decode cX2_listFrom 14 = .ok (.iload_n 1, 1) := by decide +kernel
theorem dX2_listFrom_15 : decode cX2_listFrom 15 = .ok (.iconst 1, 1) := by decide +kernel
theorem dX2_listFrom_16 : decode cX2_listFrom 16 = .ok (.iadd, 1) := by decide +kernel
theorem dX2_listFrom_17 : decode cX2_listFrom 17 = .ok (.istore 4, 2) := by decide +kernel
theorem dX2_listFrom_19 : decode cX2_listFrom 19 = .ok (.iload 4, 2) := by decide +kernel
theorem dX2_listFrom_21 : decode cX2_listFrom 21 = .ok (.aload_n 0, 1) := by decide +kernel
theorem dX2_listFrom_22 : decode cX2_listFrom 22 = .ok (.getfield 21, 3) := by decide +kernel
theorem dX2_listFrom_25 : decode cX2_listFrom 25 = .ok (.getfield 29, 3) := by decide +kernel
theorem dX2_listFrom_28 : decode cX2_listFrom 28 = .ok (.iconst 1, 1) := by decide +kernel
theorem dX2_listFrom_29 : decode cX2_listFrom 29 = .ok (.iadd, 1) := by decide +kernel
theorem dX2_listFrom_30 : decode cX2_listFrom 30 = .ok (.if_icmp .gt 41, 3) := by decide +kernel
theorem dX2_listFrom_33 : decode cX2_listFrom 33 = .ok (.iload_n 3, 1) := by decide +kernel
theorem dX2_listFrom_34 : decode cX2_listFrom 34 = .ok (.iload_n 2, 1) := by decide +kernel
theorem dX2_listFrom_35 : decode cX2_listFrom 35 = .ok (.if_icmp .le 36, 3) := by decide +kernel
theorem dX2_listFrom_38 : decode cX2_listFrom 38 = .ok (.aload_n 0, 1) := by decide +kernel
theorem dX2_listFrom_39 : decode cX2_listFrom 39 = .ok (.iload 4, 2) := by decide +kernel
theorem dX2_listFrom_41 : decode cX2_listFrom 41 = .ok (.invokevirtual 62, 3) := by decide +kernel
theorem dX2_listFrom_44 : decode cX2_listFrom 44 = .ok (.istore 5, 2) := by decide +kernel
theorem dX2_listFrom_46 : decode cX2_listFrom 46 = .ok (.iload 5, 2) := by decide +kernel
theorem dX2_listFrom_48 : decode cX2_listFrom 48 = .ok (.iload_n 3, 1) := by decide +kernel
theorem dX2_listFrom_49 : decode cX2_listFrom 49 = .ok (.if_icmp .ge 16, 3) := by decide +kernel
theorem dX2_listFrom_52 : decode cX2_listFrom 52 = .ok (.aload_n 0, 1) := by decide +kernel
theorem dX2_listFrom_53 : decode cX2_listFrom 53 = .ok (.iload_n 3, 1) := by decide +kernel
theorem dX2_listFrom_54 : decode cX2_listFrom 54 = .ok (.iload_n 1, 1) := by decide +kernel
theorem dX2_listFrom_55 : decode cX2_listFrom 55 = .ok (.iload 4, 2) := by decide +kernel
theorem dX2_listFrom_57 : decode cX2_listFrom 57 = .ok (.iload_n 1, 1) := by decide +kernel
theorem dX2_listFrom_58 : decode cX2_listFrom 58 = .ok (.isub, 1) := by decide +kernel
theorem dX2_listFrom_59 : decode cX2_listFrom 59 = .ok (.invokevirtual 66, 3) := by decide +kernel
theorem dX2_listFrom_62 : decode cX2_listFrom 62 = .ok (.iload 5, 2) := by decide +kernel
theorem dX2_listFrom_64 : decode cX2_listFrom 64 = .ok (.istore_n 3, 1) := by decide +kernel
theorem dX2_listFrom_65 : decode cX2_listFrom 65 = .ok (.iinc 4 1, 3) := by decide +kernel
theorem dX2_listFrom_68 : decode cX2_listFrom 68 = .ok (.goto (-49), 3) := by decide +kernel
theorem dX2_listFrom_71 : decode cX2_listFrom 71 = .ok (.return_, 1) := by decide +kernel
theorem dX2_addIfMaximal_0 : decode cX2_addIfMaximal 0 = .ok (.aload_n 0, 1) := by decide +kernel
theorem dX2_addIfMaximal_1 : decode cX2_addIfMaximal 1 = .ok (.getfield 25, 3) := by decide +kernel
theorem dX2_addIfMaximal_4 : decode cX2_addIfMaximal 4 = .ok (.iload_n 2, 1) := by decide +kernel
theorem dX2_addIfMaximal_5 : decode cX2_addIfMaximal 5 = .ok (.invokevirtual 70, 3) := by decide +kernel
theorem dX2_addIfMaximal_8 : decode cX2_addIfMaximal 8 = .ok (.istore 4, 2) := by decide +kernel
theorem dX2_addIfMaximal_10 : decode cX2_addIfMaximal 10 = .ok (.iload 4, 2) := by decide +kernel
theorem dX2_addIfMaximal_12 : decode cX2_addIfMaximal 12 = .ok (.iconst 2, 1) := by decide +kernel
theorem dX2_addIfMaximal_13 : decode cX2_addIfMaximal 13 = .ok (.if_icmp .lt 38, 3) := by decide +kernel
theorem dX2_addIfMaximal_16 : decode cX2_addIfMaximal 16 = .ok (.aload_n 0, 1) := by decide +kernel
theorem dX2_addIfMaximal_17 : decode cX2_addIfMaximal 17 = .ok (.getfield 25, 3) := by decide +kernel
theorem dX2_addIfMaximal_20 : decode cX2_addIfMaximal 20 = .ok (.iload_n 2, 1) := by decide +kernel
theorem dX2_addIfMaximal_21 : decode cX2_addIfMaximal 21 = .ok (.iload_n 3, 1) := by decide +kernel
theorem dX2_addIfMaximal_22 : decode cX2_addIfMaximal 22 = .ok (.iadd, 1) := by decide +kernel
theorem dX2_addIfMaximal_23 : decode cX2_addIfMaximal 23 = .ok (.iload 4, 2) := by decide +kernel
theorem dX2_addIfMaximal_25 : decode cX2_addIfMaximal 25 = .ok (.iconst 2, 1) := by decide +kernel
theorem dX2_addIfMaximal_26 : decode cX2_addIfMaximal 26 = .ok (.isub, 1) := by decide +kernel
theorem dX2_addIfMaximal_27 : decode cX2_addIfMaximal 27 = .ok (.invokevirtual 73, 3) := by decide +kernel
theorem dX2_addIfMaximal_30 : decode cX2_addIfMaximal 30 = .ok (.aload_n 0, 1) := by decide +kernel
theorem dX2_addIfMaximal_31 : decode cX2_addIfMaximal 31 = .ok (.getfield 25, 3) := by decide +kernel
theorem dX2_addIfMaximal_34 : decode cX2_addIfMaximal 34 = .ok (.iload_n 2, 1) := by decide +kernel
theorem dX2_addIfMaximal_35 : decode cX2_addIfMaximal 35 = .ok (.iload 4, 2) := by decide +kernel
theorem dX2_addIfMaximal_37 : decode cX2_addIfMaximal 37 = .ok (.iconst 2, 1) := by decide +kernel
theorem dX2_addIfMaximal_38 : decode cX2_addIfMaximal 38 = .ok (.isub, 1) := by decide +kernel
theorem dX2_addIfMaximal_39 : decode cX2_addIfMaximal 39 = .ok (.invokevirtual 73, 3) := by decide +kernel
theorem dX2_addIfMaximal_42 : decode cX2_addIfMaximal 42 = .ok (.isub, 1) := by decide +kernel
theorem dX2_addIfMaximal_43 : decode cX2_addIfMaximal 43 = .ok (.iload_n 3, 1) := by decide +kernel
theorem dX2_addIfMaximal_44 : decode cX2_addIfMaximal 44 = .ok (.if_icmp .ne 7, 3) := by decide +kernel
theorem dX2_addIfMaximal_47 : decode cX2_addIfMaximal 47 = .ok (.iconst 1, 1) := by decide +kernel
theorem dX2_addIfMaximal_48 : decode cX2_addIfMaximal 48 = .ok (.goto 4, 3) := by decide +kernel
theorem dX2_addIfMaximal_51 : decode cX2_addIfMaximal 51 = .ok (.iconst 0, 1) := by decide +kernel
theorem dX2_addIfMaximal_52 : decode cX2_addIfMaximal 52 = .ok (.istore 5, 2) := by decide +kernel
theorem dX2_addIfMaximal_54 : decode cX2_addIfMaximal 54 = .ok (.iload 5, 2) := by decide +kernel
theorem dX2_addIfMaximal_56 : decode cX2_addIfMaximal 56 = .ok (.ifCond .ne 53, 3) := by decide +kernel
theorem dX2_addIfMaximal_59 : decode cX2_addIfMaximal 59 = .ok (.aload_n 0, 1) := by decide +kernel
theorem dX2_addIfMaximal_60 : decode cX2_addIfMaximal 60 = .ok (.getfield 52, 3) := by decide +kernel
theorem dX2_addIfMaximal_63 : decode cX2_addIfMaximal 63 = .ok (.sipush 240, 3) := by decide +kernel
theorem dX2_addIfMaximal_66 : decode cX2_addIfMaximal 66 = .ok (.if_icmp .ge 43, 3) := by decide +kernel
theorem dX2_addIfMaximal_69 : decode cX2_addIfMaximal 69 = .ok (.aload_n 0, 1) := by decide +kernel
theorem dX2_addIfMaximal_70 : decode cX2_addIfMaximal 70 = .ok (.getfield 9, 3) := by decide +kernel
theorem dX2_addIfMaximal_73 : decode cX2_addIfMaximal 73 = .ok (.aload_n 0, 1) := by decide +kernel
theorem dX2_addIfMaximal_74 : decode cX2_addIfMaximal 74 = .ok (.getfield 52, 3) := by decide +kernel
theorem dX2_addIfMaximal_77 : decode cX2_addIfMaximal 77 = .ok (.iload_n 1, 1) := by decide +kernel
theorem dX2_addIfMaximal_78 : decode cX2_addIfMaximal 78 = .ok (.iastore, 1) := by decide +kernel
theorem dX2_addIfMaximal_79 : decode cX2_addIfMaximal 79 = .ok (.aload_n 0, 1) := by decide +kernel
theorem dX2_addIfMaximal_80 : decode cX2_addIfMaximal 80 = .ok (.getfield 15, 3) := by decide +kernel
theorem dX2_addIfMaximal_83 : decode cX2_addIfMaximal 83 = .ok (.aload_n 0, 1) := by decide +kernel
theorem dX2_addIfMaximal_84 : decode cX2_addIfMaximal 84 = .ok (.getfield 52, 3) := by decide +kernel
theorem dX2_addIfMaximal_87 : decode cX2_addIfMaximal 87 = .ok (.iload_n 2, 1) := by decide +kernel
theorem dX2_addIfMaximal_88 : decode cX2_addIfMaximal 88 = .ok (.iastore, 1) := by decide +kernel
theorem dX2_addIfMaximal_89 : decode cX2_addIfMaximal 89 = .ok (.aload_n 0, 1) := by decide +kernel
theorem dX2_addIfMaximal_90 : decode cX2_addIfMaximal 90 = .ok (.getfield 18, 3) := by decide +kernel
theorem dX2_addIfMaximal_93 : decode cX2_addIfMaximal 93 = .ok (.aload_n 0, 1) := by decide +kernel
theorem dX2_addIfMaximal_94 : decode cX2_addIfMaximal 94 = .ok (.getfield 52, 3) := by decide +kernel
theorem dX2_addIfMaximal_97 : decode cX2_addIfMaximal 97 = .ok (.iload_n 3, 1) := by decide +kernel
theorem dX2_addIfMaximal_98 : decode cX2_addIfMaximal 98 = .ok (.iastore, 1) := by decide +kernel
theorem dX2_addIfMaximal_99 : decode cX2_addIfMaximal 99 = .ok (.aload_n 0, 1) := by decide +kernel
theorem dX2_addIfMaximal_100 : decode cX2_addIfMaximal 100 = .ok (.dup, 1) := by decide +kernel
theorem dX2_addIfMaximal_101 : decode cX2_addIfMaximal 101 = .ok (.getfield 52, 3) := by decide +kernel
theorem dX2_addIfMaximal_104 : decode cX2_addIfMaximal 104 = .ok (.iconst 1, 1) := by decide +kernel
theorem dX2_addIfMaximal_105 : decode cX2_addIfMaximal 105 = .ok (.iadd, 1) := by decide +kernel
theorem dX2_addIfMaximal_106 : decode cX2_addIfMaximal 106 = .ok (.putfield 52, 3) := by decide +kernel
theorem dX2_addIfMaximal_109 : decode cX2_addIfMaximal 109 = .ok (.return_, 1) := by decide +kernel
theorem dX2_turnRound_0 : decode cX2_turnRound 0 = .ok (.iload_n 1, 1) := by decide +kernel
theorem dX2_turnRound_1 : decode cX2_turnRound 1 = .ok (.istore_n 2, 1) := by decide +kernel
theorem dX2_turnRound_2 : decode cX2_turnRound 2 = .ok (.aload_n 0, 1) := by decide +kernel
theorem dX2_turnRound_3 : decode cX2_turnRound 3 = .ok (.getfield 52, 3) := by decide +kernel
theorem dX2_turnRound_6 : decode cX2_turnRound 6 = .ok (.iconst 1, 1) := by decide +kernel
theorem dX2_turnRound_7 : decode cX2_turnRound 7 = .ok (.isub, 1) := by decide +kernel
theorem dX2_turnRound_8 : decode cX2_turnRound 8 = .ok (.istore_n 3, 1) := by decide +kernel
theorem dX2_turnRound_9 : decode cX2_turnRound 9 = .ok (.iload_n 3, 1) := by decide +kernel
theorem dX2_turnRound_10 : decode cX2_turnRound 10 = .ok (.iload_n 2, 1) := by decide +kernel
theorem dX2_turnRound_11 : decode cX2_turnRound 11 = .ok (.if_icmp .le 30, 3) := by decide +kernel
theorem dX2_turnRound_14 : decode cX2_turnRound 14 = .ok (.aload_n 0, 1) := by decide +kernel
theorem dX2_turnRound_15 : decode cX2_turnRound 15 = .ok (.getfield 9, 3) := by decide +kernel
theorem dX2_turnRound_18 : decode cX2_turnRound 18 = .ok (.iload_n 2, 1) := by decide +kernel
theorem dX2_turnRound_19 : decode cX2_turnRound 19 = .ok (.iload_n 3, 1) := by decide +kernel
theorem dX2_turnRound_20 : decode cX2_turnRound 20 = .ok (.invokestatic 76, 3) := by decide +kernel
theorem dX2_turnRound_23 : decode cX2_turnRound 23 = .ok (.aload_n 0, 1) := by decide +kernel
theorem dX2_turnRound_24 : decode cX2_turnRound 24 = .ok (.getfield 18, 3) := by decide +kernel
theorem dX2_turnRound_27 : decode cX2_turnRound 27 = .ok (.iload_n 2, 1) := by decide +kernel
theorem dX2_turnRound_28 : decode cX2_turnRound 28 = .ok (.iload_n 3, 1) := by decide +kernel
theorem dX2_turnRound_29 : decode cX2_turnRound 29 = .ok (.invokestatic 76, 3) := by decide +kernel
theorem dX2_turnRound_32 : decode cX2_turnRound 32 = .ok (.iinc 2 1, 3) := by decide +kernel
theorem dX2_turnRound_35 : decode cX2_turnRound 35 = .ok (.iinc 3 (-1), 3) := by decide +kernel
theorem dX2_turnRound_38 : decode cX2_turnRound 38 = .ok (.goto (-29), 3) := by decide +kernel
theorem dX2_turnRound_41 : decode cX2_turnRound 41 = .ok (.return_, 1) := by decide +kernel
theorem dX2_exchange_0 : decode cX2_exchange 0 = .ok (.aload_n 0, 1) := by decide +kernel
theorem dX2_exchange_1 : decode cX2_exchange 1 = .ok (.iload_n 1, 1) := by decide +kernel
theorem dX2_exchange_2 : decode cX2_exchange 2 = .ok (.iaload, 1) := by decide +kernel
theorem dX2_exchange_3 : decode cX2_exchange 3 = .ok (.istore_n 3, 1) := by decide +kernel
theorem dX2_exchange_4 : decode cX2_exchange 4 = .ok (.aload_n 0, 1) := by decide +kernel
theorem dX2_exchange_5 : decode cX2_exchange 5 = .ok (.iload_n 1, 1) := by decide +kernel
theorem dX2_exchange_6 : decode cX2_exchange 6 = .ok (.aload_n 0, 1) := by decide +kernel
theorem dX2_exchange_7 : decode cX2_exchange 7 = .ok (.iload_n 2, 1) := by decide +kernel
theorem dX2_exchange_8 : decode cX2_exchange 8 = .ok (.iaload, 1) := by decide +kernel
theorem dX2_exchange_9 : decode cX2_exchange 9 = .ok (.iastore, 1) := by decide +kernel
theorem dX2_exchange_10 : decode cX2_exchange 10 = .ok (.aload_n 0, 1) := by decide +kernel
theorem dX2_exchange_11 : decode cX2_exchange 11 = .ok (.iload_n 2, 1) := by decide +kernel
theorem dX2_exchange_12 : decode cX2_exchange 12 = .ok (.iload_n 3, 1) := by decide +kernel
theorem dX2_exchange_13 : decode cX2_exchange 13 = .ok (.iastore, 1) := by decide +kernel
theorem dX2_exchange_14 : decode cX2_exchange 14 = .ok (.return_, 1) := by decide +kernel
theorem dX2_countMaximals_0 : decode cX2_countMaximals 0 = .ok (.iconst 0, 1) := by decide +kernel
theorem dX2_countMaximals_1 : decode cX2_countMaximals 1 = .ok (.istore_n 3, 1) := by decide +kernel
theorem dX2_countMaximals_2 : decode cX2_countMaximals 2 = .ok (.iconst 0, 1) := by decide +kernel
theorem dX2_countMaximals_3 : decode cX2_countMaximals 3 = .ok (.istore 4, 2) := by decide +kernel
theorem dX2_countMaximals_5 : decode cX2_countMaximals 5 = .ok (.iload 4, 2) := by decide +kernel
theorem dX2_countMaximals_7 : decode cX2_countMaximals 7 = .ok (.aload_n 0, 1) := by decide +kernel
theorem dX2_countMaximals_8 : decode cX2_countMaximals 8 = .ok (.getfield 52, 3) := by decide +kernel
theorem dX2_countMaximals_11 : decode cX2_countMaximals 11 = .ok (.if_icmp .ge 34, 3) := by decide +kernel
theorem dX2_countMaximals_14 : decode cX2_countMaximals 14 = .ok (.aload_n 0, 1) := by decide +kernel
theorem dX2_countMaximals_15 : decode cX2_countMaximals 15 = .ok (.getfield 9, 3) := by decide +kernel
theorem dX2_countMaximals_18 : decode cX2_countMaximals 18 = .ok (.iload 4, 2) := by decide +kernel
theorem dX2_countMaximals_20 : decode cX2_countMaximals 20 = .ok (.iaload, 1) := by decide +kernel
theorem dX2_countMaximals_21 : decode cX2_countMaximals 21 = .ok (.iload_n 1, 1) := by decide +kernel
theorem dX2_countMaximals_22 : decode cX2_countMaximals 22 = .ok (.if_icmp .lt 17, 3) := by decide +kernel
theorem dX2_countMaximals_25 : decode cX2_countMaximals 25 = .ok (.aload_n 0, 1) := by decide +kernel
theorem dX2_countMaximals_26 : decode cX2_countMaximals 26 = .ok (.getfield 18, 3) := by decide +kernel
theorem dX2_countMaximals_29 : decode cX2_countMaximals 29 = .ok (.iload 4, 2) := by decide +kernel
theorem dX2_countMaximals_31 : decode cX2_countMaximals 31 = .ok (.iaload, 1) := by decide +kernel
theorem dX2_countMaximals_32 : decode cX2_countMaximals 32 = .ok (.iload_n 2, 1) := by decide +kernel
theorem dX2_countMaximals_33 : decode cX2_countMaximals 33 = .ok (.if_icmp .lt 6, 3) := by decide +kernel
theorem dX2_countMaximals_36 : decode cX2_countMaximals 36 = .ok (.iinc 3 1, 3) := by decide +kernel
theorem dX2_countMaximals_39 : decode cX2_countMaximals 39 = .ok (.iinc 4 1, 3) := by decide +kernel
theorem dX2_countMaximals_42 : decode cX2_countMaximals 42 = .ok (.goto (-37), 3) := by decide +kernel
theorem dX2_countMaximals_45 : decode cX2_countMaximals 45 = .ok (.iload_n 3, 1) := by decide +kernel
theorem dX2_countMaximals_46 : decode cX2_countMaximals 46 = .ok (.ireturn, 1) := by decide +kernel
theorem dX2_indexOfMaximal_0 : decode cX2_indexOfMaximal 0 = .ok (.iconst 0, 1) := by decide +kernel
theorem dX2_indexOfMaximal_1 : decode cX2_indexOfMaximal 1 = .ok (.istore 4, 2) := by decide +kernel
theorem dX2_indexOfMaximal_3 : decode cX2_indexOfMaximal 3 = .ok (.iconst 0, 1) := by decide +kernel
theorem dX2_indexOfMaximal_4 : decode cX2_indexOfMaximal 4 = .ok (.istore 5, 2) := by decide +kernel
theorem dX2_indexOfMaximal_6 : decode cX2_indexOfMaximal 6 = .ok (.iload 5, 2) := by decide +kernel
theorem dX2_indexOfMaximal_8 : decode cX2_indexOfMaximal 8 = .ok (.aload_n 0, 1) := by decide +kernel
theorem dX2_indexOfMaximal_9 : decode cX2_indexOfMaximal 9 = .ok (.getfield 52, 3) := by decide +kernel
theorem dX2_indexOfMaximal_12 : decode cX2_indexOfMaximal 12 = .ok (.if_icmp .ge 43, 3) := by decide +kernel
theorem dX2_indexOfMaximal_15 : decode cX2_indexOfMaximal 15 = .ok (.aload_n 0, 1) := by decide +kernel
theorem dX2_indexOfMaximal_16 : decode cX2_indexOfMaximal 16 = .ok (.getfield 9, 3) := by decide +kernel
theorem dX2_indexOfMaximal_19 : decode cX2_indexOfMaximal 19 = .ok (.iload 5, 2) := by decide +kernel
theorem dX2_indexOfMaximal_21 : decode cX2_indexOfMaximal 21 = .ok (.iaload, 1) := by decide +kernel
theorem dX2_indexOfMaximal_22 : decode cX2_indexOfMaximal 22 = .ok (.iload_n 2, 1) := by decide +kernel
theorem dX2_indexOfMaximal_23 : decode cX2_indexOfMaximal 23 = .ok (.if_icmp .lt 26, 3) := by decide +kernel
theorem dX2_indexOfMaximal_26 : decode cX2_indexOfMaximal 26 = .ok (.aload_n 0, 1) := by decide +kernel
theorem dX2_indexOfMaximal_27 : decode cX2_indexOfMaximal 27 = .ok (.getfield 18, 3) := by decide +kernel
theorem dX2_indexOfMaximal_30 : decode cX2_indexOfMaximal 30 = .ok (.iload 5, 2) := by decide +kernel
theorem dX2_indexOfMaximal_32 : decode cX2_indexOfMaximal 32 = .ok (.iaload, 1) := by decide +kernel
theorem dX2_indexOfMaximal_33 : decode cX2_indexOfMaximal 33 = .ok (.iload_n 3, 1) := by decide +kernel
theorem dX2_indexOfMaximal_34 : decode cX2_indexOfMaximal 34 = .ok (.if_icmp .lt 15, 3) := by decide +kernel
theorem dX2_indexOfMaximal_37 : decode cX2_indexOfMaximal 37 = .ok (.iload 4, 2) := by decide +kernel
theorem dX2_indexOfMaximal_39 : decode cX2_indexOfMaximal 39 = .ok (.iload_n 1, 1) := by decide +kernel
theorem dX2_indexOfMaximal_40 : decode cX2_indexOfMaximal 40 = .ok (.if_icmp .ne 6, 3) := by decide +kernel
theorem dX2_indexOfMaximal_43 : decode cX2_indexOfMaximal 43 = .ok (.iload 5, 2) := by decide +kernel
theorem dX2_indexOfMaximal_45 : decode cX2_indexOfMaximal 45 = .ok (.ireturn, 1) := by decide +kernel
theorem dX2_indexOfMaximal_46 : decode cX2_indexOfMaximal 46 = .ok (.iinc 4 1, 3) := by decide +kernel
theorem dX2_indexOfMaximal_49 : decode cX2_indexOfMaximal 49 = .ok (.iinc 5 1, 3) := by decide +kernel
theorem dX2_indexOfMaximal_52 : decode cX2_indexOfMaximal 52 = .ok (.goto (-46), 3) := by decide +kernel
theorem dX2_indexOfMaximal_55 : decode cX2_indexOfMaximal 55 = .ok (.iconst (-1), 1) := by decide +kernel
theorem dX2_indexOfMaximal_56 : decode cX2_indexOfMaximal 56 = .ok (.ireturn, 1) := by decide +kernel
theorem dX2_firstPlace_0 : decode cX2_firstPlace 0 = .ok (.aload_n 0, 1) := by decide +kernel
theorem dX2_firstPlace_1 : decode cX2_firstPlace 1 = .ok (.getfield 21, 3) := by decide +kernel
theorem dX2_firstPlace_4 : decode cX2_firstPlace 4 = .ok (.getfield 29, 3) := by decide +kernel
theorem dX2_firstPlace_7 : decode cX2_firstPlace 7 = .ok (.istore_n 3, 1) := by decide +kernel
theorem dX2_firstPlace_8 : decode cX2_firstPlace 8 = .ok (.iload_n 1, 1) := by decide +kernel
theorem dX2_firstPlace_9 : decode cX2_firstPlace 9 = .ok (.istore 4, 2) := by decide +kernel
theorem dX2_firstPlace_11 : decode cX2_firstPlace 11 = .ok (.iload 4, 2) := by decide +kernel
theorem dX2_firstPlace_13 : decode cX2_firstPlace 13 = .ok (.iload_n 1, 1) := by decide +kernel
theorem dX2_firstPlace_14 : decode cX2_firstPlace 14 = .ok (.iload_n 2, 1) := by decide +kernel
theorem dX2_firstPlace_15 : decode cX2_firstPlace 15 = .ok (.iadd, 1) := by decide +kernel
theorem dX2_firstPlace_16 : decode cX2_firstPlace 16 = .ok (.if_icmp .ge 24, 3) := by decide +kernel
theorem dX2_firstPlace_19 : decode cX2_firstPlace 19 = .ok (.iload_n 3, 1) := by decide +kernel
theorem dX2_firstPlace_20 : decode cX2_firstPlace 20 = .ok (.aload_n 0, 1) := by decide +kernel
theorem dX2_firstPlace_21 : decode cX2_firstPlace 21 = .ok (.getfield 25, 3) := by decide +kernel
theorem dX2_firstPlace_24 : decode cX2_firstPlace 24 = .ok (.getfield 43, 3) := by decide +kernel
theorem dX2_firstPlace_27 : decode cX2_firstPlace 27 = .ok (.iload 4, 2) := by decide +kernel
theorem dX2_firstPlace_29 : decode cX2_firstPlace 29 = .ok (.iaload, 1) := by decide +kernel
theorem dX2_firstPlace_30 : decode cX2_firstPlace 30 = .ok (.invokestatic 46, 3) := by decide +kernel
theorem dX2_firstPlace_33 : decode cX2_firstPlace 33 = .ok (.istore_n 3, 1) := by decide +kernel
theorem dX2_firstPlace_34 : decode cX2_firstPlace 34 = .ok (.iinc 4 1, 3) := by decide +kernel
theorem dX2_firstPlace_37 : decode cX2_firstPlace 37 = .ok (.goto (-26), 3) := by decide +kernel
theorem dX2_firstPlace_40 : decode cX2_firstPlace 40 = .ok (.iload_n 3, 1) := by decide +kernel
theorem dX2_firstPlace_41 : decode cX2_firstPlace 41 = .ok (.ireturn, 1) := by decide +kernel
theorem dX2_unlikeStrings_0 : decode cX2_unlikeStrings 0 = .ok (.iconst 0, 1) := by decide +kernel
theorem dX2_unlikeStrings_1 : decode cX2_unlikeStrings 1 = .ok (.istore_n 2, 1) := by decide +kernel
theorem dX2_unlikeStrings_2 : decode cX2_unlikeStrings 2 = .ok (.iconst 0, 1) := by decide +kernel
theorem dX2_unlikeStrings_3 : decode cX2_unlikeStrings 3 = .ok (.istore_n 3, 1) := by decide +kernel
theorem dX2_unlikeStrings_4 : decode cX2_unlikeStrings 4 = .ok (.iload_n 3, 1) := by decide +kernel
theorem dX2_unlikeStrings_5 : decode cX2_unlikeStrings 5 = .ok (.aload_n 0, 1) := by decide +kernel
theorem dX2_unlikeStrings_6 : decode cX2_unlikeStrings 6 = .ok (.getfield 21, 3) := by decide +kernel
theorem dX2_unlikeStrings_9 : decode cX2_unlikeStrings 9 = .ok (.getfield 29, 3) := by decide +kernel
theorem dX2_unlikeStrings_12 : decode cX2_unlikeStrings 12 = .ok (.if_icmp .gt 42, 3) := by decide +kernel
theorem dX2_unlikeStrings_15 : decode cX2_unlikeStrings 15 = .ok (.aload_n 0, 1) := by decide +kernel
theorem dX2_unlikeStrings_16 : decode cX2_unlikeStrings 16 = .ok (.getfield 21, 3) := by decide +kernel
theorem dX2_unlikeStrings_19 : decode cX2_unlikeStrings 19 = .ok (.getfield 40, 3) := by decide +kernel
theorem dX2_unlikeStrings_22 : decode cX2_unlikeStrings 22 = .ok (.aload_n 0, 1) := by decide +kernel
theorem dX2_unlikeStrings_23 : decode cX2_unlikeStrings 23 = .ok (.getfield 25, 3) := by decide +kernel
theorem dX2_unlikeStrings_26 : decode cX2_unlikeStrings 26 = .ok (.getfield 43, 3) := by decide +kernel
theorem dX2_unlikeStrings_29 : decode cX2_unlikeStrings 29 = .ok (.iload_n 3, 1) := by decide +kernel
theorem dX2_unlikeStrings_30 : decode cX2_unlikeStrings 30 = .ok (.iaload, 1) := by decide +kernel
theorem dX2_unlikeStrings_31 : decode cX2_unlikeStrings 31 = .ok (.iaload, 1) := by decide +kernel
theorem dX2_unlikeStrings_32 : decode cX2_unlikeStrings 32 = .ok (.iload_n 1, 1) := by decide +kernel
theorem dX2_unlikeStrings_33 : decode cX2_unlikeStrings 33 = .ok (.if_icmp .lt 15, 3) := by decide +kernel
theorem dX2_unlikeStrings_36 : decode cX2_unlikeStrings 36 = .ok (.aload_n 0, 1) := by decide +kernel
theorem dX2_unlikeStrings_37 : decode cX2_unlikeStrings 37 = .ok (.iload_n 3, 1) := by decide +kernel
theorem dX2_unlikeStrings_38 : decode cX2_unlikeStrings 38 = .ok (.invokevirtual 62, 3) := by decide +kernel
theorem dX2_unlikeStrings_41 : decode cX2_unlikeStrings 41 = .ok (.iload_n 1, 1) := by decide +kernel
theorem dX2_unlikeStrings_42 : decode cX2_unlikeStrings 42 = .ok (.if_icmp .ge 6, 3) := by decide +kernel
theorem dX2_unlikeStrings_45 : decode cX2_unlikeStrings 45 = .ok (.iinc 2 1, 3) := by decide +kernel
theorem dX2_unlikeStrings_48 : decode cX2_unlikeStrings 48 = .ok (.iinc 3 1, 3) := by decide +kernel
theorem dX2_unlikeStrings_51 : decode cX2_unlikeStrings 51 = .ok (.goto (-47), 3) := by decide +kernel
theorem dX2_unlikeStrings_54 : decode cX2_unlikeStrings 54 = .ok (.iload_n 2, 1) := by decide +kernel
theorem dX2_unlikeStrings_55 : decode cX2_unlikeStrings 55 = .ok (.ireturn, 1) := by decide +kernel
theorem dX2_longest_0 : decode cX2_longest 0 = .ok (.iconst 0, 1) := by decide +kernel
theorem dX2_longest_1 : decode cX2_longest 1 = .ok (.istore_n 1, 1) := by decide +kernel
theorem dX2_longest_2 : decode cX2_longest 2 = .ok (.iconst 1, 1) := by decide +kernel
theorem dX2_longest_3 : decode cX2_longest 3 = .ok (.istore_n 2, 1) := by decide +kernel
theorem dX2_longest_4 : decode cX2_longest 4 = .ok (.iload_n 2, 1) := by decide +kernel
theorem dX2_longest_5 : decode cX2_longest 5 = .ok (.aload_n 0, 1) := by decide +kernel
theorem dX2_longest_6 : decode cX2_longest 6 = .ok (.getfield 21, 3) := by decide +kernel
theorem dX2_longest_9 : decode cX2_longest 9 = .ok (.getfield 29, 3) := by decide +kernel
theorem dX2_longest_12 : decode cX2_longest 12 = .ok (.if_icmp .gt 19, 3) := by decide +kernel
theorem dX2_longest_15 : decode cX2_longest 15 = .ok (.iload_n 1, 1) := by decide +kernel
theorem dX2_longest_16 : decode cX2_longest 16 = .ok (.aload_n 0, 1) := by decide +kernel
theorem dX2_longest_17 : decode cX2_longest 17 = .ok (.iload_n 2, 1) := by decide +kernel
theorem dX2_longest_18 : decode cX2_longest 18 = .ok (.invokevirtual 62, 3) := by decide +kernel
theorem dX2_longest_21 : decode cX2_longest 21 = .ok (.invokestatic 80, 3) := by decide +kernel
theorem dX2_longest_24 : decode cX2_longest 24 = .ok (.istore_n 1, 1) := by decide +kernel
theorem dX2_longest_25 : decode cX2_longest 25 = .ok (.iinc 2 1, 3) := by decide +kernel
theorem dX2_longest_28 : decode cX2_longest 28 = .ok (.goto (-24), 3) := by decide +kernel
theorem dX2_longest_31 : decode cX2_longest 31 = .ok (.iload_n 1, 1) := by decide +kernel
theorem dX2_longest_32 : decode cX2_longest 32 = .ok (.ireturn, 1) := by decide +kernel
theorem dX2_lettersShared_0 : decode cX2_lettersShared 0 = .ok (.aload_n 0, 1) := by decide +kernel
theorem dX2_lettersShared_1 : decode cX2_lettersShared 1 = .ok (.getfield 25, 3) := by decide +kernel
theorem dX2_lettersShared_4 : decode cX2_lettersShared 4 = .ok (.getfield 83, 3) := by decide +kernel
theorem dX2_lettersShared_7 : decode cX2_lettersShared 7 = .ok (.iload_n 1, 1) := by decide +kernel
theorem dX2_lettersShared_8 : decode cX2_lettersShared 8 = .ok (.iaload, 1) := by decide +kernel
theorem dX2_lettersShared_9 : decode cX2_lettersShared 9 = .ok (.istore_n 2, 1) := by decide +kernel
theorem dX2_lettersShared_10 : decode cX2_lettersShared 10 = .ok (.aload_n 0, 1) := by decide +kernel
theorem dX2_lettersShared_11 : decode cX2_lettersShared 11 = .ok (.iload_n 2, 1) := by decide +kernel
theorem dX2_lettersShared_12 : decode cX2_lettersShared 12 = .ok (.invokevirtual 62, 3) := by decide +kernel
theorem dX2_lettersShared_15 : decode cX2_lettersShared 15 = .ok (.aload_n 0, 1) := by decide +kernel
theorem dX2_lettersShared_16 : decode cX2_lettersShared 16 = .ok (.iload_n 2, 1) := by decide +kernel
theorem dX2_lettersShared_17 : decode cX2_lettersShared 17 = .ok (.iconst 1, 1) := by decide +kernel
theorem dX2_lettersShared_18 : decode cX2_lettersShared 18 = .ok (.iadd, 1) := by decide +kernel
theorem dX2_lettersShared_19 : decode cX2_lettersShared 19 = .ok (.invokevirtual 62, 3) := by decide +kernel
theorem dX2_lettersShared_22 : decode cX2_lettersShared 22 = .ok (.invokestatic 80, 3) := by decide +kernel
theorem dX2_lettersShared_25 : decode cX2_lettersShared 25 = .ok (.ireturn, 1) := by decide +kernel
theorem dX2_firstOfRepeat_0 : decode cX2_firstOfRepeat 0 = .ok (.iconst 0, 1) := by decide +kernel
theorem dX2_firstOfRepeat_1 : decode cX2_firstOfRepeat 1 = .ok (.istore_n 2, 1) := by decide +kernel
theorem dX2_firstOfRepeat_2 : decode cX2_firstOfRepeat 2 = .ok (.iload_n 2, 1) := by decide +kernel
theorem dX2_firstOfRepeat_3 : decode cX2_firstOfRepeat 3 = .ok (.aload_n 0, 1) := by decide +kernel
theorem dX2_firstOfRepeat_4 : decode cX2_firstOfRepeat 4 = .ok (.getfield 21, 3) := by decide +kernel
theorem dX2_firstOfRepeat_7 : decode cX2_firstOfRepeat 7 = .ok (.getfield 29, 3) := by decide +kernel
theorem dX2_firstOfRepeat_10 : decode cX2_firstOfRepeat 10 = .ok (.if_icmp .ge 20, 3) := by decide +kernel
theorem dX2_firstOfRepeat_13 : decode cX2_firstOfRepeat 13 = .ok (.aload_n 0, 1) := by decide +kernel
theorem dX2_firstOfRepeat_14 : decode cX2_firstOfRepeat 14 = .ok (.iload_n 2, 1) := by decide +kernel
theorem dX2_firstOfRepeat_15 : decode cX2_firstOfRepeat 15 = .ok (.invokevirtual 86, 3) := by decide +kernel
theorem dX2_firstOfRepeat_18 : decode cX2_firstOfRepeat 18 = .ok (.iload_n 1, 1) := by decide +kernel
theorem dX2_firstOfRepeat_19 : decode cX2_firstOfRepeat 19 = .ok (.if_icmp .lt 5, 3) := by decide +kernel
theorem dX2_firstOfRepeat_22 : decode cX2_firstOfRepeat 22 = .ok (.iload_n 2, 1) := by decide +kernel
theorem dX2_firstOfRepeat_23 : decode cX2_firstOfRepeat 23 = .ok (.ireturn, 1) := by decide +kernel
theorem dX2_firstOfRepeat_24 : decode cX2_firstOfRepeat 24 = .ok (.iinc 2 1, 3) := by decide +kernel
theorem dX2_firstOfRepeat_27 : decode cX2_firstOfRepeat 27 = .ok (.goto (-25), 3) := by decide +kernel
theorem dX2_firstOfRepeat_30 : decode cX2_firstOfRepeat 30 = .ok (.iconst (-1), 1) := by decide +kernel
theorem dX2_firstOfRepeat_31 : decode cX2_firstOfRepeat 31 = .ok (.ireturn, 1) := by decide +kernel
theorem dX2_timesFrom_0 : decode cX2_timesFrom 0 = .ok (.iload_n 1, 1) := by decide +kernel
theorem dX2_timesFrom_1 : decode cX2_timesFrom 1 = .ok (.iconst (-1), 1) := by decide +kernel
theorem dX2_timesFrom_2 : decode cX2_timesFrom 2 = .ok (.if_icmp .ne 5, 3) := by decide +kernel
theorem dX2_timesFrom_5 : decode cX2_timesFrom 5 = .ok (.iconst 0, 1) := by decide +kernel
theorem dX2_timesFrom_6 : decode cX2_timesFrom 6 = .ok (.ireturn, 1) := by decide +kernel
theorem dX2_timesFrom_7 : decode cX2_timesFrom 7 = .ok (.aload_n 0, 1) := by decide +kernel
theorem dX2_timesFrom_8 : decode cX2_timesFrom 8 = .ok (.getfield 25, 3) := by decide +kernel
theorem dX2_timesFrom_11 : decode cX2_timesFrom 11 = .ok (.getfield 83, 3) := by decide +kernel
theorem dX2_timesFrom_14 : decode cX2_timesFrom 14 = .ok (.iload_n 1, 1) := by decide +kernel
theorem dX2_timesFrom_15 : decode cX2_timesFrom 15 = .ok (.iaload, 1) := by decide +kernel
theorem dX2_timesFrom_16 : decode cX2_timesFrom 16 = .ok (.istore_n 3, 1) := by decide +kernel
theorem dX2_timesFrom_17 : decode cX2_timesFrom 17 = .ok (.iconst 1, 1) := by decide +kernel
theorem dX2_timesFrom_18 : decode cX2_timesFrom 18 = .ok (.istore 4, 2) := by decide +kernel
theorem dX2_timesFrom_20 : decode cX2_timesFrom 20 = .ok (.iload_n 3, 1) := by decide +kernel
theorem dX2_timesFrom_21 : decode cX2_timesFrom 21 = .ok (.istore 5, 2) := by decide +kernel
theorem dX2_timesFrom_23 : decode cX2_timesFrom 23 = .ok (.iload 5, 2) := by decide +kernel
theorem dX2_timesFrom_25 : decode cX2_timesFrom 25 = .ok (.ifCond .le 22, 3) := by decide +kernel
theorem dX2_timesFrom_28 : decode cX2_timesFrom 28 = .ok (.aload_n 0, 1) := by decide +kernel
theorem dX2_timesFrom_29 : decode cX2_timesFrom 29 = .ok (.iload 5, 2) := by decide +kernel
theorem dX2_timesFrom_31 : decode cX2_timesFrom 31 = .ok (.invokevirtual 62, 3) := by decide +kernel
theorem dX2_timesFrom_34 : decode cX2_timesFrom 34 = .ok (.iload_n 2, 1) := by decide +kernel
theorem dX2_timesFrom_35 : decode cX2_timesFrom 35 = .ok (.if_icmp .lt 12, 3) := by decide +kernel
theorem dX2_timesFrom_38 : decode cX2_timesFrom 38 = .ok (.iinc 4 1, 3) := by decide +kernel
theorem dX2_timesFrom_41 : decode cX2_timesFrom 41 = .ok (.iinc 5 (-1), 3) := by decide +kernel
theorem dX2_timesFrom_44 : decode cX2_timesFrom 44 = .ok (.goto (-21), 3) := by decide +kernel
theorem dX2_timesFrom_47 : decode cX2_timesFrom 47 = .ok (.iload_n 3, 1) := by decide +kernel
theorem dX2_timesFrom_48 : decode cX2_timesFrom 48 = .ok (.iconst 1, 1) := by decide +kernel
theorem dX2_timesFrom_49 : decode cX2_timesFrom 49 = .ok (.iadd, 1) := by decide +kernel
theorem dX2_timesFrom_50 : decode cX2_timesFrom 50 = .ok (.istore 5, 2) := by decide +kernel
theorem dX2_timesFrom_52 : decode cX2_timesFrom 52 = .ok (.iload 5, 2) := by decide +kernel
theorem dX2_timesFrom_54 : decode cX2_timesFrom 54 = .ok (.aload_n 0, 1) := by decide +kernel
theorem dX2_timesFrom_55 : decode cX2_timesFrom 55 = .ok (.getfield 21, 3) := by decide +kernel
theorem dX2_timesFrom_58 : decode cX2_timesFrom 58 = .ok (.getfield 29, 3) := by decide +kernel
theorem dX2_timesFrom_61 : decode cX2_timesFrom 61 = .ok (.if_icmp .gt 22, 3) := by decide +kernel
theorem dX2_timesFrom_64 : decode cX2_timesFrom 64 = .ok (.aload_n 0, 1) := by decide +kernel
theorem dX2_timesFrom_65 : decode cX2_timesFrom 65 = .ok (.iload 5, 2) := by decide +kernel
theorem dX2_timesFrom_67 : decode cX2_timesFrom 67 = .ok (.invokevirtual 62, 3) := by decide +kernel
theorem dX2_timesFrom_70 : decode cX2_timesFrom 70 = .ok (.iload_n 2, 1) := by decide +kernel
theorem dX2_timesFrom_71 : decode cX2_timesFrom 71 = .ok (.if_icmp .lt 12, 3) := by decide +kernel
theorem dX2_timesFrom_74 : decode cX2_timesFrom 74 = .ok (.iinc 4 1, 3) := by decide +kernel
theorem dX2_timesFrom_77 : decode cX2_timesFrom 77 = .ok (.iinc 5 1, 3) := by decide +kernel
theorem dX2_timesFrom_80 : decode cX2_timesFrom 80 = .ok (.goto (-28), 3) := by decide +kernel
theorem dX2_timesFrom_83 : decode cX2_timesFrom 83 = .ok (.iload 4, 2) := by decide +kernel
theorem dX2_timesFrom_85 : decode cX2_timesFrom 85 = .ok (.ireturn, 1) := by decide +kernel
theorem dX2_lettersAlone_0 : decode cX2_lettersAlone 0 = .ok (.aload_n 0, 1) := by decide +kernel
theorem dX2_lettersAlone_1 : decode cX2_lettersAlone 1 = .ok (.iload_n 1, 1) := by decide +kernel
theorem dX2_lettersAlone_2 : decode cX2_lettersAlone 2 = .ok (.invokevirtual 86, 3) := by decide +kernel
theorem dX2_lettersAlone_5 : decode cX2_lettersAlone 5 = .ok (.iconst 1, 1) := by decide +kernel
theorem dX2_lettersAlone_6 : decode cX2_lettersAlone 6 = .ok (.iadd, 1) := by decide +kernel
theorem dX2_lettersAlone_7 : decode cX2_lettersAlone 7 = .ok (.istore_n 2, 1) := by decide +kernel
theorem dX2_lettersAlone_8 : decode cX2_lettersAlone 8 = .ok (.iload_n 2, 1) := by decide +kernel
theorem dX2_lettersAlone_9 : decode cX2_lettersAlone 9 = .ok (.aload_n 0, 1) := by decide +kernel
theorem dX2_lettersAlone_10 : decode cX2_lettersAlone 10 = .ok (.getfield 21, 3) := by decide +kernel
theorem dX2_lettersAlone_13 : decode cX2_lettersAlone 13 = .ok (.getfield 40, 3) := by decide +kernel
theorem dX2_lettersAlone_16 : decode cX2_lettersAlone 16 = .ok (.iload_n 1, 1) := by decide +kernel
theorem dX2_lettersAlone_17 : decode cX2_lettersAlone 17 = .ok (.iaload, 1) := by decide +kernel
theorem dX2_lettersAlone_18 : decode cX2_lettersAlone 18 = .ok (.if_icmp .gt 7, 3) := by decide +kernel
theorem dX2_lettersAlone_21 : decode cX2_lettersAlone 21 = .ok (.iload_n 2, 1) := by decide +kernel
theorem dX2_lettersAlone_22 : decode cX2_lettersAlone 22 = .ok (.goto 4, 3) := by decide +kernel
theorem dX2_lettersAlone_25 : decode cX2_lettersAlone 25 = .ok (.iconst (-1), 1) := by decide +kernel
theorem dX2_lettersAlone_26 : decode cX2_lettersAlone 26 = .ok (.ireturn, 1) := by decide +kernel
theorem dX2_lettersAround_0 : decode cX2_lettersAround 0 = .ok (.aload_n 0, 1) := by decide +kernel
theorem dX2_lettersAround_1 : decode cX2_lettersAround 1 = .ok (.iload_n 1, 1) := by decide +kernel
theorem dX2_lettersAround_2 : decode cX2_lettersAround 2 = .ok (.invokevirtual 89, 3) := by decide +kernel
theorem dX2_lettersAround_5 : decode cX2_lettersAround 5 = .ok (.istore_n 3, 1) := by decide +kernel
theorem dX2_lettersAround_6 : decode cX2_lettersAround 6 = .ok (.iload_n 2, 1) := by decide +kernel
theorem dX2_lettersAround_7 : decode cX2_lettersAround 7 = .ok (.iload_n 1, 1) := by decide +kernel
theorem dX2_lettersAround_8 : decode cX2_lettersAround 8 = .ok (.isub, 1) := by decide +kernel
theorem dX2_lettersAround_9 : decode cX2_lettersAround 9 = .ok (.iconst 1, 1) := by decide +kernel
theorem dX2_lettersAround_10 : decode cX2_lettersAround 10 = .ok (.iadd, 1) := by decide +kernel
theorem dX2_lettersAround_11 : decode cX2_lettersAround 11 = .ok (.istore 4, 2) := by decide +kernel
theorem dX2_lettersAround_13 : decode cX2_lettersAround 13 = .ok (.iload_n 3, 1) := by decide +kernel
theorem dX2_lettersAround_14 : decode cX2_lettersAround 14 = .ok (.iconst (-1), 1) := by decide +kernel
theorem dX2_lettersAround_15 : decode cX2_lettersAround 15 = .ok (.if_icmp .eq 17, 3) := by decide +kernel
theorem dX2_lettersAround_18 : decode cX2_lettersAround 18 = .ok (.iload 4, 2) := by decide +kernel
theorem dX2_lettersAround_20 : decode cX2_lettersAround 20 = .ok (.aload_n 0, 1) := by decide +kernel
theorem dX2_lettersAround_21 : decode cX2_lettersAround 21 = .ok (.getfield 21, 3) := by decide +kernel
theorem dX2_lettersAround_24 : decode cX2_lettersAround 24 = .ok (.getfield 40, 3) := by decide +kernel
theorem dX2_lettersAround_27 : decode cX2_lettersAround 27 = .ok (.iload_n 1, 1) := by decide +kernel
theorem dX2_lettersAround_28 : decode cX2_lettersAround 28 = .ok (.iaload, 1) := by decide +kernel
theorem dX2_lettersAround_29 : decode cX2_lettersAround 29 = .ok (.if_icmp .le 7, 3) := by decide +kernel
theorem dX2_lettersAround_32 : decode cX2_lettersAround 32 = .ok (.iconst (-1), 1) := by decide +kernel
theorem dX2_lettersAround_33 : decode cX2_lettersAround 33 = .ok (.goto 9, 3) := by decide +kernel
theorem dX2_lettersAround_36 : decode cX2_lettersAround 36 = .ok (.iload_n 3, 1) := by decide +kernel
theorem dX2_lettersAround_37 : decode cX2_lettersAround 37 = .ok (.iload 4, 2) := by decide +kernel
theorem dX2_lettersAround_39 : decode cX2_lettersAround 39 = .ok (.invokestatic 80, 3) := by decide +kernel
theorem dX2_lettersAround_42 : decode cX2_lettersAround 42 = .ok (.ireturn, 1) := by decide +kernel
theorem dX2_startAround_0 : decode cX2_startAround 0 = .ok (.iconst (-1), 1) := by decide +kernel
theorem dX2_startAround_1 : decode cX2_startAround 1 = .ok (.istore_n 2, 1) := by decide +kernel
theorem dX2_startAround_2 : decode cX2_startAround 2 = .ok (.sipush 241, 3) := by decide +kernel
theorem dX2_startAround_5 : decode cX2_startAround 5 = .ok (.istore_n 3, 1) := by decide +kernel
theorem dX2_startAround_6 : decode cX2_startAround 6 = .ok (.iconst 0, 1) := by decide +kernel
theorem dX2_startAround_7 : decode cX2_startAround 7 = .ok (.istore 4, 2) := by decide +kernel
theorem dX2_startAround_9 : decode cX2_startAround 9 = .ok (.iload 4, 2) := by decide +kernel
theorem dX2_startAround_11 : decode cX2_startAround 11 = .ok (.iload_n 1, 1) := by decide +kernel
theorem dX2_startAround_12 : decode cX2_startAround 12 = .ok (.if_icmp .gt 36, 3) := by decide +kernel
theorem dX2_startAround_15 : decode cX2_startAround 15 = .ok (.aload_n 0, 1) := by decide +kernel
theorem dX2_startAround_16 : decode cX2_startAround 16 = .ok (.iload 4, 2) := by decide +kernel
theorem dX2_startAround_18 : decode cX2_startAround 18 = .ok (.iload_n 1, 1) := by decide +kernel
theorem dX2_startAround_19 : decode cX2_startAround 19 = .ok (.invokevirtual 92, 3) := by decide +kernel
theorem dX2_startAround_22 : decode cX2_startAround 22 = .ok (.istore 5, 2) := by decide +kernel
theorem dX2_startAround_24 : decode cX2_startAround 24 = .ok (.iload 5, 2) := by decide +kernel
theorem dX2_startAround_26 : decode cX2_startAround 26 = .ok (.iconst (-1), 1) := by decide +kernel
theorem dX2_startAround_27 : decode cX2_startAround 27 = .ok (.if_icmp .eq 15, 3) := by decide +kernel
theorem dX2_startAround_30 : decode cX2_startAround 30 = .ok (.iload 5, 2) := by decide +kernel
theorem dX2_startAround_32 : decode cX2_startAround 32 = .ok (.iload_n 3, 1) := by decide +kernel
theorem dX2_startAround_33 : decode cX2_startAround 33 = .ok (.if_icmp .ge 9, 3) := by decide +kernel
theorem dX2_startAround_36 : decode cX2_startAround 36 = .ok (.iload 5, 2) := by decide +kernel
theorem dX2_startAround_38 : decode cX2_startAround 38 = .ok (.istore_n 3, 1) := by decide +kernel
theorem dX2_startAround_39 : decode cX2_startAround 39 = .ok (.iload 4, 2) := by decide +kernel
theorem dX2_startAround_41 : decode cX2_startAround 41 = .ok (.istore_n 2, 1) := by decide +kernel
theorem dX2_startAround_42 : decode cX2_startAround 42 = .ok (.iinc 4 1, 3) := by decide +kernel
theorem dX2_startAround_45 : decode cX2_startAround 45 = .ok (.goto (-36), 3) := by decide +kernel
theorem dX2_startAround_48 : decode cX2_startAround 48 = .ok (.iload_n 2, 1) := by decide +kernel
theorem dX2_startAround_49 : decode cX2_startAround 49 = .ok (.ireturn, 1) := by decide +kernel
theorem dX3_init_0 : decode cX3_init 0 = .ok (.aload_n 0, 1) := by decide +kernel
theorem dX3_init_1 : decode cX3_init 1 = .ok (.invokespecial 3, 3) := by decide +kernel
theorem dX3_init_4 : decode cX3_init 4 = .ok (.aload_n 0, 1) := by decide +kernel
theorem dX3_init_5 : decode cX3_init 5 = .ok (.bipush 24, 2) := by decide +kernel
theorem dX3_init_7 : decode cX3_init 7 = .ok (.newarray .int, 2) := by decide +kernel
theorem dX3_init_9 : decode cX3_init 9 = .ok (.putfield 9, 3) := by decide +kernel
theorem dX3_init_12 : decode cX3_init 12 = .ok (.aload_n 0, 1) := by decide +kernel
theorem dX3_init_13 : decode cX3_init 13 = .ok (.sipush 241, 3) := by decide +kernel
theorem dX3_init_16 : decode cX3_init 16 = .ok (.newarray .int, 2) := by decide +kernel
theorem dX3_init_18 : decode cX3_init 18 = .ok (.putfield 15, 3) := by decide +kernel
theorem dX3_init_21 : decode cX3_init 21 = .ok (.aload_n 0, 1) := by decide +kernel
theorem dX3_init_22 : decode cX3_init 22 = .ok (.sipush 241, 3) := by decide +kernel
theorem dX3_init_25 : decode cX3_init 25 = .ok (.newarray .int, 2) := by decide +kernel
theorem dX3_init_27 : decode cX3_init 27 = .ok (.putfield 18, 3) := by decide +kernel
theorem dX3_init_30 : decode cX3_init 30 = .ok (.aload_n 0, 1) := by decide +kernel
theorem dX3_init_31 : decode cX3_init 31 = .ok (.sipush 241, 3) := by decide +kernel
theorem dX3_init_34 : decode cX3_init 34 = .ok (.newarray .int, 2) := by decide +kernel
theorem dX3_init_36 : decode cX3_init 36 = .ok (.putfield 21, 3) := by decide +kernel
theorem dX3_init_39 : decode cX3_init 39 = .ok (.return_, 1) := by decide +kernel
theorem dX3_takePattern_0 : decode cX3_takePattern 0 = .ok (.aload_n 0, 1) := by decide +kernel
theorem dX3_takePattern_1 : decode cX3_takePattern 1 = .ok (.iload_n 2, 1) := by decide +kernel
theorem dX3_takePattern_2 : decode cX3_takePattern 2 = .ok (.bipush 24, 2) := by decide +kernel
theorem dX3_takePattern_4 : decode cX3_takePattern 4 = .ok (.invokestatic 24, 3) := by decide +kernel
theorem dX3_takePattern_7 : decode cX3_takePattern 7 = .ok (.putfield 30, 3) := by decide +kernel
theorem dX3_takePattern_10 : decode cX3_takePattern 10 = .ok (.iconst 0, 1) := by decide +kernel
theorem dX3_takePattern_11 : decode cX3_takePattern 11 = .ok (.istore_n 3, 1) := by decide +kernel
theorem dX3_takePattern_12 : decode cX3_takePattern 12 = .ok (.iload_n 3, 1) := by decide +kernel
theorem dX3_takePattern_13 : decode cX3_takePattern 13 = .ok (.aload_n 0, 1) := by decide +kernel
theorem dX3_takePattern_14 : decode cX3_takePattern 14 = .ok (.getfield 30, 3) := by decide +kernel
theorem dX3_takePattern_17 : decode cX3_takePattern 17 = .ok (.if_icmp .ge 20, 3) := by decide +kernel
theorem dX3_takePattern_20 : decode cX3_takePattern 20 = .ok (.aload_n 0, 1) := by decide +kernel
theorem dX3_takePattern_21 : decode cX3_takePattern 21 = .ok (.getfield 9, 3) := by decide +kernel
theorem dX3_takePattern_24 : decode cX3_takePattern 24 = .ok (.iload_n 3, 1) := by decide +kernel
theorem dX3_takePattern_25 : decode cX3_takePattern 25 = .ok (.aload_n 1, 1) := by decide +kernel
theorem dX3_takePattern_26 : decode cX3_takePattern 26 = .ok (.iload_n 3, 1) := by decide +kernel
theorem dX3_takePattern_27 : decode cX3_takePattern 27 = .ok (.invokevirtual 34, 3) := by decide +kernel
theorem dX3_takePattern_30 : decode cX3_takePattern 30 = .ok (.iastore, 1) := by decide +kernel
theorem dX3_takePattern_31 : decode cX3_takePattern 31 = .ok (.iinc 3 1, 3) := by decide +kernel
theorem dX3_takePattern_34 : decode cX3_takePattern 34 = .ok (.goto (-22), 3) := by decide +kernel
theorem dX3_takePattern_37 : decode cX3_takePattern 37 = .ok (.return_, 1) := by decide +kernel
theorem dX3_gather_0 : decode cX3_gather 0 = .ok (.aload_n 0, 1) := by decide +kernel
theorem dX3_gather_1 : decode cX3_gather 1 = .ok (.iconst 1, 1) := by decide +kernel
theorem dX3_gather_2 : decode cX3_gather 2 = .ok (.putfield 40, 3) := by decide +kernel
theorem dX3_gather_5 : decode cX3_gather 5 = .ok (.aload_n 0, 1) := by decide +kernel
theorem dX3_gather_6 : decode cX3_gather 6 = .ok (.aload_n 1, 1) := by decide +kernel
theorem dX3_gather_7 : decode cX3_gather 7 = .ok (.getfield 44, 3) := by decide +kernel
theorem dX3_gather_10 : decode cX3_gather 10 = .ok (.putfield 49, 3) := by decide +kernel
theorem dX3_gather_13 : decode cX3_gather 13 = .ok (.aload_n 0, 1) := by decide +kernel
theorem dX3_gather_14 : decode cX3_gather 14 = .ok (.aload_n 1, 1) := by decide +kernel
theorem dX3_gather_15 : decode cX3_gather 15 = .ok (.getfield 50, 3) := by decide +kernel
theorem dX3_gather_18 : decode cX3_gather 18 = .ok (.putfield 53, 3) := by decide +kernel
theorem dX3_gather_21 : decode cX3_gather 21 = .ok (.aload_n 0, 1) := by decide +kernel
theorem dX3_gather_22 : decode cX3_gather 22 = .ok (.iconst 0, 1) := by decide +kernel
theorem dX3_gather_23 : decode cX3_gather 23 = .ok (.putfield 54, 3) := by decide +kernel
theorem dX3_gather_26 : decode cX3_gather 26 = .ok (.iconst 0, 1) := by decide +kernel
theorem dX3_gather_27 : decode cX3_gather 27 = .ok (.istore_n 3, 1) := by decide +kernel
theorem dX3_gather_28 : decode cX3_gather 28 = .ok (.iload_n 3, 1) := by decide +kernel
theorem dX3_gather_29 : decode cX3_gather 29 = .ok (.iload_n 2, 1) := by decide +kernel
theorem dX3_gather_30 : decode cX3_gather 30 = .ok (.if_icmp .gt 68, 3) := by decide +kernel
theorem dX3_gather_33 : decode cX3_gather 33 = .ok (.aload_n 1, 1) := by decide +kernel
theorem dX3_gather_34 : decode cX3_gather 34 = .ok (.getfield 57, 3) := by decide +kernel
theorem dX3_gather_37 : decode cX3_gather 37 = .ok (.iload_n 3, 1) := by decide +kernel
theorem dX3_gather_38 : decode cX3_gather 38 = .ok (.iaload, 1) := by decide +kernel
theorem dX3_gather_39 : decode cX3_gather 39 = .ok (.ifCond .le 53, 3) := by decide +kernel
theorem dX3_gather_42 : decode cX3_gather 42 = .ok (.aload_n 0, 1) := by decide +kernel
theorem dX3_gather_43 : decode cX3_gather 43 = .ok (.getfield 15, 3) := by decide +kernel
theorem dX3_gather_46 : decode cX3_gather 46 = .ok (.aload_n 0, 1) := by decide +kernel
theorem dX3_gather_47 : decode cX3_gather 47 = .ok (.getfield 54, 3) := by decide +kernel
theorem dX3_gather_50 : decode cX3_gather 50 = .ok (.iload_n 3, 1) := by decide +kernel
theorem dX3_gather_51 : decode cX3_gather 51 = .ok (.iastore, 1) := by decide +kernel
theorem dX3_gather_52 : decode cX3_gather 52 = .ok (.aload_n 0, 1) := by decide +kernel
theorem dX3_gather_53 : decode cX3_gather 53 = .ok (.getfield 18, 3) := by decide +kernel
theorem dX3_gather_56 : decode cX3_gather 56 = .ok (.aload_n 0, 1) := by decide +kernel
theorem dX3_gather_57 : decode cX3_gather 57 = .ok (.getfield 54, 3) := by decide +kernel
theorem dX3_gather_60 : decode cX3_gather 60 = .ok (.aload_n 1, 1) := by decide +kernel
theorem dX3_gather_61 : decode cX3_gather 61 = .ok (.getfield 58, 3) := by decide +kernel
theorem dX3_gather_64 : decode cX3_gather 64 = .ok (.iload_n 3, 1) := by decide +kernel
theorem dX3_gather_65 : decode cX3_gather 65 = .ok (.iaload, 1) := by decide +kernel
theorem dX3_gather_66 : decode cX3_gather 66 = .ok (.iastore, 1) := by decide +kernel
theorem dX3_gather_67 : decode cX3_gather 67 = .ok (.aload_n 0, 1) := by decide +kernel
theorem dX3_gather_68 : decode cX3_gather 68 = .ok (.getfield 21, 3) := by decide +kernel
theorem dX3_gather_71 : decode cX3_gather 71 = .ok (.aload_n 0, 1) := by decide +kernel
theorem dX3_gather_72 : decode cX3_gather 72 = .ok (.getfield 54, 3) := by decide +kernel
theorem dX3_gather_75 : decode cX3_gather 75 = .ok (.aload_n 1, 1) := by decide +kernel
theorem dX3_gather_76 : decode cX3_gather 76 = .ok (.getfield 57, 3) := by decide +kernel
theorem dX3_gather_79 : decode cX3_gather 79 = .ok (.iload_n 3, 1) := by decide +kernel
theorem dX3_gather_80 : decode cX3_gather 80 = .ok (.iaload, 1) := by decide +kernel
theorem dX3_gather_81 : decode cX3_gather 81 = .ok (.iastore, 1) := by decide +kernel
theorem dX3_gather_82 : decode cX3_gather 82 = .ok (.aload_n 0, 1) := by decide +kernel
theorem dX3_gather_83 : decode cX3_gather 83 = .ok (.dup, 1) := by decide +kernel
theorem dX3_gather_84 : decode cX3_gather 84 = .ok (.getfield 54, 3) := by decide +kernel
theorem dX3_gather_87 : decode cX3_gather 87 = .ok (.iconst 1, 1) := by decide +kernel
theorem dX3_gather_88 : decode cX3_gather 88 = .ok (.iadd, 1) := by decide +kernel
theorem dX3_gather_89 : decode cX3_gather 89 = .ok (.putfield 54, 3) := by decide +kernel
theorem dX3_gather_92 : decode cX3_gather 92 = .ok (.iinc 3 1, 3) := by decide +kernel
theorem dX3_gather_95 : decode cX3_gather 95 = .ok (.goto (-67), 3) := by decide +kernel
theorem dX3_gather_98 : decode cX3_gather 98 = .ok (.return_, 1) := by decide +kernel
theorem dX3_unlikeBits_0 : decode cX3_unlikeBits 0 = .ok (.iconst 0, 1) := by decide +kernel
theorem dX3_unlikeBits_1 : decode cX3_unlikeBits 1 = .ok (.istore_n 3, 1) := by decide +kernel
theorem dX3_unlikeBits_2 : decode cX3_unlikeBits 2 = .ok (.iconst 0, 1) := by decide +kernel
theorem dX3_unlikeBits_3 : decode cX3_unlikeBits 3 = .ok (.istore 4, 2) := by decide +kernel
theorem dX3_unlikeBits_5 : decode cX3_unlikeBits 5 = .ok (.iload 4, 2) := by decide +kernel
theorem dX3_unlikeBits_7 : decode cX3_unlikeBits 7 = .ok (.aload_n 0, 1) := by decide +kernel
theorem dX3_unlikeBits_8 : decode cX3_unlikeBits 8 = .ok (.getfield 30, 3) := by decide +kernel
theorem dX3_unlikeBits_11 : decode cX3_unlikeBits 11 = .ok (.if_icmp .ge 48, 3) := by decide +kernel
theorem dX3_unlikeBits_14 : decode cX3_unlikeBits 14 = .ok (.iload_n 2, 1) := by decide +kernel
theorem dX3_unlikeBits_15 : decode cX3_unlikeBits 15 = .ok (.iload 4, 2) := by decide +kernel
theorem dX3_unlikeBits_17 : decode cX3_unlikeBits 17 = .ok (.iadd, 1) := by decide +kernel
theorem dX3_unlikeBits_18 : decode cX3_unlikeBits 18 = .ok (.aload_n 1, 1) := by decide +kernel
theorem dX3_unlikeBits_19 : decode cX3_unlikeBits 19 = .ok (.getfield 59, 3) := by decide +kernel
theorem dX3_unlikeBits_22 : decode cX3_unlikeBits 22 = .ok (.if_icmp .ge 37, 3) := by decide +kernel
theorem dX3_unlikeBits_25 : decode cX3_unlikeBits 25 = .ok (.aload_n 1, 1) := by decide +kernel
theorem dX3_unlikeBits_26 : decode cX3_unlikeBits 26 = .ok (.getfield 64, 3) := by decide +kernel
theorem dX3_unlikeBits_29 : decode cX3_unlikeBits 29 = .ok (.iload_n 2, 1) := by decide +kernel
theorem dX3_unlikeBits_30 : decode cX3_unlikeBits 30 = .ok (.iload 4, 2) := by decide +kernel
theorem dX3_unlikeBits_32 : decode cX3_unlikeBits 32 = .ok (.iadd, 1) := by decide +kernel
theorem dX3_unlikeBits_33 : decode cX3_unlikeBits 33 = .ok (.iaload, 1) := by decide +kernel
theorem dX3_unlikeBits_34 : decode cX3_unlikeBits 34 = .ok (.aload_n 0, 1) := by decide +kernel
theorem dX3_unlikeBits_35 : decode cX3_unlikeBits 35 = .ok (.getfield 9, 3) := by decide +kernel
theorem dX3_unlikeBits_38 : decode cX3_unlikeBits 38 = .ok (.iload 4, 2) := by decide +kernel
theorem dX3_unlikeBits_40 : decode cX3_unlikeBits 40 = .ok (.iaload, 1) := by decide +kernel
theorem dX3_unlikeBits_41 : decode cX3_unlikeBits 41 = .ok (.iconst 2, 1) := by decide +kernel
theorem dX3_unlikeBits_42 : decode cX3_unlikeBits 42 = .ok (.iadd, 1) := by decide +kernel
theorem dX3_unlikeBits_43 : decode cX3_unlikeBits 43 = .ok (.if_icmp .eq 10, 3) := by decide +kernel
theorem dX3_unlikeBits_46 : decode cX3_unlikeBits 46 = .ok (.iload_n 3, 1) := by decide +kernel
theorem dX3_unlikeBits_47 : decode cX3_unlikeBits 47 = .ok (.iconst 1, 1) := by decide +kernel
theorem dX3_unlikeBits_48 : decode cX3_unlikeBits 48 = .ok (.iload 4, 2) := by decide +kernel
theorem dX3_unlikeBits_50 : decode cX3_unlikeBits 50 = .ok (.ishl, 1) := by decide +kernel
theorem dX3_unlikeBits_51 : decode cX3_unlikeBits 51 = .ok (.ior, 1) := by decide +kernel
theorem dX3_unlikeBits_52 : decode cX3_unlikeBits 52 = .ok (.istore_n 3, 1) := by decide +kernel
theorem dX3_unlikeBits_53 : decode cX3_unlikeBits 53 = .ok (.iinc 4 1, 3) := by decide +kernel
theorem dX3_unlikeBits_56 : decode cX3_unlikeBits 56 = .ok (.goto (-51), 3) := by decide +kernel
theorem dX3_unlikeBits_59 : decode cX3_unlikeBits 59 = .ok (.iload_n 3, 1) := by decide +kernel
theorem dX3_unlikeBits_60 : decode cX3_unlikeBits 60 = .ok (.ireturn, 1) := by decide +kernel
theorem dX3_faultless_0 : decode cX3_faultless 0 = .ok (.iconst 0, 1) := by decide +kernel
theorem dX3_faultless_1 : decode cX3_faultless 1 = .ok (.istore_n 1, 1) := by decide +kernel
theorem dX3_faultless_2 : decode cX3_faultless 2 = .ok (.iconst 0, 1) := by decide +kernel
theorem dX3_faultless_3 : decode cX3_faultless 3 = .ok (.istore_n 2, 1) := by decide +kernel
theorem dX3_faultless_4 : decode cX3_faultless 4 = .ok (.iload_n 2, 1) := by decide +kernel
theorem dX3_faultless_5 : decode cX3_faultless 5 = .ok (.aload_n 0, 1) := by decide +kernel
theorem dX3_faultless_6 : decode cX3_faultless 6 = .ok (.getfield 54, 3) := by decide +kernel
theorem dX3_faultless_9 : decode cX3_faultless 9 = .ok (.if_icmp .ge 21, 3) := by decide +kernel
theorem dX3_faultless_12 : decode cX3_faultless 12 = .ok (.aload_n 0, 1) := by decide +kernel
theorem dX3_faultless_13 : decode cX3_faultless 13 = .ok (.getfield 18, 3) := by decide +kernel
theorem dX3_faultless_16 : decode cX3_faultless 16 = .ok (.iload_n 2, 1) := by decide +kernel
theorem dX3_faultless_17 : decode cX3_faultless 17 = .ok (.iaload, 1) := by decide +kernel
theorem dX3_faultless_18 : decode cX3_faultless 18 = .ok (.ifCond .ne 6, 3) := by decide +kernel
theorem dX3_faultless_21 : decode cX3_faultless 21 = .ok (.iinc 1 1, 3) := by decide +kernel
theorem dX3_faultless_24 : decode cX3_faultless 24 = .ok (.iinc 2 1, 3) := by decide +kernel
theorem dX3_faultless_27 : decode cX3_faultless 27 = .ok (.goto (-23), 3) := by decide +kernel
theorem dX3_faultless_30 : decode cX3_faultless 30 = .ok (.iload_n 1, 1) := by decide +kernel
theorem dX3_faultless_31 : decode cX3_faultless 31 = .ok (.ireturn, 1) := by decide +kernel
theorem dX3_mostMismatches_0 : decode cX3_mostMismatches 0 = .ok (.iconst (-1), 1) := by decide +kernel
theorem dX3_mostMismatches_1 : decode cX3_mostMismatches 1 = .ok (.istore_n 1, 1) := by decide +kernel
theorem dX3_mostMismatches_2 : decode cX3_mostMismatches 2 = .ok (.iconst 0, 1) := by decide +kernel
theorem dX3_mostMismatches_3 : decode cX3_mostMismatches 3 = .ok (.istore_n 2, 1) := by decide +kernel
theorem dX3_mostMismatches_4 : decode cX3_mostMismatches 4 = .ok (.iload_n 2, 1) := by decide +kernel
theorem dX3_mostMismatches_5 : decode cX3_mostMismatches 5 = .ok (.aload_n 0, 1) := by decide +kernel
theorem dX3_mostMismatches_6 : decode cX3_mostMismatches 6 = .ok (.getfield 54, 3) := by decide +kernel
theorem dX3_mostMismatches_9 : decode cX3_mostMismatches 9 = .ok (.if_icmp .ge 20, 3) := by decide +kernel
theorem dX3_mostMismatches_12 : decode cX3_mostMismatches 12 = .ok (.iload_n 1, 1) := by decide +kernel
theorem dX3_mostMismatches_13 : decode cX3_mostMismatches 13 = .ok (.aload_n 0, 1) := by decide +kernel
theorem dX3_mostMismatches_14 : decode cX3_mostMismatches 14 = .ok (.getfield 18, 3) := by decide +kernel
theorem dX3_mostMismatches_17 : decode cX3_mostMismatches 17 = .ok (.iload_n 2, 1) := by decide +kernel
theorem dX3_mostMismatches_18 : decode cX3_mostMismatches 18 = .ok (.iaload, 1) := by decide +kernel
theorem dX3_mostMismatches_19 : decode cX3_mostMismatches 19 = .ok (.invokestatic 67, 3) := by decide +kernel
theorem dX3_mostMismatches_22 : decode cX3_mostMismatches 22 = .ok (.istore_n 1, 1) := by decide +kernel
theorem dX3_mostMismatches_23 : decode cX3_mostMismatches 23 = .ok (.iinc 2 1, 3) := by decide +kernel
theorem dX3_mostMismatches_26 : decode cX3_mostMismatches 26 = .ok (.goto (-22), 3) := by decide +kernel
theorem dX3_mostMismatches_29 : decode cX3_mostMismatches 29 = .ok (.iload_n 1, 1) := by decide +kernel
theorem dX3_mostMismatches_30 : decode cX3_mostMismatches 30 = .ok (.ireturn, 1) := by decide +kernel
theorem dX4_init_0 : decode cX4_init 0 = .ok (.aload_n 0, 1) := by decide +kernel
theorem dX4_init_1 : decode cX4_init 1 = .ok (.invokespecial 3, 3) := by decide +kernel
theorem dX4_init_4 : decode cX4_init 4 = .ok (.aload_n 0, 1) := by decide +kernel
theorem dX4_init_5 : decode cX4_init 5 = .ok (.sipush 241, 3) := by decide +kernel
theorem dX4_init_8 : decode cX4_init 8 = .ok (.newarray .int, 2) := by decide +kernel
theorem dX4_init_10 : decode cX4_init 10 = .ok (.putfield 9, 3) := by decide +kernel
theorem dX4_init_13 : decode cX4_init 13 = .ok (.aload_n 0, 1) := by decide +kernel
theorem dX4_init_14 : decode cX4_init 14 = .ok (.sipush 241, 3) := by decide +kernel
theorem dX4_init_17 : decode cX4_init 17 = .ok (.newarray .int, 2) := by decide +kernel
theorem dX4_init_19 : decode cX4_init 19 = .ok (.putfield 15, 3) := by decide +kernel
theorem dX4_init_22 : decode cX4_init 22 = .ok (.aload_n 0, 1) := by decide +kernel
theorem dX4_init_23 : decode cX4_init 23 = .ok (.sipush 241, 3) := by decide +kernel
theorem dX4_init_26 : decode cX4_init 26 = .ok (.newarray .int, 2) := by decide +kernel
theorem dX4_init_28 : decode cX4_init 28 = .ok (.putfield 18, 3) := by decide +kernel
theorem dX4_init_31 : decode cX4_init 31 = .ok (.aload_n 0, 1) := by decide +kernel
theorem dX4_init_32 : decode cX4_init 32 = .ok (.sipush 1936, 3) := by decide +kernel
theorem dX4_init_35 : decode cX4_init 35 = .ok (.newarray .int, 2) := by decide +kernel
theorem dX4_init_37 : decode cX4_init 37 = .ok (.putfield 21, 3) := by decide +kernel
theorem dX4_init_40 : decode cX4_init 40 = .ok (.aload_n 0, 1) := by decide +kernel
theorem dX4_init_41 : decode cX4_init 41 = .ok (.aload_n 1, 1) := by decide +kernel
theorem dX4_init_42 : decode cX4_init 42 = .ok (.putfield 24, 3) := by decide +kernel
theorem dX4_init_45 : decode cX4_init 45 = .ok (.return_, 1) := by decide +kernel
theorem dX4_arrange_0 : decode cX4_arrange 0 = .ok (.aload_n 0, 1) := by decide +kernel
theorem dX4_arrange_1 : decode cX4_arrange 1 = .ok (.iload_n 1, 1) := by decide +kernel
theorem dX4_arrange_2 : decode cX4_arrange 2 = .ok (.putfield 27, 3) := by decide +kernel
theorem dX4_arrange_5 : decode cX4_arrange 5 = .ok (.aload_n 0, 1) := by decide +kernel
theorem dX4_arrange_6 : decode cX4_arrange 6 = .ok (.invokevirtual 31, 3) := by decide +kernel
theorem dX4_arrange_9 : decode cX4_arrange 9 = .ok (.aload_n 0, 1) := by decide +kernel
theorem dX4_arrange_10 : decode cX4_arrange 10 = .ok (.invokevirtual 34, 3) := by decide +kernel
theorem dX4_arrange_13 : decode cX4_arrange 13 = .ok (.aload_n 0, 1) := by decide +kernel
theorem dX4_arrange_14 : decode cX4_arrange 14 = .ok (.invokevirtual 37, 3) := by decide +kernel
theorem dX4_arrange_17 : decode cX4_arrange 17 = .ok (.return_, 1) := by decide +kernel
theorem dX4_sortPlaces_0 : decode cX4_sortPlaces 0 = .ok (.aload_n 0, 1) := by decide +kernel
theorem dX4_sortPlaces_1 : decode cX4_sortPlaces 1 = .ok (.getfield 9, 3) := by decide +kernel
theorem dX4_sortPlaces_4 : decode cX4_sortPlaces 4 = .ok (.iconst 0, 1) := by decide +kernel
theorem dX4_sortPlaces_5 : decode cX4_sortPlaces 5 = .ok (.aload_n 0, 1) := by decide +kernel
theorem dX4_sortPlaces_6 : decode cX4_sortPlaces 6 = .ok (.getfield 27, 3) := by decide +kernel
theorem dX4_sortPlaces_9 : decode cX4_sortPlaces 9 = .ok (.iastore, 1) := by decide +kernel
theorem dX4_sortPlaces_10 : decode cX4_sortPlaces 10 = .ok (.aload_n 0, 1) := by decide +kernel
theorem dX4_sortPlaces_11 : decode cX4_sortPlaces 11 = .ok (.getfield 15, 3) := by decide +kernel
theorem dX4_sortPlaces_14 : decode cX4_sortPlaces 14 = .ok (.aload_n 0, 1) := by decide +kernel
theorem dX4_sortPlaces_15 : decode cX4_sortPlaces 15 = .ok (.getfield 27, 3) := by decide +kernel
theorem dX4_sortPlaces_18 : decode cX4_sortPlaces 18 = .ok (.iconst 0, 1) := by decide +kernel
theorem dX4_sortPlaces_19 : decode cX4_sortPlaces 19 = .ok (.iastore, 1) := by decide +kernel
theorem dX4_sortPlaces_20 : decode cX4_sortPlaces 20 = .ok (.aload_n 0, 1) := by decide +kernel
theorem dX4_sortPlaces_21 : decode cX4_sortPlaces 21 = .ok (.getfield 27, 3) := by decide +kernel
theorem dX4_sortPlaces_24 : decode cX4_sortPlaces 24 = .ok (.iconst 1, 1) := by decide +kernel
theorem dX4_sortPlaces_25 : decode cX4_sortPlaces 25 = .ok (.isub, 1) := by decide +kernel
theorem dX4_sortPlaces_26 : decode cX4_sortPlaces 26 = .ok (.istore_n 1, 1) := by decide +kernel
theorem dX4_sortPlaces_27 : decode cX4_sortPlaces 27 = .ok (.iload_n 1, 1) := by decide +kernel
theorem dX4_sortPlaces_28 : decode cX4_sortPlaces 28 = .ok (.ifCond .lt 82, 3) := by decide +kernel
theorem dX4_sortPlaces_31 : decode cX4_sortPlaces 31 = .ok (.aload_n 0, 1) := by decide +kernel
theorem dX4_sortPlaces_32 : decode cX4_sortPlaces 32 = .ok (.getfield 27, 3) := by decide +kernel
theorem dX4_sortPlaces_35 : decode cX4_sortPlaces 35 = .ok (.iload_n 1, 1) := by decide +kernel
theorem dX4_sortPlaces_36 : decode cX4_sortPlaces 36 = .ok (.isub, 1) := by decide +kernel
theorem dX4_sortPlaces_37 : decode cX4_sortPlaces 37 = .ok (.istore_n 2, 1) := by decide +kernel
theorem dX4_sortPlaces_38 : decode cX4_sortPlaces 38 = .ok (.iload_n 2, 1) := by decide +kernel
theorem dX4_sortPlaces_39 : decode cX4_sortPlaces 39 = .ok (.ifCond .le 51, 3) := by decide +kernel
theorem dX4_sortPlaces_42 : decode cX4_sortPlaces 42 = .ok (.aload_n 0, 1) := by decide +kernel
theorem dX4_sortPlaces_43 : decode cX4_sortPlaces 43 = .ok (.iload_n 1, 1) := by decide +kernel
theorem dX4_sortPlaces_44 : decode cX4_sortPlaces 44 = .ok (.aload_n 0, 1) := by decide +kernel
theorem dX4_sortPlaces_45 : decode cX4_sortPlaces 45 = .ok (.getfield 9, 3) := by decide +kernel
theorem dX4_sortPlaces_48 : decode cX4_sortPlaces 48 = .ok (.iload_n 2, 1) := by decide +kernel
theorem dX4_sortPlaces_49 : decode cX4_sortPlaces 49 = .ok (.iconst 1, 1) := by decide +kernel
theorem dX4_sortPlaces_50 : decode cX4_sortPlaces 50 = .ok (.isub, 1) := by decide +kernel
theorem dX4_sortPlaces_51 : decode cX4_sortPlaces 51 = .ok (.iaload, 1) := by decide +kernel
theorem dX4_sortPlaces_52 : decode cX4_sortPlaces 52 = .ok (.invokevirtual 40, 3) := by decide +kernel
theorem dX4_sortPlaces_55 : decode cX4_sortPlaces 55 = .ok (.ifCond .eq 35, 3) := by decide +kernel
theorem dX4_sortPlaces_58 : decode cX4_sortPlaces 58 = .ok (.aload_n 0, 1) := by decide +kernel
theorem dX4_sortPlaces_59 : decode cX4_sortPlaces 59 = .ok (.getfield 9, 3) := by decide +kernel
theorem dX4_sortPlaces_62 : decode cX4_sortPlaces 62 = .ok (.iload_n 2, 1) := by decide +kernel
theorem dX4_sortPlaces_63 : decode cX4_sortPlaces 63 = .ok (.aload_n 0, 1) := by decide +kernel
theorem dX4_sortPlaces_64 : decode cX4_sortPlaces 64 = .ok (.getfield 9, 3) := by decide +kernel
theorem dX4_sortPlaces_67 : decode cX4_sortPlaces 67 = .ok (.iload_n 2, 1) := by decide +kernel
theorem dX4_sortPlaces_68 : decode cX4_sortPlaces 68 = .ok (.iconst 1, 1) := by decide +kernel
theorem dX4_sortPlaces_69 : decode cX4_sortPlaces 69 = .ok (.isub, 1) := by decide +kernel
theorem dX4_sortPlaces_70 : decode cX4_sortPlaces 70 = .ok (.iaload, 1) := by decide +kernel
theorem dX4_sortPlaces_71 : decode cX4_sortPlaces 71 = .ok (.iastore, 1) := by decide +kernel
theorem dX4_sortPlaces_72 : decode cX4_sortPlaces 72 = .ok (.aload_n 0, 1) := by decide +kernel
theorem dX4_sortPlaces_73 : decode cX4_sortPlaces 73 = .ok (.getfield 15, 3) := by decide +kernel
theorem dX4_sortPlaces_76 : decode cX4_sortPlaces 76 = .ok (.aload_n 0, 1) := by decide +kernel
theorem dX4_sortPlaces_77 : decode cX4_sortPlaces 77 = .ok (.getfield 9, 3) := by decide +kernel
theorem dX4_sortPlaces_80 : decode cX4_sortPlaces 80 = .ok (.iload_n 2, 1) := by decide +kernel
theorem dX4_sortPlaces_81 : decode cX4_sortPlaces 81 = .ok (.iaload, 1) := by decide +kernel
theorem dX4_sortPlaces_82 : decode cX4_sortPlaces 82 = .ok (.iload_n 2, 1) := by decide +kernel
theorem dX4_sortPlaces_83 : decode cX4_sortPlaces 83 = .ok (.iastore, 1) := by decide +kernel
theorem dX4_sortPlaces_84 : decode cX4_sortPlaces 84 = .ok (.iinc 2 (-1), 3) := by decide +kernel
theorem dX4_sortPlaces_87 : decode cX4_sortPlaces 87 = .ok (.goto (-49), 3) := by decide +kernel
theorem dX4_sortPlaces_90 : decode cX4_sortPlaces 90 = .ok (.aload_n 0, 1) := by decide +kernel
theorem dX4_sortPlaces_91 : decode cX4_sortPlaces 91 = .ok (.getfield 9, 3) := by decide +kernel
theorem dX4_sortPlaces_94 : decode cX4_sortPlaces 94 = .ok (.iload_n 2, 1) := by decide +kernel
theorem dX4_sortPlaces_95 : decode cX4_sortPlaces 95 = .ok (.iload_n 1, 1) := by decide +kernel
theorem dX4_sortPlaces_96 : decode cX4_sortPlaces 96 = .ok (.iastore, 1) := by decide +kernel
theorem dX4_sortPlaces_97 : decode cX4_sortPlaces 97 = .ok (.aload_n 0, 1) := by decide +kernel
theorem dX4_sortPlaces_98 : decode cX4_sortPlaces 98 = .ok (.getfield 15, 3) := by decide +kernel
theorem dX4_sortPlaces_101 : decode cX4_sortPlaces 101 = .ok (.iload_n 1, 1) := by decide +kernel
theorem dX4_sortPlaces_102 : decode cX4_sortPlaces 102 = .ok (.iload_n 2, 1) := by decide +kernel
theorem dX4_sortPlaces_103 : decode cX4_sortPlaces 103 = .ok (.iastore, 1) := by decide +kernel
theorem dX4_sortPlaces_104 : decode cX4_sortPlaces 104 = .ok (.iinc 1 (-1), 3) := by decide +kernel
theorem dX4_sortPlaces_107 : decode cX4_sortPlaces 107 = .ok (.goto (-80), 3) := by decide +kernel
theorem dX4_sortPlaces_110 : decode cX4_sortPlaces 110 = .ok (.return_, 1) := by decide +kernel
theorem dX4_isAhead_0 : decode cX4_isAhead 0 = .ok (.aload_n 0, 1) := by decide +kernel
theorem dX4_isAhead_1 : decode cX4_isAhead 1 = .ok (.getfield 24, 3) := by decide +kernel
theorem dX4_isAhead_4 : decode cX4_isAhead 4 = .ok (.iload_n 1, 1) := by decide +kernel
theorem dX4_isAhead_5 : decode cX4_isAhead 5 = .ok (.iaload, 1) := by decide +kernel
theorem dX4_isAhead_6 : decode cX4_isAhead 6 = .ok (.aload_n 0, 1) := by decide +kernel
theorem dX4_isAhead_7 : decode cX4_isAhead 7 = .ok (.getfield 24, 3) := by decide +kernel
theorem dX4_isAhead_10 : decode cX4_isAhead 10 = .ok (.iload_n 2, 1) := by decide +kernel
theorem dX4_isAhead_11 : decode cX4_isAhead 11 = .ok (.iaload, 1) := by decide +kernel
theorem dX4_isAhead_12 : decode cX4_isAhead 12 = .ok (.if_icmp .ne 19, 3) := by decide +kernel
theorem dX4_isAhead_15 : decode cX4_isAhead 15 = .ok (.iload_n 1, 1) := by decide +kernel
theorem dX4_isAhead_16 : decode cX4_isAhead 16 = .ok (.aload_n 0, 1) := by decide +kernel
theorem dX4_isAhead_17 : decode cX4_isAhead 17 = .ok (.getfield 27, 3) := by decide +kernel
theorem dX4_isAhead_20 : decode cX4_isAhead 20 = .ok (.if_icmp .ge 11, 3) := by decide +kernel
theorem dX4_isAhead_23 : decode cX4_isAhead 23 = .ok (.iload_n 2, 1) := by decide +kernel
theorem dX4_isAhead_24 : decode cX4_isAhead 24 = .ok (.aload_n 0, 1) := by decide +kernel
theorem dX4_isAhead_25 : decode cX4_isAhead 25 = .ok (.getfield 27, 3) := by decide +kernel
theorem dX4_isAhead_28 : decode cX4_isAhead 28 = .ok (.if_icmp .lt 24, 3) := by decide +kernel
theorem dX4_isAhead_31 : decode cX4_isAhead 31 = .ok (.aload_n 0, 1) := by decide +kernel
theorem dX4_isAhead_32 : decode cX4_isAhead 32 = .ok (.getfield 24, 3) := by decide +kernel
theorem dX4_isAhead_35 : decode cX4_isAhead 35 = .ok (.iload_n 1, 1) := by decide +kernel
theorem dX4_isAhead_36 : decode cX4_isAhead 36 = .ok (.iaload, 1) := by decide +kernel
theorem dX4_isAhead_37 : decode cX4_isAhead 37 = .ok (.aload_n 0, 1) := by decide +kernel
theorem dX4_isAhead_38 : decode cX4_isAhead 38 = .ok (.getfield 24, 3) := by decide +kernel
theorem dX4_isAhead_41 : decode cX4_isAhead 41 = .ok (.iload_n 2, 1) := by decide +kernel
theorem dX4_isAhead_42 : decode cX4_isAhead 42 = .ok (.iaload, 1) := by decide +kernel
theorem dX4_isAhead_43 : decode cX4_isAhead 43 = .ok (.if_icmp .ge 7, 3) := by decide +kernel
theorem dX4_isAhead_46 : decode cX4_isAhead 46 = .ok (.iconst 1, 1) := by decide +kernel
theorem dX4_isAhead_47 : decode cX4_isAhead 47 = .ok (.goto 4, 3) := by decide +kernel
theorem dX4_isAhead_50 : decode cX4_isAhead 50 = .ok (.iconst 0, 1) := by decide +kernel
theorem dX4_isAhead_51 : decode cX4_isAhead 51 = .ok (.ireturn, 1) := by decide +kernel
theorem dX4_isAhead_52 : decode cX4_isAhead 52 = .ok (.aload_n 0, 1) := by decide +kernel
theorem dX4_isAhead_53 : decode cX4_isAhead 53 = .ok (.getfield 15, 3) := by decide +kernel
theorem dX4_isAhead_56 : decode cX4_isAhead 56 = .ok (.iload_n 1, 1) := by decide +kernel
theorem dX4_isAhead_57 : decode cX4_isAhead 57 = .ok (.iconst 1, 1) := by decide +kernel
theorem dX4_isAhead_58 : decode cX4_isAhead 58 = .ok (.iadd, 1) := by decide +kernel
theorem dX4_isAhead_59 : decode cX4_isAhead 59 = .ok (.iaload, 1) := by decide +kernel
theorem dX4_isAhead_60 : decode cX4_isAhead 60 = .ok (.aload_n 0, 1) := by decide +kernel
theorem dX4_isAhead_61 : decode cX4_isAhead 61 = .ok (.getfield 15, 3) := by decide +kernel
theorem dX4_isAhead_64 : decode cX4_isAhead 64 = .ok (.iload_n 2, 1) := by decide +kernel
theorem dX4_isAhead_65 : decode cX4_isAhead 65 = .ok (.iconst 1, 1) := by decide +kernel
theorem dX4_isAhead_66 : decode cX4_isAhead 66 = .ok (.iadd, 1) := by decide +kernel
theorem dX4_isAhead_67 : decode cX4_isAhead 67 = .ok (.iaload, 1) := by decide +kernel
theorem dX4_isAhead_68 : decode cX4_isAhead 68 = .ok (.if_icmp .ge 7, 3) := by decide +kernel
theorem dX4_isAhead_71 : decode cX4_isAhead 71 = .ok (.iconst 1, 1) := by decide +kernel
theorem dX4_isAhead_72 : decode cX4_isAhead 72 = .ok (.goto 4, 3) := by decide +kernel
theorem dX4_isAhead_75 : decode cX4_isAhead 75 = .ok (.iconst 0, 1) := by decide +kernel
theorem dX4_isAhead_76 : decode cX4_isAhead 76 = .ok (.ireturn, 1) := by decide +kernel
theorem dX4_compareNeighbours_0 : decode cX4_compareNeighbours 0 = .ok (.iconst 0, 1) := by decide +kernel
theorem dX4_compareNeighbours_1 : decode cX4_compareNeighbours 1 = .ok (.istore_n 1, 1) := by decide +kernel
theorem dX4_compareNeighbours_2 : decode cX4_compareNeighbours 2 = .ok (.iconst 0, 1) := by decide +kernel
theorem dX4_compareNeighbours_3 : decode cX4_compareNeighbours 3 = .ok (.istore_n 2, 1) := by decide +kernel
theorem dX4_compareNeighbours_4 : decode cX4_compareNeighbours 4 = .ok (.iload_n 2, 1) := by decide +kernel
theorem dX4_compareNeighbours_5 : decode cX4_compareNeighbours 5 = .ok (.aload_n 0, 1) := by decide +kernel
theorem dX4_compareNeighbours_6 : decode cX4_compareNeighbours 6 = .ok (.getfield 27, 3) := by decide +kernel
theorem dX4_compareNeighbours_9 : decode cX4_compareNeighbours 9 = .ok (.if_icmp .gt 104, 3) := by decide +kernel
theorem dX4_compareNeighbours_12 : decode cX4_compareNeighbours 12 = .ok (.aload_n 0, 1) := by decide +kernel
theorem dX4_compareNeighbours_13 : decode cX4_compareNeighbours 13 = .ok (.getfield 15, 3) := by decide +kernel
theorem dX4_compareNeighbours_16 : decode cX4_compareNeighbours 16 = .ok (.iload_n 2, 1) := by decide +kernel
theorem dX4_compareNeighbours_17 : decode cX4_compareNeighbours 17 = .ok (.iaload, 1) := by decide +kernel
theorem dX4_compareNeighbours_18 : decode cX4_compareNeighbours 18 = .ok (.istore_n 3, 1) := by decide +kernel
theorem dX4_compareNeighbours_19 : decode cX4_compareNeighbours 19 = .ok (.iload_n 3, 1) := by decide +kernel
theorem dX4_compareNeighbours_20 : decode cX4_compareNeighbours 20 = .ok (.ifCond .ne 15, 3) := by decide +kernel
theorem dX4_compareNeighbours_23 : decode cX4_compareNeighbours 23 = .ok (.aload_n 0, 1) := by decide +kernel
theorem dX4_compareNeighbours_24 : decode cX4_compareNeighbours 24 = .ok (.getfield 18, 3) := by decide +kernel
theorem dX4_compareNeighbours_27 : decode cX4_compareNeighbours 27 = .ok (.iload_n 3, 1) := by decide +kernel
theorem dX4_compareNeighbours_28 : decode cX4_compareNeighbours 28 = .ok (.iconst 0, 1) := by decide +kernel
theorem dX4_compareNeighbours_29 : decode cX4_compareNeighbours 29 = .ok (.iastore, 1) := by decide +kernel
theorem dX4_compareNeighbours_30 : decode cX4_compareNeighbours 30 = .ok (.iconst 0, 1) := by decide +kernel
theorem dX4_compareNeighbours_31 : decode cX4_compareNeighbours 31 = .ok (.istore_n 1, 1) := by decide +kernel
theorem dX4_compareNeighbours_32 : decode cX4_compareNeighbours 32 = .ok (.goto 75, 3) := by decide +kernel
theorem dX4_compareNeighbours_35 : decode cX4_compareNeighbours 35 = .ok (.aload_n 0, 1) := by decide +kernel
theorem dX4_compareNeighbours_36 : decode cX4_compareNeighbours 36 = .ok (.getfield 9, 3) := by decide +kernel
theorem dX4_compareNeighbours_39 : decode cX4_compareNeighbours 39 = .ok (.iload_n 3, 1) := by decide +kernel
theorem dX4_compareNeighbours_40 : decode cX4_compareNeighbours 40 = .ok (.iconst 1, 1) := by decide +kernel
theorem dX4_compareNeighbours_41 : decode cX4_compareNeighbours 41 = .ok (.isub, 1) := by decide +kernel
theorem dX4_compareNeighbours_42 : decode cX4_compareNeighbours 42 = .ok (.iaload, 1) := by decide +kernel
theorem dX4_compareNeighbours_43 : decode cX4_compareNeighbours 43 = .ok (.istore 4, 2) := by decide +kernel
theorem dX4_compareNeighbours_45 : decode cX4_compareNeighbours 45 = .ok (.iload_n 2, 1) := by decide +kernel
theorem dX4_compareNeighbours_46 : decode cX4_compareNeighbours 46 = .ok (.iload_n 1, 1) := by decide +kernel
theorem dX4_compareNeighbours_47 : decode cX4_compareNeighbours 47 = .ok (.iadd, 1) := by decide +kernel
theorem dX4_compareNeighbours_48 : decode cX4_compareNeighbours 48 = .ok (.aload_n 0, 1) := by decide +kernel
theorem dX4_compareNeighbours_49 : decode cX4_compareNeighbours 49 = .ok (.getfield 27, 3) := by decide +kernel
theorem dX4_compareNeighbours_52 : decode cX4_compareNeighbours 52 = .ok (.if_icmp .ge 40, 3) := by decide +kernel
theorem dX4_compareNeighbours_55 : decode cX4_compareNeighbours 55 = .ok (.iload 4, 2) := by decide +kernel
theorem dX4_compareNeighbours_57 : decode cX4_compareNeighbours 57 = .ok (.iload_n 1, 1) := by decide +kernel
theorem dX4_compareNeighbours_58 : decode cX4_compareNeighbours 58 = .ok (.iadd, 1) := by decide +kernel
theorem dX4_compareNeighbours_59 : decode cX4_compareNeighbours 59 = .ok (.aload_n 0, 1) := by decide +kernel
theorem dX4_compareNeighbours_60 : decode cX4_compareNeighbours 60 = .ok (.getfield 27, 3) := by decide +kernel
theorem dX4_compareNeighbours_63 : decode cX4_compareNeighbours 63 = .ok (.if_icmp .ge 29, 3) := by decide +kernel
theorem dX4_compareNeighbours_66 : decode cX4_compareNeighbours 66 = .ok (.aload_n 0, 1) := by decide +kernel
theorem dX4_compareNeighbours_67 : decode cX4_compareNeighbours 67 = .ok (.getfield 24, 3) := by decide +kernel
theorem dX4_compareNeighbours_70 : decode cX4_compareNeighbours 70 = .ok (.iload_n 2, 1) := by decide +kernel
theorem dX4_compareNeighbours_71 : decode cX4_compareNeighbours 71 = .ok (.iload_n 1, 1) := by decide +kernel
theorem dX4_compareNeighbours_72 : decode cX4_compareNeighbours 72 = .ok (.iadd, 1) := by decide +kernel
theorem dX4_compareNeighbours_73 : decode cX4_compareNeighbours 73 = .ok (.iaload, 1) := by decide +kernel
theorem dX4_compareNeighbours_74 : decode cX4_compareNeighbours 74 = .ok (.aload_n 0, 1) := by decide +kernel
theorem dX4_compareNeighbours_75 : decode cX4_compareNeighbours 75 = .ok (.getfield 24, 3) := by decide +kernel
theorem dX4_compareNeighbours_78 : decode cX4_compareNeighbours 78 = .ok (.iload 4, 2) := by decide +kernel
theorem dX4_compareNeighbours_80 : decode cX4_compareNeighbours 80 = .ok (.iload_n 1, 1) := by decide +kernel
theorem dX4_compareNeighbours_81 : decode cX4_compareNeighbours 81 = .ok (.iadd, 1) := by decide +kernel
theorem dX4_compareNeighbours_82 : decode cX4_compareNeighbours 82 = .ok (.iaload, 1) := by decide +kernel
theorem dX4_compareNeighbours_83 : decode cX4_compareNeighbours 83 = .ok (.if_icmp .ne 9, 3) := by decide +kernel
theorem dX4_compareNeighbours_86 : decode cX4_compareNeighbours 86 = .ok (.iinc 1 1, 3) := by decide +kernel
theorem dX4_compareNeighbours_89 : decode cX4_compareNeighbours 89 = .ok (.goto (-44), 3) := by decide +kernel
theorem dX4_compareNeighbours_92 : decode cX4_compareNeighbours 92 = .ok (.aload_n 0, 1) := by decide +kernel
theorem dX4_compareNeighbours_93 : decode cX4_compareNeighbours 93 = .ok (.getfield 18, 3) := by decide +kernel
theorem dX4_compareNeighbours_96 : decode cX4_compareNeighbours 96 = .ok (.iload_n 3, 1) := by decide +kernel
theorem dX4_compareNeighbours_97 : decode cX4_compareNeighbours 97 = .ok (.iload_n 1, 1) := by decide +kernel
theorem dX4_compareNeighbours_98 : decode cX4_compareNeighbours 98 = .ok (.iastore, 1) := by decide +kernel
theorem dX4_compareNeighbours_99 : decode cX4_compareNeighbours 99 = .ok (.iconst 0, 1) := by decide +kernel
theorem dX4_compareNeighbours_100 : decode cX4_compareNeighbours 100 = .ok (.iload_n 1, 1) := by decide +kernel
theorem dX4_compareNeighbours_101 : decode cX4_compareNeighbours 101 = .ok (.iconst 1, 1) := by decide +kernel
theorem dX4_compareNeighbours_102 : decode cX4_compareNeighbours 102 = .ok (.isub, 1) := by decide +kernel
theorem dX4_compareNeighbours_103 : decode cX4_compareNeighbours 103 = .ok (.invokestatic 44, 3) := by decide +kernel
theorem dX4_compareNeighbours_106 : decode cX4_compareNeighbours 106 = .ok (.istore_n 1, 1) := by decide +kernel
theorem dX4_compareNeighbours_107 : decode cX4_compareNeighbours 107 = .ok (.iinc 2 1, 3) := by decide +kernel
theorem dX4_compareNeighbours_110 : decode cX4_compareNeighbours 110 = .ok (.goto (-106), 3) := by decide +kernel
theorem dX4_compareNeighbours_113 : decode cX4_compareNeighbours 113 = .ok (.return_, 1) := by decide +kernel
theorem dX4_tallySmaller_0 : decode cX4_tallySmaller 0 = .ok (.iconst 0, 1) := by decide +kernel
theorem dX4_tallySmaller_1 : decode cX4_tallySmaller 1 = .ok (.istore_n 1, 1) := by decide +kernel
theorem dX4_tallySmaller_2 : decode cX4_tallySmaller 2 = .ok (.iload_n 1, 1) := by decide +kernel
theorem dX4_tallySmaller_3 : decode cX4_tallySmaller 3 = .ok (.aload_n 0, 1) := by decide +kernel
theorem dX4_tallySmaller_4 : decode cX4_tallySmaller 4 = .ok (.getfield 27, 3) := by decide +kernel
theorem dX4_tallySmaller_7 : decode cX4_tallySmaller 7 = .ok (.if_icmp .gt 70, 3) := by decide +kernel
theorem dX4_tallySmaller_10 : decode cX4_tallySmaller 10 = .ok (.aload_n 0, 1) := by decide +kernel
theorem dX4_tallySmaller_11 : decode cX4_tallySmaller 11 = .ok (.iload_n 1, 1) := by decide +kernel
theorem dX4_tallySmaller_12 : decode cX4_tallySmaller 12 = .ok (.invokevirtual 50, 3) := by decide +kernel
theorem dX4_tallySmaller_15 : decode cX4_tallySmaller 15 = .ok (.istore_n 2, 1) := by decide +kernel
theorem dX4_tallySmaller_16 : decode cX4_tallySmaller 16 = .ok (.iconst 0, 1) := by decide +kernel
theorem dX4_tallySmaller_17 : decode cX4_tallySmaller 17 = .ok (.istore_n 3, 1) := by decide +kernel
theorem dX4_tallySmaller_18 : decode cX4_tallySmaller 18 = .ok (.iload_n 3, 1) := by decide +kernel
theorem dX4_tallySmaller_19 : decode cX4_tallySmaller 19 = .ok (.bipush 8, 2) := by decide +kernel
theorem dX4_tallySmaller_21 : decode cX4_tallySmaller 21 = .ok (.if_icmp .ge 50, 3) := by decide +kernel
theorem dX4_tallySmaller_24 : decode cX4_tallySmaller 24 = .ok (.iload_n 2, 1) := by decide +kernel
theorem dX4_tallySmaller_25 : decode cX4_tallySmaller 25 = .ok (.iconst 2, 1) := by decide +kernel
theorem dX4_tallySmaller_26 : decode cX4_tallySmaller 26 = .ok (.iload_n 3, 1) := by decide +kernel
theorem dX4_tallySmaller_27 : decode cX4_tallySmaller 27 = .ok (.iadd, 1) := by decide +kernel
theorem dX4_tallySmaller_28 : decode cX4_tallySmaller 28 = .ok (.if_icmp .ge 7, 3) := by decide +kernel
theorem dX4_tallySmaller_31 : decode cX4_tallySmaller 31 = .ok (.iconst 1, 1) := by decide +kernel
theorem dX4_tallySmaller_32 : decode cX4_tallySmaller 32 = .ok (.goto 4, 3) := by decide +kernel
theorem dX4_tallySmaller_35 : decode cX4_tallySmaller 35 = .ok (.iconst 0, 1) := by decide +kernel
theorem dX4_tallySmaller_36 : decode cX4_tallySmaller 36 = .ok (.istore 4, 2) := by decide +kernel
theorem dX4_tallySmaller_38 : decode cX4_tallySmaller 38 = .ok (.aload_n 0, 1) := by decide +kernel
theorem dX4_tallySmaller_39 : decode cX4_tallySmaller 39 = .ok (.getfield 21, 3) := by decide +kernel
theorem dX4_tallySmaller_42 : decode cX4_tallySmaller 42 = .ok (.iload_n 1, 1) := by decide +kernel
theorem dX4_tallySmaller_43 : decode cX4_tallySmaller 43 = .ok (.iconst 1, 1) := by decide +kernel
theorem dX4_tallySmaller_44 : decode cX4_tallySmaller 44 = .ok (.iadd, 1) := by decide +kernel
theorem dX4_tallySmaller_45 : decode cX4_tallySmaller 45 = .ok (.bipush 8, 2) := by decide +kernel
theorem dX4_tallySmaller_47 : decode cX4_tallySmaller 47 = .ok (.imul, 1) := by decide +kernel
theorem dX4_tallySmaller_48 : decode cX4_tallySmaller 48 = .ok (.iload_n 3, 1) := by decide +kernel
theorem dX4_tallySmaller_49 : decode cX4_tallySmaller 49 = .ok (.iadd, 1) := by decide +kernel
theorem dX4_tallySmaller_50 : decode cX4_tallySmaller 50 = .ok (.aload_n 0, 1) := by decide +kernel
theorem dX4_tallySmaller_51 : decode cX4_tallySmaller 51 = .ok (.getfield 21, 3) := by decide +kernel
theorem dX4_tallySmaller_54 : decode cX4_tallySmaller 54 = .ok (.iload_n 1, 1) := by decide +kernel
theorem dX4_tallySmaller_55 : decode cX4_tallySmaller 55 = .ok (.bipush 8, 2) := by decide +kernel
theorem dX4_tallySmaller_57 : decode cX4_tallySmaller 57 = .ok (.imul, 1) := by decide +kernel
theorem dX4_tallySmaller_58 : decode cX4_tallySmaller 58 = .ok (.iload_n 3, 1) := by decide +kernel
theorem dX4_tallySmaller_59 : decode cX4_tallySmaller 59 = .ok (.iadd, 1) := by decide +kernel
theorem dX4_tallySmaller_60 : decode cX4_tallySmaller 60 = .ok (.iaload, 1) := by decide +kernel
theorem dX4_tallySmaller_61 : decode cX4_tallySmaller 61 = .ok (.iload 4, 2) := by decide +kernel
theorem dX4_tallySmaller_63 : decode cX4_tallySmaller 63 = .ok (.iadd, 1) := by decide +kernel
theorem dX4_tallySmaller_64 : decode cX4_tallySmaller 64 = .ok (.iastore, 1) := by decide +kernel
theorem dX4_tallySmaller_65 : decode cX4_tallySmaller 65 = .ok (.iinc 3 1, 3) := by decide +kernel
theorem dX4_tallySmaller_68 : decode cX4_tallySmaller 68 = .ok (.goto (-50), 3) := by decide +kernel
theorem dX4_tallySmaller_71 : decode cX4_tallySmaller 71 = .ok (.iinc 1 1, 3) := by decide +kernel
theorem dX4_tallySmaller_74 : decode cX4_tallySmaller 74 = .ok (.goto (-72), 3) := by decide +kernel
theorem dX4_tallySmaller_77 : decode cX4_tallySmaller 77 = .ok (.return_, 1) := by decide +kernel
theorem dX4_before_0 : decode cX4_before 0 = .ok (.aload_n 0, 1) := by decide +kernel
theorem dX4_before_1 : decode cX4_before 1 = .ok (.getfield 9, 3) := by decide +kernel
theorem dX4_before_4 : decode cX4_before 4 = .ok (.iload_n 1, 1) := by decide +kernel
theorem dX4_before_5 : decode cX4_before 5 = .ok (.iaload, 1) := by decide +kernel
theorem dX4_before_6 : decode cX4_before 6 = .ok (.istore_n 2, 1) := by decide +kernel
theorem dX4_before_7 : decode cX4_before 7 = .ok (.iload_n 2, 1) := by decide +kernel
theorem dX4_before_8 : decode cX4_before 8 = .ok (.ifCond .ne 7, 3) := by decide +kernel
theorem dX4_before_11 : decode cX4_before 11 = .ok (.iconst 0, 1) := by decide +kernel
theorem dX4_before_12 : decode cX4_before 12 = .ok (.goto 11, 3) := by decide +kernel
theorem dX4_before_15 : decode cX4_before 15 = .ok (.aload_n 0, 1) := by decide +kernel
theorem dX4_before_16 : decode cX4_before 16 = .ok (.getfield 24, 3) := by decide +kernel
theorem dX4_before_19 : decode cX4_before 19 = .ok (.iload_n 2, 1) := by decide +kernel
theorem dX4_before_20 : decode cX4_before 20 = .ok (.iconst 1, 1) := by decide +kernel
theorem dX4_before_21 : decode cX4_before 21 = .ok (.isub, 1) := by decide +kernel
theorem dX4_before_22 : decode cX4_before 22 = .ok (.iaload, 1) := by decide +kernel
theorem dX4_before_23 : decode cX4_before 23 = .ok (.ireturn, 1) := by decide +kernel
theorem dX4_walk_0 : decode cX4_walk 0 = .ok (.aload_n 0, 1) := by decide +kernel
theorem dX4_walk_1 : decode cX4_walk 1 = .ok (.getfield 9, 3) := by decide +kernel
theorem dX4_walk_4 : decode cX4_walk 4 = .ok (.iload_n 1, 1) := by decide +kernel
theorem dX4_walk_5 : decode cX4_walk 5 = .ok (.iaload, 1) := by decide +kernel
theorem dX4_walk_6 : decode cX4_walk 6 = .ok (.istore_n 2, 1) := by decide +kernel
theorem dX4_walk_7 : decode cX4_walk 7 = .ok (.iload_n 2, 1) := by decide +kernel
theorem dX4_walk_8 : decode cX4_walk 8 = .ok (.ifCond .ne 7, 3) := by decide +kernel
theorem dX4_walk_11 : decode cX4_walk 11 = .ok (.iconst 0, 1) := by decide +kernel
theorem dX4_walk_12 : decode cX4_walk 12 = .ok (.goto 11, 3) := by decide +kernel
theorem dX4_walk_15 : decode cX4_walk 15 = .ok (.aload_n 0, 1) := by decide +kernel
theorem dX4_walk_16 : decode cX4_walk 16 = .ok (.getfield 15, 3) := by decide +kernel
theorem dX4_walk_19 : decode cX4_walk 19 = .ok (.iload_n 2, 1) := by decide +kernel
theorem dX4_walk_20 : decode cX4_walk 20 = .ok (.iconst 1, 1) := by decide +kernel
theorem dX4_walk_21 : decode cX4_walk 21 = .ok (.isub, 1) := by decide +kernel
theorem dX4_walk_22 : decode cX4_walk 22 = .ok (.iaload, 1) := by decide +kernel
theorem dX4_walk_23 : decode cX4_walk 23 = .ok (.ireturn, 1) := by decide +kernel
theorem dX4_smallerAhead_0 : decode cX4_smallerAhead 0 = .ok (.iload_n 2, 1) := by decide +kernel
theorem dX4_smallerAhead_1 : decode cX4_smallerAhead 1 = .ok (.bipush 8, 2) := by decide +kernel
theorem dX4_smallerAhead_3 : decode cX4_smallerAhead 3 = .ok (.if_icmp .lt 7, 3) := by decide +kernel
theorem dX4_smallerAhead_6 : decode cX4_smallerAhead 6 = .ok (.iload_n 1, 1) := by decide +kernel
theorem dX4_smallerAhead_7 : decode cX4_smallerAhead 7 = .ok (.goto 14, 3) := by decide +kernel
theorem dX4_smallerAhead_10 : decode cX4_smallerAhead 10 = .ok (.aload_n 0, 1) := by decide +kernel
theorem dX4_smallerAhead_11 : decode cX4_smallerAhead 11 = .ok (.getfield 21, 3) := by decide +kernel
theorem dX4_smallerAhead_14 : decode cX4_smallerAhead 14 = .ok (.iload_n 1, 1) := by decide +kernel
theorem dX4_smallerAhead_15 : decode cX4_smallerAhead 15 = .ok (.bipush 8, 2) := by decide +kernel
theorem dX4_smallerAhead_17 : decode cX4_smallerAhead 17 = .ok (.imul, 1) := by decide +kernel
theorem dX4_smallerAhead_18 : decode cX4_smallerAhead 18 = .ok (.iload_n 2, 1) := by decide +kernel
theorem dX4_smallerAhead_19 : decode cX4_smallerAhead 19 = .ok (.iadd, 1) := by decide +kernel
theorem dX4_smallerAhead_20 : decode cX4_smallerAhead 20 = .ok (.iaload, 1) := by decide +kernel
theorem dX4_smallerAhead_21 : decode cX4_smallerAhead 21 = .ok (.ireturn, 1) := by decide +kernel
theorem dX4_lettersAhead_0 : decode cX4_lettersAhead 0 = .ok (.aload_n 0, 1) := by decide +kernel
theorem dX4_lettersAhead_1 : decode cX4_lettersAhead 1 = .ok (.iload_n 1, 1) := by decide +kernel
theorem dX4_lettersAhead_2 : decode cX4_lettersAhead 2 = .ok (.iload_n 2, 1) := by decide +kernel
theorem dX4_lettersAhead_3 : decode cX4_lettersAhead 3 = .ok (.iconst 1, 1) := by decide +kernel
theorem dX4_lettersAhead_4 : decode cX4_lettersAhead 4 = .ok (.iadd, 1) := by decide +kernel
theorem dX4_lettersAhead_5 : decode cX4_lettersAhead 5 = .ok (.invokevirtual 54, 3) := by decide +kernel
theorem dX4_lettersAhead_8 : decode cX4_lettersAhead 8 = .ok (.aload_n 0, 1) := by decide +kernel
theorem dX4_lettersAhead_9 : decode cX4_lettersAhead 9 = .ok (.iload_n 1, 1) := by decide +kernel
theorem dX4_lettersAhead_10 : decode cX4_lettersAhead 10 = .ok (.iload_n 2, 1) := by decide +kernel
theorem dX4_lettersAhead_11 : decode cX4_lettersAhead 11 = .ok (.invokevirtual 54, 3) := by decide +kernel
theorem dX4_lettersAhead_14 : decode cX4_lettersAhead 14 = .ok (.isub, 1) := by decide +kernel
theorem dX4_lettersAhead_15 : decode cX4_lettersAhead 15 = .ok (.ireturn, 1) := by decide +kernel
theorem dX4_rowWith_0 : decode cX4_rowWith 0 = .ok (.aload_n 0, 1) := by decide +kernel
theorem dX4_rowWith_1 : decode cX4_rowWith 1 = .ok (.aload_n 0, 1) := by decide +kernel
theorem dX4_rowWith_2 : decode cX4_rowWith 2 = .ok (.getfield 27, 3) := by decide +kernel
theorem dX4_rowWith_5 : decode cX4_rowWith 5 = .ok (.iconst 1, 1) := by decide +kernel
theorem dX4_rowWith_6 : decode cX4_rowWith 6 = .ok (.iadd, 1) := by decide +kernel
theorem dX4_rowWith_7 : decode cX4_rowWith 7 = .ok (.iload_n 2, 1) := by decide +kernel
theorem dX4_rowWith_8 : decode cX4_rowWith 8 = .ok (.invokevirtual 54, 3) := by decide +kernel
theorem dX4_rowWith_11 : decode cX4_rowWith 11 = .ok (.aload_n 0, 1) := by decide +kernel
theorem dX4_rowWith_12 : decode cX4_rowWith 12 = .ok (.iload_n 1, 1) := by decide +kernel
theorem dX4_rowWith_13 : decode cX4_rowWith 13 = .ok (.iload_n 2, 1) := by decide +kernel
theorem dX4_rowWith_14 : decode cX4_rowWith 14 = .ok (.invokevirtual 57, 3) := by decide +kernel
theorem dX4_rowWith_17 : decode cX4_rowWith 17 = .ok (.iadd, 1) := by decide +kernel
theorem dX4_rowWith_18 : decode cX4_rowWith 18 = .ok (.ireturn, 1) := by decide +kernel
