theorem dX5_init_0 : decode cX5_init 0 = .ok (.aload_n 0, 1) := by decide +kernel
theorem dX5_init_1 : decode cX5_init 1 = .ok (.invokespecial 3, 3) := by decide +kernel
theorem dX5_init_4 : decode cX5_init 4 = .ok (.aload_n 0, 1) := by decide +kernel
theorem dX5_init_5 : decode cX5_init 5 = .ok (.bipush 40, 2) := by decide +kernel
theorem dX5_init_7 : decode cX5_init 7 = .ok (.newarray .int, 2) := by decide +kernel
theorem dX5_init_9 : decode cX5_init 9 = .ok (.putfield 9, 3) := by decide +kernel
theorem dX5_init_12 : decode cX5_init 12 = .ok (.aload_n 0, 1) := by decide +kernel
theorem dX5_init_13 : decode cX5_init 13 = .ok (.bipush 40, 2) := by decide +kernel
theorem dX5_init_15 : decode cX5_init 15 = .ok (.newarray .int, 2) := by decide +kernel
theorem dX5_init_17 : decode cX5_init 17 = .ok (.putfield 15, 3) := by decide +kernel
theorem dX5_init_20 : decode cX5_init 20 = .ok (.aload_n 0, 1) := by decide +kernel
theorem dX5_init_21 : decode cX5_init 21 = .ok (.bipush 40, 2) := by decide +kernel
theorem dX5_init_23 : decode cX5_init 23 = .ok (.newarray .int, 2) := by decide +kernel
theorem dX5_init_25 : decode cX5_init 25 = .ok (.putfield 18, 3) := by decide +kernel
theorem dX5_init_28 : decode cX5_init 28 = .ok (.aload_n 0, 1) := by decide +kernel
theorem dX5_init_29 : decode cX5_init 29 = .ok (.iconst 5, 1) := by decide +kernel
theorem dX5_init_30 : decode cX5_init 30 = .ok (.newarray .int, 2) := by decide +kernel
theorem dX5_init_32 : decode cX5_init 32 = .ok (.putfield 21, 3) := by decide +kernel
theorem dX5_init_35 : decode cX5_init 35 = .ok (.aload_n 0, 1) := by decide +kernel
theorem dX5_init_36 : decode cX5_init 36 = .ok (.iconst 1, 1) := by decide +kernel
theorem dX5_init_37 : decode cX5_init 37 = .ok (.putfield 24, 3) := by decide +kernel
theorem dX5_init_40 : decode cX5_init 40 = .ok (.aload_n 0, 1) := by decide +kernel
theorem dX5_init_41 : decode cX5_init 41 = .ok (.iconst 1, 1) := by decide +kernel
theorem dX5_init_42 : decode cX5_init 42 = .ok (.putfield 28, 3) := by decide +kernel
theorem dX5_init_45 : decode cX5_init 45 = .ok (.return_, 1) := by decide +kernel
theorem dX5_budget_0 : decode cX5_budget 0 = .ok (.iconst 0, 1) := by decide +kernel
theorem dX5_budget_1 : decode cX5_budget 1 = .ok (.istore_n 1, 1) := by decide +kernel
theorem dX5_budget_2 : decode cX5_budget 2 = .ok (.iconst 0, 1) := by decide +kernel
theorem dX5_budget_3 : decode cX5_budget 3 = .ok (.istore_n 2, 1) := by decide +kernel
theorem dX5_budget_4 : decode cX5_budget 4 = .ok (.iload_n 2, 1) := by decide +kernel
theorem dX5_budget_5 : decode cX5_budget 5 = .ok (.aload_n 0, 1) := by decide +kernel
theorem dX5_budget_6 : decode cX5_budget 6 = .ok (.getfield 24, 3) := by decide +kernel
theorem dX5_budget_9 : decode cX5_budget 9 = .ok (.if_icmp .ge 29, 3) := by decide +kernel
theorem dX5_budget_12 : decode cX5_budget 12 = .ok (.iload_n 1, 1) := by decide +kernel
theorem dX5_budget_13 : decode cX5_budget 13 = .ok (.aload_n 0, 1) := by decide +kernel
theorem dX5_budget_14 : decode cX5_budget 14 = .ok (.getfield 18, 3) := by decide +kernel
theorem dX5_budget_17 : decode cX5_budget 17 = .ok (.iload_n 2, 1) := by decide +kernel
theorem dX5_budget_18 : decode cX5_budget 18 = .ok (.iconst 5, 1) := by decide +kernel
theorem dX5_budget_19 : decode cX5_budget 19 = .ok (.imul, 1) := by decide +kernel
theorem dX5_budget_20 : decode cX5_budget 20 = .ok (.aload_n 0, 1) := by decide +kernel
theorem dX5_budget_21 : decode cX5_budget 21 = .ok (.getfield 28, 3) := by decide +kernel
theorem dX5_budget_24 : decode cX5_budget 24 = .ok (.iadd, 1) := by decide +kernel
theorem dX5_budget_25 : decode cX5_budget 25 = .ok (.iconst 1, 1) := by decide +kernel
theorem dX5_budget_26 : decode cX5_budget 26 = .ok (.isub, 1) := by decide +kernel
theorem dX5_budget_27 : decode cX5_budget 27 = .ok (.iaload, 1) := by decide +kernel
theorem dX5_budget_28 : decode cX5_budget 28 = .ok (.invokestatic 31, 3) := by decide +kernel
theorem dX5_budget_31 : decode cX5_budget 31 = .ok (.istore_n 1, 1) := by decide +kernel
theorem dX5_budget_32 : decode cX5_budget 32 = .ok (.iinc 2 1, 3) := by decide +kernel
theorem dX5_budget_35 : decode cX5_budget 35 = .ok (.goto (-31), 3) := by decide +kernel
theorem dX5_budget_38 : decode cX5_budget 38 = .ok (.iload_n 1, 1) := by decide +kernel
theorem dX5_budget_39 : decode cX5_budget 39 = .ok (.ireturn, 1) := by decide +kernel
theorem dX5_surveyShares_0 : decode cX5_surveyShares 0 = .ok (.aload_n 0, 1) := by decide +kernel
theorem dX5_surveyShares_1 : decode cX5_surveyShares 1 = .ok (.invokevirtual 37, 3) := by decide +kernel
theorem dX5_surveyShares_4 : decode cX5_surveyShares 4 = .ok (.istore_n 1, 1) := by decide +kernel
theorem dX5_surveyShares_5 : decode cX5_surveyShares 5 = .ok (.aload_n 0, 1) := by decide +kernel
theorem dX5_surveyShares_6 : decode cX5_surveyShares 6 = .ok (.iconst 0, 1) := by decide +kernel
theorem dX5_surveyShares_7 : decode cX5_surveyShares 7 = .ok (.putfield 41, 3) := by decide +kernel
theorem dX5_surveyShares_10 : decode cX5_surveyShares 10 = .ok (.aload_n 0, 1) := by decide +kernel
theorem dX5_surveyShares_11 : decode cX5_surveyShares 11 = .ok (.iconst 0, 1) := by decide +kernel
theorem dX5_surveyShares_12 : decode cX5_surveyShares 12 = .ok (.putfield 44, 3) := by decide +kernel
theorem dX5_surveyShares_15 : decode cX5_surveyShares 15 = .ok (.aload_n 0, 1) := by decide +kernel
theorem dX5_surveyShares_16 : decode cX5_surveyShares 16 = .ok (.iconst 0, 1) := by decide +kernel
theorem dX5_surveyShares_17 : decode cX5_surveyShares 17 = .ok (.putfield 47, 3) := by decide +kernel
theorem dX5_surveyShares_20 : decode cX5_surveyShares 20 = .ok (.aload_n 0, 1) := by decide +kernel
theorem dX5_surveyShares_21 : decode cX5_surveyShares 21 = .ok (.iconst 0, 1) := by decide +kernel
theorem dX5_surveyShares_22 : decode cX5_surveyShares 22 = .ok (.putfield 50, 3) := by decide +kernel
theorem dX5_surveyShares_25 : decode cX5_surveyShares 25 = .ok (.aload_n 0, 1) := by decide +kernel
theorem dX5_surveyShares_26 : decode cX5_surveyShares 26 = .ok (.invokevirtual 53, 3) := by decide +kernel
theorem dX5_surveyShares_29 : decode cX5_surveyShares 29 = .ok (.iconst 1, 1) := by decide +kernel
theorem dX5_surveyShares_30 : decode cX5_surveyShares 30 = .ok (.istore_n 2, 1) := by decide +kernel
theorem dX5_surveyShares_31 : decode cX5_surveyShares 31 = .ok (.iconst 0, 1) := by decide +kernel
theorem dX5_surveyShares_32 : decode cX5_surveyShares 32 = .ok (.istore_n 3, 1) := by decide +kernel
theorem dX5_surveyShares_33 : decode cX5_surveyShares 33 = .ok (.iload_n 3, 1) := by decide +kernel
theorem dX5_surveyShares_34 : decode cX5_surveyShares 34 = .ok (.bipush 126, 2) := by decide +kernel
theorem dX5_surveyShares_36 : decode cX5_surveyShares 36 = .ok (.if_icmp .ge 27, 3) := by decide +kernel
theorem dX5_surveyShares_39 : decode cX5_surveyShares 39 = .ok (.iload_n 2, 1) := by decide +kernel
theorem dX5_surveyShares_40 : decode cX5_surveyShares 40 = .ok (.ifCond .eq 23, 3) := by decide +kernel
theorem dX5_surveyShares_43 : decode cX5_surveyShares 43 = .ok (.aload_n 0, 1) := by decide +kernel
theorem dX5_surveyShares_44 : decode cX5_surveyShares 44 = .ok (.aload_n 0, 1) := by decide +kernel
theorem dX5_surveyShares_45 : decode cX5_surveyShares 45 = .ok (.invokevirtual 56, 3) := by decide +kernel
theorem dX5_surveyShares_48 : decode cX5_surveyShares 48 = .ok (.invokevirtual 59, 3) := by decide +kernel
theorem dX5_surveyShares_51 : decode cX5_surveyShares 51 = .ok (.aload_n 0, 1) := by decide +kernel
theorem dX5_surveyShares_52 : decode cX5_surveyShares 52 = .ok (.iload_n 1, 1) := by decide +kernel
theorem dX5_surveyShares_53 : decode cX5_surveyShares 53 = .ok (.invokevirtual 63, 3) := by decide +kernel
theorem dX5_surveyShares_56 : decode cX5_surveyShares 56 = .ok (.istore_n 2, 1) := by decide +kernel
theorem dX5_surveyShares_57 : decode cX5_surveyShares 57 = .ok (.iinc 3 1, 3) := by decide +kernel
theorem dX5_surveyShares_60 : decode cX5_surveyShares 60 = .ok (.goto (-27), 3) := by decide +kernel
theorem dX5_surveyShares_63 : decode cX5_surveyShares 63 = .ok (.return_, 1) := by decide +kernel
theorem dX5_noteShare_0 : decode cX5_noteShare 0 = .ok (.iload_n 1, 1) := by decide +kernel
theorem dX5_noteShare_1 : decode cX5_noteShare 1 = .ok (.invokestatic 67, 3) := by decide +kernel
theorem dX5_noteShare_4 : decode cX5_noteShare 4 = .ok (.istore_n 2, 1) := by decide +kernel
theorem dX5_noteShare_5 : decode cX5_noteShare 5 = .ok (.aload_n 0, 1) := by decide +kernel
theorem dX5_noteShare_6 : decode cX5_noteShare 6 = .ok (.dup, 1) := by decide +kernel
theorem dX5_noteShare_7 : decode cX5_noteShare 7 = .ok (.getfield 41, 3) := by decide +kernel
theorem dX5_noteShare_10 : decode cX5_noteShare 10 = .ok (.iconst 1, 1) := by decide +kernel
theorem dX5_noteShare_11 : decode cX5_noteShare 11 = .ok (.iadd, 1) := by decide +kernel
theorem dX5_noteShare_12 : decode cX5_noteShare 12 = .ok (.putfield 41, 3) := by decide +kernel
theorem dX5_noteShare_15 : decode cX5_noteShare 15 = .ok (.iload_n 2, 1) := by decide +kernel
theorem dX5_noteShare_16 : decode cX5_noteShare 16 = .ok (.ifCond .ne 16, 3) := by decide +kernel
theorem dX5_noteShare_19 : decode cX5_noteShare 19 = .ok (.aload_n 0, 1) := by decide +kernel
theorem dX5_noteShare_20 : decode cX5_noteShare 20 = .ok (.dup, 1) := by decide +kernel
theorem dX5_noteShare_21 : decode cX5_noteShare 21 = .ok (.getfield 44, 3) := by decide +kernel
theorem dX5_noteShare_24 : decode cX5_noteShare 24 = .ok (.iconst 1, 1) := by decide +kernel
theorem dX5_noteShare_25 : decode cX5_noteShare 25 = .ok (.iadd, 1) := by decide +kernel
theorem dX5_noteShare_26 : decode cX5_noteShare 26 = .ok (.putfield 44, 3) := by decide +kernel
theorem dX5_noteShare_29 : decode cX5_noteShare 29 = .ok (.goto 31, 3) := by decide +kernel
theorem dX5_noteShare_32 : decode cX5_noteShare 32 = .ok (.iload_n 2, 1) := by decide +kernel
theorem dX5_noteShare_33 : decode cX5_noteShare 33 = .ok (.iconst 1, 1) := by decide +kernel
theorem dX5_noteShare_34 : decode cX5_noteShare 34 = .ok (.if_icmp .ne 16, 3) := by decide +kernel
theorem dX5_noteShare_37 : decode cX5_noteShare 37 = .ok (.aload_n 0, 1) := by decide +kernel
theorem dX5_noteShare_38 : decode cX5_noteShare 38 = .ok (.dup, 1) := by decide +kernel
theorem dX5_noteShare_39 : decode cX5_noteShare 39 = .ok (.getfield 50, 3) := by decide +kernel
theorem dX5_noteShare_42 : decode cX5_noteShare 42 = .ok (.iload_n 1, 1) := by decide +kernel
theorem dX5_noteShare_43 : decode cX5_noteShare 43 = .ok (.ior, 1) := by decide +kernel
theorem dX5_noteShare_44 : decode cX5_noteShare 44 = .ok (.putfield 50, 3) := by decide +kernel
theorem dX5_noteShare_47 : decode cX5_noteShare 47 = .ok (.goto 13, 3) := by decide +kernel
theorem dX5_noteShare_50 : decode cX5_noteShare 50 = .ok (.aload_n 0, 1) := by decide +kernel
theorem dX5_noteShare_51 : decode cX5_noteShare 51 = .ok (.dup, 1) := by decide +kernel
theorem dX5_noteShare_52 : decode cX5_noteShare 52 = .ok (.getfield 47, 3) := by decide +kernel
theorem dX5_noteShare_55 : decode cX5_noteShare 55 = .ok (.iconst 1, 1) := by decide +kernel
theorem dX5_noteShare_56 : decode cX5_noteShare 56 = .ok (.iadd, 1) := by decide +kernel
theorem dX5_noteShare_57 : decode cX5_noteShare 57 = .ok (.putfield 47, 3) := by decide +kernel
theorem dX5_noteShare_60 : decode cX5_noteShare 60 = .ok (.return_, 1) := by decide +kernel
theorem dX5_firstShare_0 : decode cX5_firstShare 0 = .ok (.aload_n 0, 1) := by decide +kernel
theorem dX5_firstShare_1 : decode cX5_firstShare 1 = .ok (.iconst 0, 1) := by decide +kernel
theorem dX5_firstShare_2 : decode cX5_firstShare 2 = .ok (.putfield 73, 3) := by decide +kernel
theorem dX5_firstShare_5 : decode cX5_firstShare 5 = .ok (.iconst 0, 1) := by decide +kernel
theorem dX5_firstShare_6 : decode cX5_firstShare 6 = .ok (.istore_n 1, 1) := by decide +kernel
theorem dX5_firstShare_7 : decode cX5_firstShare 7 = .ok (.iload_n 1, 1) := by decide +kernel
theorem dX5_firstShare_8 : decode cX5_firstShare 8 = .ok (.iconst 5, 1) := by decide +kernel
theorem dX5_firstShare_9 : decode cX5_firstShare 9 = .ok (.if_icmp .ge 16, 3) := by decide +kernel
theorem dX5_firstShare_12 : decode cX5_firstShare 12 = .ok (.aload_n 0, 1) := by decide +kernel
theorem dX5_firstShare_13 : decode cX5_firstShare 13 = .ok (.getfield 21, 3) := by decide +kernel
theorem dX5_firstShare_16 : decode cX5_firstShare 16 = .ok (.iload_n 1, 1) := by decide +kernel
theorem dX5_firstShare_17 : decode cX5_firstShare 17 = .ok (.iconst 0, 1) := by decide +kernel
theorem dX5_firstShare_18 : decode cX5_firstShare 18 = .ok (.iastore, 1) := by decide +kernel
theorem dX5_firstShare_19 : decode cX5_firstShare 19 = .ok (.iinc 1 1, 3) := by decide +kernel
theorem dX5_firstShare_22 : decode cX5_firstShare 22 = .ok (.goto (-15), 3) := by decide +kernel
theorem dX5_firstShare_25 : decode cX5_firstShare 25 = .ok (.return_, 1) := by decide +kernel
theorem dX5_nextShare_0 : decode cX5_nextShare 0 = .ok (.iconst 0, 1) := by decide +kernel
theorem dX5_nextShare_1 : decode cX5_nextShare 1 = .ok (.istore_n 2, 1) := by decide +kernel
theorem dX5_nextShare_2 : decode cX5_nextShare 2 = .ok (.iload_n 2, 1) := by decide +kernel
theorem dX5_nextShare_3 : decode cX5_nextShare 3 = .ok (.aload_n 0, 1) := by decide +kernel
theorem dX5_nextShare_4 : decode cX5_nextShare 4 = .ok (.getfield 28, 3) := by decide +kernel
theorem dX5_nextShare_7 : decode cX5_nextShare 7 = .ok (.if_icmp .ge 61, 3) := by decide +kernel
theorem dX5_nextShare_10 : decode cX5_nextShare 10 = .ok (.aload_n 0, 1) := by decide +kernel
theorem dX5_nextShare_11 : decode cX5_nextShare 11 = .ok (.getfield 73, 3) := by decide +kernel
theorem dX5_nextShare_14 : decode cX5_nextShare 14 = .ok (.iload_n 1, 1) := by decide +kernel
theorem dX5_nextShare_15 : decode cX5_nextShare 15 = .ok (.if_icmp .ge 25, 3) := by decide +kernel
theorem dX5_nextShare_18 : decode cX5_nextShare 18 = .ok (.aload_n 0, 1) := by decide +kernel
theorem dX5_nextShare_19 : decode cX5_nextShare 19 = .ok (.getfield 21, 3) := by decide +kernel
theorem dX5_nextShare_22 : decode cX5_nextShare 22 = .ok (.iload_n 2, 1) := by decide +kernel
theorem dX5_nextShare_23 : decode cX5_nextShare 23 = .ok (.dup2, 1) := by decide +kernel
theorem dX5_nextShare_24 : decode cX5_nextShare 24 = .ok (.iaload, 1) := by decide +kernel
theorem dX5_nextShare_25 : decode cX5_nextShare 25 = .ok (.iconst 1, 1) := by decide +kernel
theorem dX5_nextShare_26 : decode cX5_nextShare 26 = .ok (.iadd, 1) := by decide +kernel
theorem dX5_nextShare_27 : decode cX5_nextShare 27 = .ok (.iastore, 1) := by decide +kernel
theorem dX5_nextShare_28 : decode cX5_nextShare 28 = .ok (.aload_n 0, 1) := by decide +kernel
theorem dX5_nextShare_29 : decode cX5_nextShare 29 = .ok (.dup, 1) := by decide +kernel
theorem dX5_nextShare_30 : decode cX5_nextShare 30 = .ok (.getfield 73, 3) := by decide +kernel
theorem dX5_nextShare_33 : decode cX5_nextShare 33 = .ok (.iconst 1, 1) := by decide +kernel
theorem dX5_nextShare_34 : decode cX5_nextShare 34 = .ok (.iadd, 1) := by decide +kernel
theorem dX5_nextShare_35 : decode cX5_nextShare 35 = .ok (.putfield 73, 3) := by decide +kernel
theorem dX5_nextShare_38 : decode cX5_nextShare 38 = .ok (.iconst 1, 1) := by decide +kernel
theorem dX5_nextShare_39 : decode cX5_nextShare 39 = .ok (.ireturn, 1) := by decide +kernel
theorem dX5_nextShare_40 : decode cX5_nextShare 40 = .ok (.aload_n 0, 1) := by decide +kernel
theorem dX5_nextShare_41 : decode cX5_nextShare 41 = .ok (.dup, 1) := by decide +kernel
theorem dX5_nextShare_42 : decode cX5_nextShare 42 = .ok (.getfield 73, 3) := by decide +kernel
theorem dX5_nextShare_45 : decode cX5_nextShare 45 = .ok (.aload_n 0, 1) := by decide +kernel
theorem dX5_nextShare_46 : decode cX5_nextShare 46 = .ok (.getfield 21, 3) := by decide +kernel
theorem dX5_nextShare_49 : decode cX5_nextShare 49 = .ok (.iload_n 2, 1) := by decide +kernel
theorem dX5_nextShare_50 : decode cX5_nextShare 50 = .ok (.iaload, 1) := by decide +kernel
theorem dX5_nextShare_51 : decode cX5_nextShare 51 = .ok (.isub, 1) := by decide +kernel
theorem dX5_nextShare_52 : decode cX5_nextShare 52 = .ok (.putfield 73, 3) := by decide +kernel
theorem dX5_nextShare_55 : decode cX5_nextShare 55 = .ok (.aload_n 0, 1) := by decide +kernel
theorem dX5_nextShare_56 : decode cX5_nextShare 56 = .ok (.getfield 21, 3) := by decide +kernel
theorem dX5_nextShare_59 : decode cX5_nextShare 59 = .ok (.iload_n 2, 1) := by decide +kernel
theorem dX5_nextShare_60 : decode cX5_nextShare 60 = .ok (.iconst 0, 1) := by decide +kernel
theorem dX5_nextShare_61 : decode cX5_nextShare 61 = .ok (.iastore, 1) := by decide +kernel
theorem dX5_nextShare_62 : decode cX5_nextShare 62 = .ok (.iinc 2 1, 3) := by decide +kernel
theorem dX5_nextShare_65 : decode cX5_nextShare 65 = .ok (.goto (-63), 3) := by decide +kernel
theorem dX5_nextShare_68 : decode cX5_nextShare 68 = .ok (.iconst 0, 1) := by decide +kernel
theorem dX5_nextShare_69 : decode cX5_nextShare 69 = .ok (.ireturn, 1) := by decide +kernel
theorem dX5_coveringBits_0 : decode cX5_coveringBits 0 = .ok (.iconst 0, 1) := by decide +kernel
theorem dX5_coveringBits_1 : decode cX5_coveringBits 1 = .ok (.istore_n 1, 1) := by decide +kernel
theorem dX5_coveringBits_2 : decode cX5_coveringBits 2 = .ok (.iconst 0, 1) := by decide +kernel
theorem dX5_coveringBits_3 : decode cX5_coveringBits 3 = .ok (.istore_n 2, 1) := by decide +kernel
theorem dX5_coveringBits_4 : decode cX5_coveringBits 4 = .ok (.iload_n 2, 1) := by decide +kernel
theorem dX5_coveringBits_5 : decode cX5_coveringBits 5 = .ok (.aload_n 0, 1) := by decide +kernel
theorem dX5_coveringBits_6 : decode cX5_coveringBits 6 = .ok (.getfield 24, 3) := by decide +kernel
theorem dX5_coveringBits_9 : decode cX5_coveringBits 9 = .ok (.if_icmp .ge 23, 3) := by decide +kernel
theorem dX5_coveringBits_12 : decode cX5_coveringBits 12 = .ok (.aload_n 0, 1) := by decide +kernel
theorem dX5_coveringBits_13 : decode cX5_coveringBits 13 = .ok (.iload_n 2, 1) := by decide +kernel
theorem dX5_coveringBits_14 : decode cX5_coveringBits 14 = .ok (.invokevirtual 76, 3) := by decide +kernel
theorem dX5_coveringBits_17 : decode cX5_coveringBits 17 = .ok (.ifCond .eq 9, 3) := by decide +kernel
theorem dX5_coveringBits_20 : decode cX5_coveringBits 20 = .ok (.iload_n 1, 1) := by decide +kernel
theorem dX5_coveringBits_21 : decode cX5_coveringBits 21 = .ok (.iconst 1, 1) := by decide +kernel
theorem dX5_coveringBits_22 : decode cX5_coveringBits 22 = .ok (.iload_n 2, 1) := by decide +kernel
theorem dX5_coveringBits_23 : decode cX5_coveringBits 23 = .ok (.ishl, 1) := by decide +kernel
theorem dX5_coveringBits_24 : decode cX5_coveringBits 24 = .ok (.ior, 1) := by decide +kernel
theorem dX5_coveringBits_25 : decode cX5_coveringBits 25 = .ok (.istore_n 1, 1) := by decide +kernel
theorem dX5_coveringBits_26 : decode cX5_coveringBits 26 = .ok (.iinc 2 1, 3) := by decide +kernel
theorem dX5_coveringBits_29 : decode cX5_coveringBits 29 = .ok (.goto (-25), 3) := by decide +kernel
theorem dX5_coveringBits_32 : decode cX5_coveringBits 32 = .ok (.iload_n 1, 1) := by decide +kernel
theorem dX5_coveringBits_33 : decode cX5_coveringBits 33 = .ok (.ireturn, 1) := by decide +kernel
theorem dX5_covers_0 : decode cX5_covers 0 = .ok (.iconst 0, 1) := by decide +kernel
theorem dX5_covers_1 : decode cX5_covers 1 = .ok (.istore_n 2, 1) := by decide +kernel
theorem dX5_covers_2 : decode cX5_covers 2 = .ok (.iconst 0, 1) := by decide +kernel
theorem dX5_covers_3 : decode cX5_covers 3 = .ok (.istore_n 3, 1) := by decide +kernel
theorem dX5_covers_4 : decode cX5_covers 4 = .ok (.iload_n 3, 1) := by decide +kernel
theorem dX5_covers_5 : decode cX5_covers 5 = .ok (.aload_n 0, 1) := by decide +kernel
theorem dX5_covers_6 : decode cX5_covers 6 = .ok (.getfield 28, 3) := by decide +kernel
theorem dX5_covers_9 : decode cX5_covers 9 = .ok (.if_icmp .ge 55, 3) := by decide +kernel
theorem dX5_covers_12 : decode cX5_covers 12 = .ok (.iload_n 1, 1) := by decide +kernel
theorem dX5_covers_13 : decode cX5_covers 13 = .ok (.iconst 5, 1) := by decide +kernel
theorem dX5_covers_14 : decode cX5_covers 14 = .ok (.imul, 1) := by decide +kernel
theorem dX5_covers_15 : decode cX5_covers 15 = .ok (.iload_n 3, 1) := by decide +kernel
theorem dX5_covers_16 : decode cX5_covers 16 = .ok (.iadd, 1) := by decide +kernel
theorem dX5_covers_17 : decode cX5_covers 17 = .ok (.istore 4, 2) := by decide +kernel
theorem dX5_covers_19 : decode cX5_covers 19 = .ok (.iload_n 2, 1) := by decide +kernel
theorem dX5_covers_20 : decode cX5_covers 20 = .ok (.aload_n 0, 1) := by decide +kernel
theorem dX5_covers_21 : decode cX5_covers 21 = .ok (.getfield 21, 3) := by decide +kernel
theorem dX5_covers_24 : decode cX5_covers 24 = .ok (.aload_n 0, 1) := by decide +kernel
theorem dX5_covers_25 : decode cX5_covers 25 = .ok (.getfield 9, 3) := by decide +kernel
theorem dX5_covers_28 : decode cX5_covers 28 = .ok (.iload 4, 2) := by decide +kernel
theorem dX5_covers_30 : decode cX5_covers 30 = .ok (.iaload, 1) := by decide +kernel
theorem dX5_covers_31 : decode cX5_covers 31 = .ok (.iaload, 1) := by decide +kernel
theorem dX5_covers_32 : decode cX5_covers 32 = .ok (.iadd, 1) := by decide +kernel
theorem dX5_covers_33 : decode cX5_covers 33 = .ok (.istore_n 2, 1) := by decide +kernel
theorem dX5_covers_34 : decode cX5_covers 34 = .ok (.iload_n 2, 1) := by decide +kernel
theorem dX5_covers_35 : decode cX5_covers 35 = .ok (.aload_n 0, 1) := by decide +kernel
theorem dX5_covers_36 : decode cX5_covers 36 = .ok (.getfield 15, 3) := by decide +kernel
theorem dX5_covers_39 : decode cX5_covers 39 = .ok (.iload 4, 2) := by decide +kernel
theorem dX5_covers_41 : decode cX5_covers 41 = .ok (.iaload, 1) := by decide +kernel
theorem dX5_covers_42 : decode cX5_covers 42 = .ok (.if_icmp .lt 14, 3) := by decide +kernel
theorem dX5_covers_45 : decode cX5_covers 45 = .ok (.iload_n 2, 1) := by decide +kernel
theorem dX5_covers_46 : decode cX5_covers 46 = .ok (.aload_n 0, 1) := by decide +kernel
theorem dX5_covers_47 : decode cX5_covers 47 = .ok (.getfield 18, 3) := by decide +kernel
theorem dX5_covers_50 : decode cX5_covers 50 = .ok (.iload 4, 2) := by decide +kernel
theorem dX5_covers_52 : decode cX5_covers 52 = .ok (.iaload, 1) := by decide +kernel
theorem dX5_covers_53 : decode cX5_covers 53 = .ok (.if_icmp .le 5, 3) := by decide +kernel
theorem dX5_covers_56 : decode cX5_covers 56 = .ok (.iconst 0, 1) := by decide +kernel
theorem dX5_covers_57 : decode cX5_covers 57 = .ok (.ireturn, 1) := by decide +kernel
theorem dX5_covers_58 : decode cX5_covers 58 = .ok (.iinc 3 1, 3) := by decide +kernel
theorem dX5_covers_61 : decode cX5_covers 61 = .ok (.goto (-57), 3) := by decide +kernel
theorem dX5_covers_64 : decode cX5_covers 64 = .ok (.iconst 1, 1) := by decide +kernel
theorem dX5_covers_65 : decode cX5_covers 65 = .ok (.ireturn, 1) := by decide +kernel
theorem dX6_init_0 : decode cX6_init 0 = .ok (.aload_n 0, 1) := by decide +kernel
theorem dX6_init_1 : decode cX6_init 1 = .ok (.invokespecial 3, 3) := by decide +kernel
theorem dX6_init_4 : decode cX6_init 4 = .ok (.aload_n 0, 1) := by decide +kernel
theorem dX6_init_5 : decode cX6_init 5 = .ok (.aload_n 1, 1) := by decide +kernel
theorem dX6_init_6 : decode cX6_init 6 = .ok (.putfield 9, 3) := by decide +kernel
theorem dX6_init_9 : decode cX6_init 9 = .ok (.aload_n 0, 1) := by decide +kernel
theorem dX6_init_10 : decode cX6_init 10 = .ok (.iconst (-1), 1) := by decide +kernel
theorem dX6_init_11 : decode cX6_init 11 = .ok (.putfield 15, 3) := by decide +kernel
theorem dX6_init_14 : decode cX6_init 14 = .ok (.return_, 1) := by decide +kernel
theorem dX6_read_0 : decode cX6_read 0 = .ok (.aload_n 0, 1) := by decide +kernel
theorem dX6_read_1 : decode cX6_read 1 = .ok (.iload_n 1, 1) := by decide +kernel
theorem dX6_read_2 : decode cX6_read 2 = .ok (.putfield 19, 3) := by decide +kernel
theorem dX6_read_5 : decode cX6_read 5 = .ok (.aload_n 0, 1) := by decide +kernel
theorem dX6_read_6 : decode cX6_read 6 = .ok (.iconst 0, 1) := by decide +kernel
theorem dX6_read_7 : decode cX6_read 7 = .ok (.putfield 22, 3) := by decide +kernel
theorem dX6_read_10 : decode cX6_read 10 = .ok (.aload_n 0, 1) := by decide +kernel
theorem dX6_read_11 : decode cX6_read 11 = .ok (.iconst 0, 1) := by decide +kernel
theorem dX6_read_12 : decode cX6_read 12 = .ok (.putfield 25, 3) := by decide +kernel
theorem dX6_read_15 : decode cX6_read 15 = .ok (.aload_n 0, 1) := by decide +kernel
theorem dX6_read_16 : decode cX6_read 16 = .ok (.iconst (-1), 1) := by decide +kernel
theorem dX6_read_17 : decode cX6_read 17 = .ok (.putfield 15, 3) := by decide +kernel
theorem dX6_read_20 : decode cX6_read 20 = .ok (.aload_n 2, 1) := by decide +kernel
theorem dX6_read_21 : decode cX6_read 21 = .ok (.iconst 0, 1) := by decide +kernel
theorem dX6_read_22 : decode cX6_read 22 = .ok (.putfield 28, 3) := by decide +kernel
theorem dX6_read_25 : decode cX6_read 25 = .ok (.aload_n 0, 1) := by decide +kernel
theorem dX6_read_26 : decode cX6_read 26 = .ok (.invokevirtual 33, 3) := by decide +kernel
theorem dX6_read_29 : decode cX6_read 29 = .ok (.iconst 0, 1) := by decide +kernel
theorem dX6_read_30 : decode cX6_read 30 = .ok (.istore_n 3, 1) := by decide +kernel
theorem dX6_read_31 : decode cX6_read 31 = .ok (.iload_n 3, 1) := by decide +kernel
theorem dX6_read_32 : decode cX6_read 32 = .ok (.bipush 8, 2) := by decide +kernel
theorem dX6_read_34 : decode cX6_read 34 = .ok (.if_icmp .gt 36, 3) := by decide +kernel
theorem dX6_read_37 : decode cX6_read 37 = .ok (.aload_n 0, 1) := by decide +kernel
theorem dX6_read_38 : decode cX6_read 38 = .ok (.getfield 22, 3) := by decide +kernel
theorem dX6_read_41 : decode cX6_read 41 = .ok (.aload_n 0, 1) := by decide +kernel
theorem dX6_read_42 : decode cX6_read 42 = .ok (.getfield 19, 3) := by decide +kernel
theorem dX6_read_45 : decode cX6_read 45 = .ok (.if_icmp .ge 25, 3) := by decide +kernel
theorem dX6_read_48 : decode cX6_read 48 = .ok (.aload_n 0, 1) := by decide +kernel
theorem dX6_read_49 : decode cX6_read 49 = .ok (.getfield 25, 3) := by decide +kernel
theorem dX6_read_52 : decode cX6_read 52 = .ok (.ifCond .ne 18, 3) := by decide +kernel
theorem dX6_read_55 : decode cX6_read 55 = .ok (.aload_n 0, 1) := by decide +kernel
theorem dX6_read_56 : decode cX6_read 56 = .ok (.aload_n 2, 1) := by decide +kernel
theorem dX6_read_57 : decode cX6_read 57 = .ok (.invokevirtual 36, 3) := by decide +kernel
theorem dX6_read_60 : decode cX6_read 60 = .ok (.aload_n 0, 1) := by decide +kernel
theorem dX6_read_61 : decode cX6_read 61 = .ok (.invokevirtual 33, 3) := by decide +kernel
theorem dX6_read_64 : decode cX6_read 64 = .ok (.iinc 3 1, 3) := by decide +kernel
theorem dX6_read_67 : decode cX6_read 67 = .ok (.goto (-36), 3) := by decide +kernel
theorem dX6_read_70 : decode cX6_read 70 = .ok (.aload_n 0, 1) := by decide +kernel
theorem dX6_read_71 : decode cX6_read 71 = .ok (.getfield 25, 3) := by decide +kernel
theorem dX6_read_74 : decode cX6_read 74 = .ok (.ifCond .ne 16, 3) := by decide +kernel
theorem dX6_read_77 : decode cX6_read 77 = .ok (.aload_n 2, 1) := by decide +kernel
theorem dX6_read_78 : decode cX6_read 78 = .ok (.getfield 28, 3) := by decide +kernel
theorem dX6_read_81 : decode cX6_read 81 = .ok (.ifCond .ne 9, 3) := by decide +kernel
theorem dX6_read_84 : decode cX6_read 84 = .ok (.aload_n 0, 1) := by decide +kernel
theorem dX6_read_85 : decode cX6_read 85 = .ok (.iconst 1, 1) := by decide +kernel
theorem dX6_read_86 : decode cX6_read 86 = .ok (.invokevirtual 40, 3) := by decide +kernel
theorem dX6_read_89 : decode cX6_read 89 = .ok (.pop, 1) := by decide +kernel
theorem dX6_read_90 : decode cX6_read 90 = .ok (.return_, 1) := by decide +kernel
theorem dX6_readSearch_0 : decode cX6_readSearch 0 = .ok (.aload_n 1, 1) := by decide +kernel
theorem dX6_readSearch_1 : decode cX6_readSearch 1 = .ok (.getfield 28, 3) := by decide +kernel
theorem dX6_readSearch_4 : decode cX6_readSearch 4 = .ok (.bipush 8, 2) := by decide +kernel
theorem dX6_readSearch_6 : decode cX6_readSearch 6 = .ok (.if_icmp .lt 21, 3) := by decide +kernel
theorem dX6_readSearch_9 : decode cX6_readSearch 9 = .ok (.aload_n 0, 1) := by decide +kernel
theorem dX6_readSearch_10 : decode cX6_readSearch 10 = .ok (.aload_n 0, 1) := by decide +kernel
theorem dX6_readSearch_11 : decode cX6_readSearch 11 = .ok (.invokevirtual 44, 3) := by decide +kernel
theorem dX6_readSearch_14 : decode cX6_readSearch 14 = .ok (.ifCond .eq 7, 3) := by decide +kernel
theorem dX6_readSearch_17 : decode cX6_readSearch 17 = .ok (.iconst 3, 1) := by decide +kernel
theorem dX6_readSearch_18 : decode cX6_readSearch 18 = .ok (.goto 4, 3) := by decide +kernel
theorem dX6_readSearch_21 : decode cX6_readSearch 21 = .ok (.iconst 1, 1) := by decide +kernel
theorem dX6_readSearch_22 : decode cX6_readSearch 22 = .ok (.invokevirtual 40, 3) := by decide +kernel
theorem dX6_readSearch_25 : decode cX6_readSearch 25 = .ok (.pop, 1) := by decide +kernel
theorem dX6_readSearch_26 : decode cX6_readSearch 26 = .ok (.return_, 1) := by decide +kernel
theorem dX6_readSearch_27 : decode cX6_readSearch 27 = .ok (.aload_n 0, 1) := by decide +kernel
theorem dX6_readSearch_28 : decode cX6_readSearch 28 = .ok (.aload_n 1, 1) := by decide +kernel
theorem dX6_readSearch_29 : decode cX6_readSearch 29 = .ok (.invokevirtual 48, 3) := by decide +kernel
theorem dX6_readSearch_32 : decode cX6_readSearch 32 = .ok (.ifCond .eq 44, 3) := by decide +kernel
theorem dX6_readSearch_35 : decode cX6_readSearch 35 = .ok (.aload_n 0, 1) := by decide +kernel
theorem dX6_readSearch_36 : decode cX6_readSearch 36 = .ok (.invokevirtual 52, 3) := by decide +kernel
theorem dX6_readSearch_39 : decode cX6_readSearch 39 = .ok (.ifCond .eq 37, 3) := by decide +kernel
theorem dX6_readSearch_42 : decode cX6_readSearch 42 = .ok (.aload_n 0, 1) := by decide +kernel
theorem dX6_readSearch_43 : decode cX6_readSearch 43 = .ok (.aload_n 1, 1) := by decide +kernel
theorem dX6_readSearch_44 : decode cX6_readSearch 44 = .ok (.invokevirtual 55, 3) := by decide +kernel
theorem dX6_readSearch_47 : decode cX6_readSearch 47 = .ok (.ifCond .eq 29, 3) := by decide +kernel
theorem dX6_readSearch_50 : decode cX6_readSearch 50 = .ok (.aload_n 0, 1) := by decide +kernel
theorem dX6_readSearch_51 : decode cX6_readSearch 51 = .ok (.invokevirtual 52, 3) := by decide +kernel
theorem dX6_readSearch_54 : decode cX6_readSearch 54 = .ok (.ifCond .eq 22, 3) := by decide +kernel
theorem dX6_readSearch_57 : decode cX6_readSearch 57 = .ok (.aload_n 0, 1) := by decide +kernel
theorem dX6_readSearch_58 : decode cX6_readSearch 58 = .ok (.aload_n 1, 1) := by decide +kernel
theorem dX6_readSearch_59 : decode cX6_readSearch 59 = .ok (.invokevirtual 58, 3) := by decide +kernel
theorem dX6_readSearch_62 : decode cX6_readSearch 62 = .ok (.ifCond .eq 14, 3) := by decide +kernel
theorem dX6_readSearch_65 : decode cX6_readSearch 65 = .ok (.aload_n 0, 1) := by decide +kernel
theorem dX6_readSearch_66 : decode cX6_readSearch 66 = .ok (.invokevirtual 61, 3) := by decide +kernel
theorem dX6_readSearch_69 : decode cX6_readSearch 69 = .ok (.ifCond .eq 7, 3) := by decide +kernel
theorem dX6_readSearch_72 : decode cX6_readSearch 72 = .ok (.iconst 1, 1) := by decide +kernel
theorem dX6_readSearch_73 : decode cX6_readSearch 73 = .ok (.goto 4, 3) := by decide +kernel
theorem dX6_readSearch_76 : decode cX6_readSearch 76 = .ok (.iconst 0, 1) := by decide +kernel
theorem dX6_readSearch_77 : decode cX6_readSearch 77 = .ok (.istore_n 2, 1) := by decide +kernel
theorem dX6_readSearch_78 : decode cX6_readSearch 78 = .ok (.iload_n 2, 1) := by decide +kernel
theorem dX6_readSearch_79 : decode cX6_readSearch 79 = .ok (.ifCond .eq 13, 3) := by decide +kernel
theorem dX6_readSearch_82 : decode cX6_readSearch 82 = .ok (.aload_n 1, 1) := by decide +kernel
theorem dX6_readSearch_83 : decode cX6_readSearch 83 = .ok (.dup, 1) := by decide +kernel
theorem dX6_readSearch_84 : decode cX6_readSearch 84 = .ok (.getfield 28, 3) := by decide +kernel
theorem dX6_readSearch_87 : decode cX6_readSearch 87 = .ok (.iconst 1, 1) := by decide +kernel
theorem dX6_readSearch_88 : decode cX6_readSearch 88 = .ok (.iadd, 1) := by decide +kernel
theorem dX6_readSearch_89 : decode cX6_readSearch 89 = .ok (.putfield 28, 3) := by decide +kernel
theorem dX6_readSearch_92 : decode cX6_readSearch 92 = .ok (.return_, 1) := by decide +kernel
theorem dX6_readOrder_0 : decode cX6_readOrder 0 = .ok (.aload_n 1, 1) := by decide +kernel
theorem dX6_readOrder_1 : decode cX6_readOrder 1 = .ok (.getfield 28, 3) := by decide +kernel
theorem dX6_readOrder_4 : decode cX6_readOrder 4 = .ok (.ifCond .ne 15, 3) := by decide +kernel
theorem dX6_readOrder_7 : decode cX6_readOrder 7 = .ok (.aload_n 1, 1) := by decide +kernel
theorem dX6_readOrder_8 : decode cX6_readOrder 8 = .ok (.aload_n 0, 1) := by decide +kernel
theorem dX6_readOrder_9 : decode cX6_readOrder 9 = .ok (.invokevirtual 64, 3) := by decide +kernel
theorem dX6_readOrder_12 : decode cX6_readOrder 12 = .ok (.iconst 5, 1) := by decide +kernel
theorem dX6_readOrder_13 : decode cX6_readOrder 13 = .ok (.invokestatic 68, 3) := by decide +kernel
theorem dX6_readOrder_16 : decode cX6_readOrder 16 = .ok (.putfield 74, 3) := by decide +kernel
theorem dX6_readOrder_19 : decode cX6_readOrder 19 = .ok (.aload_n 1, 1) := by decide +kernel
theorem dX6_readOrder_20 : decode cX6_readOrder 20 = .ok (.getfield 74, 3) := by decide +kernel
theorem dX6_readOrder_23 : decode cX6_readOrder 23 = .ok (.ifCond .ne 9, 3) := by decide +kernel
theorem dX6_readOrder_26 : decode cX6_readOrder 26 = .ok (.aload_n 0, 1) := by decide +kernel
theorem dX6_readOrder_27 : decode cX6_readOrder 27 = .ok (.iconst 1, 1) := by decide +kernel
theorem dX6_readOrder_28 : decode cX6_readOrder 28 = .ok (.invokevirtual 40, 3) := by decide +kernel
theorem dX6_readOrder_31 : decode cX6_readOrder 31 = .ok (.ireturn, 1) := by decide +kernel
theorem dX6_readOrder_32 : decode cX6_readOrder 32 = .ok (.iconst 0, 1) := by decide +kernel
theorem dX6_readOrder_33 : decode cX6_readOrder 33 = .ok (.istore_n 2, 1) := by decide +kernel
theorem dX6_readOrder_34 : decode cX6_readOrder 34 = .ok (.iconst 0, 1) := by decide +kernel
theorem dX6_readOrder_35 : decode cX6_readOrder 35 = .ok (.istore_n 3, 1) := by decide +kernel
theorem dX6_readOrder_36 : decode cX6_readOrder 36 = .ok (.iload_n 3, 1) := by decide +kernel
theorem dX6_readOrder_37 : decode cX6_readOrder 37 = .ok (.aload_n 1, 1) := by decide +kernel
theorem dX6_readOrder_38 : decode cX6_readOrder 38 = .ok (.getfield 74, 3) := by decide +kernel
theorem dX6_readOrder_41 : decode cX6_readOrder 41 = .ok (.if_icmp .ge 79, 3) := by decide +kernel
theorem dX6_readOrder_44 : decode cX6_readOrder 44 = .ok (.aload_n 0, 1) := by decide +kernel
theorem dX6_readOrder_45 : decode cX6_readOrder 45 = .ok (.invokevirtual 44, 3) := by decide +kernel
theorem dX6_readOrder_48 : decode cX6_readOrder 48 = .ok (.ifCond .ne 9, 3) := by decide +kernel
theorem dX6_readOrder_51 : decode cX6_readOrder 51 = .ok (.aload_n 0, 1) := by decide +kernel
theorem dX6_readOrder_52 : decode cX6_readOrder 52 = .ok (.iconst 1, 1) := by decide +kernel
theorem dX6_readOrder_53 : decode cX6_readOrder 53 = .ok (.invokevirtual 40, 3) := by decide +kernel
theorem dX6_readOrder_56 : decode cX6_readOrder 56 = .ok (.ireturn, 1) := by decide +kernel
theorem dX6_readOrder_57 : decode cX6_readOrder 57 = .ok (.aload_n 0, 1) := by decide +kernel
theorem dX6_readOrder_58 : decode cX6_readOrder 58 = .ok (.invokevirtual 77, 3) := by decide +kernel
theorem dX6_readOrder_61 : decode cX6_readOrder 61 = .ok (.istore 4, 2) := by decide +kernel
theorem dX6_readOrder_63 : decode cX6_readOrder 63 = .ok (.iload 4, 2) := by decide +kernel
theorem dX6_readOrder_65 : decode cX6_readOrder 65 = .ok (.iload_n 2, 1) := by decide +kernel
theorem dX6_readOrder_66 : decode cX6_readOrder 66 = .ok (.aload_n 1, 1) := by decide +kernel
theorem dX6_readOrder_67 : decode cX6_readOrder 67 = .ok (.getfield 74, 3) := by decide +kernel
theorem dX6_readOrder_70 : decode cX6_readOrder 70 = .ok (.invokestatic 80, 3) := by decide +kernel
theorem dX6_readOrder_73 : decode cX6_readOrder 73 = .ok (.ifCond .ne 9, 3) := by decide +kernel
theorem dX6_readOrder_76 : decode cX6_readOrder 76 = .ok (.aload_n 0, 1) := by decide +kernel
theorem dX6_readOrder_77 : decode cX6_readOrder 77 = .ok (.iconst 2, 1) := by decide +kernel
theorem dX6_readOrder_78 : decode cX6_readOrder 78 = .ok (.invokevirtual 40, 3) := by decide +kernel
theorem dX6_readOrder_81 : decode cX6_readOrder 81 = .ok (.ireturn, 1) := by decide +kernel
theorem dX6_readOrder_82 : decode cX6_readOrder 82 = .ok (.iload_n 2, 1) := by decide +kernel
theorem dX6_readOrder_83 : decode cX6_readOrder 83 = .ok (.iconst 1, 1) := by decide +kernel
theorem dX6_readOrder_84 : decode cX6_readOrder 84 = .ok (.iload 4, 2) := by decide +kernel
theorem dX6_readOrder_86 : decode cX6_readOrder 86 = .ok (.ishl, 1) := by decide +kernel
theorem dX6_readOrder_87 : decode cX6_readOrder 87 = .ok (.ior, 1) := by decide +kernel
theorem dX6_readOrder_88 : decode cX6_readOrder 88 = .ok (.istore_n 2, 1) := by decide +kernel
theorem dX6_readOrder_89 : decode cX6_readOrder 89 = .ok (.aload_n 1, 1) := by decide +kernel
theorem dX6_readOrder_90 : decode cX6_readOrder 90 = .ok (.getfield 84, 3) := by decide +kernel
theorem dX6_readOrder_93 : decode cX6_readOrder 93 = .ok (.aload_n 1, 1) := by decide +kernel
theorem dX6_readOrder_94 : decode cX6_readOrder 94 = .ok (.getfield 28, 3) := by decide +kernel
theorem dX6_readOrder_97 : decode cX6_readOrder 97 = .ok (.iconst 5, 1) := by decide +kernel
theorem dX6_readOrder_98 : decode cX6_readOrder 98 = .ok (.imul, 1) := by decide +kernel
theorem dX6_readOrder_99 : decode cX6_readOrder 99 = .ok (.iload_n 3, 1) := by decide +kernel
theorem dX6_readOrder_100 : decode cX6_readOrder 100 = .ok (.iadd, 1) := by decide +kernel
theorem dX6_readOrder_101 : decode cX6_readOrder 101 = .ok (.iload 4, 2) := by decide +kernel
theorem dX6_readOrder_103 : decode cX6_readOrder 103 = .ok (.iastore, 1) := by decide +kernel
theorem dX6_readOrder_104 : decode cX6_readOrder 104 = .ok (.aload_n 0, 1) := by decide +kernel
theorem dX6_readOrder_105 : decode cX6_readOrder 105 = .ok (.dup, 1) := by decide +kernel
theorem dX6_readOrder_106 : decode cX6_readOrder 106 = .ok (.getfield 22, 3) := by decide +kernel
theorem dX6_readOrder_109 : decode cX6_readOrder 109 = .ok (.iconst 1, 1) := by decide +kernel
theorem dX6_readOrder_110 : decode cX6_readOrder 110 = .ok (.iadd, 1) := by decide +kernel
theorem dX6_readOrder_111 : decode cX6_readOrder 111 = .ok (.putfield 22, 3) := by decide +kernel
theorem dX6_readOrder_114 : decode cX6_readOrder 114 = .ok (.iinc 3 1, 3) := by decide +kernel
theorem dX6_readOrder_117 : decode cX6_readOrder 117 = .ok (.goto (-81), 3) := by decide +kernel
theorem dX6_readOrder_120 : decode cX6_readOrder 120 = .ok (.aload_n 0, 1) := by decide +kernel
theorem dX6_readOrder_121 : decode cX6_readOrder 121 = .ok (.invokevirtual 44, 3) := by decide +kernel
theorem dX6_readOrder_124 : decode cX6_readOrder 124 = .ok (.ifCond .eq 20, 3) := by decide +kernel
theorem dX6_readOrder_127 : decode cX6_readOrder 127 = .ok (.aload_n 0, 1) := by decide +kernel
theorem dX6_readOrder_128 : decode cX6_readOrder 128 = .ok (.aload_n 1, 1) := by decide +kernel
theorem dX6_readOrder_129 : decode cX6_readOrder 129 = .ok (.getfield 28, 3) := by decide +kernel
theorem dX6_readOrder_132 : decode cX6_readOrder 132 = .ok (.ifCond .ne 7, 3) := by decide +kernel
theorem dX6_readOrder_135 : decode cX6_readOrder 135 = .ok (.iconst 3, 1) := by decide +kernel
theorem dX6_readOrder_136 : decode cX6_readOrder 136 = .ok (.goto 4, 3) := by decide +kernel
theorem dX6_readOrder_139 : decode cX6_readOrder 139 = .ok (.iconst 1, 1) := by decide +kernel
theorem dX6_readOrder_140 : decode cX6_readOrder 140 = .ok (.invokevirtual 40, 3) := by decide +kernel
theorem dX6_readOrder_143 : decode cX6_readOrder 143 = .ok (.ireturn, 1) := by decide +kernel
theorem dX6_readOrder_144 : decode cX6_readOrder 144 = .ok (.iconst 1, 1) := by decide +kernel
theorem dX6_readOrder_145 : decode cX6_readOrder 145 = .ok (.ireturn, 1) := by decide +kernel
theorem dX6_canFollow_0 : decode cX6_canFollow 0 = .ok (.iload_n 0, 1) := by decide +kernel
theorem dX6_canFollow_1 : decode cX6_canFollow 1 = .ok (.iload_n 2, 1) := by decide +kernel
theorem dX6_canFollow_2 : decode cX6_canFollow 2 = .ok (.if_icmp .ge 11, 3) := by decide +kernel
theorem dX6_canFollow_5 : decode cX6_canFollow 5 = .ok (.iload_n 1, 1) := by decide +kernel
theorem dX6_canFollow_6 : decode cX6_canFollow 6 = .ok (.iconst 1, 1) := by decide +kernel
theorem dX6_canFollow_7 : decode cX6_canFollow 7 = .ok (.iload_n 0, 1) := by decide +kernel
theorem dX6_canFollow_8 : decode cX6_canFollow 8 = .ok (.ishl, 1) := by decide +kernel
theorem dX6_canFollow_9 : decode cX6_canFollow 9 = .ok (.iand, 1) := by decide +kernel
theorem dX6_canFollow_10 : decode cX6_canFollow 10 = .ok (.ifCond .eq 5, 3) := by decide +kernel
theorem dX6_canFollow_13 : decode cX6_canFollow 13 = .ok (.iconst 0, 1) := by decide +kernel
theorem dX6_canFollow_14 : decode cX6_canFollow 14 = .ok (.ireturn, 1) := by decide +kernel
theorem dX6_canFollow_15 : decode cX6_canFollow 15 = .ok (.iconst 1, 1) := by decide +kernel
theorem dX6_canFollow_16 : decode cX6_canFollow 16 = .ok (.iload_n 0, 1) := by decide +kernel
theorem dX6_canFollow_17 : decode cX6_canFollow 17 = .ok (.iconst 1, 1) := by decide +kernel
theorem dX6_canFollow_18 : decode cX6_canFollow 18 = .ok (.iadd, 1) := by decide +kernel
theorem dX6_canFollow_19 : decode cX6_canFollow 19 = .ok (.ishl, 1) := by decide +kernel
theorem dX6_canFollow_20 : decode cX6_canFollow 20 = .ok (.iconst 1, 1) := by decide +kernel
theorem dX6_canFollow_21 : decode cX6_canFollow 21 = .ok (.iload_n 0, 1) := by decide +kernel
theorem dX6_canFollow_22 : decode cX6_canFollow 22 = .ok (.ishl, 1) := by decide +kernel
theorem dX6_canFollow_23 : decode cX6_canFollow 23 = .ok (.iconst 1, 1) := by decide +kernel
theorem dX6_canFollow_24 : decode cX6_canFollow 24 = .ok (.ishr, 1) := by decide +kernel
theorem dX6_canFollow_25 : decode cX6_canFollow 25 = .ok (.ior, 1) := by decide +kernel
theorem dX6_canFollow_26 : decode cX6_canFollow 26 = .ok (.istore_n 3, 1) := by decide +kernel
theorem dX6_canFollow_27 : decode cX6_canFollow 27 = .ok (.iload_n 1, 1) := by decide +kernel
theorem dX6_canFollow_28 : decode cX6_canFollow 28 = .ok (.ifCond .eq 9, 3) := by decide +kernel
theorem dX6_canFollow_31 : decode cX6_canFollow 31 = .ok (.iload_n 1, 1) := by decide +kernel
theorem dX6_canFollow_32 : decode cX6_canFollow 32 = .ok (.iload_n 3, 1) := by decide +kernel
theorem dX6_canFollow_33 : decode cX6_canFollow 33 = .ok (.iand, 1) := by decide +kernel
theorem dX6_canFollow_34 : decode cX6_canFollow 34 = .ok (.ifCond .eq 7, 3) := by decide +kernel
theorem dX6_canFollow_37 : decode cX6_canFollow 37 = .ok (.iconst 1, 1) := by decide +kernel
theorem dX6_canFollow_38 : decode cX6_canFollow 38 = .ok (.goto 4, 3) := by decide +kernel
theorem dX6_canFollow_41 : decode cX6_canFollow 41 = .ok (.iconst 0, 1) := by decide +kernel
theorem dX6_canFollow_42 : decode cX6_canFollow 42 = .ok (.ireturn, 1) := by decide +kernel
theorem dX6_readLeast_0 : decode cX6_readLeast 0 = .ok (.iconst 0, 1) := by decide +kernel
theorem dX6_readLeast_1 : decode cX6_readLeast 1 = .ok (.istore_n 2, 1) := by decide +kernel
theorem dX6_readLeast_2 : decode cX6_readLeast 2 = .ok (.iconst 0, 1) := by decide +kernel
theorem dX6_readLeast_3 : decode cX6_readLeast 3 = .ok (.istore_n 3, 1) := by decide +kernel
theorem dX6_readLeast_4 : decode cX6_readLeast 4 = .ok (.iload_n 3, 1) := by decide +kernel
theorem dX6_readLeast_5 : decode cX6_readLeast 5 = .ok (.aload_n 1, 1) := by decide +kernel
theorem dX6_readLeast_6 : decode cX6_readLeast 6 = .ok (.getfield 74, 3) := by decide +kernel
theorem dX6_readLeast_9 : decode cX6_readLeast 9 = .ok (.if_icmp .ge 52, 3) := by decide +kernel
theorem dX6_readLeast_12 : decode cX6_readLeast 12 = .ok (.aload_n 0, 1) := by decide +kernel
theorem dX6_readLeast_13 : decode cX6_readLeast 13 = .ok (.iload_n 2, 1) := by decide +kernel
theorem dX6_readLeast_14 : decode cX6_readLeast 14 = .ok (.invokevirtual 88, 3) := by decide +kernel
theorem dX6_readLeast_17 : decode cX6_readLeast 17 = .ok (.istore 4, 2) := by decide +kernel
theorem dX6_readLeast_19 : decode cX6_readLeast 19 = .ok (.iload 4, 2) := by decide +kernel
theorem dX6_readLeast_21 : decode cX6_readLeast 21 = .ok (.iconst (-1), 1) := by decide +kernel
theorem dX6_readLeast_22 : decode cX6_readLeast 22 = .ok (.if_icmp .ne 5, 3) := by decide +kernel
theorem dX6_readLeast_25 : decode cX6_readLeast 25 = .ok (.iconst 0, 1) := by decide +kernel
theorem dX6_readLeast_26 : decode cX6_readLeast 26 = .ok (.ireturn, 1) := by decide +kernel
theorem dX6_readLeast_27 : decode cX6_readLeast 27 = .ok (.aload_n 1, 1) := by decide +kernel
theorem dX6_readLeast_28 : decode cX6_readLeast 28 = .ok (.getfield 92, 3) := by decide +kernel
theorem dX6_readLeast_31 : decode cX6_readLeast 31 = .ok (.aload_n 1, 1) := by decide +kernel
theorem dX6_readLeast_32 : decode cX6_readLeast 32 = .ok (.getfield 28, 3) := by decide +kernel
theorem dX6_readLeast_35 : decode cX6_readLeast 35 = .ok (.iconst 5, 1) := by decide +kernel
theorem dX6_readLeast_36 : decode cX6_readLeast 36 = .ok (.imul, 1) := by decide +kernel
theorem dX6_readLeast_37 : decode cX6_readLeast 37 = .ok (.iload_n 3, 1) := by decide +kernel
theorem dX6_readLeast_38 : decode cX6_readLeast 38 = .ok (.iadd, 1) := by decide +kernel
theorem dX6_readLeast_39 : decode cX6_readLeast 39 = .ok (.iload 4, 2) := by decide +kernel
theorem dX6_readLeast_41 : decode cX6_readLeast 41 = .ok (.iastore, 1) := by decide +kernel
theorem dX6_readLeast_42 : decode cX6_readLeast 42 = .ok (.iload 4, 2) := by decide +kernel
theorem dX6_readLeast_44 : decode cX6_readLeast 44 = .ok (.istore_n 2, 1) := by decide +kernel
theorem dX6_readLeast_45 : decode cX6_readLeast 45 = .ok (.aload_n 0, 1) := by decide +kernel
theorem dX6_readLeast_46 : decode cX6_readLeast 46 = .ok (.dup, 1) := by decide +kernel
theorem dX6_readLeast_47 : decode cX6_readLeast 47 = .ok (.getfield 22, 3) := by decide +kernel
theorem dX6_readLeast_50 : decode cX6_readLeast 50 = .ok (.iconst 1, 1) := by decide +kernel
theorem dX6_readLeast_51 : decode cX6_readLeast 51 = .ok (.iadd, 1) := by decide +kernel
theorem dX6_readLeast_52 : decode cX6_readLeast 52 = .ok (.putfield 22, 3) := by decide +kernel
theorem dX6_readLeast_55 : decode cX6_readLeast 55 = .ok (.iinc 3 1, 3) := by decide +kernel
theorem dX6_readLeast_58 : decode cX6_readLeast 58 = .ok (.goto (-54), 3) := by decide +kernel
theorem dX6_readLeast_61 : decode cX6_readLeast 61 = .ok (.aload_n 0, 1) := by decide +kernel
theorem dX6_readLeast_62 : decode cX6_readLeast 62 = .ok (.invokevirtual 44, 3) := by decide +kernel
theorem dX6_readLeast_65 : decode cX6_readLeast 65 = .ok (.ifCond .eq 11, 3) := by decide +kernel
theorem dX6_readLeast_68 : decode cX6_readLeast 68 = .ok (.aload_n 0, 1) := by decide +kernel
theorem dX6_readLeast_69 : decode cX6_readLeast 69 = .ok (.iconst 1, 1) := by decide +kernel
theorem dX6_readLeast_70 : decode cX6_readLeast 70 = .ok (.invokevirtual 40, 3) := by decide +kernel
theorem dX6_readLeast_73 : decode cX6_readLeast 73 = .ok (.goto 4, 3) := by decide +kernel
theorem dX6_readLeast_76 : decode cX6_readLeast 76 = .ok (.iconst 1, 1) := by decide +kernel
theorem dX6_readLeast_77 : decode cX6_readLeast 77 = .ok (.ireturn, 1) := by decide +kernel
theorem dX6_readMost_0 : decode cX6_readMost 0 = .ok (.iconst 0, 1) := by decide +kernel
theorem dX6_readMost_1 : decode cX6_readMost 1 = .ok (.istore_n 2, 1) := by decide +kernel
theorem dX6_readMost_2 : decode cX6_readMost 2 = .ok (.iconst 0, 1) := by decide +kernel
theorem dX6_readMost_3 : decode cX6_readMost 3 = .ok (.istore_n 3, 1) := by decide +kernel
theorem dX6_readMost_4 : decode cX6_readMost 4 = .ok (.iload_n 3, 1) := by decide +kernel
theorem dX6_readMost_5 : decode cX6_readMost 5 = .ok (.aload_n 1, 1) := by decide +kernel
theorem dX6_readMost_6 : decode cX6_readMost 6 = .ok (.getfield 74, 3) := by decide +kernel
theorem dX6_readMost_9 : decode cX6_readMost 9 = .ok (.if_icmp .ge 66, 3) := by decide +kernel
theorem dX6_readMost_12 : decode cX6_readMost 12 = .ok (.aload_n 1, 1) := by decide +kernel
theorem dX6_readMost_13 : decode cX6_readMost 13 = .ok (.getfield 28, 3) := by decide +kernel
theorem dX6_readMost_16 : decode cX6_readMost 16 = .ok (.iconst 5, 1) := by decide +kernel
theorem dX6_readMost_17 : decode cX6_readMost 17 = .ok (.imul, 1) := by decide +kernel
theorem dX6_readMost_18 : decode cX6_readMost 18 = .ok (.iload_n 3, 1) := by decide +kernel
theorem dX6_readMost_19 : decode cX6_readMost 19 = .ok (.iadd, 1) := by decide +kernel
theorem dX6_readMost_20 : decode cX6_readMost 20 = .ok (.istore 4, 2) := by decide +kernel
theorem dX6_readMost_22 : decode cX6_readMost 22 = .ok (.aload_n 0, 1) := by decide +kernel
theorem dX6_readMost_23 : decode cX6_readMost 23 = .ok (.iload_n 2, 1) := by decide +kernel
theorem dX6_readMost_24 : decode cX6_readMost 24 = .ok (.aload_n 1, 1) := by decide +kernel
theorem dX6_readMost_25 : decode cX6_readMost 25 = .ok (.getfield 92, 3) := by decide +kernel
theorem dX6_readMost_28 : decode cX6_readMost 28 = .ok (.iload 4, 2) := by decide +kernel
theorem dX6_readMost_30 : decode cX6_readMost 30 = .ok (.iaload, 1) := by decide +kernel
theorem dX6_readMost_31 : decode cX6_readMost 31 = .ok (.invokestatic 95, 3) := by decide +kernel
theorem dX6_readMost_34 : decode cX6_readMost 34 = .ok (.invokevirtual 88, 3) := by decide +kernel
theorem dX6_readMost_37 : decode cX6_readMost 37 = .ok (.istore 5, 2) := by decide +kernel
theorem dX6_readMost_39 : decode cX6_readMost 39 = .ok (.iload 5, 2) := by decide +kernel
theorem dX6_readMost_41 : decode cX6_readMost 41 = .ok (.iconst (-1), 1) := by decide +kernel
theorem dX6_readMost_42 : decode cX6_readMost 42 = .ok (.if_icmp .ne 5, 3) := by decide +kernel
theorem dX6_readMost_45 : decode cX6_readMost 45 = .ok (.iconst 0, 1) := by decide +kernel
theorem dX6_readMost_46 : decode cX6_readMost 46 = .ok (.ireturn, 1) := by decide +kernel
theorem dX6_readMost_47 : decode cX6_readMost 47 = .ok (.aload_n 1, 1) := by decide +kernel
theorem dX6_readMost_48 : decode cX6_readMost 48 = .ok (.getfield 98, 3) := by decide +kernel
theorem dX6_readMost_51 : decode cX6_readMost 51 = .ok (.iload 4, 2) := by decide +kernel
theorem dX6_readMost_53 : decode cX6_readMost 53 = .ok (.iload 5, 2) := by decide +kernel
theorem dX6_readMost_55 : decode cX6_readMost 55 = .ok (.iastore, 1) := by decide +kernel
theorem dX6_readMost_56 : decode cX6_readMost 56 = .ok (.iload 5, 2) := by decide +kernel
theorem dX6_readMost_58 : decode cX6_readMost 58 = .ok (.istore_n 2, 1) := by decide +kernel
theorem dX6_readMost_59 : decode cX6_readMost 59 = .ok (.aload_n 0, 1) := by decide +kernel
theorem dX6_readMost_60 : decode cX6_readMost 60 = .ok (.dup, 1) := by decide +kernel
theorem dX6_readMost_61 : decode cX6_readMost 61 = .ok (.getfield 22, 3) := by decide +kernel
theorem dX6_readMost_64 : decode cX6_readMost 64 = .ok (.iconst 1, 1) := by decide +kernel
theorem dX6_readMost_65 : decode cX6_readMost 65 = .ok (.iadd, 1) := by decide +kernel
theorem dX6_readMost_66 : decode cX6_readMost 66 = .ok (.putfield 22, 3) := by decide +kernel
theorem dX6_readMost_69 : decode cX6_readMost 69 = .ok (.iinc 3 1, 3) := by decide +kernel
theorem dX6_readMost_72 : decode cX6_readMost 72 = .ok (.goto (-68), 3) := by decide +kernel
theorem dX6_readMost_75 : decode cX6_readMost 75 = .ok (.aload_n 0, 1) := by decide +kernel
theorem dX6_readMost_76 : decode cX6_readMost 76 = .ok (.invokevirtual 44, 3) := by decide +kernel
theorem dX6_readMost_79 : decode cX6_readMost 79 = .ok (.ifCond .eq 11, 3) := by decide +kernel
theorem dX6_readMost_82 : decode cX6_readMost 82 = .ok (.aload_n 0, 1) := by decide +kernel
theorem dX6_readMost_83 : decode cX6_readMost 83 = .ok (.iconst 1, 1) := by decide +kernel
theorem dX6_readMost_84 : decode cX6_readMost 84 = .ok (.invokevirtual 40, 3) := by decide +kernel
theorem dX6_readMost_87 : decode cX6_readMost 87 = .ok (.goto 4, 3) := by decide +kernel
theorem dX6_readMost_90 : decode cX6_readMost 90 = .ok (.iconst 1, 1) := by decide +kernel
theorem dX6_readMost_91 : decode cX6_readMost 91 = .ok (.ireturn, 1) := by decide +kernel
theorem dX6_boundHere_0 : decode cX6_boundHere 0 = .ok (.aload_n 0, 1) := by decide +kernel
theorem dX6_boundHere_1 : decode cX6_boundHere 1 = .ok (.invokevirtual 44, 3) := by decide +kernel
theorem dX6_boundHere_4 : decode cX6_boundHere 4 = .ok (.ifCond .ne 11, 3) := by decide +kernel
theorem dX6_boundHere_7 : decode cX6_boundHere 7 = .ok (.aload_n 0, 1) := by decide +kernel
theorem dX6_boundHere_8 : decode cX6_boundHere 8 = .ok (.iconst 1, 1) := by decide +kernel
theorem dX6_boundHere_9 : decode cX6_boundHere 9 = .ok (.invokevirtual 40, 3) := by decide +kernel
theorem dX6_boundHere_12 : decode cX6_boundHere 12 = .ok (.pop, 1) := by decide +kernel
theorem dX6_boundHere_13 : decode cX6_boundHere 13 = .ok (.iconst (-1), 1) := by decide +kernel
theorem dX6_boundHere_14 : decode cX6_boundHere 14 = .ok (.ireturn, 1) := by decide +kernel
theorem dX6_boundHere_15 : decode cX6_boundHere 15 = .ok (.aload_n 0, 1) := by decide +kernel
theorem dX6_boundHere_16 : decode cX6_boundHere 16 = .ok (.invokevirtual 77, 3) := by decide +kernel
theorem dX6_boundHere_19 : decode cX6_boundHere 19 = .ok (.istore_n 2, 1) := by decide +kernel
theorem dX6_boundHere_20 : decode cX6_boundHere 20 = .ok (.iload_n 2, 1) := by decide +kernel
theorem dX6_boundHere_21 : decode cX6_boundHere 21 = .ok (.iload_n 1, 1) := by decide +kernel
theorem dX6_boundHere_22 : decode cX6_boundHere 22 = .ok (.if_icmp .lt 8, 3) := by decide +kernel
theorem dX6_boundHere_25 : decode cX6_boundHere 25 = .ok (.iload_n 2, 1) := by decide +kernel
theorem dX6_boundHere_26 : decode cX6_boundHere 26 = .ok (.iconst 4, 1) := by decide +kernel
theorem dX6_boundHere_27 : decode cX6_boundHere 27 = .ok (.if_icmp .le 11, 3) := by decide +kernel
theorem dX6_boundHere_30 : decode cX6_boundHere 30 = .ok (.aload_n 0, 1) := by decide +kernel
theorem dX6_boundHere_31 : decode cX6_boundHere 31 = .ok (.iconst 2, 1) := by decide +kernel
theorem dX6_boundHere_32 : decode cX6_boundHere 32 = .ok (.invokevirtual 40, 3) := by decide +kernel
theorem dX6_boundHere_35 : decode cX6_boundHere 35 = .ok (.pop, 1) := by decide +kernel
theorem dX6_boundHere_36 : decode cX6_boundHere 36 = .ok (.iconst (-1), 1) := by decide +kernel
theorem dX6_boundHere_37 : decode cX6_boundHere 37 = .ok (.ireturn, 1) := by decide +kernel
theorem dX6_boundHere_38 : decode cX6_boundHere 38 = .ok (.iload_n 2, 1) := by decide +kernel
theorem dX6_boundHere_39 : decode cX6_boundHere 39 = .ok (.ireturn, 1) := by decide +kernel
theorem dX6_readGap_0 : decode cX6_readGap 0 = .ok (.aload_n 0, 1) := by decide +kernel
theorem dX6_readGap_1 : decode cX6_readGap 1 = .ok (.bipush 32, 2) := by decide +kernel
theorem dX6_readGap_3 : decode cX6_readGap 3 = .ok (.invokevirtual 101, 3) := by decide +kernel
theorem dX6_readGap_6 : decode cX6_readGap 6 = .ok (.ifCond .ne 9, 3) := by decide +kernel
theorem dX6_readGap_9 : decode cX6_readGap 9 = .ok (.aload_n 0, 1) := by decide +kernel
theorem dX6_readGap_10 : decode cX6_readGap 10 = .ok (.iconst 1, 1) := by decide +kernel
theorem dX6_readGap_11 : decode cX6_readGap 11 = .ok (.invokevirtual 40, 3) := by decide +kernel
theorem dX6_readGap_14 : decode cX6_readGap 14 = .ok (.ireturn, 1) := by decide +kernel
theorem dX6_readGap_15 : decode cX6_readGap 15 = .ok (.aload_n 0, 1) := by decide +kernel
theorem dX6_readGap_16 : decode cX6_readGap 16 = .ok (.invokevirtual 33, 3) := by decide +kernel
theorem dX6_readGap_19 : decode cX6_readGap 19 = .ok (.iconst 1, 1) := by decide +kernel
theorem dX6_readGap_20 : decode cX6_readGap 20 = .ok (.ireturn, 1) := by decide +kernel
theorem dX6_readSemicolon_0 : decode cX6_readSemicolon 0 = .ok (.aload_n 0, 1) := by decide +kernel
theorem dX6_readSemicolon_1 : decode cX6_readSemicolon 1 = .ok (.invokevirtual 33, 3) := by decide +kernel
theorem dX6_readSemicolon_4 : decode cX6_readSemicolon 4 = .ok (.aload_n 0, 1) := by decide +kernel
theorem dX6_readSemicolon_5 : decode cX6_readSemicolon 5 = .ok (.bipush 59, 2) := by decide +kernel
theorem dX6_readSemicolon_7 : decode cX6_readSemicolon 7 = .ok (.invokevirtual 101, 3) := by decide +kernel
theorem dX6_readSemicolon_10 : decode cX6_readSemicolon 10 = .ok (.ifCond .ne 9, 3) := by decide +kernel
theorem dX6_readSemicolon_13 : decode cX6_readSemicolon 13 = .ok (.aload_n 0, 1) := by decide +kernel
theorem dX6_readSemicolon_14 : decode cX6_readSemicolon 14 = .ok (.iconst 1, 1) := by decide +kernel
theorem dX6_readSemicolon_15 : decode cX6_readSemicolon 15 = .ok (.invokevirtual 40, 3) := by decide +kernel
theorem dX6_readSemicolon_18 : decode cX6_readSemicolon 18 = .ok (.ireturn, 1) := by decide +kernel
theorem dX6_readSemicolon_19 : decode cX6_readSemicolon 19 = .ok (.aload_n 0, 1) := by decide +kernel
theorem dX6_readSemicolon_20 : decode cX6_readSemicolon 20 = .ok (.dup, 1) := by decide +kernel
theorem dX6_readSemicolon_21 : decode cX6_readSemicolon 21 = .ok (.getfield 22, 3) := by decide +kernel
theorem dX6_readSemicolon_24 : decode cX6_readSemicolon 24 = .ok (.iconst 1, 1) := by decide +kernel
theorem dX6_readSemicolon_25 : decode cX6_readSemicolon 25 = .ok (.iadd, 1) := by decide +kernel
theorem dX6_readSemicolon_26 : decode cX6_readSemicolon 26 = .ok (.putfield 22, 3) := by decide +kernel
theorem dX6_readSemicolon_29 : decode cX6_readSemicolon 29 = .ok (.iconst 1, 1) := by decide +kernel
theorem dX6_readSemicolon_30 : decode cX6_readSemicolon 30 = .ok (.ireturn, 1) := by decide +kernel
theorem dX6_skipBlanks_0 : decode cX6_skipBlanks 0 = .ok (.aload_n 0, 1) := by decide +kernel
theorem dX6_skipBlanks_1 : decode cX6_skipBlanks 1 = .ok (.getfield 22, 3) := by decide +kernel
theorem dX6_skipBlanks_4 : decode cX6_skipBlanks 4 = .ok (.aload_n 0, 1) := by decide +kernel
theorem dX6_skipBlanks_5 : decode cX6_skipBlanks 5 = .ok (.getfield 19, 3) := by decide +kernel
theorem dX6_skipBlanks_8 : decode cX6_skipBlanks 8 = .ok (.if_icmp .ge 33, 3) := by decide +kernel
theorem dX6_skipBlanks_11 : decode cX6_skipBlanks 11 = .ok (.aload_n 0, 1) := by decide +kernel
theorem dX6_skipBlanks_12 : decode cX6_skipBlanks 12 = .ok (.getfield 9, 3) := by decide +kernel
theorem dX6_skipBlanks_15 : decode cX6_skipBlanks 15 = .ok (.getfield 104, 3) := by decide +kernel
theorem dX6_skipBlanks_18 : decode cX6_skipBlanks 18 = .ok (.aload_n 0, 1) := by decide +kernel
theorem dX6_skipBlanks_19 : decode cX6_skipBlanks 19 = .ok (.getfield 22, 3) := by decide +kernel
theorem dX6_skipBlanks_22 : decode cX6_skipBlanks 22 = .ok (.iaload, 1) := by decide +kernel
theorem dX6_skipBlanks_23 : decode cX6_skipBlanks 23 = .ok (.bipush 32, 2) := by decide +kernel
theorem dX6_skipBlanks_25 : decode cX6_skipBlanks 25 = .ok (.if_icmp .ne 16, 3) := by decide +kernel
theorem dX6_skipBlanks_28 : decode cX6_skipBlanks 28 = .ok (.aload_n 0, 1) := by decide +kernel
theorem dX6_skipBlanks_29 : decode cX6_skipBlanks 29 = .ok (.dup, 1) := by decide +kernel
theorem dX6_skipBlanks_30 : decode cX6_skipBlanks 30 = .ok (.getfield 22, 3) := by decide +kernel
theorem dX6_skipBlanks_33 : decode cX6_skipBlanks 33 = .ok (.iconst 1, 1) := by decide +kernel
theorem dX6_skipBlanks_34 : decode cX6_skipBlanks 34 = .ok (.iadd, 1) := by decide +kernel
theorem dX6_skipBlanks_35 : decode cX6_skipBlanks 35 = .ok (.putfield 22, 3) := by decide +kernel
theorem dX6_skipBlanks_38 : decode cX6_skipBlanks 38 = .ok (.goto (-38), 3) := by decide +kernel
theorem dX6_skipBlanks_41 : decode cX6_skipBlanks 41 = .ok (.return_, 1) := by decide +kernel
theorem dX6_digitsFrom_0 : decode cX6_digitsFrom 0 = .ok (.iconst 0, 1) := by decide +kernel
theorem dX6_digitsFrom_1 : decode cX6_digitsFrom 1 = .ok (.istore_n 1, 1) := by decide +kernel
theorem dX6_digitsFrom_2 : decode cX6_digitsFrom 2 = .ok (.aload_n 0, 1) := by decide +kernel
theorem dX6_digitsFrom_3 : decode cX6_digitsFrom 3 = .ok (.getfield 22, 3) := by decide +kernel
theorem dX6_digitsFrom_6 : decode cX6_digitsFrom 6 = .ok (.istore_n 2, 1) := by decide +kernel
theorem dX6_digitsFrom_7 : decode cX6_digitsFrom 7 = .ok (.iload_n 2, 1) := by decide +kernel
theorem dX6_digitsFrom_8 : decode cX6_digitsFrom 8 = .ok (.aload_n 0, 1) := by decide +kernel
theorem dX6_digitsFrom_9 : decode cX6_digitsFrom 9 = .ok (.getfield 19, 3) := by decide +kernel
theorem dX6_digitsFrom_12 : decode cX6_digitsFrom 12 = .ok (.if_icmp .ge 27, 3) := by decide +kernel
theorem dX6_digitsFrom_15 : decode cX6_digitsFrom 15 = .ok (.aload_n 0, 1) := by decide +kernel
theorem dX6_digitsFrom_16 : decode cX6_digitsFrom 16 = .ok (.getfield 9, 3) := by decide +kernel
theorem dX6_digitsFrom_19 : decode cX6_digitsFrom 19 = .ok (.getfield 104, 3) := by decide +kernel
theorem dX6_digitsFrom_22 : decode cX6_digitsFrom 22 = .ok (.iload_n 2, 1) := by decide +kernel
theorem dX6_digitsFrom_23 : decode cX6_digitsFrom 23 = .ok (.iaload, 1) := by decide +kernel
theorem dX6_digitsFrom_24 : decode cX6_digitsFrom 24 = .ok (.invokestatic 109, 3) := by decide +kernel
theorem dX6_digitsFrom_27 : decode cX6_digitsFrom 27 = .ok (.ifCond .eq 12, 3) := by decide +kernel
theorem dX6_digitsFrom_30 : decode cX6_digitsFrom 30 = .ok (.iinc 1 1, 3) := by decide +kernel
theorem dX6_digitsFrom_33 : decode cX6_digitsFrom 33 = .ok (.iinc 2 1, 3) := by decide +kernel
theorem dX6_digitsFrom_36 : decode cX6_digitsFrom 36 = .ok (.goto (-29), 3) := by decide +kernel
theorem dX6_digitsFrom_39 : decode cX6_digitsFrom 39 = .ok (.iload_n 1, 1) := by decide +kernel
theorem dX6_digitsFrom_40 : decode cX6_digitsFrom 40 = .ok (.ireturn, 1) := by decide +kernel
theorem dX6_isByte_0 : decode cX6_isByte 0 = .ok (.aload_n 0, 1) := by decide +kernel
theorem dX6_isByte_1 : decode cX6_isByte 1 = .ok (.getfield 22, 3) := by decide +kernel
theorem dX6_isByte_4 : decode cX6_isByte 4 = .ok (.aload_n 0, 1) := by decide +kernel
theorem dX6_isByte_5 : decode cX6_isByte 5 = .ok (.getfield 19, 3) := by decide +kernel
theorem dX6_isByte_8 : decode cX6_isByte 8 = .ok (.if_icmp .ge 23, 3) := by decide +kernel
theorem dX6_isByte_11 : decode cX6_isByte 11 = .ok (.aload_n 0, 1) := by decide +kernel
theorem dX6_isByte_12 : decode cX6_isByte 12 = .ok (.getfield 9, 3) := by decide +kernel
theorem dX6_isByte_15 : decode cX6_isByte 15 = .ok (.getfield 104, 3) := by decide +kernel
theorem dX6_isByte_18 : decode cX6_isByte 18 = .ok (.aload_n 0, 1) := by decide +kernel
theorem dX6_isByte_19 : decode cX6_isByte 19 = .ok (.getfield 22, 3) := by decide +kernel
theorem dX6_isByte_22 : decode cX6_isByte 22 = .ok (.iaload, 1) := by decide +kernel
theorem dX6_isByte_23 : decode cX6_isByte 23 = .ok (.iload_n 1, 1) := by decide +kernel
theorem dX6_isByte_24 : decode cX6_isByte 24 = .ok (.if_icmp .ne 7, 3) := by decide +kernel
theorem dX6_isByte_27 : decode cX6_isByte 27 = .ok (.iconst 1, 1) := by decide +kernel
theorem dX6_isByte_28 : decode cX6_isByte 28 = .ok (.goto 4, 3) := by decide +kernel
theorem dX6_isByte_31 : decode cX6_isByte 31 = .ok (.iconst 0, 1) := by decide +kernel
theorem dX6_isByte_32 : decode cX6_isByte 32 = .ok (.ireturn, 1) := by decide +kernel
theorem dX6_isDigit_0 : decode cX6_isDigit 0 = .ok (.aload_n 0, 1) := by decide +kernel
theorem dX6_isDigit_1 : decode cX6_isDigit 1 = .ok (.getfield 22, 3) := by decide +kernel
theorem dX6_isDigit_4 : decode cX6_isDigit 4 = .ok (.aload_n 0, 1) := by decide +kernel
theorem dX6_isDigit_5 : decode cX6_isDigit 5 = .ok (.getfield 19, 3) := by decide +kernel
theorem dX6_isDigit_8 : decode cX6_isDigit 8 = .ok (.if_icmp .ge 25, 3) := by decide +kernel
theorem dX6_isDigit_11 : decode cX6_isDigit 11 = .ok (.aload_n 0, 1) := by decide +kernel
theorem dX6_isDigit_12 : decode cX6_isDigit 12 = .ok (.getfield 9, 3) := by decide +kernel
theorem dX6_isDigit_15 : decode cX6_isDigit 15 = .ok (.getfield 104, 3) := by decide +kernel
theorem dX6_isDigit_18 : decode cX6_isDigit 18 = .ok (.aload_n 0, 1) := by decide +kernel
theorem dX6_isDigit_19 : decode cX6_isDigit 19 = .ok (.getfield 22, 3) := by decide +kernel
theorem dX6_isDigit_22 : decode cX6_isDigit 22 = .ok (.iaload, 1) := by decide +kernel
theorem dX6_isDigit_23 : decode cX6_isDigit 23 = .ok (.invokestatic 109, 3) := by decide +kernel
theorem dX6_isDigit_26 : decode cX6_isDigit 26 = .ok (.ifCond .eq 7, 3) := by decide +kernel
theorem dX6_isDigit_29 : decode cX6_isDigit 29 = .ok (.iconst 1, 1) := by decide +kernel
theorem dX6_isDigit_30 : decode cX6_isDigit 30 = .ok (.goto 4, 3) := by decide +kernel
theorem dX6_isDigit_33 : decode cX6_isDigit 33 = .ok (.iconst 0, 1) := by decide +kernel
theorem dX6_isDigit_34 : decode cX6_isDigit 34 = .ok (.ireturn, 1) := by decide +kernel
theorem dX6_digitHere_0 : decode cX6_digitHere 0 = .ok (.aload_n 0, 1) := by decide +kernel
theorem dX6_digitHere_1 : decode cX6_digitHere 1 = .ok (.getfield 9, 3) := by decide +kernel
theorem dX6_digitHere_4 : decode cX6_digitHere 4 = .ok (.getfield 104, 3) := by decide +kernel
theorem dX6_digitHere_7 : decode cX6_digitHere 7 = .ok (.aload_n 0, 1) := by decide +kernel
theorem dX6_digitHere_8 : decode cX6_digitHere 8 = .ok (.getfield 22, 3) := by decide +kernel
theorem dX6_digitHere_11 : decode cX6_digitHere 11 = .ok (.iaload, 1) := by decide +kernel
theorem dX6_digitHere_12 : decode cX6_digitHere 12 = .ok (.bipush 48, 2) := by decide +kernel
theorem dX6_digitHere_14 : decode cX6_digitHere 14 = .ok (.isub, 1) := by decide +kernel
theorem dX6_digitHere_15 : decode cX6_digitHere 15 = .ok (.ireturn, 1) := by decide +kernel
theorem dX6_isDigitByte_0 : decode cX6_isDigitByte 0 = .ok (.iload_n 0, 1) := by decide +kernel
theorem dX6_isDigitByte_1 : decode cX6_isDigitByte 1 = .ok (.bipush 48, 2) := by decide +kernel
theorem dX6_isDigitByte_3 : decode cX6_isDigitByte 3 = .ok (.if_icmp .lt 13, 3) := by decide +kernel
theorem dX6_isDigitByte_6 : decode cX6_isDigitByte 6 = .ok (.iload_n 0, 1) := by decide +kernel
theorem dX6_isDigitByte_7 : decode cX6_isDigitByte 7 = .ok (.bipush 57, 2) := by decide +kernel
theorem dX6_isDigitByte_9 : decode cX6_isDigitByte 9 = .ok (.if_icmp .gt 7, 3) := by decide +kernel
theorem dX6_isDigitByte_12 : decode cX6_isDigitByte 12 = .ok (.iconst 1, 1) := by decide +kernel
theorem dX6_isDigitByte_13 : decode cX6_isDigitByte 13 = .ok (.goto 4, 3) := by decide +kernel
theorem dX6_isDigitByte_16 : decode cX6_isDigitByte 16 = .ok (.iconst 0, 1) := by decide +kernel
theorem dX6_isDigitByte_17 : decode cX6_isDigitByte 17 = .ok (.ireturn, 1) := by decide +kernel
theorem dX6_fail_0 : decode cX6_fail 0 = .ok (.aload_n 0, 1) := by decide +kernel
theorem dX6_fail_1 : decode cX6_fail 1 = .ok (.iload_n 1, 1) := by decide +kernel
theorem dX6_fail_2 : decode cX6_fail 2 = .ok (.putfield 25, 3) := by decide +kernel
theorem dX6_fail_5 : decode cX6_fail 5 = .ok (.aload_n 0, 1) := by decide +kernel
theorem dX6_fail_6 : decode cX6_fail 6 = .ok (.aload_n 0, 1) := by decide +kernel
theorem dX6_fail_7 : decode cX6_fail 7 = .ok (.getfield 22, 3) := by decide +kernel
theorem dX6_fail_10 : decode cX6_fail 10 = .ok (.putfield 15, 3) := by decide +kernel
theorem dX6_fail_13 : decode cX6_fail 13 = .ok (.iconst 0, 1) := by decide +kernel
theorem dX6_fail_14 : decode cX6_fail 14 = .ok (.ireturn, 1) := by decide +kernel
theorem dX7_init_0 : decode cX7_init 0 = .ok (.aload_n 0, 1) := by decide +kernel
theorem dX7_init_1 : decode cX7_init 1 = .ok (.invokespecial 3, 3) := by decide +kernel
theorem dX7_init_4 : decode cX7_init 4 = .ok (.aload_n 0, 1) := by decide +kernel
theorem dX7_init_5 : decode cX7_init 5 = .ok (.bipush 41, 2) := by decide +kernel
theorem dX7_init_7 : decode cX7_init 7 = .ok (.newarray .int, 2) := by decide +kernel
theorem dX7_init_9 : decode cX7_init 9 = .ok (.putfield 9, 3) := by decide +kernel
theorem dX7_init_12 : decode cX7_init 12 = .ok (.aload_n 0, 1) := by decide +kernel
theorem dX7_init_13 : decode cX7_init 13 = .ok (.bipush 41, 2) := by decide +kernel
theorem dX7_init_15 : decode cX7_init 15 = .ok (.newarray .int, 2) := by decide +kernel
theorem dX7_init_17 : decode cX7_init 17 = .ok (.putfield 15, 3) := by decide +kernel
theorem dX7_init_20 : decode cX7_init 20 = .ok (.aload_n 0, 1) := by decide +kernel
theorem dX7_init_21 : decode cX7_init 21 = .ok (.bipush 41, 2) := by decide +kernel
theorem dX7_init_23 : decode cX7_init 23 = .ok (.newarray .int, 2) := by decide +kernel
theorem dX7_init_25 : decode cX7_init 25 = .ok (.putfield 18, 3) := by decide +kernel
theorem dX7_init_28 : decode cX7_init 28 = .ok (.aload_n 0, 1) := by decide +kernel
theorem dX7_init_29 : decode cX7_init 29 = .ok (.aload_n 1, 1) := by decide +kernel
theorem dX7_init_30 : decode cX7_init 30 = .ok (.putfield 21, 3) := by decide +kernel
theorem dX7_init_33 : decode cX7_init 33 = .ok (.aload_n 0, 1) := by decide +kernel
theorem dX7_init_34 : decode cX7_init 34 = .ok (.aload_n 2, 1) := by decide +kernel
theorem dX7_init_35 : decode cX7_init 35 = .ok (.putfield 25, 3) := by decide +kernel
theorem dX7_init_38 : decode cX7_init 38 = .ok (.return_, 1) := by decide +kernel
theorem dX7_start_0 : decode cX7_start 0 = .ok (.aload_n 0, 1) := by decide +kernel
theorem dX7_start_1 : decode cX7_start 1 = .ok (.getfield 9, 3) := by decide +kernel
theorem dX7_start_4 : decode cX7_start 4 = .ok (.iconst 0, 1) := by decide +kernel
theorem dX7_start_5 : decode cX7_start 5 = .ok (.iconst 0, 1) := by decide +kernel
theorem dX7_start_6 : decode cX7_start 6 = .ok (.iastore, 1) := by decide +kernel
theorem dX7_start_7 : decode cX7_start 7 = .ok (.aload_n 0, 1) := by decide +kernel
theorem dX7_start_8 : decode cX7_start 8 = .ok (.getfield 15, 3) := by decide +kernel
theorem dX7_start_11 : decode cX7_start 11 = .ok (.iconst 0, 1) := by decide +kernel
theorem dX7_start_12 : decode cX7_start 12 = .ok (.iconst 0, 1) := by decide +kernel
theorem dX7_start_13 : decode cX7_start 13 = .ok (.iastore, 1) := by decide +kernel
theorem dX7_start_14 : decode cX7_start 14 = .ok (.aload_n 0, 1) := by decide +kernel
theorem dX7_start_15 : decode cX7_start 15 = .ok (.getfield 18, 3) := by decide +kernel
theorem dX7_start_18 : decode cX7_start 18 = .ok (.iconst 0, 1) := by decide +kernel
theorem dX7_start_19 : decode cX7_start 19 = .ok (.aload_n 0, 1) := by decide +kernel
theorem dX7_start_20 : decode cX7_start 20 = .ok (.getfield 21, 3) := by decide +kernel
theorem dX7_start_23 : decode cX7_start 23 = .ok (.getfield 28, 3) := by decide +kernel
theorem dX7_start_26 : decode cX7_start 26 = .ok (.iconst 1, 1) := by decide +kernel
theorem dX7_start_27 : decode cX7_start 27 = .ok (.iadd, 1) := by decide +kernel
theorem dX7_start_28 : decode cX7_start 28 = .ok (.iastore, 1) := by decide +kernel
theorem dX7_start_29 : decode cX7_start 29 = .ok (.return_, 1) := by decide +kernel
theorem dX7_extend_0 : decode cX7_extend 0 = .ok (.iload_n 1, 1) := by decide +kernel
theorem dX7_extend_1 : decode cX7_extend 1 = .ok (.ifCond .lt 14, 3) := by decide +kernel
theorem dX7_extend_4 : decode cX7_extend 4 = .ok (.iload_n 1, 1) := by decide +kernel
theorem dX7_extend_5 : decode cX7_extend 5 = .ok (.iconst 1, 1) := by decide +kernel
theorem dX7_extend_6 : decode cX7_extend 6 = .ok (.iadd, 1) := by decide +kernel
theorem dX7_extend_7 : decode cX7_extend 7 = .ok (.aload_n 0, 1) := by decide +kernel
theorem dX7_extend_8 : decode cX7_extend 8 = .ok (.getfield 18, 3) := by decide +kernel
theorem dX7_extend_11 : decode cX7_extend 11 = .ok (.arraylength, 1) := by decide +kernel
theorem dX7_extend_12 : decode cX7_extend 12 = .ok (.if_icmp .lt 5, 3) := by decide +kernel
theorem dX7_extend_15 : decode cX7_extend 15 = .ok (.iconst 0, 1) := by decide +kernel
theorem dX7_extend_16 : decode cX7_extend 16 = .ok (.ireturn, 1) := by decide +kernel
theorem dX7_extend_17 : decode cX7_extend 17 = .ok (.iload_n 3, 1) := by decide +kernel
theorem dX7_extend_18 : decode cX7_extend 18 = .ok (.ifCond .ne 10, 3) := by decide +kernel
theorem dX7_extend_21 : decode cX7_extend 21 = .ok (.aload_n 0, 1) := by decide +kernel
theorem dX7_extend_22 : decode cX7_extend 22 = .ok (.getfield 21, 3) := by decide +kernel
theorem dX7_extend_25 : decode cX7_extend 25 = .ok (.goto 7, 3) := by decide +kernel
theorem dX7_extend_28 : decode cX7_extend 28 = .ok (.aload_n 0, 1) := by decide +kernel
theorem dX7_extend_29 : decode cX7_extend 29 = .ok (.getfield 25, 3) := by decide +kernel
theorem dX7_extend_32 : decode cX7_extend 32 = .ok (.astore 4, 2) := by decide +kernel
theorem dX7_extend_34 : decode cX7_extend 34 = .ok (.iload_n 3, 1) := by decide +kernel
theorem dX7_extend_35 : decode cX7_extend 35 = .ok (.ifCond .ne 10, 3) := by decide +kernel
theorem dX7_extend_38 : decode cX7_extend 38 = .ok (.aload_n 0, 1) := by decide +kernel
theorem dX7_extend_39 : decode cX7_extend 39 = .ok (.getfield 9, 3) := by decide +kernel
theorem dX7_extend_42 : decode cX7_extend 42 = .ok (.goto 7, 3) := by decide +kernel
theorem dX7_extend_45 : decode cX7_extend 45 = .ok (.aload_n 0, 1) := by decide +kernel
theorem dX7_extend_46 : decode cX7_extend 46 = .ok (.getfield 15, 3) := by decide +kernel
theorem dX7_extend_49 : decode cX7_extend 49 = .ok (.astore 5, 2) := by decide +kernel
theorem dX7_extend_51 : decode cX7_extend 51 = .ok (.iload_n 3, 1) := by decide +kernel
theorem dX7_extend_52 : decode cX7_extend 52 = .ok (.ifCond .ne 10, 3) := by decide +kernel
theorem dX7_extend_55 : decode cX7_extend 55 = .ok (.aload_n 0, 1) := by decide +kernel
theorem dX7_extend_56 : decode cX7_extend 56 = .ok (.getfield 15, 3) := by decide +kernel
theorem dX7_extend_59 : decode cX7_extend 59 = .ok (.goto 7, 3) := by decide +kernel
theorem dX7_extend_62 : decode cX7_extend 62 = .ok (.aload_n 0, 1) := by decide +kernel
theorem dX7_extend_63 : decode cX7_extend 63 = .ok (.getfield 9, 3) := by decide +kernel
theorem dX7_extend_66 : decode cX7_extend 66 = .ok (.astore 6, 2) := by decide +kernel
theorem dX7_extend_68 : decode cX7_extend 68 = .ok (.aload 5, 2) := by decide +kernel
theorem dX7_extend_70 : decode cX7_extend 70 = .ok (.iload_n 1, 1) := by decide +kernel
theorem dX7_extend_71 : decode cX7_extend 71 = .ok (.iaload, 1) := by decide +kernel
theorem dX7_extend_72 : decode cX7_extend 72 = .ok (.istore 7, 2) := by decide +kernel
theorem dX7_extend_74 : decode cX7_extend 74 = .ok (.iload 7, 2) := by decide +kernel
theorem dX7_extend_76 : decode cX7_extend 76 = .ok (.aload_n 0, 1) := by decide +kernel
theorem dX7_extend_77 : decode cX7_extend 77 = .ok (.getfield 18, 3) := by decide +kernel
theorem dX7_extend_80 : decode cX7_extend 80 = .ok (.iload_n 1, 1) := by decide +kernel
theorem dX7_extend_81 : decode cX7_extend 81 = .ok (.iaload, 1) := by decide +kernel
theorem dX7_extend_82 : decode cX7_extend 82 = .ok (.iadd, 1) := by decide +kernel
theorem dX7_extend_83 : decode cX7_extend 83 = .ok (.istore 8, 2) := by decide +kernel
theorem dX7_extend_85 : decode cX7_extend 85 = .ok (.aload 4, 2) := by decide +kernel
theorem dX7_extend_87 : decode cX7_extend 87 = .ok (.iload 7, 2) := by decide +kernel
theorem dX7_extend_89 : decode cX7_extend 89 = .ok (.iload_n 2, 1) := by decide +kernel
theorem dX7_extend_90 : decode cX7_extend 90 = .ok (.invokevirtual 34, 3) := by decide +kernel
theorem dX7_extend_93 : decode cX7_extend 93 = .ok (.istore 9, 2) := by decide +kernel
theorem dX7_extend_95 : decode cX7_extend 95 = .ok (.aload 5, 2) := by decide +kernel
theorem dX7_extend_97 : decode cX7_extend 97 = .ok (.iload_n 1, 1) := by decide +kernel
theorem dX7_extend_98 : decode cX7_extend 98 = .ok (.iconst 1, 1) := by decide +kernel
theorem dX7_extend_99 : decode cX7_extend 99 = .ok (.iadd, 1) := by decide +kernel
theorem dX7_extend_100 : decode cX7_extend 100 = .ok (.iload 9, 2) := by decide +kernel
theorem dX7_extend_102 : decode cX7_extend 102 = .ok (.iastore, 1) := by decide +kernel
theorem dX7_extend_103 : decode cX7_extend 103 = .ok (.aload 6, 2) := by decide +kernel
theorem dX7_extend_105 : decode cX7_extend 105 = .ok (.iload_n 1, 1) := by decide +kernel
theorem dX7_extend_106 : decode cX7_extend 106 = .ok (.iconst 1, 1) := by decide +kernel
theorem dX7_extend_107 : decode cX7_extend 107 = .ok (.iadd, 1) := by decide +kernel
theorem dX7_extend_108 : decode cX7_extend 108 = .ok (.aload 6, 2) := by decide +kernel
theorem dX7_extend_110 : decode cX7_extend 110 = .ok (.iload_n 1, 1) := by decide +kernel
theorem dX7_extend_111 : decode cX7_extend 111 = .ok (.iaload, 1) := by decide +kernel
theorem dX7_extend_112 : decode cX7_extend 112 = .ok (.aload 4, 2) := by decide +kernel
theorem dX7_extend_114 : decode cX7_extend 114 = .ok (.iload 8, 2) := by decide +kernel
theorem dX7_extend_116 : decode cX7_extend 116 = .ok (.iload_n 2, 1) := by decide +kernel
theorem dX7_extend_117 : decode cX7_extend 117 = .ok (.invokevirtual 38, 3) := by decide +kernel
theorem dX7_extend_120 : decode cX7_extend 120 = .ok (.iadd, 1) := by decide +kernel
theorem dX7_extend_121 : decode cX7_extend 121 = .ok (.aload 4, 2) := by decide +kernel
theorem dX7_extend_123 : decode cX7_extend 123 = .ok (.iload 7, 2) := by decide +kernel
theorem dX7_extend_125 : decode cX7_extend 125 = .ok (.iload_n 2, 1) := by decide +kernel
theorem dX7_extend_126 : decode cX7_extend 126 = .ok (.invokevirtual 38, 3) := by decide +kernel
theorem dX7_extend_129 : decode cX7_extend 129 = .ok (.isub, 1) := by decide +kernel
theorem dX7_extend_130 : decode cX7_extend 130 = .ok (.iastore, 1) := by decide +kernel
theorem dX7_extend_131 : decode cX7_extend 131 = .ok (.aload_n 0, 1) := by decide +kernel
theorem dX7_extend_132 : decode cX7_extend 132 = .ok (.getfield 18, 3) := by decide +kernel
theorem dX7_extend_135 : decode cX7_extend 135 = .ok (.iload_n 1, 1) := by decide +kernel
theorem dX7_extend_136 : decode cX7_extend 136 = .ok (.iconst 1, 1) := by decide +kernel
theorem dX7_extend_137 : decode cX7_extend 137 = .ok (.iadd, 1) := by decide +kernel
theorem dX7_extend_138 : decode cX7_extend 138 = .ok (.aload 4, 2) := by decide +kernel
theorem dX7_extend_140 : decode cX7_extend 140 = .ok (.iload 8, 2) := by decide +kernel
theorem dX7_extend_142 : decode cX7_extend 142 = .ok (.iload_n 2, 1) := by decide +kernel
theorem dX7_extend_143 : decode cX7_extend 143 = .ok (.invokevirtual 34, 3) := by decide +kernel
theorem dX7_extend_146 : decode cX7_extend 146 = .ok (.iload 9, 2) := by decide +kernel
theorem dX7_extend_148 : decode cX7_extend 148 = .ok (.isub, 1) := by decide +kernel
theorem dX7_extend_149 : decode cX7_extend 149 = .ok (.iastore, 1) := by decide +kernel
theorem dX7_extend_150 : decode cX7_extend 150 = .ok (.aload_n 0, 1) := by decide +kernel
theorem dX7_extend_151 : decode cX7_extend 151 = .ok (.getfield 18, 3) := by decide +kernel
theorem dX7_extend_154 : decode cX7_extend 154 = .ok (.iload_n 1, 1) := by decide +kernel
theorem dX7_extend_155 : decode cX7_extend 155 = .ok (.iconst 1, 1) := by decide +kernel
theorem dX7_extend_156 : decode cX7_extend 156 = .ok (.iadd, 1) := by decide +kernel
theorem dX7_extend_157 : decode cX7_extend 157 = .ok (.iaload, 1) := by decide +kernel
theorem dX7_extend_158 : decode cX7_extend 158 = .ok (.ireturn, 1) := by decide +kernel
theorem dX8_init_0 : decode cX8_init 0 = .ok (.aload_n 0, 1) := by decide +kernel
theorem dX8_init_1 : decode cX8_init 1 = .ok (.invokespecial 3, 3) := by decide +kernel
theorem dX8_init_4 : decode cX8_init 4 = .ok (.aload_n 0, 1) := by decide +kernel
theorem dX8_init_5 : decode cX8_init 5 = .ok (.sipush 241, 3) := by decide +kernel
theorem dX8_init_8 : decode cX8_init 8 = .ok (.newarray .int, 2) := by decide +kernel
theorem dX8_init_10 : decode cX8_init 10 = .ok (.putfield 9, 3) := by decide +kernel
theorem dX8_init_13 : decode cX8_init 13 = .ok (.aload_n 0, 1) := by decide +kernel
theorem dX8_init_14 : decode cX8_init 14 = .ok (.sipush 240, 3) := by decide +kernel
theorem dX8_init_17 : decode cX8_init 17 = .ok (.newarray .int, 2) := by decide +kernel
theorem dX8_init_19 : decode cX8_init 19 = .ok (.putfield 15, 3) := by decide +kernel
theorem dX8_init_22 : decode cX8_init 22 = .ok (.aload_n 0, 1) := by decide +kernel
theorem dX8_init_23 : decode cX8_init 23 = .ok (.sipush 240, 3) := by decide +kernel
theorem dX8_init_26 : decode cX8_init 26 = .ok (.newarray .int, 2) := by decide +kernel
theorem dX8_init_28 : decode cX8_init 28 = .ok (.putfield 18, 3) := by decide +kernel
theorem dX8_init_31 : decode cX8_init 31 = .ok (.aload_n 0, 1) := by decide +kernel
theorem dX8_init_32 : decode cX8_init 32 = .ok (.sipush 240, 3) := by decide +kernel
theorem dX8_init_35 : decode cX8_init 35 = .ok (.newarray .int, 2) := by decide +kernel
theorem dX8_init_37 : decode cX8_init 37 = .ok (.putfield 21, 3) := by decide +kernel
theorem dX8_init_40 : decode cX8_init 40 = .ok (.aload_n 0, 1) := by decide +kernel
theorem dX8_init_41 : decode cX8_init 41 = .ok (.sipush 240, 3) := by decide +kernel
theorem dX8_init_44 : decode cX8_init 44 = .ok (.newarray .int, 2) := by decide +kernel
theorem dX8_init_46 : decode cX8_init 46 = .ok (.putfield 24, 3) := by decide +kernel
theorem dX8_init_49 : decode cX8_init 49 = .ok (.aload_n 0, 1) := by decide +kernel
theorem dX8_init_50 : decode cX8_init 50 = .ok (.aload_n 1, 1) := by decide +kernel
theorem dX8_init_51 : decode cX8_init 51 = .ok (.putfield 27, 3) := by decide +kernel
theorem dX8_init_54 : decode cX8_init 54 = .ok (.return_, 1) := by decide +kernel
theorem dX8_beginReading_0 : decode cX8_beginReading 0 = .ok (.iconst 0, 1) := by decide +kernel
theorem dX8_beginReading_1 : decode cX8_beginReading 1 = .ok (.istore_n 1, 1) := by decide +kernel
theorem dX8_beginReading_2 : decode cX8_beginReading 2 = .ok (.iload_n 1, 1) := by decide +kernel
theorem dX8_beginReading_3 : decode cX8_beginReading 3 = .ok (.aload_n 0, 1) := by decide +kernel
theorem dX8_beginReading_4 : decode cX8_beginReading 4 = .ok (.getfield 27, 3) := by decide +kernel
theorem dX8_beginReading_7 : decode cX8_beginReading 7 = .ok (.getfield 31, 3) := by decide +kernel
theorem dX8_beginReading_10 : decode cX8_beginReading 10 = .ok (.if_icmp .gt 16, 3) := by decide +kernel
theorem dX8_beginReading_13 : decode cX8_beginReading 13 = .ok (.aload_n 0, 1) := by decide +kernel
theorem dX8_beginReading_14 : decode cX8_beginReading 14 = .ok (.getfield 9, 3) := by decide +kernel
theorem dX8_beginReading_17 : decode cX8_beginReading 17 = .ok (.iload_n 1, 1) := by decide +kernel
theorem dX8_beginReading_18 : decode cX8_beginReading 18 = .ok (.iconst 0, 1) := by decide +kernel
theorem dX8_beginReading_19 : decode cX8_beginReading 19 = .ok (.iastore, 1) := by decide +kernel
theorem dX8_beginReading_20 : decode cX8_beginReading 20 = .ok (.iinc 1 1, 3) := by decide +kernel
theorem dX8_beginReading_23 : decode cX8_beginReading 23 = .ok (.goto (-21), 3) := by decide +kernel
theorem dX8_beginReading_26 : decode cX8_beginReading 26 = .ok (.return_, 1) := by decide +kernel
theorem dX8_readAhead_0 : decode cX8_readAhead 0 = .ok (.iconst 0, 1) := by decide +kernel
theorem dX8_readAhead_1 : decode cX8_readAhead 1 = .ok (.istore_n 2, 1) := by decide +kernel
theorem dX8_readAhead_2 : decode cX8_readAhead 2 = .ok (.iload_n 2, 1) := by decide +kernel
theorem dX8_readAhead_3 : decode cX8_readAhead 3 = .ok (.aload_n 0, 1) := by decide +kernel
theorem dX8_readAhead_4 : decode cX8_readAhead 4 = .ok (.getfield 27, 3) := by decide +kernel
theorem dX8_readAhead_7 : decode cX8_readAhead 7 = .ok (.getfield 31, 3) := by decide +kernel
theorem dX8_readAhead_10 : decode cX8_readAhead 10 = .ok (.if_icmp .ge 42, 3) := by decide +kernel
theorem dX8_readAhead_13 : decode cX8_readAhead 13 = .ok (.aload_n 0, 1) := by decide +kernel
theorem dX8_readAhead_14 : decode cX8_readAhead 14 = .ok (.getfield 9, 3) := by decide +kernel
theorem dX8_readAhead_17 : decode cX8_readAhead 17 = .ok (.iload_n 2, 1) := by decide +kernel
theorem dX8_readAhead_18 : decode cX8_readAhead 18 = .ok (.aload_n 0, 1) := by decide +kernel
theorem dX8_readAhead_19 : decode cX8_readAhead 19 = .ok (.getfield 27, 3) := by decide +kernel
theorem dX8_readAhead_22 : decode cX8_readAhead 22 = .ok (.getfield 37, 3) := by decide +kernel
theorem dX8_readAhead_25 : decode cX8_readAhead 25 = .ok (.iload_n 2, 1) := by decide +kernel
theorem dX8_readAhead_26 : decode cX8_readAhead 26 = .ok (.iaload, 1) := by decide +kernel
theorem dX8_readAhead_27 : decode cX8_readAhead 27 = .ok (.iload_n 1, 1) := by decide +kernel
theorem dX8_readAhead_28 : decode cX8_readAhead 28 = .ok (.if_icmp .ne 16, 3) := by decide +kernel
theorem dX8_readAhead_31 : decode cX8_readAhead 31 = .ok (.aload_n 0, 1) := by decide +kernel
theorem dX8_readAhead_32 : decode cX8_readAhead 32 = .ok (.getfield 9, 3) := by decide +kernel
theorem dX8_readAhead_35 : decode cX8_readAhead 35 = .ok (.iload_n 2, 1) := by decide +kernel
theorem dX8_readAhead_36 : decode cX8_readAhead 36 = .ok (.iconst 1, 1) := by decide +kernel
theorem dX8_readAhead_37 : decode cX8_readAhead 37 = .ok (.iadd, 1) := by decide +kernel
theorem dX8_readAhead_38 : decode cX8_readAhead 38 = .ok (.iaload, 1) := by decide +kernel
theorem dX8_readAhead_39 : decode cX8_readAhead 39 = .ok (.iconst 1, 1) := by decide +kernel
theorem dX8_readAhead_40 : decode cX8_readAhead 40 = .ok (.iadd, 1) := by decide +kernel
theorem dX8_readAhead_41 : decode cX8_readAhead 41 = .ok (.goto 4, 3) := by decide +kernel
theorem dX8_readAhead_44 : decode cX8_readAhead 44 = .ok (.iconst 0, 1) := by decide +kernel
theorem dX8_readAhead_45 : decode cX8_readAhead 45 = .ok (.iastore, 1) := by decide +kernel
theorem dX8_readAhead_46 : decode cX8_readAhead 46 = .ok (.iinc 2 1, 3) := by decide +kernel
theorem dX8_readAhead_49 : decode cX8_readAhead 49 = .ok (.goto (-47), 3) := by decide +kernel
theorem dX8_readAhead_52 : decode cX8_readAhead 52 = .ok (.return_, 1) := by decide +kernel
theorem dX8_compare_0 : decode cX8_compare 0 = .ok (.aload_n 0, 1) := by decide +kernel
theorem dX8_compare_1 : decode cX8_compare 1 = .ok (.invokevirtual 40, 3) := by decide +kernel
theorem dX8_compare_4 : decode cX8_compare 4 = .ok (.iload_n 2, 1) := by decide +kernel
theorem dX8_compare_5 : decode cX8_compare 5 = .ok (.iconst 1, 1) := by decide +kernel
theorem dX8_compare_6 : decode cX8_compare 6 = .ok (.isub, 1) := by decide +kernel
theorem dX8_compare_7 : decode cX8_compare 7 = .ok (.istore_n 3, 1) := by decide +kernel
theorem dX8_compare_8 : decode cX8_compare 8 = .ok (.iload_n 3, 1) := by decide +kernel
theorem dX8_compare_9 : decode cX8_compare 9 = .ok (.ifCond .lt 25, 3) := by decide +kernel
theorem dX8_compare_12 : decode cX8_compare 12 = .ok (.aload_n 0, 1) := by decide +kernel
theorem dX8_compare_13 : decode cX8_compare 13 = .ok (.aload_n 1, 1) := by decide +kernel
theorem dX8_compare_14 : decode cX8_compare 14 = .ok (.iload_n 3, 1) := by decide +kernel
theorem dX8_compare_15 : decode cX8_compare 15 = .ok (.invokevirtual 43, 3) := by decide +kernel
theorem dX8_compare_18 : decode cX8_compare 18 = .ok (.iconst 2, 1) := by decide +kernel
theorem dX8_compare_19 : decode cX8_compare 19 = .ok (.iadd, 1) := by decide +kernel
theorem dX8_compare_20 : decode cX8_compare 20 = .ok (.invokevirtual 49, 3) := by decide +kernel
theorem dX8_compare_23 : decode cX8_compare 23 = .ok (.aload_n 0, 1) := by decide +kernel
theorem dX8_compare_24 : decode cX8_compare 24 = .ok (.iload_n 3, 1) := by decide +kernel
theorem dX8_compare_25 : decode cX8_compare 25 = .ok (.invokevirtual 53, 3) := by decide +kernel
theorem dX8_compare_28 : decode cX8_compare 28 = .ok (.iinc 3 (-1), 3) := by decide +kernel
theorem dX8_compare_31 : decode cX8_compare 31 = .ok (.goto (-23), 3) := by decide +kernel
theorem dX8_compare_34 : decode cX8_compare 34 = .ok (.return_, 1) := by decide +kernel
theorem dX8_noteLongest_0 : decode cX8_noteLongest 0 = .ok (.aload_n 0, 1) := by decide +kernel
theorem dX8_noteLongest_1 : decode cX8_noteLongest 1 = .ok (.getfield 18, 3) := by decide +kernel
theorem dX8_noteLongest_4 : decode cX8_noteLongest 4 = .ok (.iload_n 1, 1) := by decide +kernel
theorem dX8_noteLongest_5 : decode cX8_noteLongest 5 = .ok (.iconst 0, 1) := by decide +kernel
theorem dX8_noteLongest_6 : decode cX8_noteLongest 6 = .ok (.iastore, 1) := by decide +kernel
theorem dX8_noteLongest_7 : decode cX8_noteLongest 7 = .ok (.aload_n 0, 1) := by decide +kernel
theorem dX8_noteLongest_8 : decode cX8_noteLongest 8 = .ok (.getfield 21, 3) := by decide +kernel
theorem dX8_noteLongest_11 : decode cX8_noteLongest 11 = .ok (.iload_n 1, 1) := by decide +kernel
theorem dX8_noteLongest_12 : decode cX8_noteLongest 12 = .ok (.iconst 0, 1) := by decide +kernel
theorem dX8_noteLongest_13 : decode cX8_noteLongest 13 = .ok (.iastore, 1) := by decide +kernel
theorem dX8_noteLongest_14 : decode cX8_noteLongest 14 = .ok (.aload_n 0, 1) := by decide +kernel
theorem dX8_noteLongest_15 : decode cX8_noteLongest 15 = .ok (.getfield 24, 3) := by decide +kernel
theorem dX8_noteLongest_18 : decode cX8_noteLongest 18 = .ok (.iload_n 1, 1) := by decide +kernel
theorem dX8_noteLongest_19 : decode cX8_noteLongest 19 = .ok (.iconst (-1), 1) := by decide +kernel
theorem dX8_noteLongest_20 : decode cX8_noteLongest 20 = .ok (.iastore, 1) := by decide +kernel
theorem dX8_noteLongest_21 : decode cX8_noteLongest 21 = .ok (.iconst 0, 1) := by decide +kernel
theorem dX8_noteLongest_22 : decode cX8_noteLongest 22 = .ok (.istore_n 2, 1) := by decide +kernel
theorem dX8_noteLongest_23 : decode cX8_noteLongest 23 = .ok (.iload_n 2, 1) := by decide +kernel
theorem dX8_noteLongest_24 : decode cX8_noteLongest 24 = .ok (.aload_n 0, 1) := by decide +kernel
theorem dX8_noteLongest_25 : decode cX8_noteLongest 25 = .ok (.getfield 27, 3) := by decide +kernel
theorem dX8_noteLongest_28 : decode cX8_noteLongest 28 = .ok (.getfield 31, 3) := by decide +kernel
theorem dX8_noteLongest_31 : decode cX8_noteLongest 31 = .ok (.if_icmp .ge 75, 3) := by decide +kernel
theorem dX8_noteLongest_34 : decode cX8_noteLongest 34 = .ok (.aload_n 0, 1) := by decide +kernel
theorem dX8_noteLongest_35 : decode cX8_noteLongest 35 = .ok (.getfield 9, 3) := by decide +kernel
theorem dX8_noteLongest_38 : decode cX8_noteLongest 38 = .ok (.iload_n 2, 1) := by decide +kernel
theorem dX8_noteLongest_39 : decode cX8_noteLongest 39 = .ok (.iaload, 1) := by decide +kernel
theorem dX8_noteLongest_40 : decode cX8_noteLongest 40 = .ok (.aload_n 0, 1) := by decide +kernel
theorem dX8_noteLongest_41 : decode cX8_noteLongest 41 = .ok (.getfield 18, 3) := by decide +kernel
theorem dX8_noteLongest_44 : decode cX8_noteLongest 44 = .ok (.iload_n 1, 1) := by decide +kernel
theorem dX8_noteLongest_45 : decode cX8_noteLongest 45 = .ok (.iaload, 1) := by decide +kernel
theorem dX8_noteLongest_46 : decode cX8_noteLongest 46 = .ok (.if_icmp .le 29, 3) := by decide +kernel
theorem dX8_noteLongest_49 : decode cX8_noteLongest 49 = .ok (.aload_n 0, 1) := by decide +kernel
theorem dX8_noteLongest_50 : decode cX8_noteLongest 50 = .ok (.getfield 18, 3) := by decide +kernel
theorem dX8_noteLongest_53 : decode cX8_noteLongest 53 = .ok (.iload_n 1, 1) := by decide +kernel
theorem dX8_noteLongest_54 : decode cX8_noteLongest 54 = .ok (.aload_n 0, 1) := by decide +kernel
theorem dX8_noteLongest_55 : decode cX8_noteLongest 55 = .ok (.getfield 9, 3) := by decide +kernel
theorem dX8_noteLongest_58 : decode cX8_noteLongest 58 = .ok (.iload_n 2, 1) := by decide +kernel
theorem dX8_noteLongest_59 : decode cX8_noteLongest 59 = .ok (.iaload, 1) := by decide +kernel
theorem dX8_noteLongest_60 : decode cX8_noteLongest 60 = .ok (.iastore, 1) := by decide +kernel
theorem dX8_noteLongest_61 : decode cX8_noteLongest 61 = .ok (.aload_n 0, 1) := by decide +kernel
theorem dX8_noteLongest_62 : decode cX8_noteLongest 62 = .ok (.getfield 21, 3) := by decide +kernel
theorem dX8_noteLongest_65 : decode cX8_noteLongest 65 = .ok (.iload_n 1, 1) := by decide +kernel
theorem dX8_noteLongest_66 : decode cX8_noteLongest 66 = .ok (.iconst 0, 1) := by decide +kernel
theorem dX8_noteLongest_67 : decode cX8_noteLongest 67 = .ok (.iastore, 1) := by decide +kernel
theorem dX8_noteLongest_68 : decode cX8_noteLongest 68 = .ok (.aload_n 0, 1) := by decide +kernel
theorem dX8_noteLongest_69 : decode cX8_noteLongest 69 = .ok (.getfield 24, 3) := by decide +kernel
theorem dX8_noteLongest_72 : decode cX8_noteLongest 72 = .ok (.iload_n 1, 1) := by decide +kernel
theorem dX8_noteLongest_73 : decode cX8_noteLongest 73 = .ok (.iload_n 2, 1) := by decide +kernel
theorem dX8_noteLongest_74 : decode cX8_noteLongest 74 = .ok (.iastore, 1) := by decide +kernel
theorem dX8_noteLongest_75 : decode cX8_noteLongest 75 = .ok (.aload_n 0, 1) := by decide +kernel
theorem dX8_noteLongest_76 : decode cX8_noteLongest 76 = .ok (.getfield 9, 3) := by decide +kernel
theorem dX8_noteLongest_79 : decode cX8_noteLongest 79 = .ok (.iload_n 2, 1) := by decide +kernel
theorem dX8_noteLongest_80 : decode cX8_noteLongest 80 = .ok (.iaload, 1) := by decide +kernel
theorem dX8_noteLongest_81 : decode cX8_noteLongest 81 = .ok (.aload_n 0, 1) := by decide +kernel
theorem dX8_noteLongest_82 : decode cX8_noteLongest 82 = .ok (.getfield 18, 3) := by decide +kernel
theorem dX8_noteLongest_85 : decode cX8_noteLongest 85 = .ok (.iload_n 1, 1) := by decide +kernel
theorem dX8_noteLongest_86 : decode cX8_noteLongest 86 = .ok (.iaload, 1) := by decide +kernel
theorem dX8_noteLongest_87 : decode cX8_noteLongest 87 = .ok (.if_icmp .ne 13, 3) := by decide +kernel
theorem dX8_noteLongest_90 : decode cX8_noteLongest 90 = .ok (.aload_n 0, 1) := by decide +kernel
theorem dX8_noteLongest_91 : decode cX8_noteLongest 91 = .ok (.getfield 21, 3) := by decide +kernel
theorem dX8_noteLongest_94 : decode cX8_noteLongest 94 = .ok (.iload_n 1, 1) := by decide +kernel
theorem dX8_noteLongest_95 : decode cX8_noteLongest 95 = .ok (.dup2, 1) := by decide +kernel
theorem dX8_noteLongest_96 : decode cX8_noteLongest 96 = .ok (.iaload, 1) := by decide +kernel
theorem dX8_noteLongest_97 : decode cX8_noteLongest 97 = .ok (.iconst 1, 1) := by decide +kernel
theorem dX8_noteLongest_98 : decode cX8_noteLongest 98 = .ok (.iadd, 1) := by decide +kernel
theorem dX8_noteLongest_99 : decode cX8_noteLongest 99 = .ok (.iastore, 1) := by decide +kernel
theorem dX8_noteLongest_100 : decode cX8_noteLongest 100 = .ok (.iinc 2 1, 3) := by decide +kernel
theorem dX8_noteLongest_103 : decode cX8_noteLongest 103 = .ok (.goto (-80), 3) := by decide +kernel
theorem dX8_noteLongest_106 : decode cX8_noteLongest 106 = .ok (.return_, 1) := by decide +kernel
theorem dX8_keepMatches_0 : decode cX8_keepMatches 0 = .ok (.aload_n 0, 1) := by decide +kernel
theorem dX8_keepMatches_1 : decode cX8_keepMatches 1 = .ok (.iconst 0, 1) := by decide +kernel
theorem dX8_keepMatches_2 : decode cX8_keepMatches 2 = .ok (.putfield 56, 3) := by decide +kernel
theorem dX8_keepMatches_5 : decode cX8_keepMatches 5 = .ok (.iconst 0, 1) := by decide +kernel
theorem dX8_keepMatches_6 : decode cX8_keepMatches 6 = .ok (.istore_n 3, 1) := by decide +kernel
theorem dX8_keepMatches_7 : decode cX8_keepMatches 7 = .ok (.iconst 0, 1) := by decide +kernel
theorem dX8_keepMatches_8 : decode cX8_keepMatches 8 = .ok (.istore 4, 2) := by decide +kernel
theorem dX8_keepMatches_10 : decode cX8_keepMatches 10 = .ok (.iload 4, 2) := by decide +kernel
theorem dX8_keepMatches_12 : decode cX8_keepMatches 12 = .ok (.iload_n 1, 1) := by decide +kernel
theorem dX8_keepMatches_13 : decode cX8_keepMatches 13 = .ok (.if_icmp .ge 110, 3) := by decide +kernel
theorem dX8_keepMatches_16 : decode cX8_keepMatches 16 = .ok (.iload 4, 2) := by decide +kernel
theorem dX8_keepMatches_18 : decode cX8_keepMatches 18 = .ok (.aload_n 0, 1) := by decide +kernel
theorem dX8_keepMatches_19 : decode cX8_keepMatches 19 = .ok (.getfield 18, 3) := by decide +kernel
theorem dX8_keepMatches_22 : decode cX8_keepMatches 22 = .ok (.iload 4, 2) := by decide +kernel
theorem dX8_keepMatches_24 : decode cX8_keepMatches 24 = .ok (.iaload, 1) := by decide +kernel
theorem dX8_keepMatches_25 : decode cX8_keepMatches 25 = .ok (.iadd, 1) := by decide +kernel
theorem dX8_keepMatches_26 : decode cX8_keepMatches 26 = .ok (.istore 5, 2) := by decide +kernel
theorem dX8_keepMatches_28 : decode cX8_keepMatches 28 = .ok (.iload 5, 2) := by decide +kernel
theorem dX8_keepMatches_30 : decode cX8_keepMatches 30 = .ok (.iload_n 3, 1) := by decide +kernel
theorem dX8_keepMatches_31 : decode cX8_keepMatches 31 = .ok (.if_icmp .le 83, 3) := by decide +kernel
theorem dX8_keepMatches_34 : decode cX8_keepMatches 34 = .ok (.aload_n 0, 1) := by decide +kernel
theorem dX8_keepMatches_35 : decode cX8_keepMatches 35 = .ok (.getfield 18, 3) := by decide +kernel
theorem dX8_keepMatches_38 : decode cX8_keepMatches 38 = .ok (.iload 4, 2) := by decide +kernel
theorem dX8_keepMatches_40 : decode cX8_keepMatches 40 = .ok (.iaload, 1) := by decide +kernel
theorem dX8_keepMatches_41 : decode cX8_keepMatches 41 = .ok (.iload_n 2, 1) := by decide +kernel
theorem dX8_keepMatches_42 : decode cX8_keepMatches 42 = .ok (.if_icmp .lt 72, 3) := by decide +kernel
theorem dX8_keepMatches_45 : decode cX8_keepMatches 45 = .ok (.aload_n 0, 1) := by decide +kernel
theorem dX8_keepMatches_46 : decode cX8_keepMatches 46 = .ok (.getfield 15, 3) := by decide +kernel
theorem dX8_keepMatches_49 : decode cX8_keepMatches 49 = .ok (.aload_n 0, 1) := by decide +kernel
theorem dX8_keepMatches_50 : decode cX8_keepMatches 50 = .ok (.getfield 56, 3) := by decide +kernel
theorem dX8_keepMatches_53 : decode cX8_keepMatches 53 = .ok (.iload 4, 2) := by decide +kernel
theorem dX8_keepMatches_55 : decode cX8_keepMatches 55 = .ok (.iastore, 1) := by decide +kernel
theorem dX8_keepMatches_56 : decode cX8_keepMatches 56 = .ok (.aload_n 0, 1) := by decide +kernel
theorem dX8_keepMatches_57 : decode cX8_keepMatches 57 = .ok (.getfield 18, 3) := by decide +kernel
theorem dX8_keepMatches_60 : decode cX8_keepMatches 60 = .ok (.aload_n 0, 1) := by decide +kernel
theorem dX8_keepMatches_61 : decode cX8_keepMatches 61 = .ok (.getfield 56, 3) := by decide +kernel
theorem dX8_keepMatches_64 : decode cX8_keepMatches 64 = .ok (.aload_n 0, 1) := by decide +kernel
theorem dX8_keepMatches_65 : decode cX8_keepMatches 65 = .ok (.getfield 18, 3) := by decide +kernel
theorem dX8_keepMatches_68 : decode cX8_keepMatches 68 = .ok (.iload 4, 2) := by decide +kernel
theorem dX8_keepMatches_70 : decode cX8_keepMatches 70 = .ok (.iaload, 1) := by decide +kernel
theorem dX8_keepMatches_71 : decode cX8_keepMatches 71 = .ok (.iastore, 1) := by decide +kernel
theorem dX8_keepMatches_72 : decode cX8_keepMatches 72 = .ok (.aload_n 0, 1) := by decide +kernel
theorem dX8_keepMatches_73 : decode cX8_keepMatches 73 = .ok (.getfield 21, 3) := by decide +kernel
theorem dX8_keepMatches_76 : decode cX8_keepMatches 76 = .ok (.aload_n 0, 1) := by decide +kernel
theorem dX8_keepMatches_77 : decode cX8_keepMatches 77 = .ok (.getfield 56, 3) := by decide +kernel
theorem dX8_keepMatches_80 : decode cX8_keepMatches 80 = .ok (.aload_n 0, 1) := by decide +kernel
theorem dX8_keepMatches_81 : decode cX8_keepMatches 81 = .ok (.getfield 21, 3) := by decide +kernel
theorem dX8_keepMatches_84 : decode cX8_keepMatches 84 = .ok (.iload 4, 2) := by decide +kernel
theorem dX8_keepMatches_86 : decode cX8_keepMatches 86 = .ok (.iaload, 1) := by decide +kernel
theorem dX8_keepMatches_87 : decode cX8_keepMatches 87 = .ok (.iastore, 1) := by decide +kernel
theorem dX8_keepMatches_88 : decode cX8_keepMatches 88 = .ok (.aload_n 0, 1) := by decide +kernel
theorem dX8_keepMatches_89 : decode cX8_keepMatches 89 = .ok (.getfield 24, 3) := by decide +kernel
theorem dX8_keepMatches_92 : decode cX8_keepMatches 92 = .ok (.aload_n 0, 1) := by decide +kernel
theorem dX8_keepMatches_93 : decode cX8_keepMatches 93 = .ok (.getfield 56, 3) := by decide +kernel
theorem dX8_keepMatches_96 : decode cX8_keepMatches 96 = .ok (.aload_n 0, 1) := by decide +kernel
theorem dX8_keepMatches_97 : decode cX8_keepMatches 97 = .ok (.getfield 24, 3) := by decide +kernel
theorem dX8_keepMatches_100 : decode cX8_keepMatches 100 = .ok (.iload 4, 2) := by decide +kernel
theorem dX8_keepMatches_102 : decode cX8_keepMatches 102 = .ok (.iaload, 1) := by decide +kernel
theorem dX8_keepMatches_103 : decode cX8_keepMatches 103 = .ok (.iastore, 1) := by decide +kernel
theorem dX8_keepMatches_104 : decode cX8_keepMatches 104 = .ok (.aload_n 0, 1) := by decide +kernel
theorem dX8_keepMatches_105 : decode cX8_keepMatches 105 = .ok (.dup, 1) := by decide +kernel
theorem dX8_keepMatches_106 : decode cX8_keepMatches 106 = .ok (.getfield 56, 3) := by decide +kernel
theorem dX8_keepMatches_109 : decode cX8_keepMatches 109 = .ok (.iconst 1, 1) := by decide +kernel
theorem dX8_keepMatches_110 : decode cX8_keepMatches 110 = .ok (.iadd, 1) := by decide +kernel
theorem dX8_keepMatches_111 : decode cX8_keepMatches 111 = .ok (.putfield 56, 3) := by decide +kernel
theorem dX8_keepMatches_114 : decode cX8_keepMatches 114 = .ok (.iload 5, 2) := by decide +kernel
theorem dX8_keepMatches_116 : decode cX8_keepMatches 116 = .ok (.istore_n 3, 1) := by decide +kernel
theorem dX8_keepMatches_117 : decode cX8_keepMatches 117 = .ok (.iinc 4 1, 3) := by decide +kernel
theorem dX8_keepMatches_120 : decode cX8_keepMatches 120 = .ok (.goto (-110), 3) := by decide +kernel
theorem dX8_keepMatches_123 : decode cX8_keepMatches 123 = .ok (.return_, 1) := by decide +kernel
theorem dX8_findCommon_0 : decode cX8_findCommon 0 = .ok (.aload_n 0, 1) := by decide +kernel
theorem dX8_findCommon_1 : decode cX8_findCommon 1 = .ok (.iconst 0, 1) := by decide +kernel
theorem dX8_findCommon_2 : decode cX8_findCommon 2 = .ok (.putfield 59, 3) := by decide +kernel
theorem dX8_findCommon_5 : decode cX8_findCommon 5 = .ok (.aload_n 0, 1) := by decide +kernel
theorem dX8_findCommon_6 : decode cX8_findCommon 6 = .ok (.iconst (-1), 1) := by decide +kernel
theorem dX8_findCommon_7 : decode cX8_findCommon 7 = .ok (.putfield 62, 3) := by decide +kernel
theorem dX8_findCommon_10 : decode cX8_findCommon 10 = .ok (.aload_n 0, 1) := by decide +kernel
theorem dX8_findCommon_11 : decode cX8_findCommon 11 = .ok (.invokevirtual 40, 3) := by decide +kernel
theorem dX8_findCommon_14 : decode cX8_findCommon 14 = .ok (.aload_n 0, 1) := by decide +kernel
theorem dX8_findCommon_15 : decode cX8_findCommon 15 = .ok (.getfield 27, 3) := by decide +kernel
theorem dX8_findCommon_18 : decode cX8_findCommon 18 = .ok (.getfield 65, 3) := by decide +kernel
theorem dX8_findCommon_21 : decode cX8_findCommon 21 = .ok (.iconst 0, 1) := by decide +kernel
theorem dX8_findCommon_22 : decode cX8_findCommon 22 = .ok (.iaload, 1) := by decide +kernel
theorem dX8_findCommon_23 : decode cX8_findCommon 23 = .ok (.iconst 1, 1) := by decide +kernel
theorem dX8_findCommon_24 : decode cX8_findCommon 24 = .ok (.isub, 1) := by decide +kernel
theorem dX8_findCommon_25 : decode cX8_findCommon 25 = .ok (.istore_n 1, 1) := by decide +kernel
theorem dX8_findCommon_26 : decode cX8_findCommon 26 = .ok (.iload_n 1, 1) := by decide +kernel
theorem dX8_findCommon_27 : decode cX8_findCommon 27 = .ok (.ifCond .lt 58, 3) := by decide +kernel
theorem dX8_findCommon_30 : decode cX8_findCommon 30 = .ok (.aload_n 0, 1) := by decide +kernel
theorem dX8_findCommon_31 : decode cX8_findCommon 31 = .ok (.aload_n 0, 1) := by decide +kernel
theorem dX8_findCommon_32 : decode cX8_findCommon 32 = .ok (.getfield 27, 3) := by decide +kernel
theorem dX8_findCommon_35 : decode cX8_findCommon 35 = .ok (.getfield 37, 3) := by decide +kernel
theorem dX8_findCommon_38 : decode cX8_findCommon 38 = .ok (.iload_n 1, 1) := by decide +kernel
theorem dX8_findCommon_39 : decode cX8_findCommon 39 = .ok (.iaload, 1) := by decide +kernel
theorem dX8_findCommon_40 : decode cX8_findCommon 40 = .ok (.invokevirtual 49, 3) := by decide +kernel
theorem dX8_findCommon_43 : decode cX8_findCommon 43 = .ok (.aload_n 0, 1) := by decide +kernel
theorem dX8_findCommon_44 : decode cX8_findCommon 44 = .ok (.aload_n 0, 1) := by decide +kernel
theorem dX8_findCommon_45 : decode cX8_findCommon 45 = .ok (.getfield 27, 3) := by decide +kernel
theorem dX8_findCommon_48 : decode cX8_findCommon 48 = .ok (.getfield 65, 3) := by decide +kernel
theorem dX8_findCommon_51 : decode cX8_findCommon 51 = .ok (.iload_n 1, 1) := by decide +kernel
theorem dX8_findCommon_52 : decode cX8_findCommon 52 = .ok (.iaload, 1) := by decide +kernel
theorem dX8_findCommon_53 : decode cX8_findCommon 53 = .ok (.invokevirtual 68, 3) := by decide +kernel
theorem dX8_findCommon_56 : decode cX8_findCommon 56 = .ok (.istore_n 2, 1) := by decide +kernel
theorem dX8_findCommon_57 : decode cX8_findCommon 57 = .ok (.iload_n 2, 1) := by decide +kernel
theorem dX8_findCommon_58 : decode cX8_findCommon 58 = .ok (.ifCond .le 21, 3) := by decide +kernel
theorem dX8_findCommon_61 : decode cX8_findCommon 61 = .ok (.iload_n 2, 1) := by decide +kernel
theorem dX8_findCommon_62 : decode cX8_findCommon 62 = .ok (.aload_n 0, 1) := by decide +kernel
theorem dX8_findCommon_63 : decode cX8_findCommon 63 = .ok (.getfield 59, 3) := by decide +kernel
theorem dX8_findCommon_66 : decode cX8_findCommon 66 = .ok (.if_icmp .lt 13, 3) := by decide +kernel
theorem dX8_findCommon_69 : decode cX8_findCommon 69 = .ok (.aload_n 0, 1) := by decide +kernel
theorem dX8_findCommon_70 : decode cX8_findCommon 70 = .ok (.iload_n 2, 1) := by decide +kernel
theorem dX8_findCommon_71 : decode cX8_findCommon 71 = .ok (.putfield 59, 3) := by decide +kernel
theorem dX8_findCommon_74 : decode cX8_findCommon 74 = .ok (.aload_n 0, 1) := by decide +kernel
theorem dX8_findCommon_75 : decode cX8_findCommon 75 = .ok (.iload_n 1, 1) := by decide +kernel
theorem dX8_findCommon_76 : decode cX8_findCommon 76 = .ok (.putfield 62, 3) := by decide +kernel
theorem dX8_findCommon_79 : decode cX8_findCommon 79 = .ok (.iinc 1 (-1), 3) := by decide +kernel
theorem dX8_findCommon_82 : decode cX8_findCommon 82 = .ok (.goto (-56), 3) := by decide +kernel
theorem dX8_findCommon_85 : decode cX8_findCommon 85 = .ok (.return_, 1) := by decide +kernel
theorem dX8_inAllOthers_0 : decode cX8_inAllOthers 0 = .ok (.iload_n 1, 1) := by decide +kernel
theorem dX8_inAllOthers_1 : decode cX8_inAllOthers 1 = .ok (.istore_n 2, 1) := by decide +kernel
theorem dX8_inAllOthers_2 : decode cX8_inAllOthers 2 = .ok (.iconst 1, 1) := by decide +kernel
theorem dX8_inAllOthers_3 : decode cX8_inAllOthers 3 = .ok (.istore_n 3, 1) := by decide +kernel
theorem dX8_inAllOthers_4 : decode cX8_inAllOthers 4 = .ok (.iload_n 3, 1) := by decide +kernel
theorem dX8_inAllOthers_5 : decode cX8_inAllOthers 5 = .ok (.aload_n 0, 1) := by decide +kernel
theorem dX8_inAllOthers_6 : decode cX8_inAllOthers 6 = .ok (.getfield 27, 3) := by decide +kernel
theorem dX8_inAllOthers_9 : decode cX8_inAllOthers 9 = .ok (.getfield 71, 3) := by decide +kernel
theorem dX8_inAllOthers_12 : decode cX8_inAllOthers 12 = .ok (.if_icmp .ge 19, 3) := by decide +kernel
theorem dX8_inAllOthers_15 : decode cX8_inAllOthers 15 = .ok (.iload_n 2, 1) := by decide +kernel
theorem dX8_inAllOthers_16 : decode cX8_inAllOthers 16 = .ok (.aload_n 0, 1) := by decide +kernel
theorem dX8_inAllOthers_17 : decode cX8_inAllOthers 17 = .ok (.iload_n 3, 1) := by decide +kernel
theorem dX8_inAllOthers_18 : decode cX8_inAllOthers 18 = .ok (.invokevirtual 74, 3) := by decide +kernel
theorem dX8_inAllOthers_21 : decode cX8_inAllOthers 21 = .ok (.invokestatic 77, 3) := by decide +kernel
theorem dX8_inAllOthers_24 : decode cX8_inAllOthers 24 = .ok (.istore_n 2, 1) := by decide +kernel
theorem dX8_inAllOthers_25 : decode cX8_inAllOthers 25 = .ok (.iinc 3 1, 3) := by decide +kernel
theorem dX8_inAllOthers_28 : decode cX8_inAllOthers 28 = .ok (.goto (-24), 3) := by decide +kernel
theorem dX8_inAllOthers_31 : decode cX8_inAllOthers 31 = .ok (.iload_n 2, 1) := by decide +kernel
theorem dX8_inAllOthers_32 : decode cX8_inAllOthers 32 = .ok (.ireturn, 1) := by decide +kernel
theorem dX8_mostIn_0 : decode cX8_mostIn 0 = .ok (.iconst 0, 1) := by decide +kernel
theorem dX8_mostIn_1 : decode cX8_mostIn 1 = .ok (.istore_n 2, 1) := by decide +kernel
theorem dX8_mostIn_2 : decode cX8_mostIn 2 = .ok (.aload_n 0, 1) := by decide +kernel
theorem dX8_mostIn_3 : decode cX8_mostIn 3 = .ok (.getfield 27, 3) := by decide +kernel
theorem dX8_mostIn_6 : decode cX8_mostIn 6 = .ok (.getfield 83, 3) := by decide +kernel
theorem dX8_mostIn_9 : decode cX8_mostIn 9 = .ok (.iload_n 1, 1) := by decide +kernel
theorem dX8_mostIn_10 : decode cX8_mostIn 10 = .ok (.iaload, 1) := by decide +kernel
theorem dX8_mostIn_11 : decode cX8_mostIn 11 = .ok (.istore_n 3, 1) := by decide +kernel
theorem dX8_mostIn_12 : decode cX8_mostIn 12 = .ok (.iload_n 3, 1) := by decide +kernel
theorem dX8_mostIn_13 : decode cX8_mostIn 13 = .ok (.istore 4, 2) := by decide +kernel
theorem dX8_mostIn_15 : decode cX8_mostIn 15 = .ok (.iload 4, 2) := by decide +kernel
theorem dX8_mostIn_17 : decode cX8_mostIn 17 = .ok (.iload_n 3, 1) := by decide +kernel
theorem dX8_mostIn_18 : decode cX8_mostIn 18 = .ok (.aload_n 0, 1) := by decide +kernel
theorem dX8_mostIn_19 : decode cX8_mostIn 19 = .ok (.getfield 27, 3) := by decide +kernel
theorem dX8_mostIn_22 : decode cX8_mostIn 22 = .ok (.getfield 65, 3) := by decide +kernel
theorem dX8_mostIn_25 : decode cX8_mostIn 25 = .ok (.iload_n 3, 1) := by decide +kernel
theorem dX8_mostIn_26 : decode cX8_mostIn 26 = .ok (.iaload, 1) := by decide +kernel
theorem dX8_mostIn_27 : decode cX8_mostIn 27 = .ok (.iadd, 1) := by decide +kernel
theorem dX8_mostIn_28 : decode cX8_mostIn 28 = .ok (.if_icmp .ge 21, 3) := by decide +kernel
theorem dX8_mostIn_31 : decode cX8_mostIn 31 = .ok (.iload_n 2, 1) := by decide +kernel
theorem dX8_mostIn_32 : decode cX8_mostIn 32 = .ok (.aload_n 0, 1) := by decide +kernel
theorem dX8_mostIn_33 : decode cX8_mostIn 33 = .ok (.getfield 9, 3) := by decide +kernel
theorem dX8_mostIn_36 : decode cX8_mostIn 36 = .ok (.iload 4, 2) := by decide +kernel
theorem dX8_mostIn_38 : decode cX8_mostIn 38 = .ok (.iaload, 1) := by decide +kernel
theorem dX8_mostIn_39 : decode cX8_mostIn 39 = .ok (.invokestatic 86, 3) := by decide +kernel
theorem dX8_mostIn_42 : decode cX8_mostIn 42 = .ok (.istore_n 2, 1) := by decide +kernel
theorem dX8_mostIn_43 : decode cX8_mostIn 43 = .ok (.iinc 4 1, 3) := by decide +kernel
theorem dX8_mostIn_46 : decode cX8_mostIn 46 = .ok (.goto (-31), 3) := by decide +kernel
theorem dX8_mostIn_49 : decode cX8_mostIn 49 = .ok (.iload_n 2, 1) := by decide +kernel
theorem dX8_mostIn_50 : decode cX8_mostIn 50 = .ok (.ireturn, 1) := by decide +kernel
theorem dX9_init_0 : decode cX9_init 0 = .ok (.aload_n 0, 1) := by decide +kernel
theorem dX9_init_1 : decode cX9_init 1 = .ok (.invokespecial 3, 3) := by decide +kernel
theorem dX9_init_4 : decode cX9_init 4 = .ok (.aload_n 0, 1) := by decide +kernel
theorem dX9_init_5 : decode cX9_init 5 = .ok (.sipush 240, 3) := by decide +kernel
theorem dX9_init_8 : decode cX9_init 8 = .ok (.newarray .int, 2) := by decide +kernel
theorem dX9_init_10 : decode cX9_init 10 = .ok (.putfield 9, 3) := by decide +kernel
theorem dX9_init_13 : decode cX9_init 13 = .ok (.return_, 1) := by decide +kernel
theorem dX9_put_0 : decode cX9_put 0 = .ok (.bipush 24, 2) := by decide +kernel
theorem dX9_put_2 : decode cX9_put 2 = .ok (.istore_n 2, 1) := by decide +kernel
theorem dX9_put_3 : decode cX9_put 3 = .ok (.iload_n 2, 1) := by decide +kernel
theorem dX9_put_4 : decode cX9_put 4 = .ok (.ifCond .lt 47, 3) := by decide +kernel
theorem dX9_put_7 : decode cX9_put 7 = .ok (.aload_n 0, 1) := by decide +kernel
theorem dX9_put_8 : decode cX9_put 8 = .ok (.getfield 15, 3) := by decide +kernel
theorem dX9_put_11 : decode cX9_put 11 = .ok (.aload_n 0, 1) := by decide +kernel
theorem dX9_put_12 : decode cX9_put 12 = .ok (.getfield 9, 3) := by decide +kernel
theorem dX9_put_15 : decode cX9_put 15 = .ok (.arraylength, 1) := by decide +kernel
theorem dX9_put_16 : decode cX9_put 16 = .ok (.if_icmp .ge 29, 3) := by decide +kernel
theorem dX9_put_19 : decode cX9_put 19 = .ok (.aload_n 0, 1) := by decide +kernel
theorem dX9_put_20 : decode cX9_put 20 = .ok (.getfield 9, 3) := by decide +kernel
theorem dX9_put_23 : decode cX9_put 23 = .ok (.aload_n 0, 1) := by decide +kernel
theorem dX9_put_24 : decode cX9_put 24 = .ok (.getfield 15, 3) := by decide +kernel
theorem dX9_put_27 : decode cX9_put 27 = .ok (.iload_n 1, 1) := by decide +kernel
theorem dX9_put_28 : decode cX9_put 28 = .ok (.iload_n 2, 1) := by decide +kernel
theorem dX9_put_29 : decode cX9_put 29 = .ok (.iushr, 1) := by decide +kernel
theorem dX9_put_30 : decode cX9_put 30 = .ok (.sipush 255, 3) := by decide +kernel
theorem dX9_put_33 : decode cX9_put 33 = .ok (.iand, 1) := by decide +kernel
theorem dX9_put_34 : decode cX9_put 34 = .ok (.iastore, 1) := by decide +kernel
theorem dX9_put_35 : decode cX9_put 35 = .ok (.aload_n 0, 1) := by decide +kernel
theorem dX9_put_36 : decode cX9_put 36 = .ok (.dup, 1) := by decide +kernel
theorem dX9_put_37 : decode cX9_put 37 = .ok (.getfield 15, 3) := by decide +kernel
theorem dX9_put_40 : decode cX9_put 40 = .ok (.iconst 1, 1) := by decide +kernel
theorem dX9_put_41 : decode cX9_put 41 = .ok (.iadd, 1) := by decide +kernel
theorem dX9_put_42 : decode cX9_put 42 = .ok (.putfield 15, 3) := by decide +kernel
theorem dX9_put_45 : decode cX9_put 45 = .ok (.iinc 2 (-8), 3) := by decide +kernel
theorem dX9_put_48 : decode cX9_put 48 = .ok (.goto (-45), 3) := by decide +kernel
theorem dX9_put_51 : decode cX9_put 51 = .ok (.return_, 1) := by decide +kernel
theorem dX9_holds_0 : decode cX9_holds 0 = .ok (.iload_n 1, 1) := by decide +kernel
theorem dX9_holds_1 : decode cX9_holds 1 = .ok (.iconst 1, 1) := by decide +kernel
theorem dX9_holds_2 : decode cX9_holds 2 = .ok (.if_icmp .lt 15, 3) := by decide +kernel
theorem dX9_holds_5 : decode cX9_holds 5 = .ok (.iload_n 1, 1) := by decide +kernel
theorem dX9_holds_6 : decode cX9_holds 6 = .ok (.aload_n 0, 1) := by decide +kernel
theorem dX9_holds_7 : decode cX9_holds 7 = .ok (.getfield 15, 3) := by decide +kernel
theorem dX9_holds_10 : decode cX9_holds 10 = .ok (.if_icmp .gt 7, 3) := by decide +kernel
theorem dX9_holds_13 : decode cX9_holds 13 = .ok (.iconst 1, 1) := by decide +kernel
theorem dX9_holds_14 : decode cX9_holds 14 = .ok (.goto 4, 3) := by decide +kernel
theorem dX9_holds_17 : decode cX9_holds 17 = .ok (.iconst 0, 1) := by decide +kernel
theorem dX9_holds_18 : decode cX9_holds 18 = .ok (.ireturn, 1) := by decide +kernel
theorem dX9_lettersAlone_0 : decode cX9_lettersAlone 0 = .ok (.iconst 0, 1) := by decide +kernel
theorem dX9_lettersAlone_1 : decode cX9_lettersAlone 1 = .ok (.istore_n 2, 1) := by decide +kernel
theorem dX9_lettersAlone_2 : decode cX9_lettersAlone 2 = .ok (.iload_n 2, 1) := by decide +kernel
theorem dX9_lettersAlone_3 : decode cX9_lettersAlone 3 = .ok (.iload_n 1, 1) := by decide +kernel
theorem dX9_lettersAlone_4 : decode cX9_lettersAlone 4 = .ok (.if_icmp .ge 23, 3) := by decide +kernel
theorem dX9_lettersAlone_7 : decode cX9_lettersAlone 7 = .ok (.aload_n 0, 1) := by decide +kernel
theorem dX9_lettersAlone_8 : decode cX9_lettersAlone 8 = .ok (.getfield 9, 3) := by decide +kernel
theorem dX9_lettersAlone_11 : decode cX9_lettersAlone 11 = .ok (.iload_n 2, 1) := by decide +kernel
theorem dX9_lettersAlone_12 : decode cX9_lettersAlone 12 = .ok (.iaload, 1) := by decide +kernel
theorem dX9_lettersAlone_13 : decode cX9_lettersAlone 13 = .ok (.invokestatic 19, 3) := by decide +kernel
theorem dX9_lettersAlone_16 : decode cX9_lettersAlone 16 = .ok (.ifCond .ne 5, 3) := by decide +kernel
theorem dX9_lettersAlone_19 : decode cX9_lettersAlone 19 = .ok (.iconst 0, 1) := by decide +kernel
theorem dX9_lettersAlone_20 : decode cX9_lettersAlone 20 = .ok (.ireturn, 1) := by decide +kernel
theorem dX9_lettersAlone_21 : decode cX9_lettersAlone 21 = .ok (.iinc 2 1, 3) := by decide +kernel
theorem dX9_lettersAlone_24 : decode cX9_lettersAlone 24 = .ok (.goto (-22), 3) := by decide +kernel
theorem dX9_lettersAlone_27 : decode cX9_lettersAlone 27 = .ok (.iconst 1, 1) := by decide +kernel
theorem dX9_lettersAlone_28 : decode cX9_lettersAlone 28 = .ok (.ireturn, 1) := by decide +kernel
theorem dX9_letterAt_0 : decode cX9_letterAt 0 = .ok (.aload_n 0, 1) := by decide +kernel
theorem dX9_letterAt_1 : decode cX9_letterAt 1 = .ok (.getfield 9, 3) := by decide +kernel
theorem dX9_letterAt_4 : decode cX9_letterAt 4 = .ok (.iload_n 1, 1) := by decide +kernel
theorem dX9_letterAt_5 : decode cX9_letterAt 5 = .ok (.iaload, 1) := by decide +kernel
theorem dX9_letterAt_6 : decode cX9_letterAt 6 = .ok (.bipush 97, 2) := by decide +kernel
theorem dX9_letterAt_8 : decode cX9_letterAt 8 = .ok (.isub, 1) := by decide +kernel
theorem dX9_letterAt_9 : decode cX9_letterAt 9 = .ok (.ireturn, 1) := by decide +kernel
theorem dX9_firstNoText_0 : decode cX9_firstNoText 0 = .ok (.iconst 0, 1) := by decide +kernel
theorem dX9_firstNoText_1 : decode cX9_firstNoText 1 = .ok (.istore_n 2, 1) := by decide +kernel
theorem dX9_firstNoText_2 : decode cX9_firstNoText 2 = .ok (.iload_n 2, 1) := by decide +kernel
theorem dX9_firstNoText_3 : decode cX9_firstNoText 3 = .ok (.iload_n 1, 1) := by decide +kernel
theorem dX9_firstNoText_4 : decode cX9_firstNoText 4 = .ok (.if_icmp .ge 32, 3) := by decide +kernel
theorem dX9_firstNoText_7 : decode cX9_firstNoText 7 = .ok (.aload_n 0, 1) := by decide +kernel
theorem dX9_firstNoText_8 : decode cX9_firstNoText 8 = .ok (.getfield 9, 3) := by decide +kernel
theorem dX9_firstNoText_11 : decode cX9_firstNoText 11 = .ok (.iload_n 2, 1) := by decide +kernel
theorem dX9_firstNoText_12 : decode cX9_firstNoText 12 = .ok (.iaload, 1) := by decide +kernel
theorem dX9_firstNoText_13 : decode cX9_firstNoText 13 = .ok (.invokestatic 19, 3) := by decide +kernel
theorem dX9_firstNoText_16 : decode cX9_firstNoText 16 = .ok (.ifCond .ne 14, 3) := by decide +kernel
theorem dX9_firstNoText_19 : decode cX9_firstNoText 19 = .ok (.aload_n 0, 1) := by decide +kernel
theorem dX9_firstNoText_20 : decode cX9_firstNoText 20 = .ok (.iload_n 2, 1) := by decide +kernel
theorem dX9_firstNoText_21 : decode cX9_firstNoText 21 = .ok (.iload_n 1, 1) := by decide +kernel
theorem dX9_firstNoText_22 : decode cX9_firstNoText 22 = .ok (.invokevirtual 23, 3) := by decide +kernel
theorem dX9_firstNoText_25 : decode cX9_firstNoText 25 = .ok (.ifCond .ne 5, 3) := by decide +kernel
theorem dX9_firstNoText_28 : decode cX9_firstNoText 28 = .ok (.iload_n 2, 1) := by decide +kernel
theorem dX9_firstNoText_29 : decode cX9_firstNoText 29 = .ok (.ireturn, 1) := by decide +kernel
theorem dX9_firstNoText_30 : decode cX9_firstNoText 30 = .ok (.iinc 2 1, 3) := by decide +kernel
theorem dX9_firstNoText_33 : decode cX9_firstNoText 33 = .ok (.goto (-31), 3) := by decide +kernel
theorem dX9_firstNoText_36 : decode cX9_firstNoText 36 = .ok (.iconst (-1), 1) := by decide +kernel
theorem dX9_firstNoText_37 : decode cX9_firstNoText 37 = .ok (.ireturn, 1) := by decide +kernel
theorem dX9_isParting_0 : decode cX9_isParting 0 = .ok (.aload_n 0, 1) := by decide +kernel
theorem dX9_isParting_1 : decode cX9_isParting 1 = .ok (.getfield 9, 3) := by decide +kernel
theorem dX9_isParting_4 : decode cX9_isParting 4 = .ok (.iload_n 1, 1) := by decide +kernel
theorem dX9_isParting_5 : decode cX9_isParting 5 = .ok (.iaload, 1) := by decide +kernel
theorem dX9_isParting_6 : decode cX9_isParting 6 = .ok (.bipush 124, 2) := by decide +kernel
theorem dX9_isParting_8 : decode cX9_isParting 8 = .ok (.if_icmp .ne 31, 3) := by decide +kernel
theorem dX9_isParting_11 : decode cX9_isParting 11 = .ok (.iload_n 1, 1) := by decide +kernel
theorem dX9_isParting_12 : decode cX9_isParting 12 = .ok (.ifCond .le 27, 3) := by decide +kernel
theorem dX9_isParting_15 : decode cX9_isParting 15 = .ok (.iload_n 1, 1) := by decide +kernel
theorem dX9_isParting_16 : decode cX9_isParting 16 = .ok (.iload_n 2, 1) := by decide +kernel
theorem dX9_isParting_17 : decode cX9_isParting 17 = .ok (.iconst 1, 1) := by decide +kernel
theorem dX9_isParting_18 : decode cX9_isParting 18 = .ok (.isub, 1) := by decide +kernel
theorem dX9_isParting_19 : decode cX9_isParting 19 = .ok (.if_icmp .ge 20, 3) := by decide +kernel
theorem dX9_isParting_22 : decode cX9_isParting 22 = .ok (.aload_n 0, 1) := by decide +kernel
theorem dX9_isParting_23 : decode cX9_isParting 23 = .ok (.getfield 9, 3) := by decide +kernel
theorem dX9_isParting_26 : decode cX9_isParting 26 = .ok (.iload_n 1, 1) := by decide +kernel
theorem dX9_isParting_27 : decode cX9_isParting 27 = .ok (.iconst 1, 1) := by decide +kernel
theorem dX9_isParting_28 : decode cX9_isParting 28 = .ok (.isub, 1) := by decide +kernel
theorem dX9_isParting_29 : decode cX9_isParting 29 = .ok (.iaload, 1) := by decide +kernel
theorem dX9_isParting_30 : decode cX9_isParting 30 = .ok (.bipush 124, 2) := by decide +kernel
theorem dX9_isParting_32 : decode cX9_isParting 32 = .ok (.if_icmp .eq 7, 3) := by decide +kernel
theorem dX9_isParting_35 : decode cX9_isParting 35 = .ok (.iconst 1, 1) := by decide +kernel
theorem dX9_isParting_36 : decode cX9_isParting 36 = .ok (.goto 4, 3) := by decide +kernel
theorem dX9_isParting_39 : decode cX9_isParting 39 = .ok (.iconst 0, 1) := by decide +kernel
theorem dX9_isParting_40 : decode cX9_isParting 40 = .ok (.ireturn, 1) := by decide +kernel
theorem dX10_init_0 : decode cX10_init 0 = .ok (.aload_n 0, 1) := by decide +kernel
theorem dX10_init_1 : decode cX10_init 1 = .ok (.invokespecial 3, 3) := by decide +kernel
theorem dX10_init_4 : decode cX10_init 4 = .ok (.aload_n 0, 1) := by decide +kernel
theorem dX10_init_5 : decode cX10_init 5 = .ok (.sipush 241, 3) := by decide +kernel
theorem dX10_init_8 : decode cX10_init 8 = .ok (.newarray .int, 2) := by decide +kernel
theorem dX10_init_10 : decode cX10_init 10 = .ok (.putfield 9, 3) := by decide +kernel
theorem dX10_init_13 : decode cX10_init 13 = .ok (.aload_n 0, 1) := by decide +kernel
theorem dX10_init_14 : decode cX10_init 14 = .ok (.sipush 241, 3) := by decide +kernel
theorem dX10_init_17 : decode cX10_init 17 = .ok (.newarray .int, 2) := by decide +kernel
theorem dX10_init_19 : decode cX10_init 19 = .ok (.putfield 15, 3) := by decide +kernel
theorem dX10_init_22 : decode cX10_init 22 = .ok (.aload_n 0, 1) := by decide +kernel
theorem dX10_init_23 : decode cX10_init 23 = .ok (.sipush 241, 3) := by decide +kernel
theorem dX10_init_26 : decode cX10_init 26 = .ok (.newarray .int, 2) := by decide +kernel
theorem dX10_init_28 : decode cX10_init 28 = .ok (.putfield 18, 3) := by decide +kernel
theorem dX10_init_31 : decode cX10_init 31 = .ok (.aload_n 0, 1) := by decide +kernel
theorem dX10_init_32 : decode cX10_init 32 = .ok (.sipush 241, 3) := by decide +kernel
theorem dX10_init_35 : decode cX10_init 35 = .ok (.newarray .int, 2) := by decide +kernel
theorem dX10_init_37 : decode cX10_init 37 = .ok (.putfield 21, 3) := by decide +kernel
theorem dX10_init_40 : decode cX10_init 40 = .ok (.aload_n 0, 1) := by decide +kernel
theorem dX10_init_41 : decode cX10_init 41 = .ok (.sipush 241, 3) := by decide +kernel
theorem dX10_init_44 : decode cX10_init 44 = .ok (.newarray .int, 2) := by decide +kernel
theorem dX10_init_46 : decode cX10_init 46 = .ok (.putfield 24, 3) := by decide +kernel
theorem dX10_init_49 : decode cX10_init 49 = .ok (.aload_n 0, 1) := by decide +kernel
theorem dX10_init_50 : decode cX10_init 50 = .ok (.getfield 9, 3) := by decide +kernel
theorem dX10_init_53 : decode cX10_init 53 = .ok (.iconst 0, 1) := by decide +kernel
theorem dX10_init_54 : decode cX10_init 54 = .ok (.iconst 2, 1) := by decide +kernel
theorem dX10_init_55 : decode cX10_init 55 = .ok (.iastore, 1) := by decide +kernel
theorem dX10_init_56 : decode cX10_init 56 = .ok (.aload_n 0, 1) := by decide +kernel
theorem dX10_init_57 : decode cX10_init 57 = .ok (.iconst 1, 1) := by decide +kernel
theorem dX10_init_58 : decode cX10_init 58 = .ok (.putfield 27, 3) := by decide +kernel
theorem dX10_init_61 : decode cX10_init 61 = .ok (.return_, 1) := by decide +kernel
theorem dX10_take_0 : decode cX10_take 0 = .ok (.iconst 0, 1) := by decide +kernel
theorem dX10_take_1 : decode cX10_take 1 = .ok (.istore_n 3, 1) := by decide +kernel
theorem dX10_take_2 : decode cX10_take 2 = .ok (.iload_n 3, 1) := by decide +kernel
theorem dX10_take_3 : decode cX10_take 3 = .ok (.iload_n 2, 1) := by decide +kernel
theorem dX10_take_4 : decode cX10_take 4 = .ok (.if_icmp .ge 41, 3) := by decide +kernel
theorem dX10_take_7 : decode cX10_take 7 = .ok (.aload_n 1, 1) := by decide +kernel
theorem dX10_take_8 : decode cX10_take 8 = .ok (.getfield 31, 3) := by decide +kernel
theorem dX10_take_11 : decode cX10_take 11 = .ok (.iload_n 3, 1) := by decide +kernel
theorem dX10_take_12 : decode cX10_take 12 = .ok (.iaload, 1) := by decide +kernel
theorem dX10_take_13 : decode cX10_take 13 = .ok (.istore 4, 2) := by decide +kernel
theorem dX10_take_15 : decode cX10_take 15 = .ok (.aload_n 0, 1) := by decide +kernel
theorem dX10_take_16 : decode cX10_take 16 = .ok (.getfield 9, 3) := by decide +kernel
theorem dX10_take_19 : decode cX10_take 19 = .ok (.iload_n 3, 1) := by decide +kernel
theorem dX10_take_20 : decode cX10_take 20 = .ok (.iload 4, 2) := by decide +kernel
theorem dX10_take_22 : decode cX10_take 22 = .ok (.bipush 124, 2) := by decide +kernel
theorem dX10_take_24 : decode cX10_take 24 = .ok (.if_icmp .ne 7, 3) := by decide +kernel
theorem dX10_take_27 : decode cX10_take 27 = .ok (.iconst 1, 1) := by decide +kernel
theorem dX10_take_28 : decode cX10_take 28 = .ok (.goto 10, 3) := by decide +kernel
theorem dX10_take_31 : decode cX10_take 31 = .ok (.iload 4, 2) := by decide +kernel
theorem dX10_take_33 : decode cX10_take 33 = .ok (.bipush 97, 2) := by decide +kernel
theorem dX10_take_35 : decode cX10_take 35 = .ok (.isub, 1) := by decide +kernel
theorem dX10_take_36 : decode cX10_take 36 = .ok (.iconst 2, 1) := by decide +kernel
theorem dX10_take_37 : decode cX10_take 37 = .ok (.iadd, 1) := by decide +kernel
theorem dX10_take_38 : decode cX10_take 38 = .ok (.iastore, 1) := by decide +kernel
theorem dX10_take_39 : decode cX10_take 39 = .ok (.iinc 3 1, 3) := by decide +kernel
theorem dX10_take_42 : decode cX10_take 42 = .ok (.goto (-40), 3) := by decide +kernel
theorem dX10_take_45 : decode cX10_take 45 = .ok (.aload_n 0, 1) := by decide +kernel
theorem dX10_take_46 : decode cX10_take 46 = .ok (.getfield 9, 3) := by decide +kernel
theorem dX10_take_49 : decode cX10_take 49 = .ok (.iload_n 2, 1) := by decide +kernel
theorem dX10_take_50 : decode cX10_take 50 = .ok (.iconst 0, 1) := by decide +kernel
theorem dX10_take_51 : decode cX10_take 51 = .ok (.iastore, 1) := by decide +kernel
theorem dX10_take_52 : decode cX10_take 52 = .ok (.aload_n 0, 1) := by decide +kernel
theorem dX10_take_53 : decode cX10_take 53 = .ok (.iload_n 2, 1) := by decide +kernel
theorem dX10_take_54 : decode cX10_take 54 = .ok (.putfield 27, 3) := by decide +kernel
theorem dX10_take_57 : decode cX10_take 57 = .ok (.return_, 1) := by decide +kernel
theorem dX10_survey_0 : decode cX10_survey 0 = .ok (.aload_n 0, 1) := by decide +kernel
theorem dX10_survey_1 : decode cX10_survey 1 = .ok (.invokevirtual 36, 3) := by decide +kernel
theorem dX10_survey_4 : decode cX10_survey 4 = .ok (.aload_n 0, 1) := by decide +kernel
theorem dX10_survey_5 : decode cX10_survey 5 = .ok (.invokevirtual 39, 3) := by decide +kernel
theorem dX10_survey_8 : decode cX10_survey 8 = .ok (.aload_n 0, 1) := by decide +kernel
theorem dX10_survey_9 : decode cX10_survey 9 = .ok (.invokevirtual 42, 3) := by decide +kernel
theorem dX10_survey_12 : decode cX10_survey 12 = .ok (.aload_n 0, 1) := by decide +kernel
theorem dX10_survey_13 : decode cX10_survey 13 = .ok (.invokevirtual 45, 3) := by decide +kernel
theorem dX10_survey_16 : decode cX10_survey 16 = .ok (.return_, 1) := by decide +kernel
theorem dX10_mirror_0 : decode cX10_mirror 0 = .ok (.iconst 0, 1) := by decide +kernel
theorem dX10_mirror_1 : decode cX10_mirror 1 = .ok (.istore_n 1, 1) := by decide +kernel
theorem dX10_mirror_2 : decode cX10_mirror 2 = .ok (.iload_n 1, 1) := by decide +kernel
theorem dX10_mirror_3 : decode cX10_mirror 3 = .ok (.aload_n 0, 1) := by decide +kernel
theorem dX10_mirror_4 : decode cX10_mirror 4 = .ok (.getfield 27, 3) := by decide +kernel
theorem dX10_mirror_7 : decode cX10_mirror 7 = .ok (.if_icmp .ge 28, 3) := by decide +kernel
theorem dX10_mirror_10 : decode cX10_mirror 10 = .ok (.aload_n 0, 1) := by decide +kernel
theorem dX10_mirror_11 : decode cX10_mirror 11 = .ok (.getfield 15, 3) := by decide +kernel
theorem dX10_mirror_14 : decode cX10_mirror 14 = .ok (.iload_n 1, 1) := by decide +kernel
theorem dX10_mirror_15 : decode cX10_mirror 15 = .ok (.aload_n 0, 1) := by decide +kernel
theorem dX10_mirror_16 : decode cX10_mirror 16 = .ok (.getfield 9, 3) := by decide +kernel
theorem dX10_mirror_19 : decode cX10_mirror 19 = .ok (.aload_n 0, 1) := by decide +kernel
theorem dX10_mirror_20 : decode cX10_mirror 20 = .ok (.getfield 27, 3) := by decide +kernel
theorem dX10_mirror_23 : decode cX10_mirror 23 = .ok (.iconst 1, 1) := by decide +kernel
theorem dX10_mirror_24 : decode cX10_mirror 24 = .ok (.isub, 1) := by decide +kernel
theorem dX10_mirror_25 : decode cX10_mirror 25 = .ok (.iload_n 1, 1) := by decide +kernel
theorem dX10_mirror_26 : decode cX10_mirror 26 = .ok (.isub, 1) := by decide +kernel
theorem dX10_mirror_27 : decode cX10_mirror 27 = .ok (.iaload, 1) := by decide +kernel
theorem dX10_mirror_28 : decode cX10_mirror 28 = .ok (.iastore, 1) := by decide +kernel
theorem dX10_mirror_29 : decode cX10_mirror 29 = .ok (.iinc 1 1, 3) := by decide +kernel
theorem dX10_mirror_32 : decode cX10_mirror 32 = .ok (.goto (-30), 3) := by decide +kernel
theorem dX10_mirror_35 : decode cX10_mirror 35 = .ok (.aload_n 0, 1) := by decide +kernel
theorem dX10_mirror_36 : decode cX10_mirror 36 = .ok (.getfield 15, 3) := by decide +kernel
theorem dX10_mirror_39 : decode cX10_mirror 39 = .ok (.aload_n 0, 1) := by decide +kernel
theorem dX10_mirror_40 : decode cX10_mirror 40 = .ok (.getfield 27, 3) := by decide +kernel
theorem dX10_mirror_43 : decode cX10_mirror 43 = .ok (.iconst 0, 1) := by decide +kernel
theorem dX10_mirror_44 : decode cX10_mirror 44 = .ok (.iastore, 1) := by decide +kernel
theorem dX10_mirror_45 : decode cX10_mirror 45 = .ok (.return_, 1) := by decide +kernel
theorem dX10_gatherLetters_0 : decode cX10_gatherLetters 0 = .ok (.aload_n 0, 1) := by decide +kernel
theorem dX10_gatherLetters_1 : decode cX10_gatherLetters 1 = .ok (.iconst 0, 1) := by decide +kernel
theorem dX10_gatherLetters_2 : decode cX10_gatherLetters 2 = .ok (.putfield 48, 3) := by decide +kernel
theorem dX10_gatherLetters_5 : decode cX10_gatherLetters 5 = .ok (.iconst 0, 1) := by decide +kernel
theorem dX10_gatherLetters_6 : decode cX10_gatherLetters 6 = .ok (.istore_n 1, 1) := by decide +kernel
theorem dX10_gatherLetters_7 : decode cX10_gatherLetters 7 = .ok (.iload_n 1, 1) := by decide +kernel
theorem dX10_gatherLetters_8 : decode cX10_gatherLetters 8 = .ok (.aload_n 0, 1) := by decide +kernel
theorem dX10_gatherLetters_9 : decode cX10_gatherLetters 9 = .ok (.getfield 27, 3) := by decide +kernel
theorem dX10_gatherLetters_12 : decode cX10_gatherLetters 12 = .ok (.if_icmp .ge 38, 3) := by decide +kernel
theorem dX10_gatherLetters_15 : decode cX10_gatherLetters 15 = .ok (.aload_n 0, 1) := by decide +kernel
theorem dX10_gatherLetters_16 : decode cX10_gatherLetters 16 = .ok (.getfield 9, 3) := by decide +kernel
theorem dX10_gatherLetters_19 : decode cX10_gatherLetters 19 = .ok (.iload_n 1, 1) := by decide +kernel
theorem dX10_gatherLetters_20 : decode cX10_gatherLetters 20 = .ok (.iaload, 1) := by decide +kernel
theorem dX10_gatherLetters_21 : decode cX10_gatherLetters 21 = .ok (.iconst 2, 1) := by decide +kernel
theorem dX10_gatherLetters_22 : decode cX10_gatherLetters 22 = .ok (.if_icmp .lt 22, 3) := by decide +kernel
theorem dX10_gatherLetters_25 : decode cX10_gatherLetters 25 = .ok (.aload_n 0, 1) := by decide +kernel
theorem dX10_gatherLetters_26 : decode cX10_gatherLetters 26 = .ok (.dup, 1) := by decide +kernel
theorem dX10_gatherLetters_27 : decode cX10_gatherLetters 27 = .ok (.getfield 48, 3) := by decide +kernel
theorem dX10_gatherLetters_30 : decode cX10_gatherLetters 30 = .ok (.iconst 1, 1) := by decide +kernel
theorem dX10_gatherLetters_31 : decode cX10_gatherLetters 31 = .ok (.aload_n 0, 1) := by decide +kernel
theorem dX10_gatherLetters_32 : decode cX10_gatherLetters 32 = .ok (.getfield 9, 3) := by decide +kernel
theorem dX10_gatherLetters_35 : decode cX10_gatherLetters 35 = .ok (.iload_n 1, 1) := by decide +kernel
theorem dX10_gatherLetters_36 : decode cX10_gatherLetters 36 = .ok (.iaload, 1) := by decide +kernel
theorem dX10_gatherLetters_37 : decode cX10_gatherLetters 37 = .ok (.iconst 2, 1) := by decide +kernel
theorem dX10_gatherLetters_38 : decode cX10_gatherLetters 38 = .ok (.isub, 1) := by decide +kernel
theorem dX10_gatherLetters_39 : decode cX10_gatherLetters 39 = .ok (.ishl, 1) := by decide +kernel
theorem dX10_gatherLetters_40 : decode cX10_gatherLetters 40 = .ok (.ior, 1) := by decide +kernel
theorem dX10_gatherLetters_41 : decode cX10_gatherLetters 41 = .ok (.putfield 48, 3) := by decide +kernel
theorem dX10_gatherLetters_44 : decode cX10_gatherLetters 44 = .ok (.iinc 1 1, 3) := by decide +kernel
theorem dX10_gatherLetters_47 : decode cX10_gatherLetters 47 = .ok (.goto (-40), 3) := by decide +kernel
theorem dX10_gatherLetters_50 : decode cX10_gatherLetters 50 = .ok (.return_, 1) := by decide +kernel
theorem dX10_partDocuments_0 : decode cX10_partDocuments 0 = .ok (.iconst 0, 1) := by decide +kernel
theorem dX10_partDocuments_1 : decode cX10_partDocuments 1 = .ok (.istore_n 1, 1) := by decide +kernel
theorem dX10_partDocuments_2 : decode cX10_partDocuments 2 = .ok (.aload_n 0, 1) := by decide +kernel
theorem dX10_partDocuments_3 : decode cX10_partDocuments 3 = .ok (.getfield 24, 3) := by decide +kernel
theorem dX10_partDocuments_6 : decode cX10_partDocuments 6 = .ok (.iconst 0, 1) := by decide +kernel
theorem dX10_partDocuments_7 : decode cX10_partDocuments 7 = .ok (.iconst 0, 1) := by decide +kernel
theorem dX10_partDocuments_8 : decode cX10_partDocuments 8 = .ok (.iastore, 1) := by decide +kernel
theorem dX10_partDocuments_9 : decode cX10_partDocuments 9 = .ok (.iconst 0, 1) := by decide +kernel
theorem dX10_partDocuments_10 : decode cX10_partDocuments 10 = .ok (.istore_n 2, 1) := by decide +kernel
theorem dX10_partDocuments_11 : decode cX10_partDocuments 11 = .ok (.iload_n 2, 1) := by decide +kernel
theorem dX10_partDocuments_12 : decode cX10_partDocuments 12 = .ok (.aload_n 0, 1) := by decide +kernel
theorem dX10_partDocuments_13 : decode cX10_partDocuments 13 = .ok (.getfield 27, 3) := by decide +kernel
theorem dX10_partDocuments_16 : decode cX10_partDocuments 16 = .ok (.if_icmp .gt 38, 3) := by decide +kernel
theorem dX10_partDocuments_19 : decode cX10_partDocuments 19 = .ok (.aload_n 0, 1) := by decide +kernel
theorem dX10_partDocuments_20 : decode cX10_partDocuments 20 = .ok (.getfield 21, 3) := by decide +kernel
theorem dX10_partDocuments_23 : decode cX10_partDocuments 23 = .ok (.iload_n 2, 1) := by decide +kernel
theorem dX10_partDocuments_24 : decode cX10_partDocuments 24 = .ok (.iload_n 1, 1) := by decide +kernel
theorem dX10_partDocuments_25 : decode cX10_partDocuments 25 = .ok (.iastore, 1) := by decide +kernel
theorem dX10_partDocuments_26 : decode cX10_partDocuments 26 = .ok (.aload_n 0, 1) := by decide +kernel
theorem dX10_partDocuments_27 : decode cX10_partDocuments 27 = .ok (.getfield 9, 3) := by decide +kernel
theorem dX10_partDocuments_30 : decode cX10_partDocuments 30 = .ok (.iload_n 2, 1) := by decide +kernel
theorem dX10_partDocuments_31 : decode cX10_partDocuments 31 = .ok (.iaload, 1) := by decide +kernel
theorem dX10_partDocuments_32 : decode cX10_partDocuments 32 = .ok (.iconst 1, 1) := by decide +kernel
theorem dX10_partDocuments_33 : decode cX10_partDocuments 33 = .ok (.if_icmp .ne 15, 3) := by decide +kernel
theorem dX10_partDocuments_36 : decode cX10_partDocuments 36 = .ok (.iinc 1 1, 3) := by decide +kernel
theorem dX10_partDocuments_39 : decode cX10_partDocuments 39 = .ok (.aload_n 0, 1) := by decide +kernel
theorem dX10_partDocuments_40 : decode cX10_partDocuments 40 = .ok (.getfield 24, 3) := by decide +kernel
theorem dX10_partDocuments_43 : decode cX10_partDocuments 43 = .ok (.iload_n 1, 1) := by decide +kernel
theorem dX10_partDocuments_44 : decode cX10_partDocuments 44 = .ok (.iload_n 2, 1) := by decide +kernel
theorem dX10_partDocuments_45 : decode cX10_partDocuments 45 = .ok (.iconst 1, 1) := by decide +kernel
theorem dX10_partDocuments_46 : decode cX10_partDocuments 46 = .ok (.iadd, 1) := by decide +kernel
theorem dX10_partDocuments_47 : decode cX10_partDocuments 47 = .ok (.iastore, 1) := by decide +kernel
theorem dX10_partDocuments_48 : decode cX10_partDocuments 48 = .ok (.iinc 2 1, 3) := by decide +kernel
theorem dX10_partDocuments_51 : decode cX10_partDocuments 51 = .ok (.goto (-40), 3) := by decide +kernel
theorem dX10_partDocuments_54 : decode cX10_partDocuments 54 = .ok (.aload_n 0, 1) := by decide +kernel
theorem dX10_partDocuments_55 : decode cX10_partDocuments 55 = .ok (.iload_n 1, 1) := by decide +kernel
theorem dX10_partDocuments_56 : decode cX10_partDocuments 56 = .ok (.iconst 1, 1) := by decide +kernel
theorem dX10_partDocuments_57 : decode cX10_partDocuments 57 = .ok (.iadd, 1) := by decide +kernel
theorem dX10_partDocuments_58 : decode cX10_partDocuments 58 = .ok (.putfield 51, 3) := by decide +kernel
theorem dX10_partDocuments_61 : decode cX10_partDocuments 61 = .ok (.return_, 1) := by decide +kernel
theorem dX10_measureLetters_0 : decode cX10_measureLetters 0 = .ok (.aload_n 0, 1) := by decide +kernel
theorem dX10_measureLetters_1 : decode cX10_measureLetters 1 = .ok (.getfield 18, 3) := by decide +kernel
theorem dX10_measureLetters_4 : decode cX10_measureLetters 4 = .ok (.aload_n 0, 1) := by decide +kernel
theorem dX10_measureLetters_5 : decode cX10_measureLetters 5 = .ok (.getfield 27, 3) := by decide +kernel
theorem dX10_measureLetters_8 : decode cX10_measureLetters 8 = .ok (.iconst 0, 1) := by decide +kernel
theorem dX10_measureLetters_9 : decode cX10_measureLetters 9 = .ok (.iastore, 1) := by decide +kernel
theorem dX10_measureLetters_10 : decode cX10_measureLetters 10 = .ok (.aload_n 0, 1) := by decide +kernel
theorem dX10_measureLetters_11 : decode cX10_measureLetters 11 = .ok (.getfield 27, 3) := by decide +kernel
theorem dX10_measureLetters_14 : decode cX10_measureLetters 14 = .ok (.iconst 1, 1) := by decide +kernel
theorem dX10_measureLetters_15 : decode cX10_measureLetters 15 = .ok (.isub, 1) := by decide +kernel
theorem dX10_measureLetters_16 : decode cX10_measureLetters 16 = .ok (.istore_n 1, 1) := by decide +kernel
theorem dX10_measureLetters_17 : decode cX10_measureLetters 17 = .ok (.iload_n 1, 1) := by decide +kernel
theorem dX10_measureLetters_18 : decode cX10_measureLetters 18 = .ok (.ifCond .lt 39, 3) := by decide +kernel
theorem dX10_measureLetters_21 : decode cX10_measureLetters 21 = .ok (.aload_n 0, 1) := by decide +kernel
theorem dX10_measureLetters_22 : decode cX10_measureLetters 22 = .ok (.getfield 18, 3) := by decide +kernel
theorem dX10_measureLetters_25 : decode cX10_measureLetters 25 = .ok (.iload_n 1, 1) := by decide +kernel
theorem dX10_measureLetters_26 : decode cX10_measureLetters 26 = .ok (.aload_n 0, 1) := by decide +kernel
theorem dX10_measureLetters_27 : decode cX10_measureLetters 27 = .ok (.getfield 9, 3) := by decide +kernel
theorem dX10_measureLetters_30 : decode cX10_measureLetters 30 = .ok (.iload_n 1, 1) := by decide +kernel
theorem dX10_measureLetters_31 : decode cX10_measureLetters 31 = .ok (.iaload, 1) := by decide +kernel
theorem dX10_measureLetters_32 : decode cX10_measureLetters 32 = .ok (.iconst 1, 1) := by decide +kernel
theorem dX10_measureLetters_33 : decode cX10_measureLetters 33 = .ok (.if_icmp .ne 7, 3) := by decide +kernel
theorem dX10_measureLetters_36 : decode cX10_measureLetters 36 = .ok (.iconst 0, 1) := by decide +kernel
theorem dX10_measureLetters_37 : decode cX10_measureLetters 37 = .ok (.goto 13, 3) := by decide +kernel
theorem dX10_measureLetters_40 : decode cX10_measureLetters 40 = .ok (.aload_n 0, 1) := by decide +kernel
theorem dX10_measureLetters_41 : decode cX10_measureLetters 41 = .ok (.getfield 18, 3) := by decide +kernel
theorem dX10_measureLetters_44 : decode cX10_measureLetters 44 = .ok (.iload_n 1, 1) := by decide +kernel
theorem dX10_measureLetters_45 : decode cX10_measureLetters 45 = .ok (.iconst 1, 1) := by decide +kernel
theorem dX10_measureLetters_46 : decode cX10_measureLetters 46 = .ok (.iadd, 1) := by decide +kernel
theorem dX10_measureLetters_47 : decode cX10_measureLetters 47 = .ok (.iaload, 1) := by decide +kernel
theorem dX10_measureLetters_48 : decode cX10_measureLetters 48 = .ok (.iconst 1, 1) := by decide +kernel
theorem dX10_measureLetters_49 : decode cX10_measureLetters 49 = .ok (.iadd, 1) := by decide +kernel
theorem dX10_measureLetters_50 : decode cX10_measureLetters 50 = .ok (.iastore, 1) := by decide +kernel
theorem dX10_measureLetters_51 : decode cX10_measureLetters 51 = .ok (.iinc 1 (-1), 3) := by decide +kernel
theorem dX10_measureLetters_54 : decode cX10_measureLetters 54 = .ok (.goto (-37), 3) := by decide +kernel
theorem dX10_measureLetters_57 : decode cX10_measureLetters 57 = .ok (.return_, 1) := by decide +kernel
theorem dX10_hasLetter_0 : decode cX10_hasLetter 0 = .ok (.aload_n 0, 1) := by decide +kernel
theorem dX10_hasLetter_1 : decode cX10_hasLetter 1 = .ok (.getfield 48, 3) := by decide +kernel
theorem dX10_hasLetter_4 : decode cX10_hasLetter 4 = .ok (.iconst 1, 1) := by decide +kernel
theorem dX10_hasLetter_5 : decode cX10_hasLetter 5 = .ok (.iload_n 1, 1) := by decide +kernel
theorem dX10_hasLetter_6 : decode cX10_hasLetter 6 = .ok (.ishl, 1) := by decide +kernel
theorem dX10_hasLetter_7 : decode cX10_hasLetter 7 = .ok (.iand, 1) := by decide +kernel
theorem dX10_hasLetter_8 : decode cX10_hasLetter 8 = .ok (.ifCond .eq 7, 3) := by decide +kernel
theorem dX10_hasLetter_11 : decode cX10_hasLetter 11 = .ok (.iconst 1, 1) := by decide +kernel
theorem dX10_hasLetter_12 : decode cX10_hasLetter 12 = .ok (.goto 4, 3) := by decide +kernel
theorem dX10_hasLetter_15 : decode cX10_hasLetter 15 = .ok (.iconst 0, 1) := by decide +kernel
theorem dX10_hasLetter_16 : decode cX10_hasLetter 16 = .ok (.ireturn, 1) := by decide +kernel
theorem dJ6_bitCount_0f7a4_0 : decode cJ6_bitCount_0f7a4 0 = .ok (.iload_n 0, 1) := by decide +kernel
theorem dJ6_bitCount_0f7a4_1 : decode cJ6_bitCount_0f7a4 1 = .ok (.iload_n 0, 1) := by decide +kernel
theorem dJ6_bitCount_0f7a4_2 : decode cJ6_bitCount_0f7a4 2 = .ok (.iconst 1, 1) := by decide +kernel
theorem dJ6_bitCount_0f7a4_3 : decode cJ6_bitCount_0f7a4 3 = .ok (.iushr, 1) := by decide +kernel
theorem dJ6_bitCount_0f7a4_4 : decode cJ6_bitCount_0f7a4 4 = .ok (.ldc_w 265, 3) := by decide +kernel
theorem dJ6_bitCount_0f7a4_7 : decode cJ6_bitCount_0f7a4 7 = .ok (.iand, 1) := by decide +kernel
theorem dJ6_bitCount_0f7a4_8 : decode cJ6_bitCount_0f7a4 8 = .ok (.isub, 1) := by decide +kernel
theorem dJ6_bitCount_0f7a4_9 : decode cJ6_bitCount_0f7a4 9 = .ok (.istore_n 0, 1) := by decide +kernel
theorem dJ6_bitCount_0f7a4_10 : decode cJ6_bitCount_0f7a4 10 = .ok (.iload_n 0, 1) := by decide +kernel
theorem dJ6_bitCount_0f7a4_11 : decode cJ6_bitCount_0f7a4 11 = .ok (.ldc_w 266, 3) := by decide +kernel
theorem dJ6_bitCount_0f7a4_14 : decode cJ6_bitCount_0f7a4 14 = .ok (.iand, 1) := by decide +kernel
theorem dJ6_bitCount_0f7a4_15 : decode cJ6_bitCount_0f7a4 15 = .ok (.iload_n 0, 1) := by decide +kernel
theorem dJ6_bitCount_0f7a4_16 : decode cJ6_bitCount_0f7a4 16 = .ok (.iconst 2, 1) := by decide +kernel
theorem dJ6_bitCount_0f7a4_17 : decode cJ6_bitCount_0f7a4 17 = .ok (.iushr, 1) := by decide +kernel
theorem dJ6_bitCount_0f7a4_18 : decode cJ6_bitCount_0f7a4 18 = .ok (.ldc_w 266, 3) := by decide +kernel
theorem dJ6_bitCount_0f7a4_21 : decode cJ6_bitCount_0f7a4 21 = .ok (.iand, 1) := by decide +kernel
theorem dJ6_bitCount_0f7a4_22 : decode cJ6_bitCount_0f7a4 22 = .ok (.iadd, 1) := by decide +kernel
theorem dJ6_bitCount_0f7a4_23 : decode cJ6_bitCount_0f7a4 23 = .ok (.istore_n 0, 1) := by decide +kernel
theorem dJ6_bitCount_0f7a4_24 : decode cJ6_bitCount_0f7a4 24 = .ok (.iload_n 0, 1) := by decide +kernel
theorem dJ6_bitCount_0f7a4_25 : decode cJ6_bitCount_0f7a4 25 = .ok (.iload_n 0, 1) := by decide +kernel
theorem dJ6_bitCount_0f7a4_26 : decode cJ6_bitCount_0f7a4 26 = .ok (.iconst 4, 1) := by decide +kernel
theorem dJ6_bitCount_0f7a4_27 : decode cJ6_bitCount_0f7a4 27 = .ok (.iushr, 1) := by decide +kernel
theorem dJ6_bitCount_0f7a4_28 : decode cJ6_bitCount_0f7a4 28 = .ok (.iadd, 1) := by decide +kernel
theorem dJ6_bitCount_0f7a4_29 : decode cJ6_bitCount_0f7a4 29 = .ok (.ldc_w 267, 3) := by decide +kernel
theorem dJ6_bitCount_0f7a4_32 : decode cJ6_bitCount_0f7a4 32 = .ok (.iand, 1) := by decide +kernel
theorem dJ6_bitCount_0f7a4_33 : decode cJ6_bitCount_0f7a4 33 = .ok (.istore_n 0, 1) := by decide +kernel
theorem dJ6_bitCount_0f7a4_34 : decode cJ6_bitCount_0f7a4 34 = .ok (.iload_n 0, 1) := by decide +kernel
theorem dJ6_bitCount_0f7a4_35 : decode cJ6_bitCount_0f7a4 35 = .ok (.iload_n 0, 1) := by decide +kernel
theorem dJ6_bitCount_0f7a4_36 : decode cJ6_bitCount_0f7a4 36 = .ok (.bipush 8, 2) := by decide +kernel
theorem dJ6_bitCount_0f7a4_38 : decode cJ6_bitCount_0f7a4 38 = .ok (.iushr, 1) := by decide +kernel
theorem dJ6_bitCount_0f7a4_39 : decode cJ6_bitCount_0f7a4 39 = .ok (.iadd, 1) := by decide +kernel
theorem dJ6_bitCount_0f7a4_40 : decode cJ6_bitCount_0f7a4 40 = .ok (.istore_n 0, 1) := by decide +kernel
theorem dJ6_bitCount_0f7a4_41 : decode cJ6_bitCount_0f7a4 41 = .ok (.iload_n 0, 1) := by decide +kernel
theorem dJ6_bitCount_0f7a4_42 : decode cJ6_bitCount_0f7a4 42 = .ok (.iload_n 0, 1) := by decide +kernel
theorem dJ6_bitCount_0f7a4_43 : decode cJ6_bitCount_0f7a4 43 = .ok (.bipush 16, 2) := by decide +kernel
theorem dJ6_bitCount_0f7a4_45 : decode cJ6_bitCount_0f7a4 45 = .ok (.iushr, 1) := by decide +kernel
theorem dJ6_bitCount_0f7a4_46 : decode cJ6_bitCount_0f7a4 46 = .ok (.iadd, 1) := by decide +kernel
theorem dJ6_bitCount_0f7a4_47 : decode cJ6_bitCount_0f7a4 47 = .ok (.istore_n 0, 1) := by decide +kernel
theorem dJ6_bitCount_0f7a4_48 : decode cJ6_bitCount_0f7a4 48 = .ok (.iload_n 0, 1) := by decide +kernel
theorem dJ6_bitCount_0f7a4_49 : decode cJ6_bitCount_0f7a4 49 = .ok (.bipush 63, 2) := by decide +kernel
theorem dJ6_bitCount_0f7a4_51 : decode cJ6_bitCount_0f7a4 51 = .ok (.iand, 1) := by decide +kernel
theorem dJ6_bitCount_0f7a4_52 : decode cJ6_bitCount_0f7a4 52 = .ok (.ireturn, 1) := by decide +kernel
theorem dJ9_max_7cf53_0 : decode cJ9_max_7cf53 0 = .ok (.iload_n 0, 1) := by decide +kernel
theorem dJ9_max_7cf53_1 : decode cJ9_max_7cf53 1 = .ok (.iload_n 1, 1) := by decide +kernel
theorem dJ9_max_7cf53_2 : decode cJ9_max_7cf53 2 = .ok (.if_icmp .lt 7, 3) := by decide +kernel
theorem dJ9_max_7cf53_5 : decode cJ9_max_7cf53 5 = .ok (.iload_n 0, 1) := by decide +kernel
theorem dJ9_max_7cf53_6 : decode cJ9_max_7cf53 6 = .ok (.goto 4, 3) := by decide +kernel
theorem dJ9_max_7cf53_9 : decode cJ9_max_7cf53 9 = .ok (.iload_n 1, 1) := by decide +kernel
theorem dJ9_max_7cf53_10 : decode cJ9_max_7cf53 10 = .ok (.ireturn, 1) := by decide +kernel
theorem dJ9_min_7cf53_0 : decode cJ9_min_7cf53 0 = .ok (.iload_n 0, 1) := by decide +kernel
theorem dJ9_min_7cf53_1 : decode cJ9_min_7cf53 1 = .ok (.iload_n 1, 1) := by decide +kernel
theorem dJ9_min_7cf53_2 : decode cJ9_min_7cf53 2 = .ok (.if_icmp .gt 7, 3) := by decide +kernel
theorem dJ9_min_7cf53_5 : decode cJ9_min_7cf53 5 = .ok (.iload_n 0, 1) := by decide +kernel
theorem dJ9_min_7cf53_6 : decode cJ9_min_7cf53 6 = .ok (.goto 4, 3) := by decide +kernel
theorem dJ9_min_7cf53_9 : decode cJ9_min_7cf53 9 = .ok (.iload_n 1, 1) := by decide +kernel
theorem dJ9_min_7cf53_10 : decode cJ9_min_7cf53 10 = .ok (.ireturn, 1) := by decide +kernel
