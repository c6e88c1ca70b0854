theorem dX12_run_1 : decode cX12_run 1 = .ok (.istore_n 2, 1) := by decide +kernel
theorem dX12_run_2 : decode cX12_run 2 = .ok (.iload_n 1, 1) := by decide +kernel
theorem dX12_run_3 : decode cX12_run 3 = .ok (.iload_n 2, 1) := by decide +kernel
theorem dX12_run_4 : decode cX12_run 4 = .ok (.iadd, 1) := by decide +kernel
theorem dX12_run_5 : decode cX12_run 5 = .ok (.aload_n 0, 1) := by decide +kernel
theorem dX12_run_6 : decode cX12_run 6 = .ok (.getfield 20, 3) := by decide +kernel
theorem dX12_run_9 : decode cX12_run 9 = .ok (.if_icmp .ge 23, 3) := by decide +kernel
theorem dX12_run_12 : decode cX12_run 12 = .ok (.aload_n 0, 1) := by decide +kernel
theorem dX12_run_13 : decode cX12_run 13 = .ok (.getfield 28, 3) := by decide +kernel
theorem dX12_run_16 : decode cX12_run 16 = .ok (.iconst 0, 1) := by decide +kernel
theorem dX12_run_17 : decode cX12_run 17 = .ok (.aaload, 1) := by decide +kernel
theorem dX12_run_18 : decode cX12_run 18 = .ok (.iload_n 1, 1) := by decide +kernel
theorem dX12_run_19 : decode cX12_run 19 = .ok (.iload_n 2, 1) := by decide +kernel
theorem dX12_run_20 : decode cX12_run 20 = .ok (.iadd, 1) := by decide +kernel
theorem dX12_run_21 : decode cX12_run 21 = .ok (.iaload, 1) := by decide +kernel
theorem dX12_run_22 : decode cX12_run 22 = .ok (.iconst 1, 1) := by decide +kernel
theorem dX12_run_23 : decode cX12_run 23 = .ok (.if_icmp .eq 9, 3) := by decide +kernel
theorem dX12_run_26 : decode cX12_run 26 = .ok (.iinc 2 1, 3) := by decide +kernel
theorem dX12_run_29 : decode cX12_run 29 = .ok (.goto (-27), 3) := by decide +kernel
theorem dX12_run_32 : decode cX12_run 32 = .ok (.iload_n 2, 1) := by decide +kernel
theorem dX12_run_33 : decode cX12_run 33 = .ok (.ireturn, 1) := by decide +kernel
theorem dX12_like_0 : decode cX12_like 0 = .ok (.iconst 0, 1) := by decide +kernel
theorem dX12_like_1 : decode cX12_like 1 = .ok (.istore_n 3, 1) := by decide +kernel
theorem dX12_like_2 : decode cX12_like 2 = .ok (.iload_n 1, 1) := by decide +kernel
theorem dX12_like_3 : decode cX12_like 3 = .ok (.iload_n 3, 1) := by decide +kernel
theorem dX12_like_4 : decode cX12_like 4 = .ok (.iadd, 1) := by decide +kernel
theorem dX12_like_5 : decode cX12_like 5 = .ok (.aload_n 0, 1) := by decide +kernel
theorem dX12_like_6 : decode cX12_like 6 = .ok (.getfield 20, 3) := by decide +kernel
theorem dX12_like_9 : decode cX12_like 9 = .ok (.if_icmp .ge 56, 3) := by decide +kernel
theorem dX12_like_12 : decode cX12_like 12 = .ok (.iload_n 2, 1) := by decide +kernel
theorem dX12_like_13 : decode cX12_like 13 = .ok (.iload_n 3, 1) := by decide +kernel
theorem dX12_like_14 : decode cX12_like 14 = .ok (.iadd, 1) := by decide +kernel
theorem dX12_like_15 : decode cX12_like 15 = .ok (.aload_n 0, 1) := by decide +kernel
theorem dX12_like_16 : decode cX12_like 16 = .ok (.getfield 20, 3) := by decide +kernel
theorem dX12_like_19 : decode cX12_like 19 = .ok (.if_icmp .ge 46, 3) := by decide +kernel
theorem dX12_like_22 : decode cX12_like 22 = .ok (.aload_n 0, 1) := by decide +kernel
theorem dX12_like_23 : decode cX12_like 23 = .ok (.getfield 28, 3) := by decide +kernel
theorem dX12_like_26 : decode cX12_like 26 = .ok (.iconst 0, 1) := by decide +kernel
theorem dX12_like_27 : decode cX12_like 27 = .ok (.aaload, 1) := by decide +kernel
theorem dX12_like_28 : decode cX12_like 28 = .ok (.iload_n 1, 1) := by decide +kernel
theorem dX12_like_29 : decode cX12_like 29 = .ok (.iload_n 3, 1) := by decide +kernel
theorem dX12_like_30 : decode cX12_like 30 = .ok (.iadd, 1) := by decide +kernel
theorem dX12_like_31 : decode cX12_like 31 = .ok (.iaload, 1) := by decide +kernel
theorem dX12_like_32 : decode cX12_like 32 = .ok (.aload_n 0, 1) := by decide +kernel
theorem dX12_like_33 : decode cX12_like 33 = .ok (.getfield 28, 3) := by decide +kernel
theorem dX12_like_36 : decode cX12_like 36 = .ok (.iconst 0, 1) := by decide +kernel
theorem dX12_like_37 : decode cX12_like 37 = .ok (.aaload, 1) := by decide +kernel
theorem dX12_like_38 : decode cX12_like 38 = .ok (.iload_n 2, 1) := by decide +kernel
theorem dX12_like_39 : decode cX12_like 39 = .ok (.iload_n 3, 1) := by decide +kernel
theorem dX12_like_40 : decode cX12_like 40 = .ok (.iadd, 1) := by decide +kernel
theorem dX12_like_41 : decode cX12_like 41 = .ok (.iaload, 1) := by decide +kernel
theorem dX12_like_42 : decode cX12_like 42 = .ok (.if_icmp .ne 23, 3) := by decide +kernel
theorem dX12_like_45 : decode cX12_like 45 = .ok (.aload_n 0, 1) := by decide +kernel
theorem dX12_like_46 : decode cX12_like 46 = .ok (.getfield 28, 3) := by decide +kernel
theorem dX12_like_49 : decode cX12_like 49 = .ok (.iconst 0, 1) := by decide +kernel
theorem dX12_like_50 : decode cX12_like 50 = .ok (.aaload, 1) := by decide +kernel
theorem dX12_like_51 : decode cX12_like 51 = .ok (.iload_n 1, 1) := by decide +kernel
theorem dX12_like_52 : decode cX12_like 52 = .ok (.iload_n 3, 1) := by decide +kernel
theorem dX12_like_53 : decode cX12_like 53 = .ok (.iadd, 1) := by decide +kernel
theorem dX12_like_54 : decode cX12_like 54 = .ok (.iaload, 1) := by decide +kernel
theorem dX12_like_55 : decode cX12_like 55 = .ok (.iconst 1, 1) := by decide +kernel
theorem dX12_like_56 : decode cX12_like 56 = .ok (.if_icmp .eq 9, 3) := by decide +kernel
theorem dX12_like_59 : decode cX12_like 59 = .ok (.iinc 3 1, 3) := by decide +kernel
theorem dX12_like_62 : decode cX12_like 62 = .ok (.goto (-60), 3) := by decide +kernel
theorem dX12_like_65 : decode cX12_like 65 = .ok (.iload_n 3, 1) := by decide +kernel
theorem dX12_like_66 : decode cX12_like 66 = .ok (.ireturn, 1) := by decide +kernel
theorem dX12_fits_0 : decode cX12_fits 0 = .ok (.iconst 0, 1) := by decide +kernel
theorem dX12_fits_1 : decode cX12_fits 1 = .ok (.istore 4, 2) := by decide +kernel
theorem dX12_fits_3 : decode cX12_fits 3 = .ok (.iload_n 1, 1) := by decide +kernel
theorem dX12_fits_4 : decode cX12_fits 4 = .ok (.iload 4, 2) := by decide +kernel
theorem dX12_fits_6 : decode cX12_fits 6 = .ok (.iadd, 1) := by decide +kernel
theorem dX12_fits_7 : decode cX12_fits 7 = .ok (.iload_n 3, 1) := by decide +kernel
theorem dX12_fits_8 : decode cX12_fits 8 = .ok (.if_icmp .ge 43, 3) := by decide +kernel
theorem dX12_fits_11 : decode cX12_fits 11 = .ok (.iload_n 2, 1) := by decide +kernel
theorem dX12_fits_12 : decode cX12_fits 12 = .ok (.iload 4, 2) := by decide +kernel
theorem dX12_fits_14 : decode cX12_fits 14 = .ok (.iadd, 1) := by decide +kernel
theorem dX12_fits_15 : decode cX12_fits 15 = .ok (.aload_n 0, 1) := by decide +kernel
theorem dX12_fits_16 : decode cX12_fits 16 = .ok (.getfield 20, 3) := by decide +kernel
theorem dX12_fits_19 : decode cX12_fits 19 = .ok (.if_icmp .ge 32, 3) := by decide +kernel
theorem dX12_fits_22 : decode cX12_fits 22 = .ok (.aload_n 0, 1) := by decide +kernel
theorem dX12_fits_23 : decode cX12_fits 23 = .ok (.getfield 28, 3) := by decide +kernel
theorem dX12_fits_26 : decode cX12_fits 26 = .ok (.iconst 0, 1) := by decide +kernel
theorem dX12_fits_27 : decode cX12_fits 27 = .ok (.aaload, 1) := by decide +kernel
theorem dX12_fits_28 : decode cX12_fits 28 = .ok (.iload_n 2, 1) := by decide +kernel
theorem dX12_fits_29 : decode cX12_fits 29 = .ok (.iload 4, 2) := by decide +kernel
theorem dX12_fits_31 : decode cX12_fits 31 = .ok (.iadd, 1) := by decide +kernel
theorem dX12_fits_32 : decode cX12_fits 32 = .ok (.iaload, 1) := by decide +kernel
theorem dX12_fits_33 : decode cX12_fits 33 = .ok (.aload_n 0, 1) := by decide +kernel
theorem dX12_fits_34 : decode cX12_fits 34 = .ok (.getfield 93, 3) := by decide +kernel
theorem dX12_fits_37 : decode cX12_fits 37 = .ok (.iload_n 1, 1) := by decide +kernel
theorem dX12_fits_38 : decode cX12_fits 38 = .ok (.iload 4, 2) := by decide +kernel
theorem dX12_fits_40 : decode cX12_fits 40 = .ok (.iadd, 1) := by decide +kernel
theorem dX12_fits_41 : decode cX12_fits 41 = .ok (.iaload, 1) := by decide +kernel
theorem dX12_fits_42 : decode cX12_fits 42 = .ok (.if_icmp .ne 9, 3) := by decide +kernel
theorem dX12_fits_45 : decode cX12_fits 45 = .ok (.iinc 4 1, 3) := by decide +kernel
theorem dX12_fits_48 : decode cX12_fits 48 = .ok (.goto (-45), 3) := by decide +kernel
theorem dX12_fits_51 : decode cX12_fits 51 = .ok (.iload 4, 2) := by decide +kernel
theorem dX12_fits_53 : decode cX12_fits 53 = .ok (.ireturn, 1) := by decide +kernel
theorem dX12_laysMatch_0 : decode cX12_laysMatch 0 = .ok (.aload_n 0, 1) := by decide +kernel
theorem dX12_laysMatch_1 : decode cX12_laysMatch 1 = .ok (.getfield 90, 3) := by decide +kernel
theorem dX12_laysMatch_4 : decode cX12_laysMatch 4 = .ok (.aload_n 0, 1) := by decide +kernel
theorem dX12_laysMatch_5 : decode cX12_laysMatch 5 = .ok (.getfield 134, 3) := by decide +kernel
theorem dX12_laysMatch_8 : decode cX12_laysMatch 8 = .ok (.aaload, 1) := by decide +kernel
theorem dX12_laysMatch_9 : decode cX12_laysMatch 9 = .ok (.astore_n 3, 1) := by decide +kernel
theorem dX12_laysMatch_10 : decode cX12_laysMatch 10 = .ok (.aload_n 3, 1) := by decide +kernel
theorem dX12_laysMatch_11 : decode cX12_laysMatch 11 = .ok (.iconst 0, 1) := by decide +kernel
theorem dX12_laysMatch_12 : decode cX12_laysMatch 12 = .ok (.iload_n 1, 1) := by decide +kernel
theorem dX12_laysMatch_13 : decode cX12_laysMatch 13 = .ok (.iastore, 1) := by decide +kernel
theorem dX12_laysMatch_14 : decode cX12_laysMatch 14 = .ok (.aload_n 3, 1) := by decide +kernel
theorem dX12_laysMatch_15 : decode cX12_laysMatch 15 = .ok (.iconst 1, 1) := by decide +kernel
theorem dX12_laysMatch_16 : decode cX12_laysMatch 16 = .ok (.aload_n 0, 1) := by decide +kernel
theorem dX12_laysMatch_17 : decode cX12_laysMatch 17 = .ok (.getfield 96, 3) := by decide +kernel
theorem dX12_laysMatch_20 : decode cX12_laysMatch 20 = .ok (.iload_n 1, 1) := by decide +kernel
theorem dX12_laysMatch_21 : decode cX12_laysMatch 21 = .ok (.iaload, 1) := by decide +kernel
theorem dX12_laysMatch_22 : decode cX12_laysMatch 22 = .ok (.iastore, 1) := by decide +kernel
theorem dX12_laysMatch_23 : decode cX12_laysMatch 23 = .ok (.aload_n 3, 1) := by decide +kernel
theorem dX12_laysMatch_24 : decode cX12_laysMatch 24 = .ok (.iconst 2, 1) := by decide +kernel
theorem dX12_laysMatch_25 : decode cX12_laysMatch 25 = .ok (.iconst 0, 1) := by decide +kernel
theorem dX12_laysMatch_26 : decode cX12_laysMatch 26 = .ok (.iastore, 1) := by decide +kernel
theorem dX12_laysMatch_27 : decode cX12_laysMatch 27 = .ok (.aload_n 3, 1) := by decide +kernel
theorem dX12_laysMatch_28 : decode cX12_laysMatch 28 = .ok (.iconst 3, 1) := by decide +kernel
theorem dX12_laysMatch_29 : decode cX12_laysMatch 29 = .ok (.iconst (-1), 1) := by decide +kernel
theorem dX12_laysMatch_30 : decode cX12_laysMatch 30 = .ok (.iastore, 1) := by decide +kernel
theorem dX12_laysMatch_31 : decode cX12_laysMatch 31 = .ok (.aload_n 0, 1) := by decide +kernel
theorem dX12_laysMatch_32 : decode cX12_laysMatch 32 = .ok (.getfield 20, 3) := by decide +kernel
theorem dX12_laysMatch_35 : decode cX12_laysMatch 35 = .ok (.iconst 1, 1) := by decide +kernel
theorem dX12_laysMatch_36 : decode cX12_laysMatch 36 = .ok (.isub, 1) := by decide +kernel
theorem dX12_laysMatch_37 : decode cX12_laysMatch 37 = .ok (.istore 4, 2) := by decide +kernel
theorem dX12_laysMatch_39 : decode cX12_laysMatch 39 = .ok (.iload 4, 2) := by decide +kernel
theorem dX12_laysMatch_41 : decode cX12_laysMatch 41 = .ok (.ifCond .lt 41, 3) := by decide +kernel
theorem dX12_laysMatch_44 : decode cX12_laysMatch 44 = .ok (.aload_n 0, 1) := by decide +kernel
theorem dX12_laysMatch_45 : decode cX12_laysMatch 45 = .ok (.iload_n 1, 1) := by decide +kernel
theorem dX12_laysMatch_46 : decode cX12_laysMatch 46 = .ok (.iload 4, 2) := by decide +kernel
theorem dX12_laysMatch_48 : decode cX12_laysMatch 48 = .ok (.iload_n 2, 1) := by decide +kernel
theorem dX12_laysMatch_49 : decode cX12_laysMatch 49 = .ok (.invokevirtual 298, 3) := by decide +kernel
theorem dX12_laysMatch_52 : decode cX12_laysMatch 52 = .ok (.aload_n 0, 1) := by decide +kernel
theorem dX12_laysMatch_53 : decode cX12_laysMatch 53 = .ok (.getfield 96, 3) := by decide +kernel
theorem dX12_laysMatch_56 : decode cX12_laysMatch 56 = .ok (.iload_n 1, 1) := by decide +kernel
theorem dX12_laysMatch_57 : decode cX12_laysMatch 57 = .ok (.iaload, 1) := by decide +kernel
theorem dX12_laysMatch_58 : decode cX12_laysMatch 58 = .ok (.if_icmp .ge 6, 3) := by decide +kernel
theorem dX12_laysMatch_61 : decode cX12_laysMatch 61 = .ok (.goto 15, 3) := by decide +kernel
theorem dX12_laysMatch_64 : decode cX12_laysMatch 64 = .ok (.aload_n 3, 1) := by decide +kernel
theorem dX12_laysMatch_65 : decode cX12_laysMatch 65 = .ok (.iconst 2, 1) := by decide +kernel
theorem dX12_laysMatch_66 : decode cX12_laysMatch 66 = .ok (.dup2, 1) := by decide +kernel
theorem dX12_laysMatch_67 : decode cX12_laysMatch 67 = .ok (.iaload, 1) := by decide +kernel
theorem dX12_laysMatch_68 : decode cX12_laysMatch 68 = .ok (.iconst 1, 1) := by decide +kernel
theorem dX12_laysMatch_69 : decode cX12_laysMatch 69 = .ok (.iadd, 1) := by decide +kernel
theorem dX12_laysMatch_70 : decode cX12_laysMatch 70 = .ok (.iastore, 1) := by decide +kernel
theorem dX12_laysMatch_71 : decode cX12_laysMatch 71 = .ok (.aload_n 3, 1) := by decide +kernel
theorem dX12_laysMatch_72 : decode cX12_laysMatch 72 = .ok (.iconst 3, 1) := by decide +kernel
theorem dX12_laysMatch_73 : decode cX12_laysMatch 73 = .ok (.iload 4, 2) := by decide +kernel
theorem dX12_laysMatch_75 : decode cX12_laysMatch 75 = .ok (.iastore, 1) := by decide +kernel
theorem dX12_laysMatch_76 : decode cX12_laysMatch 76 = .ok (.iinc 4 (-1), 3) := by decide +kernel
theorem dX12_laysMatch_79 : decode cX12_laysMatch 79 = .ok (.goto (-40), 3) := by decide +kernel
theorem dX12_laysMatch_82 : decode cX12_laysMatch 82 = .ok (.aload_n 0, 1) := by decide +kernel
theorem dX12_laysMatch_83 : decode cX12_laysMatch 83 = .ok (.dup, 1) := by decide +kernel
theorem dX12_laysMatch_84 : decode cX12_laysMatch 84 = .ok (.getfield 134, 3) := by decide +kernel
theorem dX12_laysMatch_87 : decode cX12_laysMatch 87 = .ok (.iconst 1, 1) := by decide +kernel
theorem dX12_laysMatch_88 : decode cX12_laysMatch 88 = .ok (.iadd, 1) := by decide +kernel
theorem dX12_laysMatch_89 : decode cX12_laysMatch 89 = .ok (.putfield 134, 3) := by decide +kernel
theorem dX12_laysMatch_92 : decode cX12_laysMatch 92 = .ok (.return_, 1) := by decide +kernel
theorem dX12_matches_0 : decode cX12_matches 0 = .ok (.aload_n 0, 1) := by decide +kernel
theorem dX12_matches_1 : decode cX12_matches 1 = .ok (.iconst 0, 1) := by decide +kernel
theorem dX12_matches_2 : decode cX12_matches 2 = .ok (.putfield 105, 3) := by decide +kernel
theorem dX12_matches_5 : decode cX12_matches 5 = .ok (.aload_n 0, 1) := by decide +kernel
theorem dX12_matches_6 : decode cX12_matches 6 = .ok (.iload_n 1, 1) := by decide +kernel
theorem dX12_matches_7 : decode cX12_matches 7 = .ok (.iconst 1, 1) := by decide +kernel
theorem dX12_matches_8 : decode cX12_matches 8 = .ok (.aload_n 0, 1) := by decide +kernel
theorem dX12_matches_9 : decode cX12_matches 9 = .ok (.getfield 115, 3) := by decide +kernel
theorem dX12_matches_12 : decode cX12_matches 12 = .ok (.invokestatic 108, 3) := by decide +kernel
theorem dX12_matches_15 : decode cX12_matches 15 = .ok (.ifCond .eq 22, 3) := by decide +kernel
theorem dX12_matches_18 : decode cX12_matches 18 = .ok (.aload_n 0, 1) := by decide +kernel
theorem dX12_matches_19 : decode cX12_matches 19 = .ok (.iload_n 1, 1) := by decide +kernel
theorem dX12_matches_20 : decode cX12_matches 20 = .ok (.invokevirtual 254, 3) := by decide +kernel
theorem dX12_matches_23 : decode cX12_matches 23 = .ok (.ifCond .eq 14, 3) := by decide +kernel
theorem dX12_matches_26 : decode cX12_matches 26 = .ok (.iload_n 2, 1) := by decide +kernel
theorem dX12_matches_27 : decode cX12_matches 27 = .ok (.iconst 1, 1) := by decide +kernel
theorem dX12_matches_28 : decode cX12_matches 28 = .ok (.sipush 240, 3) := by decide +kernel
theorem dX12_matches_31 : decode cX12_matches 31 = .ok (.invokestatic 108, 3) := by decide +kernel
theorem dX12_matches_34 : decode cX12_matches 34 = .ok (.ifCond .ne 7, 3) := by decide +kernel
theorem dX12_matches_37 : decode cX12_matches 37 = .ok (.iconst 1, 1) := by decide +kernel
theorem dX12_matches_38 : decode cX12_matches 38 = .ok (.goto 4, 3) := by decide +kernel
theorem dX12_matches_41 : decode cX12_matches 41 = .ok (.iconst 0, 1) := by decide +kernel
theorem dX12_matches_42 : decode cX12_matches 42 = .ok (.iconst 1, 1) := by decide +kernel
theorem dX12_matches_43 : decode cX12_matches 43 = .ok (.iconst 1, 1) := by decide +kernel
theorem dX12_matches_44 : decode cX12_matches 44 = .ok (.invokevirtual 122, 3) := by decide +kernel
theorem dX12_matches_47 : decode cX12_matches 47 = .ok (.ifCond .eq 5, 3) := by decide +kernel
theorem dX12_matches_50 : decode cX12_matches 50 = .ok (.iconst 0, 1) := by decide +kernel
theorem dX12_matches_51 : decode cX12_matches 51 = .ok (.ireturn, 1) := by decide +kernel
theorem dX12_matches_52 : decode cX12_matches 52 = .ok (.aload_n 0, 1) := by decide +kernel
theorem dX12_matches_53 : decode cX12_matches 53 = .ok (.iconst 0, 1) := by decide +kernel
theorem dX12_matches_54 : decode cX12_matches 54 = .ok (.putfield 115, 3) := by decide +kernel
theorem dX12_matches_57 : decode cX12_matches 57 = .ok (.aload_n 0, 1) := by decide +kernel
theorem dX12_matches_58 : decode cX12_matches 58 = .ok (.iconst 0, 1) := by decide +kernel
theorem dX12_matches_59 : decode cX12_matches 59 = .ok (.putfield 134, 3) := by decide +kernel
theorem dX12_matches_62 : decode cX12_matches 62 = .ok (.iconst 0, 1) := by decide +kernel
theorem dX12_matches_63 : decode cX12_matches 63 = .ok (.istore_n 3, 1) := by decide +kernel
theorem dX12_matches_64 : decode cX12_matches 64 = .ok (.iload_n 3, 1) := by decide +kernel
theorem dX12_matches_65 : decode cX12_matches 65 = .ok (.iload_n 1, 1) := by decide +kernel
theorem dX12_matches_66 : decode cX12_matches 66 = .ok (.if_icmp .ge 26, 3) := by decide +kernel
theorem dX12_matches_69 : decode cX12_matches 69 = .ok (.aload_n 0, 1) := by decide +kernel
theorem dX12_matches_70 : decode cX12_matches 70 = .ok (.getfield 93, 3) := by decide +kernel
theorem dX12_matches_73 : decode cX12_matches 73 = .ok (.iload_n 3, 1) := by decide +kernel
theorem dX12_matches_74 : decode cX12_matches 74 = .ok (.aload_n 0, 1) := by decide +kernel
theorem dX12_matches_75 : decode cX12_matches 75 = .ok (.getfield 17, 3) := by decide +kernel
theorem dX12_matches_78 : decode cX12_matches 78 = .ok (.iload_n 3, 1) := by decide +kernel
theorem dX12_matches_79 : decode cX12_matches 79 = .ok (.iaload, 1) := by decide +kernel
theorem dX12_matches_80 : decode cX12_matches 80 = .ok (.bipush 97, 2) := by decide +kernel
theorem dX12_matches_82 : decode cX12_matches 82 = .ok (.isub, 1) := by decide +kernel
theorem dX12_matches_83 : decode cX12_matches 83 = .ok (.iconst 2, 1) := by decide +kernel
theorem dX12_matches_84 : decode cX12_matches 84 = .ok (.iadd, 1) := by decide +kernel
theorem dX12_matches_85 : decode cX12_matches 85 = .ok (.iastore, 1) := by decide +kernel
theorem dX12_matches_86 : decode cX12_matches 86 = .ok (.iinc 3 1, 3) := by decide +kernel
theorem dX12_matches_89 : decode cX12_matches 89 = .ok (.goto (-25), 3) := by decide +kernel
theorem dX12_matches_92 : decode cX12_matches 92 = .ok (.iconst 0, 1) := by decide +kernel
theorem dX12_matches_93 : decode cX12_matches 93 = .ok (.istore_n 3, 1) := by decide +kernel
theorem dX12_matches_94 : decode cX12_matches 94 = .ok (.iload_n 3, 1) := by decide +kernel
theorem dX12_matches_95 : decode cX12_matches 95 = .ok (.iload_n 1, 1) := by decide +kernel
theorem dX12_matches_96 : decode cX12_matches 96 = .ok (.if_icmp .ge 57, 3) := by decide +kernel
theorem dX12_matches_99 : decode cX12_matches 99 = .ok (.aload_n 0, 1) := by decide +kernel
theorem dX12_matches_100 : decode cX12_matches 100 = .ok (.getfield 96, 3) := by decide +kernel
theorem dX12_matches_103 : decode cX12_matches 103 = .ok (.iload_n 3, 1) := by decide +kernel
theorem dX12_matches_104 : decode cX12_matches 104 = .ok (.iconst 0, 1) := by decide +kernel
theorem dX12_matches_105 : decode cX12_matches 105 = .ok (.iastore, 1) := by decide +kernel
theorem dX12_matches_106 : decode cX12_matches 106 = .ok (.iconst 0, 1) := by decide +kernel
theorem dX12_matches_107 : decode cX12_matches 107 = .ok (.istore 4, 2) := by decide +kernel
theorem dX12_matches_109 : decode cX12_matches 109 = .ok (.iload 4, 2) := by decide +kernel
theorem dX12_matches_111 : decode cX12_matches 111 = .ok (.aload_n 0, 1) := by decide +kernel
theorem dX12_matches_112 : decode cX12_matches 112 = .ok (.getfield 20, 3) := by decide +kernel
theorem dX12_matches_115 : decode cX12_matches 115 = .ok (.if_icmp .ge 32, 3) := by decide +kernel
theorem dX12_matches_118 : decode cX12_matches 118 = .ok (.aload_n 0, 1) := by decide +kernel
theorem dX12_matches_119 : decode cX12_matches 119 = .ok (.getfield 96, 3) := by decide +kernel
theorem dX12_matches_122 : decode cX12_matches 122 = .ok (.iload_n 3, 1) := by decide +kernel
theorem dX12_matches_123 : decode cX12_matches 123 = .ok (.aload_n 0, 1) := by decide +kernel
theorem dX12_matches_124 : decode cX12_matches 124 = .ok (.getfield 96, 3) := by decide +kernel
theorem dX12_matches_127 : decode cX12_matches 127 = .ok (.iload_n 3, 1) := by decide +kernel
theorem dX12_matches_128 : decode cX12_matches 128 = .ok (.iaload, 1) := by decide +kernel
theorem dX12_matches_129 : decode cX12_matches 129 = .ok (.aload_n 0, 1) := by decide +kernel
theorem dX12_matches_130 : decode cX12_matches 130 = .ok (.iload_n 3, 1) := by decide +kernel
theorem dX12_matches_131 : decode cX12_matches 131 = .ok (.iload 4, 2) := by decide +kernel
theorem dX12_matches_133 : decode cX12_matches 133 = .ok (.iload_n 1, 1) := by decide +kernel
theorem dX12_matches_134 : decode cX12_matches 134 = .ok (.invokevirtual 298, 3) := by decide +kernel
theorem dX12_matches_137 : decode cX12_matches 137 = .ok (.invokestatic 202, 3) := by decide +kernel
theorem dX12_matches_140 : decode cX12_matches 140 = .ok (.iastore, 1) := by decide +kernel
theorem dX12_matches_141 : decode cX12_matches 141 = .ok (.iinc 4 1, 3) := by decide +kernel
theorem dX12_matches_144 : decode cX12_matches 144 = .ok (.goto (-35), 3) := by decide +kernel
theorem dX12_matches_147 : decode cX12_matches 147 = .ok (.iinc 3 1, 3) := by decide +kernel
theorem dX12_matches_150 : decode cX12_matches 150 = .ok (.goto (-56), 3) := by decide +kernel
theorem dX12_matches_153 : decode cX12_matches 153 = .ok (.iconst 0, 1) := by decide +kernel
theorem dX12_matches_154 : decode cX12_matches 154 = .ok (.istore_n 3, 1) := by decide +kernel
theorem dX12_matches_155 : decode cX12_matches 155 = .ok (.iload_n 3, 1) := by decide +kernel
theorem dX12_matches_156 : decode cX12_matches 156 = .ok (.iload_n 1, 1) := by decide +kernel
theorem dX12_matches_157 : decode cX12_matches 157 = .ok (.if_icmp .ge 46, 3) := by decide +kernel
theorem dX12_matches_160 : decode cX12_matches 160 = .ok (.aload_n 0, 1) := by decide +kernel
theorem dX12_matches_161 : decode cX12_matches 161 = .ok (.getfield 96, 3) := by decide +kernel
theorem dX12_matches_164 : decode cX12_matches 164 = .ok (.iload_n 3, 1) := by decide +kernel
theorem dX12_matches_165 : decode cX12_matches 165 = .ok (.iaload, 1) := by decide +kernel
theorem dX12_matches_166 : decode cX12_matches 166 = .ok (.iload_n 2, 1) := by decide +kernel
theorem dX12_matches_167 : decode cX12_matches 167 = .ok (.if_icmp .lt 30, 3) := by decide +kernel
theorem dX12_matches_170 : decode cX12_matches 170 = .ok (.iload_n 3, 1) := by decide +kernel
theorem dX12_matches_171 : decode cX12_matches 171 = .ok (.ifCond .eq 20, 3) := by decide +kernel
theorem dX12_matches_174 : decode cX12_matches 174 = .ok (.aload_n 0, 1) := by decide +kernel
theorem dX12_matches_175 : decode cX12_matches 175 = .ok (.getfield 96, 3) := by decide +kernel
theorem dX12_matches_178 : decode cX12_matches 178 = .ok (.iload_n 3, 1) := by decide +kernel
theorem dX12_matches_179 : decode cX12_matches 179 = .ok (.iconst 1, 1) := by decide +kernel
theorem dX12_matches_180 : decode cX12_matches 180 = .ok (.isub, 1) := by decide +kernel
theorem dX12_matches_181 : decode cX12_matches 181 = .ok (.iaload, 1) := by decide +kernel
theorem dX12_matches_182 : decode cX12_matches 182 = .ok (.aload_n 0, 1) := by decide +kernel
theorem dX12_matches_183 : decode cX12_matches 183 = .ok (.getfield 96, 3) := by decide +kernel
theorem dX12_matches_186 : decode cX12_matches 186 = .ok (.iload_n 3, 1) := by decide +kernel
theorem dX12_matches_187 : decode cX12_matches 187 = .ok (.iaload, 1) := by decide +kernel
theorem dX12_matches_188 : decode cX12_matches 188 = .ok (.if_icmp .gt 9, 3) := by decide +kernel
theorem dX12_matches_191 : decode cX12_matches 191 = .ok (.aload_n 0, 1) := by decide +kernel
theorem dX12_matches_192 : decode cX12_matches 192 = .ok (.iload_n 3, 1) := by decide +kernel
theorem dX12_matches_193 : decode cX12_matches 193 = .ok (.iload_n 1, 1) := by decide +kernel
theorem dX12_matches_194 : decode cX12_matches 194 = .ok (.invokevirtual 301, 3) := by decide +kernel
theorem dX12_matches_197 : decode cX12_matches 197 = .ok (.iinc 3 1, 3) := by decide +kernel
theorem dX12_matches_200 : decode cX12_matches 200 = .ok (.goto (-45), 3) := by decide +kernel
theorem dX12_matches_203 : decode cX12_matches 203 = .ok (.aload_n 0, 1) := by decide +kernel
theorem dX12_matches_204 : decode cX12_matches 204 = .ok (.getfield 134, 3) := by decide +kernel
theorem dX12_matches_207 : decode cX12_matches 207 = .ok (.ireturn, 1) := by decide +kernel
theorem dX12_match_0 : decode cX12_match 0 = .ok (.aload_n 0, 1) := by decide +kernel
theorem dX12_match_1 : decode cX12_match 1 = .ok (.iconst 0, 1) := by decide +kernel
theorem dX12_match_2 : decode cX12_match 2 = .ok (.putfield 105, 3) := by decide +kernel
theorem dX12_match_5 : decode cX12_match 5 = .ok (.aload_n 0, 1) := by decide +kernel
theorem dX12_match_6 : decode cX12_match 6 = .ok (.iload_n 1, 1) := by decide +kernel
theorem dX12_match_7 : decode cX12_match 7 = .ok (.iconst 0, 1) := by decide +kernel
theorem dX12_match_8 : decode cX12_match 8 = .ok (.aload_n 0, 1) := by decide +kernel
theorem dX12_match_9 : decode cX12_match 9 = .ok (.getfield 134, 3) := by decide +kernel
theorem dX12_match_12 : decode cX12_match 12 = .ok (.iconst 1, 1) := by decide +kernel
theorem dX12_match_13 : decode cX12_match 13 = .ok (.isub, 1) := by decide +kernel
theorem dX12_match_14 : decode cX12_match 14 = .ok (.invokestatic 108, 3) := by decide +kernel
theorem dX12_match_17 : decode cX12_match 17 = .ok (.ifCond .ne 7, 3) := by decide +kernel
theorem dX12_match_20 : decode cX12_match 20 = .ok (.iconst 1, 1) := by decide +kernel
theorem dX12_match_21 : decode cX12_match 21 = .ok (.goto 4, 3) := by decide +kernel
theorem dX12_match_24 : decode cX12_match 24 = .ok (.iconst 0, 1) := by decide +kernel
theorem dX12_match_25 : decode cX12_match 25 = .ok (.iconst 1, 1) := by decide +kernel
theorem dX12_match_26 : decode cX12_match 26 = .ok (.iconst 0, 1) := by decide +kernel
theorem dX12_match_27 : decode cX12_match 27 = .ok (.invokevirtual 122, 3) := by decide +kernel
theorem dX12_match_30 : decode cX12_match 30 = .ok (.ifCond .ne 26, 3) := by decide +kernel
theorem dX12_match_33 : decode cX12_match 33 = .ok (.aload_n 0, 1) := by decide +kernel
theorem dX12_match_34 : decode cX12_match 34 = .ok (.iload_n 2, 1) := by decide +kernel
theorem dX12_match_35 : decode cX12_match 35 = .ok (.iconst 0, 1) := by decide +kernel
theorem dX12_match_36 : decode cX12_match 36 = .ok (.iconst 3, 1) := by decide +kernel
theorem dX12_match_37 : decode cX12_match 37 = .ok (.invokestatic 108, 3) := by decide +kernel
theorem dX12_match_40 : decode cX12_match 40 = .ok (.ifCond .ne 7, 3) := by decide +kernel
theorem dX12_match_43 : decode cX12_match 43 = .ok (.iconst 1, 1) := by decide +kernel
theorem dX12_match_44 : decode cX12_match 44 = .ok (.goto 4, 3) := by decide +kernel
theorem dX12_match_47 : decode cX12_match 47 = .ok (.iconst 0, 1) := by decide +kernel
theorem dX12_match_48 : decode cX12_match 48 = .ok (.iconst 2, 1) := by decide +kernel
theorem dX12_match_49 : decode cX12_match 49 = .ok (.iconst 1, 1) := by decide +kernel
theorem dX12_match_50 : decode cX12_match 50 = .ok (.invokevirtual 122, 3) := by decide +kernel
theorem dX12_match_53 : decode cX12_match 53 = .ok (.ifCond .eq 5, 3) := by decide +kernel
theorem dX12_match_56 : decode cX12_match 56 = .ok (.iconst 0, 1) := by decide +kernel
theorem dX12_match_57 : decode cX12_match 57 = .ok (.ireturn, 1) := by decide +kernel
theorem dX12_match_58 : decode cX12_match 58 = .ok (.aload_n 0, 1) := by decide +kernel
theorem dX12_match_59 : decode cX12_match 59 = .ok (.getfield 90, 3) := by decide +kernel
theorem dX12_match_62 : decode cX12_match 62 = .ok (.iload_n 1, 1) := by decide +kernel
theorem dX12_match_63 : decode cX12_match 63 = .ok (.aaload, 1) := by decide +kernel
theorem dX12_match_64 : decode cX12_match 64 = .ok (.iload_n 2, 1) := by decide +kernel
theorem dX12_match_65 : decode cX12_match 65 = .ok (.iaload, 1) := by decide +kernel
theorem dX12_match_66 : decode cX12_match 66 = .ok (.ireturn, 1) := by decide +kernel
theorem dX12_letterAt_0 : decode cX12_letterAt 0 = .ok (.iload_n 1, 1) := by decide +kernel
theorem dX12_letterAt_1 : decode cX12_letterAt 1 = .ok (.ifCond .lt 23, 3) := by decide +kernel
theorem dX12_letterAt_4 : decode cX12_letterAt 4 = .ok (.iload_n 1, 1) := by decide +kernel
theorem dX12_letterAt_5 : decode cX12_letterAt 5 = .ok (.aload_n 0, 1) := by decide +kernel
theorem dX12_letterAt_6 : decode cX12_letterAt 6 = .ok (.getfield 20, 3) := by decide +kernel
theorem dX12_letterAt_9 : decode cX12_letterAt 9 = .ok (.if_icmp .ge 15, 3) := by decide +kernel
theorem dX12_letterAt_12 : decode cX12_letterAt 12 = .ok (.aload_n 0, 1) := by decide +kernel
theorem dX12_letterAt_13 : decode cX12_letterAt 13 = .ok (.getfield 28, 3) := by decide +kernel
theorem dX12_letterAt_16 : decode cX12_letterAt 16 = .ok (.iconst 0, 1) := by decide +kernel
theorem dX12_letterAt_17 : decode cX12_letterAt 17 = .ok (.aaload, 1) := by decide +kernel
theorem dX12_letterAt_18 : decode cX12_letterAt 18 = .ok (.iload_n 1, 1) := by decide +kernel
theorem dX12_letterAt_19 : decode cX12_letterAt 19 = .ok (.iaload, 1) := by decide +kernel
theorem dX12_letterAt_20 : decode cX12_letterAt 20 = .ok (.iconst 1, 1) := by decide +kernel
theorem dX12_letterAt_21 : decode cX12_letterAt 21 = .ok (.if_icmp .ne 7, 3) := by decide +kernel
theorem dX12_letterAt_24 : decode cX12_letterAt 24 = .ok (.iconst (-1), 1) := by decide +kernel
theorem dX12_letterAt_25 : decode cX12_letterAt 25 = .ok (.goto 11, 3) := by decide +kernel
theorem dX12_letterAt_28 : decode cX12_letterAt 28 = .ok (.aload_n 0, 1) := by decide +kernel
theorem dX12_letterAt_29 : decode cX12_letterAt 29 = .ok (.getfield 28, 3) := by decide +kernel
theorem dX12_letterAt_32 : decode cX12_letterAt 32 = .ok (.iconst 0, 1) := by decide +kernel
theorem dX12_letterAt_33 : decode cX12_letterAt 33 = .ok (.aaload, 1) := by decide +kernel
theorem dX12_letterAt_34 : decode cX12_letterAt 34 = .ok (.iload_n 1, 1) := by decide +kernel
theorem dX12_letterAt_35 : decode cX12_letterAt 35 = .ok (.iaload, 1) := by decide +kernel
theorem dX12_letterAt_36 : decode cX12_letterAt 36 = .ok (.ireturn, 1) := by decide +kernel
theorem dX12_isMaximal_0 : decode cX12_isMaximal 0 = .ok (.iconst 0, 1) := by decide +kernel
theorem dX12_isMaximal_1 : decode cX12_isMaximal 1 = .ok (.istore 4, 2) := by decide +kernel
theorem dX12_isMaximal_3 : decode cX12_isMaximal 3 = .ok (.iconst 0, 1) := by decide +kernel
theorem dX12_isMaximal_4 : decode cX12_isMaximal 4 = .ok (.istore 5, 2) := by decide +kernel
theorem dX12_isMaximal_6 : decode cX12_isMaximal 6 = .ok (.iconst 0, 1) := by decide +kernel
theorem dX12_isMaximal_7 : decode cX12_isMaximal 7 = .ok (.istore 6, 2) := by decide +kernel
theorem dX12_isMaximal_9 : decode cX12_isMaximal 9 = .ok (.iconst 0, 1) := by decide +kernel
theorem dX12_isMaximal_10 : decode cX12_isMaximal 10 = .ok (.istore 7, 2) := by decide +kernel
theorem dX12_isMaximal_12 : decode cX12_isMaximal 12 = .ok (.iload 7, 2) := by decide +kernel
theorem dX12_isMaximal_14 : decode cX12_isMaximal 14 = .ok (.aload_n 0, 1) := by decide +kernel
theorem dX12_isMaximal_15 : decode cX12_isMaximal 15 = .ok (.getfield 20, 3) := by decide +kernel
theorem dX12_isMaximal_18 : decode cX12_isMaximal 18 = .ok (.if_icmp .ge 112, 3) := by decide +kernel
theorem dX12_isMaximal_21 : decode cX12_isMaximal 21 = .ok (.iload 7, 2) := by decide +kernel
theorem dX12_isMaximal_23 : decode cX12_isMaximal 23 = .ok (.iload_n 1, 1) := by decide +kernel
theorem dX12_isMaximal_24 : decode cX12_isMaximal 24 = .ok (.if_icmp .eq 17, 3) := by decide +kernel
theorem dX12_isMaximal_27 : decode cX12_isMaximal 27 = .ok (.aload_n 0, 1) := by decide +kernel
theorem dX12_isMaximal_28 : decode cX12_isMaximal 28 = .ok (.iload_n 1, 1) := by decide +kernel
theorem dX12_isMaximal_29 : decode cX12_isMaximal 29 = .ok (.iload 7, 2) := by decide +kernel
theorem dX12_isMaximal_31 : decode cX12_isMaximal 31 = .ok (.invokevirtual 304, 3) := by decide +kernel
theorem dX12_isMaximal_34 : decode cX12_isMaximal 34 = .ok (.iload_n 2, 1) := by decide +kernel
theorem dX12_isMaximal_35 : decode cX12_isMaximal 35 = .ok (.if_icmp .ge 6, 3) := by decide +kernel
theorem dX12_isMaximal_38 : decode cX12_isMaximal 38 = .ok (.goto 86, 3) := by decide +kernel
theorem dX12_isMaximal_41 : decode cX12_isMaximal 41 = .ok (.iinc 4 1, 3) := by decide +kernel
theorem dX12_isMaximal_44 : decode cX12_isMaximal 44 = .ok (.iload 5, 2) := by decide +kernel
theorem dX12_isMaximal_46 : decode cX12_isMaximal 46 = .ok (.aload_n 0, 1) := by decide +kernel
theorem dX12_isMaximal_47 : decode cX12_isMaximal 47 = .ok (.iload 7, 2) := by decide +kernel
theorem dX12_isMaximal_49 : decode cX12_isMaximal 49 = .ok (.iconst 1, 1) := by decide +kernel
theorem dX12_isMaximal_50 : decode cX12_isMaximal 50 = .ok (.isub, 1) := by decide +kernel
theorem dX12_isMaximal_51 : decode cX12_isMaximal 51 = .ok (.invokevirtual 307, 3) := by decide +kernel
theorem dX12_isMaximal_54 : decode cX12_isMaximal 54 = .ok (.iconst (-1), 1) := by decide +kernel
theorem dX12_isMaximal_55 : decode cX12_isMaximal 55 = .ok (.if_icmp .eq 21, 3) := by decide +kernel
theorem dX12_isMaximal_58 : decode cX12_isMaximal 58 = .ok (.aload_n 0, 1) := by decide +kernel
theorem dX12_isMaximal_59 : decode cX12_isMaximal 59 = .ok (.iload 7, 2) := by decide +kernel
theorem dX12_isMaximal_61 : decode cX12_isMaximal 61 = .ok (.iconst 1, 1) := by decide +kernel
theorem dX12_isMaximal_62 : decode cX12_isMaximal 62 = .ok (.isub, 1) := by decide +kernel
theorem dX12_isMaximal_63 : decode cX12_isMaximal 63 = .ok (.invokevirtual 307, 3) := by decide +kernel
theorem dX12_isMaximal_66 : decode cX12_isMaximal 66 = .ok (.aload_n 0, 1) := by decide +kernel
theorem dX12_isMaximal_67 : decode cX12_isMaximal 67 = .ok (.iload_n 1, 1) := by decide +kernel
theorem dX12_isMaximal_68 : decode cX12_isMaximal 68 = .ok (.iconst 1, 1) := by decide +kernel
theorem dX12_isMaximal_69 : decode cX12_isMaximal 69 = .ok (.isub, 1) := by decide +kernel
theorem dX12_isMaximal_70 : decode cX12_isMaximal 70 = .ok (.invokevirtual 307, 3) := by decide +kernel
theorem dX12_isMaximal_73 : decode cX12_isMaximal 73 = .ok (.if_icmp .eq 7, 3) := by decide +kernel
theorem dX12_isMaximal_76 : decode cX12_isMaximal 76 = .ok (.iconst 1, 1) := by decide +kernel
theorem dX12_isMaximal_77 : decode cX12_isMaximal 77 = .ok (.goto 4, 3) := by decide +kernel
theorem dX12_isMaximal_80 : decode cX12_isMaximal 80 = .ok (.iconst 0, 1) := by decide +kernel
theorem dX12_isMaximal_81 : decode cX12_isMaximal 81 = .ok (.ior, 1) := by decide +kernel
theorem dX12_isMaximal_82 : decode cX12_isMaximal 82 = .ok (.istore 5, 2) := by decide +kernel
theorem dX12_isMaximal_84 : decode cX12_isMaximal 84 = .ok (.iload 6, 2) := by decide +kernel
theorem dX12_isMaximal_86 : decode cX12_isMaximal 86 = .ok (.aload_n 0, 1) := by decide +kernel
theorem dX12_isMaximal_87 : decode cX12_isMaximal 87 = .ok (.iload 7, 2) := by decide +kernel
theorem dX12_isMaximal_89 : decode cX12_isMaximal 89 = .ok (.iload_n 2, 1) := by decide +kernel
theorem dX12_isMaximal_90 : decode cX12_isMaximal 90 = .ok (.iadd, 1) := by decide +kernel
theorem dX12_isMaximal_91 : decode cX12_isMaximal 91 = .ok (.invokevirtual 307, 3) := by decide +kernel
theorem dX12_isMaximal_94 : decode cX12_isMaximal 94 = .ok (.iconst (-1), 1) := by decide +kernel
theorem dX12_isMaximal_95 : decode cX12_isMaximal 95 = .ok (.if_icmp .eq 21, 3) := by decide +kernel
theorem dX12_isMaximal_98 : decode cX12_isMaximal 98 = .ok (.aload_n 0, 1) := by decide +kernel
theorem dX12_isMaximal_99 : decode cX12_isMaximal 99 = .ok (.iload 7, 2) := by decide +kernel
theorem dX12_isMaximal_101 : decode cX12_isMaximal 101 = .ok (.iload_n 2, 1) := by decide +kernel
theorem dX12_isMaximal_102 : decode cX12_isMaximal 102 = .ok (.iadd, 1) := by decide +kernel
theorem dX12_isMaximal_103 : decode cX12_isMaximal 103 = .ok (.invokevirtual 307, 3) := by decide +kernel
theorem dX12_isMaximal_106 : decode cX12_isMaximal 106 = .ok (.aload_n 0, 1) := by decide +kernel
theorem dX12_isMaximal_107 : decode cX12_isMaximal 107 = .ok (.iload_n 1, 1) := by decide +kernel
theorem dX12_isMaximal_108 : decode cX12_isMaximal 108 = .ok (.iload_n 2, 1) := by decide +kernel
theorem dX12_isMaximal_109 : decode cX12_isMaximal 109 = .ok (.iadd, 1) := by decide +kernel
theorem dX12_isMaximal_110 : decode cX12_isMaximal 110 = .ok (.invokevirtual 307, 3) := by decide +kernel
theorem dX12_isMaximal_113 : decode cX12_isMaximal 113 = .ok (.if_icmp .eq 7, 3) := by decide +kernel
theorem dX12_isMaximal_116 : decode cX12_isMaximal 116 = .ok (.iconst 1, 1) := by decide +kernel
theorem dX12_isMaximal_117 : decode cX12_isMaximal 117 = .ok (.goto 4, 3) := by decide +kernel
theorem dX12_isMaximal_120 : decode cX12_isMaximal 120 = .ok (.iconst 0, 1) := by decide +kernel
theorem dX12_isMaximal_121 : decode cX12_isMaximal 121 = .ok (.ior, 1) := by decide +kernel
theorem dX12_isMaximal_122 : decode cX12_isMaximal 122 = .ok (.istore 6, 2) := by decide +kernel
theorem dX12_isMaximal_124 : decode cX12_isMaximal 124 = .ok (.iinc 7 1, 3) := by decide +kernel
theorem dX12_isMaximal_127 : decode cX12_isMaximal 127 = .ok (.goto (-115), 3) := by decide +kernel
theorem dX12_isMaximal_130 : decode cX12_isMaximal 130 = .ok (.iload 4, 2) := by decide +kernel
theorem dX12_isMaximal_132 : decode cX12_isMaximal 132 = .ok (.iconst 2, 1) := by decide +kernel
theorem dX12_isMaximal_133 : decode cX12_isMaximal 133 = .ok (.if_icmp .lt 23, 3) := by decide +kernel
theorem dX12_isMaximal_136 : decode cX12_isMaximal 136 = .ok (.iload 4, 2) := by decide +kernel
theorem dX12_isMaximal_138 : decode cX12_isMaximal 138 = .ok (.iload_n 3, 1) := by decide +kernel
theorem dX12_isMaximal_139 : decode cX12_isMaximal 139 = .ok (.if_icmp .lt 17, 3) := by decide +kernel
theorem dX12_isMaximal_142 : decode cX12_isMaximal 142 = .ok (.iload 5, 2) := by decide +kernel
theorem dX12_isMaximal_144 : decode cX12_isMaximal 144 = .ok (.ifCond .eq 12, 3) := by decide +kernel
theorem dX12_isMaximal_147 : decode cX12_isMaximal 147 = .ok (.iload 6, 2) := by decide +kernel
theorem dX12_isMaximal_149 : decode cX12_isMaximal 149 = .ok (.ifCond .eq 7, 3) := by decide +kernel
theorem dX12_isMaximal_152 : decode cX12_isMaximal 152 = .ok (.iconst 1, 1) := by decide +kernel
theorem dX12_isMaximal_153 : decode cX12_isMaximal 153 = .ok (.goto 4, 3) := by decide +kernel
theorem dX12_isMaximal_156 : decode cX12_isMaximal 156 = .ok (.iconst 0, 1) := by decide +kernel
theorem dX12_isMaximal_157 : decode cX12_isMaximal 157 = .ok (.ireturn, 1) := by decide +kernel
theorem dX12_maximalsTo_0 : decode cX12_maximalsTo 0 = .ok (.iconst 0, 1) := by decide +kernel
theorem dX12_maximalsTo_1 : decode cX12_maximalsTo 1 = .ok (.istore 4, 2) := by decide +kernel
theorem dX12_maximalsTo_3 : decode cX12_maximalsTo 3 = .ok (.iconst 0, 1) := by decide +kernel
theorem dX12_maximalsTo_4 : decode cX12_maximalsTo 4 = .ok (.istore 5, 2) := by decide +kernel
theorem dX12_maximalsTo_6 : decode cX12_maximalsTo 6 = .ok (.iload 5, 2) := by decide +kernel
theorem dX12_maximalsTo_8 : decode cX12_maximalsTo 8 = .ok (.aload_n 0, 1) := by decide +kernel
theorem dX12_maximalsTo_9 : decode cX12_maximalsTo 9 = .ok (.getfield 20, 3) := by decide +kernel
theorem dX12_maximalsTo_12 : decode cX12_maximalsTo 12 = .ok (.if_icmp .gt 144, 3) := by decide +kernel
theorem dX12_maximalsTo_15 : decode cX12_maximalsTo 15 = .ok (.aload_n 0, 1) := by decide +kernel
theorem dX12_maximalsTo_16 : decode cX12_maximalsTo 16 = .ok (.getfield 31, 3) := by decide +kernel
theorem dX12_maximalsTo_19 : decode cX12_maximalsTo 19 = .ok (.iconst 0, 1) := by decide +kernel
theorem dX12_maximalsTo_20 : decode cX12_maximalsTo 20 = .ok (.aaload, 1) := by decide +kernel
theorem dX12_maximalsTo_21 : decode cX12_maximalsTo 21 = .ok (.iload 5, 2) := by decide +kernel
theorem dX12_maximalsTo_23 : decode cX12_maximalsTo 23 = .ok (.iaload, 1) := by decide +kernel
theorem dX12_maximalsTo_24 : decode cX12_maximalsTo 24 = .ok (.istore 6, 2) := by decide +kernel
theorem dX12_maximalsTo_26 : decode cX12_maximalsTo 26 = .ok (.iload 5, 2) := by decide +kernel
theorem dX12_maximalsTo_28 : decode cX12_maximalsTo 28 = .ok (.ifCond .ne 7, 3) := by decide +kernel
theorem dX12_maximalsTo_31 : decode cX12_maximalsTo 31 = .ok (.iconst 0, 1) := by decide +kernel
theorem dX12_maximalsTo_32 : decode cX12_maximalsTo 32 = .ok (.goto 20, 3) := by decide +kernel
theorem dX12_maximalsTo_35 : decode cX12_maximalsTo 35 = .ok (.aload_n 0, 1) := by decide +kernel
theorem dX12_maximalsTo_36 : decode cX12_maximalsTo 36 = .ok (.iload 6, 2) := by decide +kernel
theorem dX12_maximalsTo_38 : decode cX12_maximalsTo 38 = .ok (.aload_n 0, 1) := by decide +kernel
theorem dX12_maximalsTo_39 : decode cX12_maximalsTo 39 = .ok (.getfield 31, 3) := by decide +kernel
theorem dX12_maximalsTo_42 : decode cX12_maximalsTo 42 = .ok (.iconst 0, 1) := by decide +kernel
theorem dX12_maximalsTo_43 : decode cX12_maximalsTo 43 = .ok (.aaload, 1) := by decide +kernel
theorem dX12_maximalsTo_44 : decode cX12_maximalsTo 44 = .ok (.iload 5, 2) := by decide +kernel
theorem dX12_maximalsTo_46 : decode cX12_maximalsTo 46 = .ok (.iconst 1, 1) := by decide +kernel
theorem dX12_maximalsTo_47 : decode cX12_maximalsTo 47 = .ok (.isub, 1) := by decide +kernel
theorem dX12_maximalsTo_48 : decode cX12_maximalsTo 48 = .ok (.iaload, 1) := by decide +kernel
theorem dX12_maximalsTo_49 : decode cX12_maximalsTo 49 = .ok (.invokevirtual 304, 3) := by decide +kernel
theorem dX12_maximalsTo_52 : decode cX12_maximalsTo 52 = .ok (.istore 7, 2) := by decide +kernel
theorem dX12_maximalsTo_54 : decode cX12_maximalsTo 54 = .ok (.iload_n 2, 1) := by decide +kernel
theorem dX12_maximalsTo_55 : decode cX12_maximalsTo 55 = .ok (.iload 7, 2) := by decide +kernel
theorem dX12_maximalsTo_57 : decode cX12_maximalsTo 57 = .ok (.iconst 1, 1) := by decide +kernel
theorem dX12_maximalsTo_58 : decode cX12_maximalsTo 58 = .ok (.iadd, 1) := by decide +kernel
theorem dX12_maximalsTo_59 : decode cX12_maximalsTo 59 = .ok (.invokestatic 202, 3) := by decide +kernel
theorem dX12_maximalsTo_62 : decode cX12_maximalsTo 62 = .ok (.istore 8, 2) := by decide +kernel
theorem dX12_maximalsTo_64 : decode cX12_maximalsTo 64 = .ok (.iload 6, 2) := by decide +kernel
theorem dX12_maximalsTo_66 : decode cX12_maximalsTo 66 = .ok (.aload_n 0, 1) := by decide +kernel
theorem dX12_maximalsTo_67 : decode cX12_maximalsTo 67 = .ok (.getfield 20, 3) := by decide +kernel
theorem dX12_maximalsTo_70 : decode cX12_maximalsTo 70 = .ok (.if_icmp .ge 80, 3) := by decide +kernel
theorem dX12_maximalsTo_73 : decode cX12_maximalsTo 73 = .ok (.iload 8, 2) := by decide +kernel
theorem dX12_maximalsTo_75 : decode cX12_maximalsTo 75 = .ok (.aload_n 0, 1) := by decide +kernel
theorem dX12_maximalsTo_76 : decode cX12_maximalsTo 76 = .ok (.iload 6, 2) := by decide +kernel
theorem dX12_maximalsTo_78 : decode cX12_maximalsTo 78 = .ok (.invokevirtual 310, 3) := by decide +kernel
theorem dX12_maximalsTo_81 : decode cX12_maximalsTo 81 = .ok (.if_icmp .gt 69, 3) := by decide +kernel
theorem dX12_maximalsTo_84 : decode cX12_maximalsTo 84 = .ok (.aload_n 0, 1) := by decide +kernel
theorem dX12_maximalsTo_85 : decode cX12_maximalsTo 85 = .ok (.iload 6, 2) := by decide +kernel
theorem dX12_maximalsTo_87 : decode cX12_maximalsTo 87 = .ok (.iload 8, 2) := by decide +kernel
theorem dX12_maximalsTo_89 : decode cX12_maximalsTo 89 = .ok (.iload_n 3, 1) := by decide +kernel
theorem dX12_maximalsTo_90 : decode cX12_maximalsTo 90 = .ok (.invokevirtual 313, 3) := by decide +kernel
theorem dX12_maximalsTo_93 : decode cX12_maximalsTo 93 = .ok (.ifCond .ne 6, 3) := by decide +kernel
theorem dX12_maximalsTo_96 : decode cX12_maximalsTo 96 = .ok (.goto 48, 3) := by decide +kernel
theorem dX12_maximalsTo_99 : decode cX12_maximalsTo 99 = .ok (.iload 4, 2) := by decide +kernel
theorem dX12_maximalsTo_101 : decode cX12_maximalsTo 101 = .ok (.iload_n 1, 1) := by decide +kernel
theorem dX12_maximalsTo_102 : decode cX12_maximalsTo 102 = .ok (.if_icmp .ne 39, 3) := by decide +kernel
theorem dX12_maximalsTo_105 : decode cX12_maximalsTo 105 = .ok (.aload_n 0, 1) := by decide +kernel
theorem dX12_maximalsTo_106 : decode cX12_maximalsTo 106 = .ok (.getfield 99, 3) := by decide +kernel
theorem dX12_maximalsTo_109 : decode cX12_maximalsTo 109 = .ok (.iconst 0, 1) := by decide +kernel
theorem dX12_maximalsTo_110 : decode cX12_maximalsTo 110 = .ok (.iload 8, 2) := by decide +kernel
theorem dX12_maximalsTo_112 : decode cX12_maximalsTo 112 = .ok (.iastore, 1) := by decide +kernel
theorem dX12_maximalsTo_113 : decode cX12_maximalsTo 113 = .ok (.aload_n 0, 1) := by decide +kernel
theorem dX12_maximalsTo_114 : decode cX12_maximalsTo 114 = .ok (.getfield 99, 3) := by decide +kernel
theorem dX12_maximalsTo_117 : decode cX12_maximalsTo 117 = .ok (.iconst 1, 1) := by decide +kernel
theorem dX12_maximalsTo_118 : decode cX12_maximalsTo 118 = .ok (.aload_n 0, 1) := by decide +kernel
theorem dX12_maximalsTo_119 : decode cX12_maximalsTo 119 = .ok (.iload 6, 2) := by decide +kernel
theorem dX12_maximalsTo_121 : decode cX12_maximalsTo 121 = .ok (.iload 8, 2) := by decide +kernel
theorem dX12_maximalsTo_123 : decode cX12_maximalsTo 123 = .ok (.invokevirtual 316, 3) := by decide +kernel
theorem dX12_maximalsTo_126 : decode cX12_maximalsTo 126 = .ok (.iastore, 1) := by decide +kernel
theorem dX12_maximalsTo_127 : decode cX12_maximalsTo 127 = .ok (.aload_n 0, 1) := by decide +kernel
theorem dX12_maximalsTo_128 : decode cX12_maximalsTo 128 = .ok (.getfield 99, 3) := by decide +kernel
theorem dX12_maximalsTo_131 : decode cX12_maximalsTo 131 = .ok (.iconst 2, 1) := by decide +kernel
theorem dX12_maximalsTo_132 : decode cX12_maximalsTo 132 = .ok (.aload_n 0, 1) := by decide +kernel
theorem dX12_maximalsTo_133 : decode cX12_maximalsTo 133 = .ok (.iload 6, 2) := by decide +kernel
theorem dX12_maximalsTo_135 : decode cX12_maximalsTo 135 = .ok (.iload 8, 2) := by decide +kernel
theorem dX12_maximalsTo_137 : decode cX12_maximalsTo 137 = .ok (.invokevirtual 319, 3) := by decide +kernel
theorem dX12_maximalsTo_140 : decode cX12_maximalsTo 140 = .ok (.iastore, 1) := by decide +kernel
theorem dX12_maximalsTo_141 : decode cX12_maximalsTo 141 = .ok (.iinc 4 1, 3) := by decide +kernel
theorem dX12_maximalsTo_144 : decode cX12_maximalsTo 144 = .ok (.iinc 8 1, 3) := by decide +kernel
theorem dX12_maximalsTo_147 : decode cX12_maximalsTo 147 = .ok (.goto (-83), 3) := by decide +kernel
theorem dX12_maximalsTo_150 : decode cX12_maximalsTo 150 = .ok (.iinc 5 1, 3) := by decide +kernel
theorem dX12_maximalsTo_153 : decode cX12_maximalsTo 153 = .ok (.goto (-147), 3) := by decide +kernel
theorem dX12_maximalsTo_156 : decode cX12_maximalsTo 156 = .ok (.iload 4, 2) := by decide +kernel
theorem dX12_maximalsTo_158 : decode cX12_maximalsTo 158 = .ok (.ireturn, 1) := by decide +kernel
theorem dX12_firstOf_0 : decode cX12_firstOf 0 = .ok (.iconst 0, 1) := by decide +kernel
theorem dX12_firstOf_1 : decode cX12_firstOf 1 = .ok (.istore_n 3, 1) := by decide +kernel
theorem dX12_firstOf_2 : decode cX12_firstOf 2 = .ok (.iload_n 3, 1) := by decide +kernel
theorem dX12_firstOf_3 : decode cX12_firstOf 3 = .ok (.iload_n 1, 1) := by decide +kernel
theorem dX12_firstOf_4 : decode cX12_firstOf 4 = .ok (.if_icmp .eq 19, 3) := by decide +kernel
theorem dX12_firstOf_7 : decode cX12_firstOf 7 = .ok (.aload_n 0, 1) := by decide +kernel
theorem dX12_firstOf_8 : decode cX12_firstOf 8 = .ok (.iload_n 1, 1) := by decide +kernel
theorem dX12_firstOf_9 : decode cX12_firstOf 9 = .ok (.iload_n 3, 1) := by decide +kernel
theorem dX12_firstOf_10 : decode cX12_firstOf 10 = .ok (.invokevirtual 304, 3) := by decide +kernel
theorem dX12_firstOf_13 : decode cX12_firstOf 13 = .ok (.iload_n 2, 1) := by decide +kernel
theorem dX12_firstOf_14 : decode cX12_firstOf 14 = .ok (.if_icmp .ge 9, 3) := by decide +kernel
theorem dX12_firstOf_17 : decode cX12_firstOf 17 = .ok (.iinc 3 1, 3) := by decide +kernel
theorem dX12_firstOf_20 : decode cX12_firstOf 20 = .ok (.goto (-18), 3) := by decide +kernel
theorem dX12_firstOf_23 : decode cX12_firstOf 23 = .ok (.iload_n 3, 1) := by decide +kernel
theorem dX12_firstOf_24 : decode cX12_firstOf 24 = .ok (.ireturn, 1) := by decide +kernel
theorem dX12_areBounds_0 : decode cX12_areBounds 0 = .ok (.iload_n 1, 1) := by decide +kernel
theorem dX12_areBounds_1 : decode cX12_areBounds 1 = .ok (.iconst 1, 1) := by decide +kernel
theorem dX12_areBounds_2 : decode cX12_areBounds 2 = .ok (.sipush 240, 3) := by decide +kernel
theorem dX12_areBounds_5 : decode cX12_areBounds 5 = .ok (.invokestatic 108, 3) := by decide +kernel
theorem dX12_areBounds_8 : decode cX12_areBounds 8 = .ok (.ifCond .eq 18, 3) := by decide +kernel
theorem dX12_areBounds_11 : decode cX12_areBounds 11 = .ok (.iload_n 2, 1) := by decide +kernel
theorem dX12_areBounds_12 : decode cX12_areBounds 12 = .ok (.iconst 2, 1) := by decide +kernel
theorem dX12_areBounds_13 : decode cX12_areBounds 13 = .ok (.sipush 241, 3) := by decide +kernel
theorem dX12_areBounds_16 : decode cX12_areBounds 16 = .ok (.invokestatic 108, 3) := by decide +kernel
theorem dX12_areBounds_19 : decode cX12_areBounds 19 = .ok (.ifCond .eq 7, 3) := by decide +kernel
theorem dX12_areBounds_22 : decode cX12_areBounds 22 = .ok (.iconst 1, 1) := by decide +kernel
theorem dX12_areBounds_23 : decode cX12_areBounds 23 = .ok (.goto 4, 3) := by decide +kernel
theorem dX12_areBounds_26 : decode cX12_areBounds 26 = .ok (.iconst 0, 1) := by decide +kernel
theorem dX12_areBounds_27 : decode cX12_areBounds 27 = .ok (.ireturn, 1) := by decide +kernel
theorem dX12_maximals_0 : decode cX12_maximals 0 = .ok (.aload_n 0, 1) := by decide +kernel
theorem dX12_maximals_1 : decode cX12_maximals 1 = .ok (.iconst 0, 1) := by decide +kernel
theorem dX12_maximals_2 : decode cX12_maximals 2 = .ok (.putfield 105, 3) := by decide +kernel
theorem dX12_maximals_5 : decode cX12_maximals 5 = .ok (.aload_n 0, 1) := by decide +kernel
theorem dX12_maximals_6 : decode cX12_maximals 6 = .ok (.aload_n 0, 1) := by decide +kernel
theorem dX12_maximals_7 : decode cX12_maximals 7 = .ok (.iload_n 1, 1) := by decide +kernel
theorem dX12_maximals_8 : decode cX12_maximals 8 = .ok (.iload_n 2, 1) := by decide +kernel
theorem dX12_maximals_9 : decode cX12_maximals 9 = .ok (.invokevirtual 322, 3) := by decide +kernel
theorem dX12_maximals_12 : decode cX12_maximals 12 = .ok (.ifCond .ne 7, 3) := by decide +kernel
theorem dX12_maximals_15 : decode cX12_maximals 15 = .ok (.iconst 1, 1) := by decide +kernel
theorem dX12_maximals_16 : decode cX12_maximals 16 = .ok (.goto 4, 3) := by decide +kernel
theorem dX12_maximals_19 : decode cX12_maximals 19 = .ok (.iconst 0, 1) := by decide +kernel
theorem dX12_maximals_20 : decode cX12_maximals 20 = .ok (.iconst 1, 1) := by decide +kernel
theorem dX12_maximals_21 : decode cX12_maximals 21 = .ok (.iconst 1, 1) := by decide +kernel
theorem dX12_maximals_22 : decode cX12_maximals 22 = .ok (.invokevirtual 122, 3) := by decide +kernel
theorem dX12_maximals_25 : decode cX12_maximals 25 = .ok (.ifCond .eq 5, 3) := by decide +kernel
theorem dX12_maximals_28 : decode cX12_maximals 28 = .ok (.iconst 0, 1) := by decide +kernel
theorem dX12_maximals_29 : decode cX12_maximals 29 = .ok (.ireturn, 1) := by decide +kernel
theorem dX12_maximals_30 : decode cX12_maximals 30 = .ok (.aload_n 0, 1) := by decide +kernel
theorem dX12_maximals_31 : decode cX12_maximals 31 = .ok (.iconst (-1), 1) := by decide +kernel
theorem dX12_maximals_32 : decode cX12_maximals 32 = .ok (.iload_n 1, 1) := by decide +kernel
theorem dX12_maximals_33 : decode cX12_maximals 33 = .ok (.iload_n 2, 1) := by decide +kernel
theorem dX12_maximals_34 : decode cX12_maximals 34 = .ok (.invokevirtual 325, 3) := by decide +kernel
theorem dX12_maximals_37 : decode cX12_maximals 37 = .ok (.ireturn, 1) := by decide +kernel
theorem dX12_maximal_0 : decode cX12_maximal 0 = .ok (.aload_n 0, 1) := by decide +kernel
theorem dX12_maximal_1 : decode cX12_maximal 1 = .ok (.iconst 0, 1) := by decide +kernel
theorem dX12_maximal_2 : decode cX12_maximal 2 = .ok (.putfield 105, 3) := by decide +kernel
theorem dX12_maximal_5 : decode cX12_maximal 5 = .ok (.aload_n 0, 1) := by decide +kernel
theorem dX12_maximal_6 : decode cX12_maximal 6 = .ok (.aload_n 0, 1) := by decide +kernel
theorem dX12_maximal_7 : decode cX12_maximal 7 = .ok (.iload_n 2, 1) := by decide +kernel
theorem dX12_maximal_8 : decode cX12_maximal 8 = .ok (.iload_n 3, 1) := by decide +kernel
theorem dX12_maximal_9 : decode cX12_maximal 9 = .ok (.invokevirtual 322, 3) := by decide +kernel
theorem dX12_maximal_12 : decode cX12_maximal 12 = .ok (.ifCond .eq 13, 3) := by decide +kernel
theorem dX12_maximal_15 : decode cX12_maximal 15 = .ok (.iload 4, 2) := by decide +kernel
theorem dX12_maximal_17 : decode cX12_maximal 17 = .ok (.iconst 0, 1) := by decide +kernel
theorem dX12_maximal_18 : decode cX12_maximal 18 = .ok (.iconst 2, 1) := by decide +kernel
theorem dX12_maximal_19 : decode cX12_maximal 19 = .ok (.invokestatic 108, 3) := by decide +kernel
theorem dX12_maximal_22 : decode cX12_maximal 22 = .ok (.ifCond .ne 7, 3) := by decide +kernel
theorem dX12_maximal_25 : decode cX12_maximal 25 = .ok (.iconst 1, 1) := by decide +kernel
theorem dX12_maximal_26 : decode cX12_maximal 26 = .ok (.goto 4, 3) := by decide +kernel
theorem dX12_maximal_29 : decode cX12_maximal 29 = .ok (.iconst 0, 1) := by decide +kernel
theorem dX12_maximal_30 : decode cX12_maximal 30 = .ok (.iconst 2, 1) := by decide +kernel
theorem dX12_maximal_31 : decode cX12_maximal 31 = .ok (.iconst 1, 1) := by decide +kernel
theorem dX12_maximal_32 : decode cX12_maximal 32 = .ok (.invokevirtual 122, 3) := by decide +kernel
theorem dX12_maximal_35 : decode cX12_maximal 35 = .ok (.ifCond .eq 5, 3) := by decide +kernel
theorem dX12_maximal_38 : decode cX12_maximal 38 = .ok (.iconst 0, 1) := by decide +kernel
theorem dX12_maximal_39 : decode cX12_maximal 39 = .ok (.ireturn, 1) := by decide +kernel
theorem dX12_maximal_40 : decode cX12_maximal 40 = .ok (.aload_n 0, 1) := by decide +kernel
theorem dX12_maximal_41 : decode cX12_maximal 41 = .ok (.iload_n 1, 1) := by decide +kernel
theorem dX12_maximal_42 : decode cX12_maximal 42 = .ok (.iconst 0, 1) := by decide +kernel
theorem dX12_maximal_43 : decode cX12_maximal 43 = .ok (.aload_n 0, 1) := by decide +kernel
theorem dX12_maximal_44 : decode cX12_maximal 44 = .ok (.iload_n 1, 1) := by decide +kernel
theorem dX12_maximal_45 : decode cX12_maximal 45 = .ok (.iload_n 2, 1) := by decide +kernel
theorem dX12_maximal_46 : decode cX12_maximal 46 = .ok (.iload_n 3, 1) := by decide +kernel
theorem dX12_maximal_47 : decode cX12_maximal 47 = .ok (.invokevirtual 325, 3) := by decide +kernel
theorem dX12_maximal_50 : decode cX12_maximal 50 = .ok (.iconst 1, 1) := by decide +kernel
theorem dX12_maximal_51 : decode cX12_maximal 51 = .ok (.isub, 1) := by decide +kernel
theorem dX12_maximal_52 : decode cX12_maximal 52 = .ok (.invokestatic 108, 3) := by decide +kernel
theorem dX12_maximal_55 : decode cX12_maximal 55 = .ok (.ifCond .ne 7, 3) := by decide +kernel
theorem dX12_maximal_58 : decode cX12_maximal 58 = .ok (.iconst 1, 1) := by decide +kernel
theorem dX12_maximal_59 : decode cX12_maximal 59 = .ok (.goto 4, 3) := by decide +kernel
theorem dX12_maximal_62 : decode cX12_maximal 62 = .ok (.iconst 0, 1) := by decide +kernel
theorem dX12_maximal_63 : decode cX12_maximal 63 = .ok (.iconst 1, 1) := by decide +kernel
theorem dX12_maximal_64 : decode cX12_maximal 64 = .ok (.iconst 0, 1) := by decide +kernel
theorem dX12_maximal_65 : decode cX12_maximal 65 = .ok (.invokevirtual 122, 3) := by decide +kernel
theorem dX12_maximal_68 : decode cX12_maximal 68 = .ok (.ifCond .eq 5, 3) := by decide +kernel
theorem dX12_maximal_71 : decode cX12_maximal 71 = .ok (.iconst 0, 1) := by decide +kernel
theorem dX12_maximal_72 : decode cX12_maximal 72 = .ok (.ireturn, 1) := by decide +kernel
theorem dX12_maximal_73 : decode cX12_maximal 73 = .ok (.aload_n 0, 1) := by decide +kernel
theorem dX12_maximal_74 : decode cX12_maximal 74 = .ok (.getfield 99, 3) := by decide +kernel
theorem dX12_maximal_77 : decode cX12_maximal 77 = .ok (.iload 4, 2) := by decide +kernel
theorem dX12_maximal_79 : decode cX12_maximal 79 = .ok (.iaload, 1) := by decide +kernel
theorem dX12_maximal_80 : decode cX12_maximal 80 = .ok (.ireturn, 1) := by decide +kernel
theorem dX12_strings_0 : decode cX12_strings 0 = .ok (.aload_n 0, 1) := by decide +kernel
theorem dX12_strings_1 : decode cX12_strings 1 = .ok (.iconst 0, 1) := by decide +kernel
theorem dX12_strings_2 : decode cX12_strings 2 = .ok (.putfield 105, 3) := by decide +kernel
theorem dX12_strings_5 : decode cX12_strings 5 = .ok (.aload_n 0, 1) := by decide +kernel
theorem dX12_strings_6 : decode cX12_strings 6 = .ok (.iload_n 1, 1) := by decide +kernel
theorem dX12_strings_7 : decode cX12_strings 7 = .ok (.iconst 1, 1) := by decide +kernel
theorem dX12_strings_8 : decode cX12_strings 8 = .ok (.sipush 240, 3) := by decide +kernel
theorem dX12_strings_11 : decode cX12_strings 11 = .ok (.invokestatic 108, 3) := by decide +kernel
theorem dX12_strings_14 : decode cX12_strings 14 = .ok (.ifCond .ne 7, 3) := by decide +kernel
theorem dX12_strings_17 : decode cX12_strings 17 = .ok (.iconst 1, 1) := by decide +kernel
theorem dX12_strings_18 : decode cX12_strings 18 = .ok (.goto 4, 3) := by decide +kernel
theorem dX12_strings_21 : decode cX12_strings 21 = .ok (.iconst 0, 1) := by decide +kernel
theorem dX12_strings_22 : decode cX12_strings 22 = .ok (.iconst 1, 1) := by decide +kernel
theorem dX12_strings_23 : decode cX12_strings 23 = .ok (.iconst 1, 1) := by decide +kernel
theorem dX12_strings_24 : decode cX12_strings 24 = .ok (.invokevirtual 122, 3) := by decide +kernel
theorem dX12_strings_27 : decode cX12_strings 27 = .ok (.ifCond .eq 5, 3) := by decide +kernel
theorem dX12_strings_30 : decode cX12_strings 30 = .ok (.iconst 0, 1) := by decide +kernel
theorem dX12_strings_31 : decode cX12_strings 31 = .ok (.ireturn, 1) := by decide +kernel
theorem dX12_strings_32 : decode cX12_strings 32 = .ok (.iconst 0, 1) := by decide +kernel
theorem dX12_strings_33 : decode cX12_strings 33 = .ok (.istore_n 2, 1) := by decide +kernel
theorem dX12_strings_34 : decode cX12_strings 34 = .ok (.iconst 0, 1) := by decide +kernel
theorem dX12_strings_35 : decode cX12_strings 35 = .ok (.istore_n 3, 1) := by decide +kernel
theorem dX12_strings_36 : decode cX12_strings 36 = .ok (.iload_n 3, 1) := by decide +kernel
theorem dX12_strings_37 : decode cX12_strings 37 = .ok (.aload_n 0, 1) := by decide +kernel
theorem dX12_strings_38 : decode cX12_strings 38 = .ok (.getfield 20, 3) := by decide +kernel
theorem dX12_strings_41 : decode cX12_strings 41 = .ok (.if_icmp .ge 76, 3) := by decide +kernel
theorem dX12_strings_44 : decode cX12_strings 44 = .ok (.aload_n 0, 1) := by decide +kernel
theorem dX12_strings_45 : decode cX12_strings 45 = .ok (.iload_n 3, 1) := by decide +kernel
theorem dX12_strings_46 : decode cX12_strings 46 = .ok (.invokevirtual 328, 3) := by decide +kernel
theorem dX12_strings_49 : decode cX12_strings 49 = .ok (.iload_n 1, 1) := by decide +kernel
theorem dX12_strings_50 : decode cX12_strings 50 = .ok (.if_icmp .lt 7, 3) := by decide +kernel
theorem dX12_strings_53 : decode cX12_strings 53 = .ok (.iconst 1, 1) := by decide +kernel
theorem dX12_strings_54 : decode cX12_strings 54 = .ok (.goto 4, 3) := by decide +kernel
theorem dX12_strings_57 : decode cX12_strings 57 = .ok (.iconst 0, 1) := by decide +kernel
theorem dX12_strings_58 : decode cX12_strings 58 = .ok (.istore 4, 2) := by decide +kernel
theorem dX12_strings_60 : decode cX12_strings 60 = .ok (.iconst 0, 1) := by decide +kernel
theorem dX12_strings_61 : decode cX12_strings 61 = .ok (.istore 5, 2) := by decide +kernel
theorem dX12_strings_63 : decode cX12_strings 63 = .ok (.iload 5, 2) := by decide +kernel
theorem dX12_strings_65 : decode cX12_strings 65 = .ok (.iload_n 3, 1) := by decide +kernel
theorem dX12_strings_66 : decode cX12_strings 66 = .ok (.if_icmp .ge 32, 3) := by decide +kernel
theorem dX12_strings_69 : decode cX12_strings 69 = .ok (.iload 4, 2) := by decide +kernel
theorem dX12_strings_71 : decode cX12_strings 71 = .ok (.ifCond .eq 27, 3) := by decide +kernel
theorem dX12_strings_74 : decode cX12_strings 74 = .ok (.aload_n 0, 1) := by decide +kernel
theorem dX12_strings_75 : decode cX12_strings 75 = .ok (.iload 5, 2) := by decide +kernel
theorem dX12_strings_77 : decode cX12_strings 77 = .ok (.iload_n 3, 1) := by decide +kernel
theorem dX12_strings_78 : decode cX12_strings 78 = .ok (.invokevirtual 304, 3) := by decide +kernel
theorem dX12_strings_81 : decode cX12_strings 81 = .ok (.iload_n 1, 1) := by decide +kernel
theorem dX12_strings_82 : decode cX12_strings 82 = .ok (.if_icmp .ge 7, 3) := by decide +kernel
theorem dX12_strings_85 : decode cX12_strings 85 = .ok (.iconst 1, 1) := by decide +kernel
theorem dX12_strings_86 : decode cX12_strings 86 = .ok (.goto 4, 3) := by decide +kernel
theorem dX12_strings_89 : decode cX12_strings 89 = .ok (.iconst 0, 1) := by decide +kernel
theorem dX12_strings_90 : decode cX12_strings 90 = .ok (.istore 4, 2) := by decide +kernel
theorem dX12_strings_92 : decode cX12_strings 92 = .ok (.iinc 5 1, 3) := by decide +kernel
theorem dX12_strings_95 : decode cX12_strings 95 = .ok (.goto (-32), 3) := by decide +kernel
theorem dX12_strings_98 : decode cX12_strings 98 = .ok (.iload_n 2, 1) := by decide +kernel
theorem dX12_strings_99 : decode cX12_strings 99 = .ok (.iload 4, 2) := by decide +kernel
theorem dX12_strings_101 : decode cX12_strings 101 = .ok (.ifCond .eq 7, 3) := by decide +kernel
theorem dX12_strings_104 : decode cX12_strings 104 = .ok (.iconst 1, 1) := by decide +kernel
theorem dX12_strings_105 : decode cX12_strings 105 = .ok (.goto 4, 3) := by decide +kernel
theorem dX12_strings_108 : decode cX12_strings 108 = .ok (.iconst 0, 1) := by decide +kernel
theorem dX12_strings_109 : decode cX12_strings 109 = .ok (.iadd, 1) := by decide +kernel
theorem dX12_strings_110 : decode cX12_strings 110 = .ok (.istore_n 2, 1) := by decide +kernel
theorem dX12_strings_111 : decode cX12_strings 111 = .ok (.iinc 3 1, 3) := by decide +kernel
theorem dX12_strings_114 : decode cX12_strings 114 = .ok (.goto (-78), 3) := by decide +kernel
theorem dX12_strings_117 : decode cX12_strings 117 = .ok (.iload_n 2, 1) := by decide +kernel
theorem dX12_strings_118 : decode cX12_strings 118 = .ok (.ireturn, 1) := by decide +kernel
theorem dX12_twice_0 : decode cX12_twice 0 = .ok (.iconst 0, 1) := by decide +kernel
theorem dX12_twice_1 : decode cX12_twice 1 = .ok (.istore_n 2, 1) := by decide +kernel
theorem dX12_twice_2 : decode cX12_twice 2 = .ok (.iconst 0, 1) := by decide +kernel
theorem dX12_twice_3 : decode cX12_twice 3 = .ok (.istore_n 3, 1) := by decide +kernel
theorem dX12_twice_4 : decode cX12_twice 4 = .ok (.iload_n 3, 1) := by decide +kernel
theorem dX12_twice_5 : decode cX12_twice 5 = .ok (.aload_n 0, 1) := by decide +kernel
theorem dX12_twice_6 : decode cX12_twice 6 = .ok (.getfield 20, 3) := by decide +kernel
theorem dX12_twice_9 : decode cX12_twice 9 = .ok (.if_icmp .ge 25, 3) := by decide +kernel
theorem dX12_twice_12 : decode cX12_twice 12 = .ok (.iload_n 3, 1) := by decide +kernel
theorem dX12_twice_13 : decode cX12_twice 13 = .ok (.iload_n 1, 1) := by decide +kernel
theorem dX12_twice_14 : decode cX12_twice 14 = .ok (.if_icmp .eq 14, 3) := by decide +kernel
theorem dX12_twice_17 : decode cX12_twice 17 = .ok (.iload_n 2, 1) := by decide +kernel
theorem dX12_twice_18 : decode cX12_twice 18 = .ok (.aload_n 0, 1) := by decide +kernel
theorem dX12_twice_19 : decode cX12_twice 19 = .ok (.iload_n 1, 1) := by decide +kernel
theorem dX12_twice_20 : decode cX12_twice 20 = .ok (.iload_n 3, 1) := by decide +kernel
theorem dX12_twice_21 : decode cX12_twice 21 = .ok (.invokevirtual 304, 3) := by decide +kernel
theorem dX12_twice_24 : decode cX12_twice 24 = .ok (.invokestatic 202, 3) := by decide +kernel
theorem dX12_twice_27 : decode cX12_twice 27 = .ok (.istore_n 2, 1) := by decide +kernel
theorem dX12_twice_28 : decode cX12_twice 28 = .ok (.iinc 3 1, 3) := by decide +kernel
theorem dX12_twice_31 : decode cX12_twice 31 = .ok (.goto (-27), 3) := by decide +kernel
theorem dX12_twice_34 : decode cX12_twice 34 = .ok (.iload_n 2, 1) := by decide +kernel
theorem dX12_twice_35 : decode cX12_twice 35 = .ok (.ireturn, 1) := by decide +kernel
theorem dX12_times_0 : decode cX12_times 0 = .ok (.iconst 0, 1) := by decide +kernel
theorem dX12_times_1 : decode cX12_times 1 = .ok (.istore_n 3, 1) := by decide +kernel
theorem dX12_times_2 : decode cX12_times 2 = .ok (.iconst 0, 1) := by decide +kernel
theorem dX12_times_3 : decode cX12_times 3 = .ok (.istore 4, 2) := by decide +kernel
theorem dX12_times_5 : decode cX12_times 5 = .ok (.iload 4, 2) := by decide +kernel
theorem dX12_times_7 : decode cX12_times 7 = .ok (.aload_n 0, 1) := by decide +kernel
theorem dX12_times_8 : decode cX12_times 8 = .ok (.getfield 20, 3) := by decide +kernel
theorem dX12_times_11 : decode cX12_times 11 = .ok (.if_icmp .ge 34, 3) := by decide +kernel
theorem dX12_times_14 : decode cX12_times 14 = .ok (.iload_n 3, 1) := by decide +kernel
theorem dX12_times_15 : decode cX12_times 15 = .ok (.iload 4, 2) := by decide +kernel
theorem dX12_times_17 : decode cX12_times 17 = .ok (.iload_n 1, 1) := by decide +kernel
theorem dX12_times_18 : decode cX12_times 18 = .ok (.if_icmp .eq 14, 3) := by decide +kernel
theorem dX12_times_21 : decode cX12_times 21 = .ok (.aload_n 0, 1) := by decide +kernel
theorem dX12_times_22 : decode cX12_times 22 = .ok (.iload_n 1, 1) := by decide +kernel
theorem dX12_times_23 : decode cX12_times 23 = .ok (.iload 4, 2) := by decide +kernel
theorem dX12_times_25 : decode cX12_times 25 = .ok (.invokevirtual 304, 3) := by decide +kernel
theorem dX12_times_28 : decode cX12_times 28 = .ok (.iload_n 2, 1) := by decide +kernel
theorem dX12_times_29 : decode cX12_times 29 = .ok (.if_icmp .lt 7, 3) := by decide +kernel
theorem dX12_times_32 : decode cX12_times 32 = .ok (.iconst 1, 1) := by decide +kernel
theorem dX12_times_33 : decode cX12_times 33 = .ok (.goto 4, 3) := by decide +kernel
theorem dX12_times_36 : decode cX12_times 36 = .ok (.iconst 0, 1) := by decide +kernel
theorem dX12_times_37 : decode cX12_times 37 = .ok (.iadd, 1) := by decide +kernel
theorem dX12_times_38 : decode cX12_times 38 = .ok (.istore_n 3, 1) := by decide +kernel
theorem dX12_times_39 : decode cX12_times 39 = .ok (.iinc 4 1, 3) := by decide +kernel
theorem dX12_times_42 : decode cX12_times 42 = .ok (.goto (-37), 3) := by decide +kernel
theorem dX12_times_45 : decode cX12_times 45 = .ok (.iload_n 3, 1) := by decide +kernel
theorem dX12_times_46 : decode cX12_times 46 = .ok (.ireturn, 1) := by decide +kernel
theorem dX12_repeat_0 : decode cX12_repeat 0 = .ok (.aload_n 0, 1) := by decide +kernel
theorem dX12_repeat_1 : decode cX12_repeat 1 = .ok (.iconst 0, 1) := by decide +kernel
theorem dX12_repeat_2 : decode cX12_repeat 2 = .ok (.putfield 105, 3) := by decide +kernel
theorem dX12_repeat_5 : decode cX12_repeat 5 = .ok (.aload_n 0, 1) := by decide +kernel
theorem dX12_repeat_6 : decode cX12_repeat 6 = .ok (.iload_n 1, 1) := by decide +kernel
theorem dX12_repeat_7 : decode cX12_repeat 7 = .ok (.iconst 0, 1) := by decide +kernel
theorem dX12_repeat_8 : decode cX12_repeat 8 = .ok (.iconst 2, 1) := by decide +kernel
theorem dX12_repeat_9 : decode cX12_repeat 9 = .ok (.invokestatic 108, 3) := by decide +kernel
theorem dX12_repeat_12 : decode cX12_repeat 12 = .ok (.ifCond .ne 7, 3) := by decide +kernel
theorem dX12_repeat_15 : decode cX12_repeat 15 = .ok (.iconst 1, 1) := by decide +kernel
theorem dX12_repeat_16 : decode cX12_repeat 16 = .ok (.goto 4, 3) := by decide +kernel
theorem dX12_repeat_19 : decode cX12_repeat 19 = .ok (.iconst 0, 1) := by decide +kernel
theorem dX12_repeat_20 : decode cX12_repeat 20 = .ok (.iconst 1, 1) := by decide +kernel
theorem dX12_repeat_21 : decode cX12_repeat 21 = .ok (.iconst 1, 1) := by decide +kernel
theorem dX12_repeat_22 : decode cX12_repeat 22 = .ok (.invokevirtual 122, 3) := by decide +kernel
theorem dX12_repeat_25 : decode cX12_repeat 25 = .ok (.ifCond .eq 5, 3) := by decide +kernel
theorem dX12_repeat_28 : decode cX12_repeat 28 = .ok (.iconst 0, 1) := by decide +kernel
theorem dX12_repeat_29 : decode cX12_repeat 29 = .ok (.ireturn, 1) := by decide +kernel
theorem dX12_repeat_30 : decode cX12_repeat 30 = .ok (.iconst 0, 1) := by decide +kernel
theorem dX12_repeat_31 : decode cX12_repeat 31 = .ok (.istore_n 2, 1) := by decide +kernel
theorem dX12_repeat_32 : decode cX12_repeat 32 = .ok (.iconst (-1), 1) := by decide +kernel
theorem dX12_repeat_33 : decode cX12_repeat 33 = .ok (.istore_n 3, 1) := by decide +kernel
theorem dX12_repeat_34 : decode cX12_repeat 34 = .ok (.iconst 0, 1) := by decide +kernel
theorem dX12_repeat_35 : decode cX12_repeat 35 = .ok (.istore 4, 2) := by decide +kernel
theorem dX12_repeat_37 : decode cX12_repeat 37 = .ok (.iload 4, 2) := by decide +kernel
theorem dX12_repeat_39 : decode cX12_repeat 39 = .ok (.aload_n 0, 1) := by decide +kernel
theorem dX12_repeat_40 : decode cX12_repeat 40 = .ok (.getfield 20, 3) := by decide +kernel
theorem dX12_repeat_43 : decode cX12_repeat 43 = .ok (.if_icmp .ge 32, 3) := by decide +kernel
theorem dX12_repeat_46 : decode cX12_repeat 46 = .ok (.aload_n 0, 1) := by decide +kernel
theorem dX12_repeat_47 : decode cX12_repeat 47 = .ok (.iload 4, 2) := by decide +kernel
theorem dX12_repeat_49 : decode cX12_repeat 49 = .ok (.invokevirtual 310, 3) := by decide +kernel
theorem dX12_repeat_52 : decode cX12_repeat 52 = .ok (.istore 5, 2) := by decide +kernel
theorem dX12_repeat_54 : decode cX12_repeat 54 = .ok (.iload 5, 2) := by decide +kernel
theorem dX12_repeat_56 : decode cX12_repeat 56 = .ok (.iload_n 2, 1) := by decide +kernel
theorem dX12_repeat_57 : decode cX12_repeat 57 = .ok (.if_icmp .gt 6, 3) := by decide +kernel
theorem dX12_repeat_60 : decode cX12_repeat 60 = .ok (.goto 9, 3) := by decide +kernel
theorem dX12_repeat_63 : decode cX12_repeat 63 = .ok (.iload 5, 2) := by decide +kernel
theorem dX12_repeat_65 : decode cX12_repeat 65 = .ok (.istore_n 2, 1) := by decide +kernel
theorem dX12_repeat_66 : decode cX12_repeat 66 = .ok (.iload 4, 2) := by decide +kernel
theorem dX12_repeat_68 : decode cX12_repeat 68 = .ok (.istore_n 3, 1) := by decide +kernel
theorem dX12_repeat_69 : decode cX12_repeat 69 = .ok (.iinc 4 1, 3) := by decide +kernel
theorem dX12_repeat_72 : decode cX12_repeat 72 = .ok (.goto (-35), 3) := by decide +kernel
theorem dX12_repeat_75 : decode cX12_repeat 75 = .ok (.iload_n 1, 1) := by decide +kernel
theorem dX12_repeat_76 : decode cX12_repeat 76 = .ok (.ifCond .ne 7, 3) := by decide +kernel
theorem dX12_repeat_79 : decode cX12_repeat 79 = .ok (.iload_n 2, 1) := by decide +kernel
theorem dX12_repeat_80 : decode cX12_repeat 80 = .ok (.goto 26, 3) := by decide +kernel
theorem dX12_repeat_83 : decode cX12_repeat 83 = .ok (.iload_n 1, 1) := by decide +kernel
theorem dX12_repeat_84 : decode cX12_repeat 84 = .ok (.iconst 1, 1) := by decide +kernel
theorem dX12_repeat_85 : decode cX12_repeat 85 = .ok (.if_icmp .ne 7, 3) := by decide +kernel
theorem dX12_repeat_88 : decode cX12_repeat 88 = .ok (.iload_n 3, 1) := by decide +kernel
theorem dX12_repeat_89 : decode cX12_repeat 89 = .ok (.goto 17, 3) := by decide +kernel
theorem dX12_repeat_92 : decode cX12_repeat 92 = .ok (.iload_n 2, 1) := by decide +kernel
theorem dX12_repeat_93 : decode cX12_repeat 93 = .ok (.ifCond .ne 7, 3) := by decide +kernel
theorem dX12_repeat_96 : decode cX12_repeat 96 = .ok (.iconst 0, 1) := by decide +kernel
theorem dX12_repeat_97 : decode cX12_repeat 97 = .ok (.goto 9, 3) := by decide +kernel
theorem dX12_repeat_100 : decode cX12_repeat 100 = .ok (.aload_n 0, 1) := by decide +kernel
theorem dX12_repeat_101 : decode cX12_repeat 101 = .ok (.iload_n 3, 1) := by decide +kernel
theorem dX12_repeat_102 : decode cX12_repeat 102 = .ok (.iload_n 2, 1) := by decide +kernel
theorem dX12_repeat_103 : decode cX12_repeat 103 = .ok (.invokevirtual 319, 3) := by decide +kernel
theorem dX12_repeat_106 : decode cX12_repeat 106 = .ok (.ireturn, 1) := by decide +kernel
theorem dX12_uniqueOf_0 : decode cX12_uniqueOf 0 = .ok (.iload_n 1, 1) := by decide +kernel
theorem dX12_uniqueOf_1 : decode cX12_uniqueOf 1 = .ok (.aload_n 0, 1) := by decide +kernel
theorem dX12_uniqueOf_2 : decode cX12_uniqueOf 2 = .ok (.getfield 20, 3) := by decide +kernel
theorem dX12_uniqueOf_5 : decode cX12_uniqueOf 5 = .ok (.if_icmp .ne 5, 3) := by decide +kernel
theorem dX12_uniqueOf_8 : decode cX12_uniqueOf 8 = .ok (.iconst (-1), 1) := by decide +kernel
theorem dX12_uniqueOf_9 : decode cX12_uniqueOf 9 = .ok (.ireturn, 1) := by decide +kernel
theorem dX12_uniqueOf_10 : decode cX12_uniqueOf 10 = .ok (.aload_n 0, 1) := by decide +kernel
theorem dX12_uniqueOf_11 : decode cX12_uniqueOf 11 = .ok (.iload_n 1, 1) := by decide +kernel
theorem dX12_uniqueOf_12 : decode cX12_uniqueOf 12 = .ok (.invokevirtual 310, 3) := by decide +kernel
theorem dX12_uniqueOf_15 : decode cX12_uniqueOf 15 = .ok (.iconst 1, 1) := by decide +kernel
theorem dX12_uniqueOf_16 : decode cX12_uniqueOf 16 = .ok (.iadd, 1) := by decide +kernel
theorem dX12_uniqueOf_17 : decode cX12_uniqueOf 17 = .ok (.istore_n 2, 1) := by decide +kernel
theorem dX12_uniqueOf_18 : decode cX12_uniqueOf 18 = .ok (.iload_n 2, 1) := by decide +kernel
theorem dX12_uniqueOf_19 : decode cX12_uniqueOf 19 = .ok (.aload_n 0, 1) := by decide +kernel
theorem dX12_uniqueOf_20 : decode cX12_uniqueOf 20 = .ok (.iload_n 1, 1) := by decide +kernel
theorem dX12_uniqueOf_21 : decode cX12_uniqueOf 21 = .ok (.invokevirtual 328, 3) := by decide +kernel
theorem dX12_uniqueOf_24 : decode cX12_uniqueOf 24 = .ok (.if_icmp .gt 7, 3) := by decide +kernel
theorem dX12_uniqueOf_27 : decode cX12_uniqueOf 27 = .ok (.iload_n 2, 1) := by decide +kernel
theorem dX12_uniqueOf_28 : decode cX12_uniqueOf 28 = .ok (.goto 4, 3) := by decide +kernel
theorem dX12_uniqueOf_31 : decode cX12_uniqueOf 31 = .ok (.iconst (-1), 1) := by decide +kernel
theorem dX12_uniqueOf_32 : decode cX12_uniqueOf 32 = .ok (.ireturn, 1) := by decide +kernel
theorem dX12_unique_0 : decode cX12_unique 0 = .ok (.aload_n 0, 1) := by decide +kernel
theorem dX12_unique_1 : decode cX12_unique 1 = .ok (.iconst 0, 1) := by decide +kernel
theorem dX12_unique_2 : decode cX12_unique 2 = .ok (.putfield 105, 3) := by decide +kernel
theorem dX12_unique_5 : decode cX12_unique 5 = .ok (.aload_n 0, 1) := by decide +kernel
theorem dX12_unique_6 : decode cX12_unique 6 = .ok (.aload_n 0, 1) := by decide +kernel
theorem dX12_unique_7 : decode cX12_unique 7 = .ok (.iload_n 1, 1) := by decide +kernel
theorem dX12_unique_8 : decode cX12_unique 8 = .ok (.invokevirtual 220, 3) := by decide +kernel
theorem dX12_unique_11 : decode cX12_unique 11 = .ok (.ifCond .ne 7, 3) := by decide +kernel
theorem dX12_unique_14 : decode cX12_unique 14 = .ok (.iconst 1, 1) := by decide +kernel
theorem dX12_unique_15 : decode cX12_unique 15 = .ok (.goto 4, 3) := by decide +kernel
theorem dX12_unique_18 : decode cX12_unique 18 = .ok (.iconst 0, 1) := by decide +kernel
theorem dX12_unique_19 : decode cX12_unique 19 = .ok (.iconst 1, 1) := by decide +kernel
theorem dX12_unique_20 : decode cX12_unique 20 = .ok (.iconst 0, 1) := by decide +kernel
theorem dX12_unique_21 : decode cX12_unique 21 = .ok (.invokevirtual 122, 3) := by decide +kernel
theorem dX12_unique_24 : decode cX12_unique 24 = .ok (.ifCond .eq 5, 3) := by decide +kernel
theorem dX12_unique_27 : decode cX12_unique 27 = .ok (.iconst 0, 1) := by decide +kernel
theorem dX12_unique_28 : decode cX12_unique 28 = .ok (.ireturn, 1) := by decide +kernel
theorem dX12_unique_29 : decode cX12_unique 29 = .ok (.aload_n 0, 1) := by decide +kernel
theorem dX12_unique_30 : decode cX12_unique 30 = .ok (.iload_n 1, 1) := by decide +kernel
theorem dX12_unique_31 : decode cX12_unique 31 = .ok (.invokevirtual 331, 3) := by decide +kernel
theorem dX12_unique_34 : decode cX12_unique 34 = .ok (.ireturn, 1) := by decide +kernel
theorem dX12_around_0 : decode cX12_around 0 = .ok (.aload_n 0, 1) := by decide +kernel
theorem dX12_around_1 : decode cX12_around 1 = .ok (.iconst 0, 1) := by decide +kernel
theorem dX12_around_2 : decode cX12_around 2 = .ok (.putfield 105, 3) := by decide +kernel
theorem dX12_around_5 : decode cX12_around 5 = .ok (.aload_n 0, 1) := by decide +kernel
theorem dX12_around_6 : decode cX12_around 6 = .ok (.aload_n 0, 1) := by decide +kernel
theorem dX12_around_7 : decode cX12_around 7 = .ok (.iload_n 1, 1) := by decide +kernel
theorem dX12_around_8 : decode cX12_around 8 = .ok (.invokevirtual 220, 3) := by decide +kernel
theorem dX12_around_11 : decode cX12_around 11 = .ok (.ifCond .ne 7, 3) := by decide +kernel
theorem dX12_around_14 : decode cX12_around 14 = .ok (.iconst 1, 1) := by decide +kernel
theorem dX12_around_15 : decode cX12_around 15 = .ok (.goto 4, 3) := by decide +kernel
theorem dX12_around_18 : decode cX12_around 18 = .ok (.iconst 0, 1) := by decide +kernel
theorem dX12_around_19 : decode cX12_around 19 = .ok (.iconst 1, 1) := by decide +kernel
theorem dX12_around_20 : decode cX12_around 20 = .ok (.iconst 0, 1) := by decide +kernel
theorem dX12_around_21 : decode cX12_around 21 = .ok (.invokevirtual 122, 3) := by decide +kernel
theorem dX12_around_24 : decode cX12_around 24 = .ok (.ifCond .ne 26, 3) := by decide +kernel
theorem dX12_around_27 : decode cX12_around 27 = .ok (.aload_n 0, 1) := by decide +kernel
theorem dX12_around_28 : decode cX12_around 28 = .ok (.iload_n 2, 1) := by decide +kernel
theorem dX12_around_29 : decode cX12_around 29 = .ok (.iconst 0, 1) := by decide +kernel
theorem dX12_around_30 : decode cX12_around 30 = .ok (.iconst 1, 1) := by decide +kernel
theorem dX12_around_31 : decode cX12_around 31 = .ok (.invokestatic 108, 3) := by decide +kernel
theorem dX12_around_34 : decode cX12_around 34 = .ok (.ifCond .ne 7, 3) := by decide +kernel
theorem dX12_around_37 : decode cX12_around 37 = .ok (.iconst 1, 1) := by decide +kernel
theorem dX12_around_38 : decode cX12_around 38 = .ok (.goto 4, 3) := by decide +kernel
theorem dX12_around_41 : decode cX12_around 41 = .ok (.iconst 0, 1) := by decide +kernel
theorem dX12_around_42 : decode cX12_around 42 = .ok (.iconst 2, 1) := by decide +kernel
theorem dX12_around_43 : decode cX12_around 43 = .ok (.iconst 1, 1) := by decide +kernel
theorem dX12_around_44 : decode cX12_around 44 = .ok (.invokevirtual 122, 3) := by decide +kernel
theorem dX12_around_47 : decode cX12_around 47 = .ok (.ifCond .eq 5, 3) := by decide +kernel
theorem dX12_around_50 : decode cX12_around 50 = .ok (.iconst 0, 1) := by decide +kernel
theorem dX12_around_51 : decode cX12_around 51 = .ok (.ireturn, 1) := by decide +kernel
theorem dX12_around_52 : decode cX12_around 52 = .ok (.iconst (-1), 1) := by decide +kernel
theorem dX12_around_53 : decode cX12_around 53 = .ok (.istore_n 3, 1) := by decide +kernel
theorem dX12_around_54 : decode cX12_around 54 = .ok (.iconst (-1), 1) := by decide +kernel
theorem dX12_around_55 : decode cX12_around 55 = .ok (.istore 4, 2) := by decide +kernel
theorem dX12_around_57 : decode cX12_around 57 = .ok (.iconst 0, 1) := by decide +kernel
theorem dX12_around_58 : decode cX12_around 58 = .ok (.istore 5, 2) := by decide +kernel
theorem dX12_around_60 : decode cX12_around 60 = .ok (.iload 5, 2) := by decide +kernel
theorem dX12_around_62 : decode cX12_around 62 = .ok (.iload_n 1, 1) := by decide +kernel
theorem dX12_around_63 : decode cX12_around 63 = .ok (.if_icmp .gt 95, 3) := by decide +kernel
theorem dX12_around_66 : decode cX12_around 66 = .ok (.iload_n 1, 1) := by decide +kernel
theorem dX12_around_67 : decode cX12_around 67 = .ok (.aload_n 0, 1) := by decide +kernel
theorem dX12_around_68 : decode cX12_around 68 = .ok (.getfield 20, 3) := by decide +kernel
theorem dX12_around_71 : decode cX12_around 71 = .ok (.if_icmp .ge 87, 3) := by decide +kernel
theorem dX12_around_74 : decode cX12_around 74 = .ok (.aload_n 0, 1) := by decide +kernel
theorem dX12_around_75 : decode cX12_around 75 = .ok (.getfield 28, 3) := by decide +kernel
theorem dX12_around_78 : decode cX12_around 78 = .ok (.iconst 0, 1) := by decide +kernel
theorem dX12_around_79 : decode cX12_around 79 = .ok (.aaload, 1) := by decide +kernel
theorem dX12_around_80 : decode cX12_around 80 = .ok (.iload_n 1, 1) := by decide +kernel
theorem dX12_around_81 : decode cX12_around 81 = .ok (.iaload, 1) := by decide +kernel
theorem dX12_around_82 : decode cX12_around 82 = .ok (.iconst 1, 1) := by decide +kernel
theorem dX12_around_83 : decode cX12_around 83 = .ok (.if_icmp .eq 75, 3) := by decide +kernel
theorem dX12_around_86 : decode cX12_around 86 = .ok (.aload_n 0, 1) := by decide +kernel
theorem dX12_around_87 : decode cX12_around 87 = .ok (.iload 5, 2) := by decide +kernel
theorem dX12_around_89 : decode cX12_around 89 = .ok (.invokevirtual 331, 3) := by decide +kernel
theorem dX12_around_92 : decode cX12_around 92 = .ok (.istore 6, 2) := by decide +kernel
theorem dX12_around_94 : decode cX12_around 94 = .ok (.iload 6, 2) := by decide +kernel
theorem dX12_around_96 : decode cX12_around 96 = .ok (.iconst (-1), 1) := by decide +kernel
theorem dX12_around_97 : decode cX12_around 97 = .ok (.if_icmp .eq 55, 3) := by decide +kernel
theorem dX12_around_100 : decode cX12_around 100 = .ok (.aload_n 0, 1) := by decide +kernel
theorem dX12_around_101 : decode cX12_around 101 = .ok (.iload 5, 2) := by decide +kernel
theorem dX12_around_103 : decode cX12_around 103 = .ok (.invokevirtual 328, 3) := by decide +kernel
theorem dX12_around_106 : decode cX12_around 106 = .ok (.iload_n 1, 1) := by decide +kernel
theorem dX12_around_107 : decode cX12_around 107 = .ok (.iload 5, 2) := by decide +kernel
theorem dX12_around_109 : decode cX12_around 109 = .ok (.isub, 1) := by decide +kernel
theorem dX12_around_110 : decode cX12_around 110 = .ok (.iconst 1, 1) := by decide +kernel
theorem dX12_around_111 : decode cX12_around 111 = .ok (.iadd, 1) := by decide +kernel
theorem dX12_around_112 : decode cX12_around 112 = .ok (.if_icmp .ge 6, 3) := by decide +kernel
theorem dX12_around_115 : decode cX12_around 115 = .ok (.goto 37, 3) := by decide +kernel
theorem dX12_around_118 : decode cX12_around 118 = .ok (.iload 6, 2) := by decide +kernel
theorem dX12_around_120 : decode cX12_around 120 = .ok (.iload_n 1, 1) := by decide +kernel
theorem dX12_around_121 : decode cX12_around 121 = .ok (.iload 5, 2) := by decide +kernel
theorem dX12_around_123 : decode cX12_around 123 = .ok (.isub, 1) := by decide +kernel
theorem dX12_around_124 : decode cX12_around 124 = .ok (.iconst 1, 1) := by decide +kernel
theorem dX12_around_125 : decode cX12_around 125 = .ok (.iadd, 1) := by decide +kernel
theorem dX12_around_126 : decode cX12_around 126 = .ok (.invokestatic 202, 3) := by decide +kernel
theorem dX12_around_129 : decode cX12_around 129 = .ok (.istore 6, 2) := by decide +kernel
theorem dX12_around_131 : decode cX12_around 131 = .ok (.iload_n 3, 1) := by decide +kernel
theorem dX12_around_132 : decode cX12_around 132 = .ok (.iconst (-1), 1) := by decide +kernel
theorem dX12_around_133 : decode cX12_around 133 = .ok (.if_icmp .eq 12, 3) := by decide +kernel
theorem dX12_around_136 : decode cX12_around 136 = .ok (.iload 6, 2) := by decide +kernel
theorem dX12_around_138 : decode cX12_around 138 = .ok (.iload_n 3, 1) := by decide +kernel
theorem dX12_around_139 : decode cX12_around 139 = .ok (.if_icmp .lt 6, 3) := by decide +kernel
theorem dX12_around_142 : decode cX12_around 142 = .ok (.goto 10, 3) := by decide +kernel
theorem dX12_around_145 : decode cX12_around 145 = .ok (.iload 6, 2) := by decide +kernel
theorem dX12_around_147 : decode cX12_around 147 = .ok (.istore_n 3, 1) := by decide +kernel
theorem dX12_around_148 : decode cX12_around 148 = .ok (.iload 5, 2) := by decide +kernel
theorem dX12_around_150 : decode cX12_around 150 = .ok (.istore 4, 2) := by decide +kernel
theorem dX12_around_152 : decode cX12_around 152 = .ok (.iinc 5 1, 3) := by decide +kernel
theorem dX12_around_155 : decode cX12_around 155 = .ok (.goto (-95), 3) := by decide +kernel
theorem dX12_around_158 : decode cX12_around 158 = .ok (.iload_n 2, 1) := by decide +kernel
theorem dX12_around_159 : decode cX12_around 159 = .ok (.ifCond .ne 7, 3) := by decide +kernel
theorem dX12_around_162 : decode cX12_around 162 = .ok (.iload_n 3, 1) := by decide +kernel
theorem dX12_around_163 : decode cX12_around 163 = .ok (.goto 5, 3) := by decide +kernel
theorem dX12_around_166 : decode cX12_around 166 = .ok (.iload 4, 2) := by decide +kernel
theorem dX12_around_168 : decode cX12_around 168 = .ok (.ireturn, 1) := by decide +kernel
theorem dX12_commonOf_0 : decode cX12_commonOf 0 = .ok (.aload_n 0, 1) := by decide +kernel
theorem dX12_commonOf_1 : decode cX12_commonOf 1 = .ok (.iload_n 1, 1) := by decide +kernel
theorem dX12_commonOf_2 : decode cX12_commonOf 2 = .ok (.invokevirtual 328, 3) := by decide +kernel
theorem dX12_commonOf_5 : decode cX12_commonOf 5 = .ok (.istore_n 2, 1) := by decide +kernel
theorem dX12_commonOf_6 : decode cX12_commonOf 6 = .ok (.iconst 0, 1) := by decide +kernel
theorem dX12_commonOf_7 : decode cX12_commonOf 7 = .ok (.istore_n 3, 1) := by decide +kernel
theorem dX12_commonOf_8 : decode cX12_commonOf 8 = .ok (.iload_n 3, 1) := by decide +kernel
theorem dX12_commonOf_9 : decode cX12_commonOf 9 = .ok (.aload_n 0, 1) := by decide +kernel
theorem dX12_commonOf_10 : decode cX12_commonOf 10 = .ok (.invokevirtual 205, 3) := by decide +kernel
theorem dX12_commonOf_13 : decode cX12_commonOf 13 = .ok (.if_icmp .ge 82, 3) := by decide +kernel
theorem dX12_commonOf_16 : decode cX12_commonOf 16 = .ok (.iconst 0, 1) := by decide +kernel
theorem dX12_commonOf_17 : decode cX12_commonOf 17 = .ok (.istore 4, 2) := by decide +kernel
theorem dX12_commonOf_19 : decode cX12_commonOf 19 = .ok (.aload_n 0, 1) := by decide +kernel
theorem dX12_commonOf_20 : decode cX12_commonOf 20 = .ok (.iload_n 3, 1) := by decide +kernel
theorem dX12_commonOf_21 : decode cX12_commonOf 21 = .ok (.invokevirtual 245, 3) := by decide +kernel
theorem dX12_commonOf_24 : decode cX12_commonOf 24 = .ok (.istore 5, 2) := by decide +kernel
theorem dX12_commonOf_26 : decode cX12_commonOf 26 = .ok (.iload 5, 2) := by decide +kernel
theorem dX12_commonOf_28 : decode cX12_commonOf 28 = .ok (.aload_n 0, 1) := by decide +kernel
theorem dX12_commonOf_29 : decode cX12_commonOf 29 = .ok (.getfield 20, 3) := by decide +kernel
theorem dX12_commonOf_32 : decode cX12_commonOf 32 = .ok (.if_icmp .ge 50, 3) := by decide +kernel
theorem dX12_commonOf_35 : decode cX12_commonOf 35 = .ok (.aload_n 0, 1) := by decide +kernel
theorem dX12_commonOf_36 : decode cX12_commonOf 36 = .ok (.getfield 28, 3) := by decide +kernel
theorem dX12_commonOf_39 : decode cX12_commonOf 39 = .ok (.iconst 0, 1) := by decide +kernel
theorem dX12_commonOf_40 : decode cX12_commonOf 40 = .ok (.aaload, 1) := by decide +kernel
theorem dX12_commonOf_41 : decode cX12_commonOf 41 = .ok (.iload 5, 2) := by decide +kernel
theorem dX12_commonOf_43 : decode cX12_commonOf 43 = .ok (.iaload, 1) := by decide +kernel
theorem dX12_commonOf_44 : decode cX12_commonOf 44 = .ok (.iconst 1, 1) := by decide +kernel
theorem dX12_commonOf_45 : decode cX12_commonOf 45 = .ok (.if_icmp .eq 37, 3) := by decide +kernel
theorem dX12_commonOf_48 : decode cX12_commonOf 48 = .ok (.iload 4, 2) := by decide +kernel
theorem dX12_commonOf_50 : decode cX12_commonOf 50 = .ok (.iload_n 1, 1) := by decide +kernel
theorem dX12_commonOf_51 : decode cX12_commonOf 51 = .ok (.iload 5, 2) := by decide +kernel
theorem dX12_commonOf_53 : decode cX12_commonOf 53 = .ok (.if_icmp .ne 11, 3) := by decide +kernel
theorem dX12_commonOf_56 : decode cX12_commonOf 56 = .ok (.aload_n 0, 1) := by decide +kernel
theorem dX12_commonOf_57 : decode cX12_commonOf 57 = .ok (.iload_n 1, 1) := by decide +kernel
theorem dX12_commonOf_58 : decode cX12_commonOf 58 = .ok (.invokevirtual 328, 3) := by decide +kernel
theorem dX12_commonOf_61 : decode cX12_commonOf 61 = .ok (.goto 10, 3) := by decide +kernel
theorem dX12_commonOf_64 : decode cX12_commonOf 64 = .ok (.aload_n 0, 1) := by decide +kernel
theorem dX12_commonOf_65 : decode cX12_commonOf 65 = .ok (.iload_n 1, 1) := by decide +kernel
theorem dX12_commonOf_66 : decode cX12_commonOf 66 = .ok (.iload 5, 2) := by decide +kernel
theorem dX12_commonOf_68 : decode cX12_commonOf 68 = .ok (.invokevirtual 304, 3) := by decide +kernel
theorem dX12_commonOf_71 : decode cX12_commonOf 71 = .ok (.invokestatic 202, 3) := by decide +kernel
theorem dX12_commonOf_74 : decode cX12_commonOf 74 = .ok (.istore 4, 2) := by decide +kernel
theorem dX12_commonOf_76 : decode cX12_commonOf 76 = .ok (.iinc 5 1, 3) := by decide +kernel
theorem dX12_commonOf_79 : decode cX12_commonOf 79 = .ok (.goto (-53), 3) := by decide +kernel
theorem dX12_commonOf_82 : decode cX12_commonOf 82 = .ok (.iload_n 2, 1) := by decide +kernel
theorem dX12_commonOf_83 : decode cX12_commonOf 83 = .ok (.iload 4, 2) := by decide +kernel
theorem dX12_commonOf_85 : decode cX12_commonOf 85 = .ok (.invokestatic 251, 3) := by decide +kernel
theorem dX12_commonOf_88 : decode cX12_commonOf 88 = .ok (.istore_n 2, 1) := by decide +kernel
theorem dX12_commonOf_89 : decode cX12_commonOf 89 = .ok (.iinc 3 1, 3) := by decide +kernel
theorem dX12_commonOf_92 : decode cX12_commonOf 92 = .ok (.goto (-84), 3) := by decide +kernel
theorem dX12_commonOf_95 : decode cX12_commonOf 95 = .ok (.iload_n 2, 1) := by decide +kernel
theorem dX12_commonOf_96 : decode cX12_commonOf 96 = .ok (.ireturn, 1) := by decide +kernel
theorem dX12_common_0 : decode cX12_common 0 = .ok (.aload_n 0, 1) := by decide +kernel
theorem dX12_common_1 : decode cX12_common 1 = .ok (.iconst 0, 1) := by decide +kernel
theorem dX12_common_2 : decode cX12_common 2 = .ok (.putfield 105, 3) := by decide +kernel
theorem dX12_common_5 : decode cX12_common 5 = .ok (.aload_n 0, 1) := by decide +kernel
theorem dX12_common_6 : decode cX12_common 6 = .ok (.iload_n 1, 1) := by decide +kernel
theorem dX12_common_7 : decode cX12_common 7 = .ok (.iconst 0, 1) := by decide +kernel
theorem dX12_common_8 : decode cX12_common 8 = .ok (.iconst 1, 1) := by decide +kernel
theorem dX12_common_9 : decode cX12_common 9 = .ok (.invokestatic 108, 3) := by decide +kernel
theorem dX12_common_12 : decode cX12_common 12 = .ok (.ifCond .ne 7, 3) := by decide +kernel
theorem dX12_common_15 : decode cX12_common 15 = .ok (.iconst 1, 1) := by decide +kernel
theorem dX12_common_16 : decode cX12_common 16 = .ok (.goto 4, 3) := by decide +kernel
theorem dX12_common_19 : decode cX12_common 19 = .ok (.iconst 0, 1) := by decide +kernel
theorem dX12_common_20 : decode cX12_common 20 = .ok (.iconst 1, 1) := by decide +kernel
theorem dX12_common_21 : decode cX12_common 21 = .ok (.iconst 1, 1) := by decide +kernel
theorem dX12_common_22 : decode cX12_common 22 = .ok (.invokevirtual 122, 3) := by decide +kernel
theorem dX12_common_25 : decode cX12_common 25 = .ok (.ifCond .eq 5, 3) := by decide +kernel
theorem dX12_common_28 : decode cX12_common 28 = .ok (.iconst 0, 1) := by decide +kernel
theorem dX12_common_29 : decode cX12_common 29 = .ok (.ireturn, 1) := by decide +kernel
theorem dX12_common_30 : decode cX12_common 30 = .ok (.iconst 0, 1) := by decide +kernel
theorem dX12_common_31 : decode cX12_common 31 = .ok (.istore_n 2, 1) := by decide +kernel
theorem dX12_common_32 : decode cX12_common 32 = .ok (.iconst (-1), 1) := by decide +kernel
theorem dX12_common_33 : decode cX12_common 33 = .ok (.istore_n 3, 1) := by decide +kernel
theorem dX12_common_34 : decode cX12_common 34 = .ok (.iconst 0, 1) := by decide +kernel
theorem dX12_common_35 : decode cX12_common 35 = .ok (.istore 4, 2) := by decide +kernel
theorem dX12_common_37 : decode cX12_common 37 = .ok (.iload 4, 2) := by decide +kernel
theorem dX12_common_39 : decode cX12_common 39 = .ok (.aload_n 0, 1) := by decide +kernel
theorem dX12_common_40 : decode cX12_common 40 = .ok (.getfield 20, 3) := by decide +kernel
theorem dX12_common_43 : decode cX12_common 43 = .ok (.if_icmp .ge 32, 3) := by decide +kernel
theorem dX12_common_46 : decode cX12_common 46 = .ok (.aload_n 0, 1) := by decide +kernel
theorem dX12_common_47 : decode cX12_common 47 = .ok (.iload 4, 2) := by decide +kernel
theorem dX12_common_49 : decode cX12_common 49 = .ok (.invokevirtual 334, 3) := by decide +kernel
theorem dX12_common_52 : decode cX12_common 52 = .ok (.istore 5, 2) := by decide +kernel
theorem dX12_common_54 : decode cX12_common 54 = .ok (.iload 5, 2) := by decide +kernel
theorem dX12_common_56 : decode cX12_common 56 = .ok (.iload_n 2, 1) := by decide +kernel
theorem dX12_common_57 : decode cX12_common 57 = .ok (.if_icmp .gt 6, 3) := by decide +kernel
theorem dX12_common_60 : decode cX12_common 60 = .ok (.goto 9, 3) := by decide +kernel
theorem dX12_common_63 : decode cX12_common 63 = .ok (.iload 5, 2) := by decide +kernel
theorem dX12_common_65 : decode cX12_common 65 = .ok (.istore_n 2, 1) := by decide +kernel
theorem dX12_common_66 : decode cX12_common 66 = .ok (.iload 4, 2) := by decide +kernel
theorem dX12_common_68 : decode cX12_common 68 = .ok (.istore_n 3, 1) := by decide +kernel
theorem dX12_common_69 : decode cX12_common 69 = .ok (.iinc 4 1, 3) := by decide +kernel
theorem dX12_common_72 : decode cX12_common 72 = .ok (.goto (-35), 3) := by decide +kernel
theorem dX12_common_75 : decode cX12_common 75 = .ok (.iload_n 1, 1) := by decide +kernel
theorem dX12_common_76 : decode cX12_common 76 = .ok (.ifCond .ne 7, 3) := by decide +kernel
theorem dX12_common_79 : decode cX12_common 79 = .ok (.iload_n 2, 1) := by decide +kernel
theorem dX12_common_80 : decode cX12_common 80 = .ok (.goto 4, 3) := by decide +kernel
theorem dX12_common_83 : decode cX12_common 83 = .ok (.iload_n 3, 1) := by decide +kernel
theorem dX12_common_84 : decode cX12_common 84 = .ok (.ireturn, 1) := by decide +kernel
theorem dX12_document_0 : decode cX12_document 0 = .ok (.aload_n 0, 1) := by decide +kernel
theorem dX12_document_1 : decode cX12_document 1 = .ok (.iconst 0, 1) := by decide +kernel
theorem dX12_document_2 : decode cX12_document 2 = .ok (.putfield 105, 3) := by decide +kernel
theorem dX12_document_5 : decode cX12_document 5 = .ok (.aload_n 0, 1) := by decide +kernel
theorem dX12_document_6 : decode cX12_document 6 = .ok (.iload_n 1, 1) := by decide +kernel
theorem dX12_document_7 : decode cX12_document 7 = .ok (.iconst 0, 1) := by decide +kernel
theorem dX12_document_8 : decode cX12_document 8 = .ok (.aload_n 0, 1) := by decide +kernel
theorem dX12_document_9 : decode cX12_document 9 = .ok (.invokevirtual 205, 3) := by decide +kernel
theorem dX12_document_12 : decode cX12_document 12 = .ok (.iconst 1, 1) := by decide +kernel
theorem dX12_document_13 : decode cX12_document 13 = .ok (.isub, 1) := by decide +kernel
theorem dX12_document_14 : decode cX12_document 14 = .ok (.invokestatic 108, 3) := by decide +kernel
theorem dX12_document_17 : decode cX12_document 17 = .ok (.ifCond .ne 7, 3) := by decide +kernel
theorem dX12_document_20 : decode cX12_document 20 = .ok (.iconst 1, 1) := by decide +kernel
theorem dX12_document_21 : decode cX12_document 21 = .ok (.goto 4, 3) := by decide +kernel
theorem dX12_document_24 : decode cX12_document 24 = .ok (.iconst 0, 1) := by decide +kernel
theorem dX12_document_25 : decode cX12_document 25 = .ok (.iconst 1, 1) := by decide +kernel
theorem dX12_document_26 : decode cX12_document 26 = .ok (.iconst 0, 1) := by decide +kernel
theorem dX12_document_27 : decode cX12_document 27 = .ok (.invokevirtual 122, 3) := by decide +kernel
theorem dX12_document_30 : decode cX12_document 30 = .ok (.ifCond .ne 26, 3) := by decide +kernel
theorem dX12_document_33 : decode cX12_document 33 = .ok (.aload_n 0, 1) := by decide +kernel
theorem dX12_document_34 : decode cX12_document 34 = .ok (.iload_n 2, 1) := by decide +kernel
theorem dX12_document_35 : decode cX12_document 35 = .ok (.iconst 0, 1) := by decide +kernel
theorem dX12_document_36 : decode cX12_document 36 = .ok (.iconst 2, 1) := by decide +kernel
theorem dX12_document_37 : decode cX12_document 37 = .ok (.invokestatic 108, 3) := by decide +kernel
theorem dX12_document_40 : decode cX12_document 40 = .ok (.ifCond .ne 7, 3) := by decide +kernel
theorem dX12_document_43 : decode cX12_document 43 = .ok (.iconst 1, 1) := by decide +kernel
theorem dX12_document_44 : decode cX12_document 44 = .ok (.goto 4, 3) := by decide +kernel
theorem dX12_document_47 : decode cX12_document 47 = .ok (.iconst 0, 1) := by decide +kernel
theorem dX12_document_48 : decode cX12_document 48 = .ok (.iconst 2, 1) := by decide +kernel
theorem dX12_document_49 : decode cX12_document 49 = .ok (.iconst 1, 1) := by decide +kernel
theorem dX12_document_50 : decode cX12_document 50 = .ok (.invokevirtual 122, 3) := by decide +kernel
theorem dX12_document_53 : decode cX12_document 53 = .ok (.ifCond .eq 5, 3) := by decide +kernel
theorem dX12_document_56 : decode cX12_document 56 = .ok (.iconst 0, 1) := by decide +kernel
theorem dX12_document_57 : decode cX12_document 57 = .ok (.ireturn, 1) := by decide +kernel
theorem dX12_document_58 : decode cX12_document 58 = .ok (.iload_n 2, 1) := by decide +kernel
theorem dX12_document_59 : decode cX12_document 59 = .ok (.ifCond .ne 11, 3) := by decide +kernel
theorem dX12_document_62 : decode cX12_document 62 = .ok (.aload_n 0, 1) := by decide +kernel
theorem dX12_document_63 : decode cX12_document 63 = .ok (.iload_n 1, 1) := by decide +kernel
theorem dX12_document_64 : decode cX12_document 64 = .ok (.invokevirtual 245, 3) := by decide +kernel
theorem dX12_document_67 : decode cX12_document 67 = .ok (.goto 25, 3) := by decide +kernel
theorem dX12_document_70 : decode cX12_document 70 = .ok (.iload_n 2, 1) := by decide +kernel
theorem dX12_document_71 : decode cX12_document 71 = .ok (.iconst 1, 1) := by decide +kernel
theorem dX12_document_72 : decode cX12_document 72 = .ok (.if_icmp .ne 15, 3) := by decide +kernel
theorem dX12_document_75 : decode cX12_document 75 = .ok (.aload_n 0, 1) := by decide +kernel
theorem dX12_document_76 : decode cX12_document 76 = .ok (.aload_n 0, 1) := by decide +kernel
theorem dX12_document_77 : decode cX12_document 77 = .ok (.iload_n 1, 1) := by decide +kernel
theorem dX12_document_78 : decode cX12_document 78 = .ok (.invokevirtual 245, 3) := by decide +kernel
theorem dX12_document_81 : decode cX12_document 81 = .ok (.invokevirtual 328, 3) := by decide +kernel
theorem dX12_document_84 : decode cX12_document 84 = .ok (.goto 8, 3) := by decide +kernel
theorem dX12_document_87 : decode cX12_document 87 = .ok (.aload_n 0, 1) := by decide +kernel
theorem dX12_document_88 : decode cX12_document 88 = .ok (.iload_n 1, 1) := by decide +kernel
theorem dX12_document_89 : decode cX12_document 89 = .ok (.invokevirtual 248, 3) := by decide +kernel
theorem dX12_document_92 : decode cX12_document 92 = .ok (.ireturn, 1) := by decide +kernel
theorem dX12_print_0 : decode cX12_print 0 = .ok (.aload_n 0, 1) := by decide +kernel
theorem dX12_print_1 : decode cX12_print 1 = .ok (.iconst 0, 1) := by decide +kernel
theorem dX12_print_2 : decode cX12_print 2 = .ok (.putfield 105, 3) := by decide +kernel
theorem dX12_print_5 : decode cX12_print 5 = .ok (.aload_n 0, 1) := by decide +kernel
theorem dX12_print_6 : decode cX12_print 6 = .ok (.iload_n 1, 1) := by decide +kernel
theorem dX12_print_7 : decode cX12_print 7 = .ok (.iconst 0, 1) := by decide +kernel
theorem dX12_print_8 : decode cX12_print 8 = .ok (.iconst 1, 1) := by decide +kernel
theorem dX12_print_9 : decode cX12_print 9 = .ok (.invokestatic 108, 3) := by decide +kernel
theorem dX12_print_12 : decode cX12_print 12 = .ok (.ifCond .ne 7, 3) := by decide +kernel
theorem dX12_print_15 : decode cX12_print 15 = .ok (.iconst 1, 1) := by decide +kernel
theorem dX12_print_16 : decode cX12_print 16 = .ok (.goto 4, 3) := by decide +kernel
theorem dX12_print_19 : decode cX12_print 19 = .ok (.iconst 0, 1) := by decide +kernel
theorem dX12_print_20 : decode cX12_print 20 = .ok (.iconst 1, 1) := by decide +kernel
theorem dX12_print_21 : decode cX12_print 21 = .ok (.iconst 0, 1) := by decide +kernel
theorem dX12_print_22 : decode cX12_print 22 = .ok (.invokevirtual 122, 3) := by decide +kernel
theorem dX12_print_25 : decode cX12_print 25 = .ok (.ifCond .eq 5, 3) := by decide +kernel
theorem dX12_print_28 : decode cX12_print 28 = .ok (.lconst 0, 1) := by decide +kernel
theorem dX12_print_29 : decode cX12_print 29 = .ok (.lreturn, 1) := by decide +kernel
theorem dX12_print_30 : decode cX12_print 30 = .ok (.lconst 0, 1) := by decide +kernel
theorem dX12_print_31 : decode cX12_print 31 = .ok (.lstore_n 2, 1) := by decide +kernel
theorem dX12_print_32 : decode cX12_print 32 = .ok (.iconst 0, 1) := by decide +kernel
theorem dX12_print_33 : decode cX12_print 33 = .ok (.istore 4, 2) := by decide +kernel
theorem dX12_print_35 : decode cX12_print 35 = .ok (.iload 4, 2) := by decide +kernel
theorem dX12_print_37 : decode cX12_print 37 = .ok (.aload_n 0, 1) := by decide +kernel
theorem dX12_print_38 : decode cX12_print 38 = .ok (.getfield 20, 3) := by decide +kernel
theorem dX12_print_41 : decode cX12_print 41 = .ok (.if_icmp .gt 27, 3) := by decide +kernel
theorem dX12_print_44 : decode cX12_print 44 = .ok (.ldc2_w 337, 3) := by decide +kernel
theorem dX12_print_47 : decode cX12_print 47 = .ok (.lload_n 2, 1) := by decide +kernel
theorem dX12_print_48 : decode cX12_print 48 = .ok (.lmul, 1) := by decide +kernel
theorem dX12_print_49 : decode cX12_print 49 = .ok (.aload_n 0, 1) := by decide +kernel
theorem dX12_print_50 : decode cX12_print 50 = .ok (.iload_n 1, 1) := by decide +kernel
theorem dX12_print_51 : decode cX12_print 51 = .ok (.iload 4, 2) := by decide +kernel
theorem dX12_print_53 : decode cX12_print 53 = .ok (.invokevirtual 230, 3) := by decide +kernel
theorem dX12_print_56 : decode cX12_print 56 = .ok (.invokestatic 223, 3) := by decide +kernel
theorem dX12_print_59 : decode cX12_print 59 = .ok (.i2l, 1) := by decide +kernel
theorem dX12_print_60 : decode cX12_print 60 = .ok (.ladd, 1) := by decide +kernel
theorem dX12_print_61 : decode cX12_print 61 = .ok (.lstore_n 2, 1) := by decide +kernel
theorem dX12_print_62 : decode cX12_print 62 = .ok (.iinc 4 1, 3) := by decide +kernel
theorem dX12_print_65 : decode cX12_print 65 = .ok (.goto (-30), 3) := by decide +kernel
theorem dX12_print_68 : decode cX12_print 68 = .ok (.lload_n 2, 1) := by decide +kernel
theorem dX12_print_69 : decode cX12_print 69 = .ok (.lreturn, 1) := by decide +kernel
theorem dX12_status_0 : decode cX12_status 0 = .ok (.aload_n 0, 1) := by decide +kernel
theorem dX12_status_1 : decode cX12_status 1 = .ok (.iconst 0, 1) := by decide +kernel
theorem dX12_status_2 : decode cX12_status 2 = .ok (.putfield 105, 3) := by decide +kernel
theorem dX12_status_5 : decode cX12_status 5 = .ok (.iload_n 1, 1) := by decide +kernel
theorem dX12_status_6 : decode cX12_status 6 = .ok (.iconst 0, 1) := by decide +kernel
theorem dX12_status_7 : decode cX12_status 7 = .ok (.iconst 2, 1) := by decide +kernel
theorem dX12_status_8 : decode cX12_status 8 = .ok (.invokestatic 108, 3) := by decide +kernel
theorem dX12_status_11 : decode cX12_status 11 = .ok (.ifCond .eq 12, 3) := by decide +kernel
theorem dX12_status_14 : decode cX12_status 14 = .ok (.aload_n 0, 1) := by decide +kernel
theorem dX12_status_15 : decode cX12_status 15 = .ok (.getfield 7, 3) := by decide +kernel
theorem dX12_status_18 : decode cX12_status 18 = .ok (.iload_n 1, 1) := by decide +kernel
theorem dX12_status_19 : decode cX12_status 19 = .ok (.iaload, 1) := by decide +kernel
theorem dX12_status_20 : decode cX12_status 20 = .ok (.goto 4, 3) := by decide +kernel
theorem dX12_status_23 : decode cX12_status 23 = .ok (.iconst (-1), 1) := by decide +kernel
theorem dX12_status_24 : decode cX12_status 24 = .ok (.ireturn, 1) := by decide +kernel
