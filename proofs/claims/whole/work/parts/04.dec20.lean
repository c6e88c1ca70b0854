theorem dX11_init_0 : decode cX11_init 0 = .ok (.aload_n 0, 1) := by decide +kernel
theorem dX11_init_1 : decode cX11_init 1 = .ok (.invokespecial 1, 3) := by decide +kernel
theorem dX11_init_4 : decode cX11_init 4 = .ok (.aload_n 0, 1) := by decide +kernel
theorem dX11_init_5 : decode cX11_init 5 = .ok (.new 7, 3) := by decide +kernel
theorem dX11_init_8 : decode cX11_init 8 = .ok (.dup, 1) := by decide +kernel
theorem dX11_init_9 : decode cX11_init 9 = .ok (.invokespecial 9, 3) := by decide +kernel
theorem dX11_init_12 : decode cX11_init 12 = .ok (.putfield 10, 3) := by decide +kernel
theorem dX11_init_15 : decode cX11_init 15 = .ok (.aload_n 0, 1) := by decide +kernel
theorem dX11_init_16 : decode cX11_init 16 = .ok (.new 16, 3) := by decide +kernel
theorem dX11_init_19 : decode cX11_init 19 = .ok (.dup, 1) := by decide +kernel
theorem dX11_init_20 : decode cX11_init 20 = .ok (.invokespecial 18, 3) := by decide +kernel
theorem dX11_init_23 : decode cX11_init 23 = .ok (.putfield 19, 3) := by decide +kernel
theorem dX11_init_26 : decode cX11_init 26 = .ok (.aload_n 0, 1) := by decide +kernel
theorem dX11_init_27 : decode cX11_init 27 = .ok (.new 23, 3) := by decide +kernel
theorem dX11_init_30 : decode cX11_init 30 = .ok (.dup, 1) := by decide +kernel
theorem dX11_init_31 : decode cX11_init 31 = .ok (.aload_n 0, 1) := by decide +kernel
theorem dX11_init_32 : decode cX11_init 32 = .ok (.getfield 19, 3) := by decide +kernel
theorem dX11_init_35 : decode cX11_init 35 = .ok (.getfield 25, 3) := by decide +kernel
theorem dX11_init_38 : decode cX11_init 38 = .ok (.invokespecial 29, 3) := by decide +kernel
theorem dX11_init_41 : decode cX11_init 41 = .ok (.putfield 32, 3) := by decide +kernel
theorem dX11_init_44 : decode cX11_init 44 = .ok (.aload_n 0, 1) := by decide +kernel
theorem dX11_init_45 : decode cX11_init 45 = .ok (.new 23, 3) := by decide +kernel
theorem dX11_init_48 : decode cX11_init 48 = .ok (.dup, 1) := by decide +kernel
theorem dX11_init_49 : decode cX11_init 49 = .ok (.aload_n 0, 1) := by decide +kernel
theorem dX11_init_50 : decode cX11_init 50 = .ok (.getfield 19, 3) := by decide +kernel
theorem dX11_init_53 : decode cX11_init 53 = .ok (.getfield 36, 3) := by decide +kernel
theorem dX11_init_56 : decode cX11_init 56 = .ok (.invokespecial 29, 3) := by decide +kernel
theorem dX11_init_59 : decode cX11_init 59 = .ok (.putfield 39, 3) := by decide +kernel
theorem dX11_init_62 : decode cX11_init 62 = .ok (.aload_n 0, 1) := by decide +kernel
theorem dX11_init_63 : decode cX11_init 63 = .ok (.new 42, 3) := by decide +kernel
theorem dX11_init_66 : decode cX11_init 66 = .ok (.dup, 1) := by decide +kernel
theorem dX11_init_67 : decode cX11_init 67 = .ok (.aload_n 0, 1) := by decide +kernel
theorem dX11_init_68 : decode cX11_init 68 = .ok (.getfield 32, 3) := by decide +kernel
theorem dX11_init_71 : decode cX11_init 71 = .ok (.aload_n 0, 1) := by decide +kernel
theorem dX11_init_72 : decode cX11_init 72 = .ok (.getfield 39, 3) := by decide +kernel
theorem dX11_init_75 : decode cX11_init 75 = .ok (.invokespecial 44, 3) := by decide +kernel
theorem dX11_init_78 : decode cX11_init 78 = .ok (.putfield 47, 3) := by decide +kernel
theorem dX11_init_81 : decode cX11_init 81 = .ok (.aload_n 0, 1) := by decide +kernel
theorem dX11_init_82 : decode cX11_init 82 = .ok (.new 51, 3) := by decide +kernel
theorem dX11_init_85 : decode cX11_init 85 = .ok (.dup, 1) := by decide +kernel
theorem dX11_init_86 : decode cX11_init 86 = .ok (.aload_n 0, 1) := by decide +kernel
theorem dX11_init_87 : decode cX11_init 87 = .ok (.getfield 19, 3) := by decide +kernel
theorem dX11_init_90 : decode cX11_init 90 = .ok (.aload_n 0, 1) := by decide +kernel
theorem dX11_init_91 : decode cX11_init 91 = .ok (.getfield 32, 3) := by decide +kernel
theorem dX11_init_94 : decode cX11_init 94 = .ok (.invokespecial 53, 3) := by decide +kernel
theorem dX11_init_97 : decode cX11_init 97 = .ok (.putfield 56, 3) := by decide +kernel
theorem dX11_init_100 : decode cX11_init 100 = .ok (.aload_n 0, 1) := by decide +kernel
theorem dX11_init_101 : decode cX11_init 101 = .ok (.new 60, 3) := by decide +kernel
theorem dX11_init_104 : decode cX11_init 104 = .ok (.dup, 1) := by decide +kernel
theorem dX11_init_105 : decode cX11_init 105 = .ok (.aload_n 0, 1) := by decide +kernel
theorem dX11_init_106 : decode cX11_init 106 = .ok (.getfield 19, 3) := by decide +kernel
theorem dX11_init_109 : decode cX11_init 109 = .ok (.invokespecial 62, 3) := by decide +kernel
theorem dX11_init_112 : decode cX11_init 112 = .ok (.putfield 65, 3) := by decide +kernel
theorem dX11_init_115 : decode cX11_init 115 = .ok (.aload_n 0, 1) := by decide +kernel
theorem dX11_init_116 : decode cX11_init 116 = .ok (.new 69, 3) := by decide +kernel
theorem dX11_init_119 : decode cX11_init 119 = .ok (.dup, 1) := by decide +kernel
theorem dX11_init_120 : decode cX11_init 120 = .ok (.aload_n 0, 1) := by decide +kernel
theorem dX11_init_121 : decode cX11_init 121 = .ok (.getfield 19, 3) := by decide +kernel
theorem dX11_init_124 : decode cX11_init 124 = .ok (.aload_n 0, 1) := by decide +kernel
theorem dX11_init_125 : decode cX11_init 125 = .ok (.getfield 32, 3) := by decide +kernel
theorem dX11_init_128 : decode cX11_init 128 = .ok (.aload_n 0, 1) := by decide +kernel
theorem dX11_init_129 : decode cX11_init 129 = .ok (.getfield 39, 3) := by decide +kernel
theorem dX11_init_132 : decode cX11_init 132 = .ok (.invokespecial 71, 3) := by decide +kernel
theorem dX11_init_135 : decode cX11_init 135 = .ok (.putfield 74, 3) := by decide +kernel
theorem dX11_init_138 : decode cX11_init 138 = .ok (.aload_n 0, 1) := by decide +kernel
theorem dX11_init_139 : decode cX11_init 139 = .ok (.new 78, 3) := by decide +kernel
theorem dX11_init_142 : decode cX11_init 142 = .ok (.dup, 1) := by decide +kernel
theorem dX11_init_143 : decode cX11_init 143 = .ok (.invokespecial 80, 3) := by decide +kernel
theorem dX11_init_146 : decode cX11_init 146 = .ok (.putfield 81, 3) := by decide +kernel
theorem dX11_init_149 : decode cX11_init 149 = .ok (.aload_n 0, 1) := by decide +kernel
theorem dX11_init_150 : decode cX11_init 150 = .ok (.new 85, 3) := by decide +kernel
theorem dX11_init_153 : decode cX11_init 153 = .ok (.dup, 1) := by decide +kernel
theorem dX11_init_154 : decode cX11_init 154 = .ok (.aload_n 0, 1) := by decide +kernel
theorem dX11_init_155 : decode cX11_init 155 = .ok (.getfield 10, 3) := by decide +kernel
theorem dX11_init_158 : decode cX11_init 158 = .ok (.invokespecial 87, 3) := by decide +kernel
theorem dX11_init_161 : decode cX11_init 161 = .ok (.putfield 90, 3) := by decide +kernel
theorem dX11_init_164 : decode cX11_init 164 = .ok (.aload_n 0, 1) := by decide +kernel
theorem dX11_init_165 : decode cX11_init 165 = .ok (.new 94, 3) := by decide +kernel
theorem dX11_init_168 : decode cX11_init 168 = .ok (.dup, 1) := by decide +kernel
theorem dX11_init_169 : decode cX11_init 169 = .ok (.invokespecial 96, 3) := by decide +kernel
theorem dX11_init_172 : decode cX11_init 172 = .ok (.putfield 97, 3) := by decide +kernel
theorem dX11_init_175 : decode cX11_init 175 = .ok (.aload_n 0, 1) := by decide +kernel
theorem dX11_init_176 : decode cX11_init 176 = .ok (.new 94, 3) := by decide +kernel
theorem dX11_init_179 : decode cX11_init 179 = .ok (.dup, 1) := by decide +kernel
theorem dX11_init_180 : decode cX11_init 180 = .ok (.invokespecial 96, 3) := by decide +kernel
theorem dX11_init_183 : decode cX11_init 183 = .ok (.putfield 101, 3) := by decide +kernel
theorem dX11_init_186 : decode cX11_init 186 = .ok (.aload_n 0, 1) := by decide +kernel
theorem dX11_init_187 : decode cX11_init 187 = .ok (.iconst 4, 1) := by decide +kernel
theorem dX11_init_188 : decode cX11_init 188 = .ok (.putfield 104, 3) := by decide +kernel
theorem dX11_init_191 : decode cX11_init 191 = .ok (.aload_n 0, 1) := by decide +kernel
theorem dX11_init_192 : decode cX11_init 192 = .ok (.invokevirtual 108, 3) := by decide +kernel
theorem dX11_init_195 : decode cX11_init 195 = .ok (.return_, 1) := by decide +kernel
theorem dX11_feed_0 : decode cX11_feed 0 = .ok (.aload_n 0, 1) := by decide +kernel
theorem dX11_feed_1 : decode cX11_feed 1 = .ok (.getfield 10, 3) := by decide +kernel
theorem dX11_feed_4 : decode cX11_feed 4 = .ok (.getfield 111, 3) := by decide +kernel
theorem dX11_feed_7 : decode cX11_feed 7 = .ok (.bipush 20, 2) := by decide +kernel
theorem dX11_feed_9 : decode cX11_feed 9 = .ok (.iadd, 1) := by decide +kernel
theorem dX11_feed_10 : decode cX11_feed 10 = .ok (.sipush 240, 3) := by decide +kernel
theorem dX11_feed_13 : decode cX11_feed 13 = .ok (.if_icmp .le 5, 3) := by decide +kernel
theorem dX11_feed_16 : decode cX11_feed 16 = .ok (.iconst (-1), 1) := by decide +kernel
theorem dX11_feed_17 : decode cX11_feed 17 = .ok (.ireturn, 1) := by decide +kernel
theorem dX11_feed_18 : decode cX11_feed 18 = .ok (.aload_n 0, 1) := by decide +kernel
theorem dX11_feed_19 : decode cX11_feed 19 = .ok (.getfield 10, 3) := by decide +kernel
theorem dX11_feed_22 : decode cX11_feed 22 = .ok (.iload_n 1, 1) := by decide +kernel
theorem dX11_feed_23 : decode cX11_feed 23 = .ok (.invokevirtual 114, 3) := by decide +kernel
theorem dX11_feed_26 : decode cX11_feed 26 = .ok (.aload_n 0, 1) := by decide +kernel
theorem dX11_feed_27 : decode cX11_feed 27 = .ok (.getfield 10, 3) := by decide +kernel
theorem dX11_feed_30 : decode cX11_feed 30 = .ok (.iload_n 2, 1) := by decide +kernel
theorem dX11_feed_31 : decode cX11_feed 31 = .ok (.invokevirtual 114, 3) := by decide +kernel
theorem dX11_feed_34 : decode cX11_feed 34 = .ok (.aload_n 0, 1) := by decide +kernel
theorem dX11_feed_35 : decode cX11_feed 35 = .ok (.getfield 10, 3) := by decide +kernel
theorem dX11_feed_38 : decode cX11_feed 38 = .ok (.iload_n 3, 1) := by decide +kernel
theorem dX11_feed_39 : decode cX11_feed 39 = .ok (.invokevirtual 114, 3) := by decide +kernel
theorem dX11_feed_42 : decode cX11_feed 42 = .ok (.aload_n 0, 1) := by decide +kernel
theorem dX11_feed_43 : decode cX11_feed 43 = .ok (.getfield 10, 3) := by decide +kernel
theorem dX11_feed_46 : decode cX11_feed 46 = .ok (.iload 4, 2) := by decide +kernel
theorem dX11_feed_48 : decode cX11_feed 48 = .ok (.invokevirtual 114, 3) := by decide +kernel
theorem dX11_feed_51 : decode cX11_feed 51 = .ok (.aload_n 0, 1) := by decide +kernel
theorem dX11_feed_52 : decode cX11_feed 52 = .ok (.getfield 10, 3) := by decide +kernel
theorem dX11_feed_55 : decode cX11_feed 55 = .ok (.iload 5, 2) := by decide +kernel
theorem dX11_feed_57 : decode cX11_feed 57 = .ok (.invokevirtual 114, 3) := by decide +kernel
theorem dX11_feed_60 : decode cX11_feed 60 = .ok (.aload_n 0, 1) := by decide +kernel
theorem dX11_feed_61 : decode cX11_feed 61 = .ok (.getfield 10, 3) := by decide +kernel
theorem dX11_feed_64 : decode cX11_feed 64 = .ok (.getfield 111, 3) := by decide +kernel
theorem dX11_feed_67 : decode cX11_feed 67 = .ok (.ireturn, 1) := by decide +kernel
theorem dX11_text_0 : decode cX11_text 0 = .ok (.aload_n 0, 1) := by decide +kernel
theorem dX11_text_1 : decode cX11_text 1 = .ok (.aload_n 0, 1) := by decide +kernel
theorem dX11_text_2 : decode cX11_text 2 = .ok (.getfield 10, 3) := by decide +kernel
theorem dX11_text_5 : decode cX11_text 5 = .ok (.iload_n 1, 1) := by decide +kernel
theorem dX11_text_6 : decode cX11_text 6 = .ok (.invokevirtual 118, 3) := by decide +kernel
theorem dX11_text_9 : decode cX11_text 9 = .ok (.invokevirtual 122, 3) := by decide +kernel
theorem dX11_text_12 : decode cX11_text 12 = .ok (.aload_n 0, 1) := by decide +kernel
theorem dX11_text_13 : decode cX11_text 13 = .ok (.getfield 10, 3) := by decide +kernel
theorem dX11_text_16 : decode cX11_text 16 = .ok (.iload_n 1, 1) := by decide +kernel
theorem dX11_text_17 : decode cX11_text 17 = .ok (.invokevirtual 126, 3) := by decide +kernel
theorem dX11_text_20 : decode cX11_text 20 = .ok (.istore_n 2, 1) := by decide +kernel
theorem dX11_text_21 : decode cX11_text 21 = .ok (.iload_n 2, 1) := by decide +kernel
theorem dX11_text_22 : decode cX11_text 22 = .ok (.iconst (-1), 1) := by decide +kernel
theorem dX11_text_23 : decode cX11_text 23 = .ok (.if_icmp .ne 35, 3) := by decide +kernel
theorem dX11_text_26 : decode cX11_text 26 = .ok (.aload_n 0, 1) := by decide +kernel
theorem dX11_text_27 : decode cX11_text 27 = .ok (.getfield 19, 3) := by decide +kernel
theorem dX11_text_30 : decode cX11_text 30 = .ok (.aload_n 0, 1) := by decide +kernel
theorem dX11_text_31 : decode cX11_text 31 = .ok (.getfield 10, 3) := by decide +kernel
theorem dX11_text_34 : decode cX11_text 34 = .ok (.iload_n 1, 1) := by decide +kernel
theorem dX11_text_35 : decode cX11_text 35 = .ok (.invokevirtual 130, 3) := by decide +kernel
theorem dX11_text_38 : decode cX11_text 38 = .ok (.aload_n 0, 1) := by decide +kernel
theorem dX11_text_39 : decode cX11_text 39 = .ok (.invokevirtual 108, 3) := by decide +kernel
theorem dX11_text_42 : decode cX11_text 42 = .ok (.aload_n 0, 1) := by decide +kernel
theorem dX11_text_43 : decode cX11_text 43 = .ok (.getfield 81, 3) := by decide +kernel
theorem dX11_text_46 : decode cX11_text 46 = .ok (.iconst 0, 1) := by decide +kernel
theorem dX11_text_47 : decode cX11_text 47 = .ok (.putfield 134, 3) := by decide +kernel
theorem dX11_text_50 : decode cX11_text 50 = .ok (.aload_n 0, 1) := by decide +kernel
theorem dX11_text_51 : decode cX11_text 51 = .ok (.getfield 65, 3) := by decide +kernel
theorem dX11_text_54 : decode cX11_text 54 = .ok (.iconst 0, 1) := by decide +kernel
theorem dX11_text_55 : decode cX11_text 55 = .ok (.putfield 138, 3) := by decide +kernel
theorem dX11_text_58 : decode cX11_text 58 = .ok (.aload_n 0, 1) := by decide +kernel
theorem dX11_text_59 : decode cX11_text 59 = .ok (.getfield 10, 3) := by decide +kernel
theorem dX11_text_62 : decode cX11_text 62 = .ok (.iconst 0, 1) := by decide +kernel
theorem dX11_text_63 : decode cX11_text 63 = .ok (.putfield 111, 3) := by decide +kernel
theorem dX11_text_66 : decode cX11_text 66 = .ok (.iload_n 2, 1) := by decide +kernel
theorem dX11_text_67 : decode cX11_text 67 = .ok (.iconst (-1), 1) := by decide +kernel
theorem dX11_text_68 : decode cX11_text 68 = .ok (.if_icmp .ne 7, 3) := by decide +kernel
theorem dX11_text_71 : decode cX11_text 71 = .ok (.iconst 0, 1) := by decide +kernel
theorem dX11_text_72 : decode cX11_text 72 = .ok (.goto 6, 3) := by decide +kernel
theorem dX11_text_75 : decode cX11_text 75 = .ok (.iconst (-1), 1) := by decide +kernel
theorem dX11_text_76 : decode cX11_text 76 = .ok (.iload_n 2, 1) := by decide +kernel
theorem dX11_text_77 : decode cX11_text 77 = .ok (.isub, 1) := by decide +kernel
theorem dX11_text_78 : decode cX11_text 78 = .ok (.ireturn, 1) := by decide +kernel
theorem dX11_scheme_0 : decode cX11_scheme 0 = .ok (.aload_n 0, 1) := by decide +kernel
theorem dX11_scheme_1 : decode cX11_scheme 1 = .ok (.aload_n 0, 1) := by decide +kernel
theorem dX11_scheme_2 : decode cX11_scheme 2 = .ok (.getfield 10, 3) := by decide +kernel
theorem dX11_scheme_5 : decode cX11_scheme 5 = .ok (.iload_n 1, 1) := by decide +kernel
theorem dX11_scheme_6 : decode cX11_scheme 6 = .ok (.invokevirtual 118, 3) := by decide +kernel
theorem dX11_scheme_9 : decode cX11_scheme 9 = .ok (.invokevirtual 122, 3) := by decide +kernel
theorem dX11_scheme_12 : decode cX11_scheme 12 = .ok (.aload_n 0, 1) := by decide +kernel
theorem dX11_scheme_13 : decode cX11_scheme 13 = .ok (.getfield 90, 3) := by decide +kernel
theorem dX11_scheme_16 : decode cX11_scheme 16 = .ok (.iload_n 1, 1) := by decide +kernel
theorem dX11_scheme_17 : decode cX11_scheme 17 = .ok (.aload_n 0, 1) := by decide +kernel
theorem dX11_scheme_18 : decode cX11_scheme 18 = .ok (.getfield 101, 3) := by decide +kernel
theorem dX11_scheme_21 : decode cX11_scheme 21 = .ok (.invokevirtual 141, 3) := by decide +kernel
theorem dX11_scheme_24 : decode cX11_scheme 24 = .ok (.aload_n 0, 1) := by decide +kernel
theorem dX11_scheme_25 : decode cX11_scheme 25 = .ok (.getfield 10, 3) := by decide +kernel
theorem dX11_scheme_28 : decode cX11_scheme 28 = .ok (.iconst 0, 1) := by decide +kernel
theorem dX11_scheme_29 : decode cX11_scheme 29 = .ok (.putfield 111, 3) := by decide +kernel
theorem dX11_scheme_32 : decode cX11_scheme 32 = .ok (.aload_n 0, 1) := by decide +kernel
theorem dX11_scheme_33 : decode cX11_scheme 33 = .ok (.getfield 90, 3) := by decide +kernel
theorem dX11_scheme_36 : decode cX11_scheme 36 = .ok (.getfield 145, 3) := by decide +kernel
theorem dX11_scheme_39 : decode cX11_scheme 39 = .ok (.ifCond .eq 14, 3) := by decide +kernel
theorem dX11_scheme_42 : decode cX11_scheme 42 = .ok (.aload_n 0, 1) := by decide +kernel
theorem dX11_scheme_43 : decode cX11_scheme 43 = .ok (.getfield 90, 3) := by decide +kernel
theorem dX11_scheme_46 : decode cX11_scheme 46 = .ok (.getfield 145, 3) := by decide +kernel
theorem dX11_scheme_49 : decode cX11_scheme 49 = .ok (.bipush 10, 2) := by decide +kernel
theorem dX11_scheme_51 : decode cX11_scheme 51 = .ok (.isub, 1) := by decide +kernel
theorem dX11_scheme_52 : decode cX11_scheme 52 = .ok (.ireturn, 1) := by decide +kernel
theorem dX11_scheme_53 : decode cX11_scheme 53 = .ok (.aload_n 0, 1) := by decide +kernel
theorem dX11_scheme_54 : decode cX11_scheme 54 = .ok (.getfield 97, 3) := by decide +kernel
theorem dX11_scheme_57 : decode cX11_scheme 57 = .ok (.astore_n 2, 1) := by decide +kernel
theorem dX11_scheme_58 : decode cX11_scheme 58 = .ok (.aload_n 0, 1) := by decide +kernel
theorem dX11_scheme_59 : decode cX11_scheme 59 = .ok (.aload_n 0, 1) := by decide +kernel
theorem dX11_scheme_60 : decode cX11_scheme 60 = .ok (.getfield 101, 3) := by decide +kernel
theorem dX11_scheme_63 : decode cX11_scheme 63 = .ok (.putfield 97, 3) := by decide +kernel
theorem dX11_scheme_66 : decode cX11_scheme 66 = .ok (.aload_n 0, 1) := by decide +kernel
theorem dX11_scheme_67 : decode cX11_scheme 67 = .ok (.aload_n 2, 1) := by decide +kernel
theorem dX11_scheme_68 : decode cX11_scheme 68 = .ok (.putfield 101, 3) := by decide +kernel
theorem dX11_scheme_71 : decode cX11_scheme 71 = .ok (.aload_n 0, 1) := by decide +kernel
theorem dX11_scheme_72 : decode cX11_scheme 72 = .ok (.getfield 97, 3) := by decide +kernel
theorem dX11_scheme_75 : decode cX11_scheme 75 = .ok (.getfield 148, 3) := by decide +kernel
theorem dX11_scheme_78 : decode cX11_scheme 78 = .ok (.ireturn, 1) := by decide +kernel
theorem dX11_fault_0 : decode cX11_fault 0 = .ok (.aload_n 0, 1) := by decide +kernel
theorem dX11_fault_1 : decode cX11_fault 1 = .ok (.getfield 90, 3) := by decide +kernel
theorem dX11_fault_4 : decode cX11_fault 4 = .ok (.getfield 151, 3) := by decide +kernel
theorem dX11_fault_7 : decode cX11_fault 7 = .ok (.ireturn, 1) := by decide +kernel
theorem dX11_step_0 : decode cX11_step 0 = .ok (.aload_n 0, 1) := by decide +kernel
theorem dX11_step_1 : decode cX11_step 1 = .ok (.iload_n 1, 1) := by decide +kernel
theorem dX11_step_2 : decode cX11_step 2 = .ok (.iconst 1, 1) := by decide +kernel
theorem dX11_step_3 : decode cX11_step 3 = .ok (.if_icmp .lt 13, 3) := by decide +kernel
theorem dX11_step_6 : decode cX11_step 6 = .ok (.iload_n 1, 1) := by decide +kernel
theorem dX11_step_7 : decode cX11_step 7 = .ok (.bipush 16, 2) := by decide +kernel
theorem dX11_step_9 : decode cX11_step 9 = .ok (.if_icmp .gt 7, 3) := by decide +kernel
theorem dX11_step_12 : decode cX11_step 12 = .ok (.iconst 1, 1) := by decide +kernel
theorem dX11_step_13 : decode cX11_step 13 = .ok (.goto 4, 3) := by decide +kernel
theorem dX11_step_16 : decode cX11_step 16 = .ok (.iconst 0, 1) := by decide +kernel
theorem dX11_step_17 : decode cX11_step 17 = .ok (.invokevirtual 122, 3) := by decide +kernel
theorem dX11_step_20 : decode cX11_step 20 = .ok (.aload_n 0, 1) := by decide +kernel
theorem dX11_step_21 : decode cX11_step 21 = .ok (.getfield 104, 3) := by decide +kernel
theorem dX11_step_24 : decode cX11_step 24 = .ok (.istore_n 2, 1) := by decide +kernel
theorem dX11_step_25 : decode cX11_step 25 = .ok (.aload_n 0, 1) := by decide +kernel
theorem dX11_step_26 : decode cX11_step 26 = .ok (.iload_n 1, 1) := by decide +kernel
theorem dX11_step_27 : decode cX11_step 27 = .ok (.putfield 104, 3) := by decide +kernel
theorem dX11_step_30 : decode cX11_step 30 = .ok (.iload_n 2, 1) := by decide +kernel
theorem dX11_step_31 : decode cX11_step 31 = .ok (.ireturn, 1) := by decide +kernel
theorem dX11_grow_0 : decode cX11_grow 0 = .ok (.aload_n 0, 1) := by decide +kernel
theorem dX11_grow_1 : decode cX11_grow 1 = .ok (.iload_n 1, 1) := by decide +kernel
theorem dX11_grow_2 : decode cX11_grow 2 = .ok (.invokestatic 154, 3) := by decide +kernel
theorem dX11_grow_5 : decode cX11_grow 5 = .ok (.ifCond .eq 15, 3) := by decide +kernel
theorem dX11_grow_8 : decode cX11_grow 8 = .ok (.iload_n 2, 1) := by decide +kernel
theorem dX11_grow_9 : decode cX11_grow 9 = .ok (.iconst 1, 1) := by decide +kernel
theorem dX11_grow_10 : decode cX11_grow 10 = .ok (.invokestatic 157, 3) := by decide +kernel
theorem dX11_grow_13 : decode cX11_grow 13 = .ok (.ifCond .eq 7, 3) := by decide +kernel
theorem dX11_grow_16 : decode cX11_grow 16 = .ok (.iconst 1, 1) := by decide +kernel
theorem dX11_grow_17 : decode cX11_grow 17 = .ok (.goto 4, 3) := by decide +kernel
theorem dX11_grow_20 : decode cX11_grow 20 = .ok (.iconst 0, 1) := by decide +kernel
theorem dX11_grow_21 : decode cX11_grow 21 = .ok (.invokevirtual 122, 3) := by decide +kernel
theorem dX11_grow_24 : decode cX11_grow 24 = .ok (.aload_n 0, 1) := by decide +kernel
theorem dX11_grow_25 : decode cX11_grow 25 = .ok (.aload_n 0, 1) := by decide +kernel
theorem dX11_grow_26 : decode cX11_grow 26 = .ok (.getfield 47, 3) := by decide +kernel
theorem dX11_grow_29 : decode cX11_grow 29 = .ok (.getfield 161, 3) := by decide +kernel
theorem dX11_grow_32 : decode cX11_grow 32 = .ok (.bipush 40, 2) := by decide +kernel
theorem dX11_grow_34 : decode cX11_grow 34 = .ok (.if_icmp .ge 7, 3) := by decide +kernel
theorem dX11_grow_37 : decode cX11_grow 37 = .ok (.iconst 1, 1) := by decide +kernel
theorem dX11_grow_38 : decode cX11_grow 38 = .ok (.goto 4, 3) := by decide +kernel
theorem dX11_grow_41 : decode cX11_grow 41 = .ok (.iconst 0, 1) := by decide +kernel
theorem dX11_grow_42 : decode cX11_grow 42 = .ok (.invokevirtual 162, 3) := by decide +kernel
theorem dX11_grow_45 : decode cX11_grow 45 = .ok (.aload_n 0, 1) := by decide +kernel
theorem dX11_grow_46 : decode cX11_grow 46 = .ok (.getfield 47, 3) := by decide +kernel
theorem dX11_grow_49 : decode cX11_grow 49 = .ok (.iload_n 1, 1) := by decide +kernel
theorem dX11_grow_50 : decode cX11_grow 50 = .ok (.bipush 97, 2) := by decide +kernel
theorem dX11_grow_52 : decode cX11_grow 52 = .ok (.isub, 1) := by decide +kernel
theorem dX11_grow_53 : decode cX11_grow 53 = .ok (.iload_n 2, 1) := by decide +kernel
theorem dX11_grow_54 : decode cX11_grow 54 = .ok (.invokevirtual 165, 3) := by decide +kernel
theorem dX11_grow_57 : decode cX11_grow 57 = .ok (.ireturn, 1) := by decide +kernel
theorem dX11_shrink_0 : decode cX11_shrink 0 = .ok (.aload_n 0, 1) := by decide +kernel
theorem dX11_shrink_1 : decode cX11_shrink 1 = .ok (.getfield 47, 3) := by decide +kernel
theorem dX11_shrink_4 : decode cX11_shrink 4 = .ok (.invokevirtual 169, 3) := by decide +kernel
theorem dX11_shrink_7 : decode cX11_shrink 7 = .ok (.ireturn, 1) := by decide +kernel
theorem dX11_clear_0 : decode cX11_clear 0 = .ok (.aload_n 0, 1) := by decide +kernel
theorem dX11_clear_1 : decode cX11_clear 1 = .ok (.getfield 47, 3) := by decide +kernel
theorem dX11_clear_4 : decode cX11_clear 4 = .ok (.getfield 161, 3) := by decide +kernel
theorem dX11_clear_7 : decode cX11_clear 7 = .ok (.istore_n 1, 1) := by decide +kernel
theorem dX11_clear_8 : decode cX11_clear 8 = .ok (.aload_n 0, 1) := by decide +kernel
theorem dX11_clear_9 : decode cX11_clear 9 = .ok (.getfield 47, 3) := by decide +kernel
theorem dX11_clear_12 : decode cX11_clear 12 = .ok (.invokevirtual 173, 3) := by decide +kernel
theorem dX11_clear_15 : decode cX11_clear 15 = .ok (.iload_n 1, 1) := by decide +kernel
theorem dX11_clear_16 : decode cX11_clear 16 = .ok (.ireturn, 1) := by decide +kernel
theorem dX11_told_0 : decode cX11_told 0 = .ok (.aload_n 0, 1) := by decide +kernel
theorem dX11_told_1 : decode cX11_told 1 = .ok (.iload_n 1, 1) := by decide +kernel
theorem dX11_told_2 : decode cX11_told 2 = .ok (.bipush 13, 2) := by decide +kernel
theorem dX11_told_4 : decode cX11_told 4 = .ok (.invokestatic 157, 3) := by decide +kernel
theorem dX11_told_7 : decode cX11_told 7 = .ok (.invokevirtual 122, 3) := by decide +kernel
theorem dX11_told_10 : decode cX11_told 10 = .ok (.iload_n 1, 1) := by decide +kernel
theorem dX11_told_11 : decode cX11_told 11 = .ok (.tableswitch 176 0 12 #[65, 73, 81, 92, 97, 105, 113, 121, 129, 144, 152, 160, 168], 65) := by decide +kernel
theorem dX11_told_76 : decode cX11_told 76 = .ok (.aload_n 0, 1) := by decide +kernel
theorem dX11_told_77 : decode cX11_told 77 = .ok (.getfield 19, 3) := by decide +kernel
theorem dX11_told_80 : decode cX11_told 80 = .ok (.getfield 176, 3) := by decide +kernel
theorem dX11_told_83 : decode cX11_told 83 = .ok (.ireturn, 1) := by decide +kernel
theorem dX11_told_84 : decode cX11_told 84 = .ok (.aload_n 0, 1) := by decide +kernel
theorem dX11_told_85 : decode cX11_told 85 = .ok (.getfield 19, 3) := by decide +kernel
theorem dX11_told_88 : decode cX11_told 88 = .ok (.getfield 177, 3) := by decide +kernel
theorem dX11_told_91 : decode cX11_told 91 = .ok (.ireturn, 1) := by decide +kernel
theorem dX11_told_92 : decode cX11_told 92 = .ok (.aload_n 0, 1) := by decide +kernel
theorem dX11_told_93 : decode cX11_told 93 = .ok (.getfield 19, 3) := by decide +kernel
theorem dX11_told_96 : decode cX11_told 96 = .ok (.getfield 180, 3) := by decide +kernel
theorem dX11_told_99 : decode cX11_told 99 = .ok (.invokestatic 183, 3) := by decide +kernel
theorem dX11_told_102 : decode cX11_told 102 = .ok (.ireturn, 1) := by decide +kernel
theorem dX11_told_103 : decode cX11_told 103 = .ok (.aload_n 0, 1) := by decide +kernel
theorem dX11_told_104 : decode cX11_told 104 = .ok (.getfield 104, 3) := by decide +kernel
theorem dX11_told_107 : decode cX11_told 107 = .ok (.ireturn, 1) := by decide +kernel
theorem dX11_told_108 : decode cX11_told 108 = .ok (.aload_n 0, 1) := by decide +kernel
theorem dX11_told_109 : decode cX11_told 109 = .ok (.getfield 47, 3) := by decide +kernel
theorem dX11_told_112 : decode cX11_told 112 = .ok (.getfield 161, 3) := by decide +kernel
theorem dX11_told_115 : decode cX11_told 115 = .ok (.ireturn, 1) := by decide +kernel
theorem dX11_told_116 : decode cX11_told 116 = .ok (.aload_n 0, 1) := by decide +kernel
theorem dX11_told_117 : decode cX11_told 117 = .ok (.getfield 47, 3) := by decide +kernel
theorem dX11_told_120 : decode cX11_told 120 = .ok (.invokevirtual 188, 3) := by decide +kernel
theorem dX11_told_123 : decode cX11_told 123 = .ok (.ireturn, 1) := by decide +kernel
theorem dX11_told_124 : decode cX11_told 124 = .ok (.aload_n 0, 1) := by decide +kernel
theorem dX11_told_125 : decode cX11_told 125 = .ok (.getfield 47, 3) := by decide +kernel
theorem dX11_told_128 : decode cX11_told 128 = .ok (.invokevirtual 191, 3) := by decide +kernel
theorem dX11_told_131 : decode cX11_told 131 = .ok (.ireturn, 1) := by decide +kernel
theorem dX11_told_132 : decode cX11_told 132 = .ok (.aload_n 0, 1) := by decide +kernel
theorem dX11_told_133 : decode cX11_told 133 = .ok (.getfield 47, 3) := by decide +kernel
theorem dX11_told_136 : decode cX11_told 136 = .ok (.invokevirtual 194, 3) := by decide +kernel
theorem dX11_told_139 : decode cX11_told 139 = .ok (.ireturn, 1) := by decide +kernel
theorem dX11_told_140 : decode cX11_told 140 = .ok (.aload_n 0, 1) := by decide +kernel
theorem dX11_told_141 : decode cX11_told 141 = .ok (.getfield 19, 3) := by decide +kernel
theorem dX11_told_144 : decode cX11_told 144 = .ok (.getfield 176, 3) := by decide +kernel
theorem dX11_told_147 : decode cX11_told 147 = .ok (.aload_n 0, 1) := by decide +kernel
theorem dX11_told_148 : decode cX11_told 148 = .ok (.getfield 104, 3) := by decide +kernel
theorem dX11_told_151 : decode cX11_told 151 = .ok (.idiv, 1) := by decide +kernel
theorem dX11_told_152 : decode cX11_told 152 = .ok (.iconst 1, 1) := by decide +kernel
theorem dX11_told_153 : decode cX11_told 153 = .ok (.iadd, 1) := by decide +kernel
theorem dX11_told_154 : decode cX11_told 154 = .ok (.ireturn, 1) := by decide +kernel
theorem dX11_told_155 : decode cX11_told 155 = .ok (.aload_n 0, 1) := by decide +kernel
theorem dX11_told_156 : decode cX11_told 156 = .ok (.getfield 97, 3) := by decide +kernel
theorem dX11_told_159 : decode cX11_told 159 = .ok (.getfield 148, 3) := by decide +kernel
theorem dX11_told_162 : decode cX11_told 162 = .ok (.ireturn, 1) := by decide +kernel
theorem dX11_told_163 : decode cX11_told 163 = .ok (.aload_n 0, 1) := by decide +kernel
theorem dX11_told_164 : decode cX11_told 164 = .ok (.getfield 97, 3) := by decide +kernel
theorem dX11_told_167 : decode cX11_told 167 = .ok (.getfield 196, 3) := by decide +kernel
theorem dX11_told_170 : decode cX11_told 170 = .ok (.ireturn, 1) := by decide +kernel
theorem dX11_told_171 : decode cX11_told 171 = .ok (.aload_n 0, 1) := by decide +kernel
theorem dX11_told_172 : decode cX11_told 172 = .ok (.getfield 97, 3) := by decide +kernel
theorem dX11_told_175 : decode cX11_told 175 = .ok (.invokevirtual 199, 3) := by decide +kernel
theorem dX11_told_178 : decode cX11_told 178 = .ok (.ireturn, 1) := by decide +kernel
theorem dX11_told_179 : decode cX11_told 179 = .ok (.aload_n 0, 1) := by decide +kernel
theorem dX11_told_180 : decode cX11_told 180 = .ok (.getfield 10, 3) := by decide +kernel
theorem dX11_told_183 : decode cX11_told 183 = .ok (.getfield 111, 3) := by decide +kernel
theorem dX11_told_186 : decode cX11_told 186 = .ok (.ireturn, 1) := by decide +kernel
theorem dX11_told_187 : decode cX11_told 187 = .ok (.aload_n 0, 1) := by decide +kernel
theorem dX11_told_188 : decode cX11_told 188 = .ok (.getfield 81, 3) := by decide +kernel
theorem dX11_told_191 : decode cX11_told 191 = .ok (.getfield 134, 3) := by decide +kernel
theorem dX11_told_194 : decode cX11_told 194 = .ok (.ifCond .eq 13, 3) := by decide +kernel
theorem dX11_told_197 : decode cX11_told 197 = .ok (.aload_n 0, 1) := by decide +kernel
theorem dX11_told_198 : decode cX11_told 198 = .ok (.getfield 81, 3) := by decide +kernel
theorem dX11_told_201 : decode cX11_told 201 = .ok (.getfield 202, 3) := by decide +kernel
theorem dX11_told_204 : decode cX11_told 204 = .ok (.goto 4, 3) := by decide +kernel
theorem dX11_told_207 : decode cX11_told 207 = .ok (.iconst (-1), 1) := by decide +kernel
theorem dX11_told_208 : decode cX11_told 208 = .ok (.ireturn, 1) := by decide +kernel
theorem dX11_sign_0 : decode cX11_sign 0 = .ok (.aload_n 0, 1) := by decide +kernel
theorem dX11_sign_1 : decode cX11_sign 1 = .ok (.aload_n 0, 1) := by decide +kernel
theorem dX11_sign_2 : decode cX11_sign 2 = .ok (.iload_n 1, 1) := by decide +kernel
theorem dX11_sign_3 : decode cX11_sign 3 = .ok (.invokevirtual 203, 3) := by decide +kernel
theorem dX11_sign_6 : decode cX11_sign 6 = .ok (.invokevirtual 206, 3) := by decide +kernel
theorem dX11_sign_9 : decode cX11_sign 9 = .ok (.aload_n 0, 1) := by decide +kernel
theorem dX11_sign_10 : decode cX11_sign 10 = .ok (.getfield 19, 3) := by decide +kernel
theorem dX11_sign_13 : decode cX11_sign 13 = .ok (.getfield 25, 3) := by decide +kernel
theorem dX11_sign_16 : decode cX11_sign 16 = .ok (.iload_n 1, 1) := by decide +kernel
theorem dX11_sign_17 : decode cX11_sign 17 = .ok (.iaload, 1) := by decide +kernel
theorem dX11_sign_18 : decode cX11_sign 18 = .ok (.invokestatic 209, 3) := by decide +kernel
theorem dX11_sign_21 : decode cX11_sign 21 = .ok (.ireturn, 1) := by decide +kernel
theorem dX11_row_0 : decode cX11_row 0 = .ok (.aload_n 0, 1) := by decide +kernel
theorem dX11_row_1 : decode cX11_row 1 = .ok (.iload_n 1, 1) := by decide +kernel
theorem dX11_row_2 : decode cX11_row 2 = .ok (.invokestatic 212, 3) := by decide +kernel
theorem dX11_row_5 : decode cX11_row 5 = .ok (.ifCond .eq 15, 3) := by decide +kernel
theorem dX11_row_8 : decode cX11_row 8 = .ok (.aload_n 0, 1) := by decide +kernel
theorem dX11_row_9 : decode cX11_row 9 = .ok (.iload_n 2, 1) := by decide +kernel
theorem dX11_row_10 : decode cX11_row 10 = .ok (.invokevirtual 203, 3) := by decide +kernel
theorem dX11_row_13 : decode cX11_row 13 = .ok (.ifCond .eq 7, 3) := by decide +kernel
theorem dX11_row_16 : decode cX11_row 16 = .ok (.iconst 1, 1) := by decide +kernel
theorem dX11_row_17 : decode cX11_row 17 = .ok (.goto 4, 3) := by decide +kernel
theorem dX11_row_20 : decode cX11_row 20 = .ok (.iconst 0, 1) := by decide +kernel
theorem dX11_row_21 : decode cX11_row 21 = .ok (.invokevirtual 206, 3) := by decide +kernel
theorem dX11_row_24 : decode cX11_row 24 = .ok (.aload_n 0, 1) := by decide +kernel
theorem dX11_row_25 : decode cX11_row 25 = .ok (.iload_n 3, 1) := by decide +kernel
theorem dX11_row_26 : decode cX11_row 26 = .ok (.bipush 6, 2) := by decide +kernel
theorem dX11_row_28 : decode cX11_row 28 = .ok (.invokestatic 157, 3) := by decide +kernel
theorem dX11_row_31 : decode cX11_row 31 = .ok (.invokevirtual 122, 3) := by decide +kernel
theorem dX11_row_34 : decode cX11_row 34 = .ok (.aload_n 0, 1) := by decide +kernel
theorem dX11_row_35 : decode cX11_row 35 = .ok (.iload_n 1, 1) := by decide +kernel
theorem dX11_row_36 : decode cX11_row 36 = .ok (.invokevirtual 215, 3) := by decide +kernel
theorem dX11_row_39 : decode cX11_row 39 = .ok (.astore 4, 2) := by decide +kernel
theorem dX11_row_41 : decode cX11_row 41 = .ok (.aload 4, 2) := by decide +kernel
theorem dX11_row_43 : decode cX11_row 43 = .ok (.getfield 219, 3) := by decide +kernel
theorem dX11_row_46 : decode cX11_row 46 = .ok (.iload_n 2, 1) := by decide +kernel
theorem dX11_row_47 : decode cX11_row 47 = .ok (.iaload, 1) := by decide +kernel
theorem dX11_row_48 : decode cX11_row 48 = .ok (.istore 5, 2) := by decide +kernel
theorem dX11_row_50 : decode cX11_row 50 = .ok (.iload_n 3, 1) := by decide +kernel
theorem dX11_row_51 : decode cX11_row 51 = .ok (.tableswitch 93 0 5 #[37, 40, 52, 62, 69, 85], 37) := by decide +kernel
theorem dX11_row_88 : decode cX11_row 88 = .ok (.iload 5, 2) := by decide +kernel
theorem dX11_row_90 : decode cX11_row 90 = .ok (.ireturn, 1) := by decide +kernel
theorem dX11_row_91 : decode cX11_row 91 = .ok (.aload 4, 2) := by decide +kernel
theorem dX11_row_93 : decode cX11_row 93 = .ok (.getfield 222, 3) := by decide +kernel
theorem dX11_row_96 : decode cX11_row 96 = .ok (.iload 5, 2) := by decide +kernel
theorem dX11_row_98 : decode cX11_row 98 = .ok (.iaload, 1) := by decide +kernel
theorem dX11_row_99 : decode cX11_row 99 = .ok (.invokestatic 209, 3) := by decide +kernel
theorem dX11_row_102 : decode cX11_row 102 = .ok (.ireturn, 1) := by decide +kernel
theorem dX11_row_103 : decode cX11_row 103 = .ok (.aload 4, 2) := by decide +kernel
theorem dX11_row_105 : decode cX11_row 105 = .ok (.iload_n 2, 1) := by decide +kernel
theorem dX11_row_106 : decode cX11_row 106 = .ok (.invokevirtual 223, 3) := by decide +kernel
theorem dX11_row_109 : decode cX11_row 109 = .ok (.invokestatic 209, 3) := by decide +kernel
theorem dX11_row_112 : decode cX11_row 112 = .ok (.ireturn, 1) := by decide +kernel
theorem dX11_row_113 : decode cX11_row 113 = .ok (.aload 4, 2) := by decide +kernel
theorem dX11_row_115 : decode cX11_row 115 = .ok (.iload_n 2, 1) := by decide +kernel
theorem dX11_row_116 : decode cX11_row 116 = .ok (.invokevirtual 226, 3) := by decide +kernel
theorem dX11_row_119 : decode cX11_row 119 = .ok (.ireturn, 1) := by decide +kernel
theorem dX11_row_120 : decode cX11_row 120 = .ok (.iload 5, 2) := by decide +kernel
theorem dX11_row_122 : decode cX11_row 122 = .ok (.aload_n 0, 1) := by decide +kernel
theorem dX11_row_123 : decode cX11_row 123 = .ok (.getfield 104, 3) := by decide +kernel
theorem dX11_row_126 : decode cX11_row 126 = .ok (.irem, 1) := by decide +kernel
theorem dX11_row_127 : decode cX11_row 127 = .ok (.ifCond .ne 7, 3) := by decide +kernel
theorem dX11_row_130 : decode cX11_row 130 = .ok (.iconst 1, 1) := by decide +kernel
theorem dX11_row_131 : decode cX11_row 131 = .ok (.goto 4, 3) := by decide +kernel
theorem dX11_row_134 : decode cX11_row 134 = .ok (.iconst 0, 1) := by decide +kernel
theorem dX11_row_135 : decode cX11_row 135 = .ok (.ireturn, 1) := by decide +kernel
theorem dX11_row_136 : decode cX11_row 136 = .ok (.iload 5, 2) := by decide +kernel
theorem dX11_row_138 : decode cX11_row 138 = .ok (.aload_n 0, 1) := by decide +kernel
theorem dX11_row_139 : decode cX11_row 139 = .ok (.getfield 104, 3) := by decide +kernel
theorem dX11_row_142 : decode cX11_row 142 = .ok (.irem, 1) := by decide +kernel
theorem dX11_row_143 : decode cX11_row 143 = .ok (.ireturn, 1) := by decide +kernel
theorem dX11_row_144 : decode cX11_row 144 = .ok (.aload 4, 2) := by decide +kernel
theorem dX11_row_146 : decode cX11_row 146 = .ok (.getfield 229, 3) := by decide +kernel
theorem dX11_row_149 : decode cX11_row 149 = .ok (.iload_n 2, 1) := by decide +kernel
theorem dX11_row_150 : decode cX11_row 150 = .ok (.iaload, 1) := by decide +kernel
theorem dX11_row_151 : decode cX11_row 151 = .ok (.ireturn, 1) := by decide +kernel
theorem dX11_rowOf_0 : decode cX11_rowOf 0 = .ok (.aload_n 0, 1) := by decide +kernel
theorem dX11_rowOf_1 : decode cX11_rowOf 1 = .ok (.iload_n 1, 1) := by decide +kernel
theorem dX11_rowOf_2 : decode cX11_rowOf 2 = .ok (.invokestatic 212, 3) := by decide +kernel
theorem dX11_rowOf_5 : decode cX11_rowOf 5 = .ok (.ifCond .eq 15, 3) := by decide +kernel
theorem dX11_rowOf_8 : decode cX11_rowOf 8 = .ok (.aload_n 0, 1) := by decide +kernel
theorem dX11_rowOf_9 : decode cX11_rowOf 9 = .ok (.iload_n 2, 1) := by decide +kernel
theorem dX11_rowOf_10 : decode cX11_rowOf 10 = .ok (.invokevirtual 203, 3) := by decide +kernel
theorem dX11_rowOf_13 : decode cX11_rowOf 13 = .ok (.ifCond .eq 7, 3) := by decide +kernel
theorem dX11_rowOf_16 : decode cX11_rowOf 16 = .ok (.iconst 1, 1) := by decide +kernel
theorem dX11_rowOf_17 : decode cX11_rowOf 17 = .ok (.goto 4, 3) := by decide +kernel
theorem dX11_rowOf_20 : decode cX11_rowOf 20 = .ok (.iconst 0, 1) := by decide +kernel
theorem dX11_rowOf_21 : decode cX11_rowOf 21 = .ok (.invokevirtual 206, 3) := by decide +kernel
theorem dX11_rowOf_24 : decode cX11_rowOf 24 = .ok (.aload_n 0, 1) := by decide +kernel
theorem dX11_rowOf_25 : decode cX11_rowOf 25 = .ok (.iload_n 1, 1) := by decide +kernel
theorem dX11_rowOf_26 : decode cX11_rowOf 26 = .ok (.invokevirtual 215, 3) := by decide +kernel
theorem dX11_rowOf_29 : decode cX11_rowOf 29 = .ok (.getfield 232, 3) := by decide +kernel
theorem dX11_rowOf_32 : decode cX11_rowOf 32 = .ok (.iload_n 2, 1) := by decide +kernel
theorem dX11_rowOf_33 : decode cX11_rowOf 33 = .ok (.iaload, 1) := by decide +kernel
theorem dX11_rowOf_34 : decode cX11_rowOf 34 = .ok (.ireturn, 1) := by decide +kernel
theorem dX11_count_0 : decode cX11_count 0 = .ok (.aload_n 0, 1) := by decide +kernel
theorem dX11_count_1 : decode cX11_count 1 = .ok (.iload_n 1, 1) := by decide +kernel
theorem dX11_count_2 : decode cX11_count 2 = .ok (.invokestatic 212, 3) := by decide +kernel
theorem dX11_count_5 : decode cX11_count 5 = .ok (.ifCond .eq 24, 3) := by decide +kernel
theorem dX11_count_8 : decode cX11_count 8 = .ok (.iload_n 2, 1) := by decide +kernel
theorem dX11_count_9 : decode cX11_count 9 = .ok (.ifCond .lt 20, 3) := by decide +kernel
theorem dX11_count_12 : decode cX11_count 12 = .ok (.iload_n 2, 1) := by decide +kernel
theorem dX11_count_13 : decode cX11_count 13 = .ok (.aload_n 0, 1) := by decide +kernel
theorem dX11_count_14 : decode cX11_count 14 = .ok (.getfield 19, 3) := by decide +kernel
theorem dX11_count_17 : decode cX11_count 17 = .ok (.getfield 176, 3) := by decide +kernel
theorem dX11_count_20 : decode cX11_count 20 = .ok (.iconst 1, 1) := by decide +kernel
theorem dX11_count_21 : decode cX11_count 21 = .ok (.iadd, 1) := by decide +kernel
theorem dX11_count_22 : decode cX11_count 22 = .ok (.if_icmp .gt 7, 3) := by decide +kernel
theorem dX11_count_25 : decode cX11_count 25 = .ok (.iconst 1, 1) := by decide +kernel
theorem dX11_count_26 : decode cX11_count 26 = .ok (.goto 4, 3) := by decide +kernel
theorem dX11_count_29 : decode cX11_count 29 = .ok (.iconst 0, 1) := by decide +kernel
theorem dX11_count_30 : decode cX11_count 30 = .ok (.invokevirtual 206, 3) := by decide +kernel
theorem dX11_count_33 : decode cX11_count 33 = .ok (.aload_n 0, 1) := by decide +kernel
theorem dX11_count_34 : decode cX11_count 34 = .ok (.iload_n 3, 1) := by decide +kernel
theorem dX11_count_35 : decode cX11_count 35 = .ok (.invokestatic 154, 3) := by decide +kernel
theorem dX11_count_38 : decode cX11_count 38 = .ok (.invokevirtual 122, 3) := by decide +kernel
theorem dX11_count_41 : decode cX11_count 41 = .ok (.aload_n 0, 1) := by decide +kernel
theorem dX11_count_42 : decode cX11_count 42 = .ok (.iload_n 1, 1) := by decide +kernel
theorem dX11_count_43 : decode cX11_count 43 = .ok (.invokevirtual 215, 3) := by decide +kernel
theorem dX11_count_46 : decode cX11_count 46 = .ok (.iload_n 2, 1) := by decide +kernel
theorem dX11_count_47 : decode cX11_count 47 = .ok (.iload_n 3, 1) := by decide +kernel
theorem dX11_count_48 : decode cX11_count 48 = .ok (.bipush 97, 2) := by decide +kernel
theorem dX11_count_50 : decode cX11_count 50 = .ok (.isub, 1) := by decide +kernel
theorem dX11_count_51 : decode cX11_count 51 = .ok (.invokevirtual 235, 3) := by decide +kernel
theorem dX11_count_54 : decode cX11_count 54 = .ok (.ireturn, 1) := by decide +kernel
theorem dX11_letter_0 : decode cX11_letter 0 = .ok (.aload_n 0, 1) := by decide +kernel
theorem dX11_letter_1 : decode cX11_letter 1 = .ok (.iload_n 1, 1) := by decide +kernel
theorem dX11_letter_2 : decode cX11_letter 2 = .ok (.ifCond .lt 18, 3) := by decide +kernel
theorem dX11_letter_5 : decode cX11_letter 5 = .ok (.iload_n 1, 1) := by decide +kernel
theorem dX11_letter_6 : decode cX11_letter 6 = .ok (.aload_n 0, 1) := by decide +kernel
theorem dX11_letter_7 : decode cX11_letter 7 = .ok (.getfield 47, 3) := by decide +kernel
theorem dX11_letter_10 : decode cX11_letter 10 = .ok (.getfield 161, 3) := by decide +kernel
theorem dX11_letter_13 : decode cX11_letter 13 = .ok (.if_icmp .ge 7, 3) := by decide +kernel
theorem dX11_letter_16 : decode cX11_letter 16 = .ok (.iconst 1, 1) := by decide +kernel
theorem dX11_letter_17 : decode cX11_letter 17 = .ok (.goto 4, 3) := by decide +kernel
theorem dX11_letter_20 : decode cX11_letter 20 = .ok (.iconst 0, 1) := by decide +kernel
theorem dX11_letter_21 : decode cX11_letter 21 = .ok (.invokevirtual 206, 3) := by decide +kernel
theorem dX11_letter_24 : decode cX11_letter 24 = .ok (.aload_n 0, 1) := by decide +kernel
theorem dX11_letter_25 : decode cX11_letter 25 = .ok (.getfield 47, 3) := by decide +kernel
theorem dX11_letter_28 : decode cX11_letter 28 = .ok (.iload_n 1, 1) := by decide +kernel
theorem dX11_letter_29 : decode cX11_letter 29 = .ok (.invokevirtual 238, 3) := by decide +kernel
theorem dX11_letter_32 : decode cX11_letter 32 = .ok (.bipush 97, 2) := by decide +kernel
theorem dX11_letter_34 : decode cX11_letter 34 = .ok (.iadd, 1) := by decide +kernel
theorem dX11_letter_35 : decode cX11_letter 35 = .ok (.ireturn, 1) := by decide +kernel
theorem dX11_grows_0 : decode cX11_grows 0 = .ok (.aload_n 0, 1) := by decide +kernel
theorem dX11_grows_1 : decode cX11_grows 1 = .ok (.iload_n 1, 1) := by decide +kernel
theorem dX11_grows_2 : decode cX11_grows 2 = .ok (.iconst 1, 1) := by decide +kernel
theorem dX11_grows_3 : decode cX11_grows 3 = .ok (.invokestatic 157, 3) := by decide +kernel
theorem dX11_grows_6 : decode cX11_grows 6 = .ok (.invokevirtual 122, 3) := by decide +kernel
theorem dX11_grows_9 : decode cX11_grows 9 = .ok (.aload_n 0, 1) := by decide +kernel
theorem dX11_grows_10 : decode cX11_grows 10 = .ok (.getfield 47, 3) := by decide +kernel
theorem dX11_grows_13 : decode cX11_grows 13 = .ok (.iload_n 1, 1) := by decide +kernel
theorem dX11_grows_14 : decode cX11_grows 14 = .ok (.invokevirtual 241, 3) := by decide +kernel
theorem dX11_grows_17 : decode cX11_grows 17 = .ok (.ireturn, 1) := by decide +kernel
theorem dX11_hit_0 : decode cX11_hit 0 = .ok (.aload_n 0, 1) := by decide +kernel
theorem dX11_hit_1 : decode cX11_hit 1 = .ok (.iload_n 1, 1) := by decide +kernel
theorem dX11_hit_2 : decode cX11_hit 2 = .ok (.invokevirtual 244, 3) := by decide +kernel
theorem dX11_hit_5 : decode cX11_hit 5 = .ok (.istore_n 3, 1) := by decide +kernel
theorem dX11_hit_6 : decode cX11_hit 6 = .ok (.aload_n 0, 1) := by decide +kernel
theorem dX11_hit_7 : decode cX11_hit 7 = .ok (.iload_n 3, 1) := by decide +kernel
theorem dX11_hit_8 : decode cX11_hit 8 = .ok (.iconst (-1), 1) := by decide +kernel
theorem dX11_hit_9 : decode cX11_hit 9 = .ok (.if_icmp .eq 7, 3) := by decide +kernel
theorem dX11_hit_12 : decode cX11_hit 12 = .ok (.iconst 1, 1) := by decide +kernel
theorem dX11_hit_13 : decode cX11_hit 13 = .ok (.goto 4, 3) := by decide +kernel
theorem dX11_hit_16 : decode cX11_hit 16 = .ok (.iconst 0, 1) := by decide +kernel
theorem dX11_hit_17 : decode cX11_hit 17 = .ok (.invokevirtual 206, 3) := by decide +kernel
theorem dX11_hit_20 : decode cX11_hit 20 = .ok (.aload_n 0, 1) := by decide +kernel
theorem dX11_hit_21 : decode cX11_hit 21 = .ok (.iload_n 2, 1) := by decide +kernel
theorem dX11_hit_22 : decode cX11_hit 22 = .ok (.iconst 2, 1) := by decide +kernel
theorem dX11_hit_23 : decode cX11_hit 23 = .ok (.invokestatic 157, 3) := by decide +kernel
theorem dX11_hit_26 : decode cX11_hit 26 = .ok (.invokevirtual 122, 3) := by decide +kernel
theorem dX11_hit_29 : decode cX11_hit 29 = .ok (.aload_n 0, 1) := by decide +kernel
theorem dX11_hit_30 : decode cX11_hit 30 = .ok (.getfield 19, 3) := by decide +kernel
theorem dX11_hit_33 : decode cX11_hit 33 = .ok (.getfield 247, 3) := by decide +kernel
theorem dX11_hit_36 : decode cX11_hit 36 = .ok (.iload_n 3, 1) := by decide +kernel
theorem dX11_hit_37 : decode cX11_hit 37 = .ok (.iaload, 1) := by decide +kernel
theorem dX11_hit_38 : decode cX11_hit 38 = .ok (.istore 4, 2) := by decide +kernel
theorem dX11_hit_40 : decode cX11_hit 40 = .ok (.iload_n 2, 1) := by decide +kernel
theorem dX11_hit_41 : decode cX11_hit 41 = .ok (.lookupswitch 32 #[(0, 27), (1, 29)], 27) := by decide +kernel
theorem dX11_hit_68 : decode cX11_hit 68 = .ok (.iload_n 3, 1) := by decide +kernel
theorem dX11_hit_69 : decode cX11_hit 69 = .ok (.ireturn, 1) := by decide +kernel
theorem dX11_hit_70 : decode cX11_hit 70 = .ok (.iload 4, 2) := by decide +kernel
theorem dX11_hit_72 : decode cX11_hit 72 = .ok (.ireturn, 1) := by decide +kernel
theorem dX11_hit_73 : decode cX11_hit 73 = .ok (.iload_n 3, 1) := by decide +kernel
theorem dX11_hit_74 : decode cX11_hit 74 = .ok (.aload_n 0, 1) := by decide +kernel
theorem dX11_hit_75 : decode cX11_hit 75 = .ok (.getfield 19, 3) := by decide +kernel
theorem dX11_hit_78 : decode cX11_hit 78 = .ok (.getfield 250, 3) := by decide +kernel
theorem dX11_hit_81 : decode cX11_hit 81 = .ok (.iload 4, 2) := by decide +kernel
theorem dX11_hit_83 : decode cX11_hit 83 = .ok (.iaload, 1) := by decide +kernel
theorem dX11_hit_84 : decode cX11_hit 84 = .ok (.isub, 1) := by decide +kernel
theorem dX11_hit_85 : decode cX11_hit 85 = .ok (.ireturn, 1) := by decide +kernel
theorem dX11_hits_0 : decode cX11_hits 0 = .ok (.aload_n 0, 1) := by decide +kernel
theorem dX11_hits_1 : decode cX11_hits 1 = .ok (.iload_n 1, 1) := by decide +kernel
theorem dX11_hits_2 : decode cX11_hits 2 = .ok (.iconst 3, 1) := by decide +kernel
theorem dX11_hits_3 : decode cX11_hits 3 = .ok (.invokestatic 157, 3) := by decide +kernel
theorem dX11_hits_6 : decode cX11_hits 6 = .ok (.invokevirtual 122, 3) := by decide +kernel
theorem dX11_hits_9 : decode cX11_hits 9 = .ok (.iload_n 1, 1) := by decide +kernel
theorem dX11_hits_10 : decode cX11_hits 10 = .ok (.ifCond .ne 10, 3) := by decide +kernel
theorem dX11_hits_13 : decode cX11_hits 13 = .ok (.aload_n 0, 1) := by decide +kernel
theorem dX11_hits_14 : decode cX11_hits 14 = .ok (.invokevirtual 253, 3) := by decide +kernel
theorem dX11_hits_17 : decode cX11_hits 17 = .ok (.goto 8, 3) := by decide +kernel
theorem dX11_hits_20 : decode cX11_hits 20 = .ok (.aload_n 0, 1) := by decide +kernel
theorem dX11_hits_21 : decode cX11_hits 21 = .ok (.iload_n 1, 1) := by decide +kernel
theorem dX11_hits_22 : decode cX11_hits 22 = .ok (.invokevirtual 256, 3) := by decide +kernel
theorem dX11_hits_25 : decode cX11_hits 25 = .ok (.ireturn, 1) := by decide +kernel
theorem dX11_often_0 : decode cX11_often 0 = .ok (.aload_n 0, 1) := by decide +kernel
theorem dX11_often_1 : decode cX11_often 1 = .ok (.aload_n 0, 1) := by decide +kernel
theorem dX11_often_2 : decode cX11_often 2 = .ok (.getfield 10, 3) := by decide +kernel
theorem dX11_often_5 : decode cX11_often 5 = .ok (.iload_n 1, 1) := by decide +kernel
theorem dX11_often_6 : decode cX11_often 6 = .ok (.invokevirtual 118, 3) := by decide +kernel
theorem dX11_often_9 : decode cX11_often 9 = .ok (.ifCond .eq 18, 3) := by decide +kernel
theorem dX11_often_12 : decode cX11_often 12 = .ok (.aload_n 0, 1) := by decide +kernel
theorem dX11_often_13 : decode cX11_often 13 = .ok (.getfield 10, 3) := by decide +kernel
theorem dX11_often_16 : decode cX11_often 16 = .ok (.iload_n 1, 1) := by decide +kernel
theorem dX11_often_17 : decode cX11_often 17 = .ok (.invokevirtual 259, 3) := by decide +kernel
theorem dX11_often_20 : decode cX11_often 20 = .ok (.ifCond .eq 7, 3) := by decide +kernel
theorem dX11_often_23 : decode cX11_often 23 = .ok (.iconst 1, 1) := by decide +kernel
theorem dX11_often_24 : decode cX11_often 24 = .ok (.goto 4, 3) := by decide +kernel
theorem dX11_often_27 : decode cX11_often 27 = .ok (.iconst 0, 1) := by decide +kernel
theorem dX11_often_28 : decode cX11_often 28 = .ok (.invokevirtual 122, 3) := by decide +kernel
theorem dX11_often_31 : decode cX11_often 31 = .ok (.iconst 0, 1) := by decide +kernel
theorem dX11_often_32 : decode cX11_often 32 = .ok (.istore_n 2, 1) := by decide +kernel
theorem dX11_often_33 : decode cX11_often 33 = .ok (.aload_n 0, 1) := by decide +kernel
theorem dX11_often_34 : decode cX11_often 34 = .ok (.getfield 19, 3) := by decide +kernel
theorem dX11_often_37 : decode cX11_often 37 = .ok (.getfield 176, 3) := by decide +kernel
theorem dX11_often_40 : decode cX11_often 40 = .ok (.iconst 1, 1) := by decide +kernel
theorem dX11_often_41 : decode cX11_often 41 = .ok (.iadd, 1) := by decide +kernel
theorem dX11_often_42 : decode cX11_often 42 = .ok (.istore_n 3, 1) := by decide +kernel
theorem dX11_often_43 : decode cX11_often 43 = .ok (.iload_n 1, 1) := by decide +kernel
theorem dX11_often_44 : decode cX11_often 44 = .ok (.iconst 1, 1) := by decide +kernel
theorem dX11_often_45 : decode cX11_often 45 = .ok (.isub, 1) := by decide +kernel
theorem dX11_often_46 : decode cX11_often 46 = .ok (.istore 4, 2) := by decide +kernel
theorem dX11_often_48 : decode cX11_often 48 = .ok (.iload 4, 2) := by decide +kernel
theorem dX11_often_50 : decode cX11_often 50 = .ok (.ifCond .lt 42, 3) := by decide +kernel
theorem dX11_often_53 : decode cX11_often 53 = .ok (.aload_n 0, 1) := by decide +kernel
theorem dX11_often_54 : decode cX11_often 54 = .ok (.getfield 10, 3) := by decide +kernel
theorem dX11_often_57 : decode cX11_often 57 = .ok (.iload 4, 2) := by decide +kernel
theorem dX11_often_59 : decode cX11_often 59 = .ok (.invokevirtual 262, 3) := by decide +kernel
theorem dX11_often_62 : decode cX11_often 62 = .ok (.istore 5, 2) := by decide +kernel
theorem dX11_often_64 : decode cX11_often 64 = .ok (.aload_n 0, 1) := by decide +kernel
theorem dX11_often_65 : decode cX11_often 65 = .ok (.getfield 32, 3) := by decide +kernel
theorem dX11_often_68 : decode cX11_often 68 = .ok (.iload_n 2, 1) := by decide +kernel
theorem dX11_often_69 : decode cX11_often 69 = .ok (.iload 5, 2) := by decide +kernel
theorem dX11_often_71 : decode cX11_often 71 = .ok (.invokevirtual 263, 3) := by decide +kernel
theorem dX11_often_74 : decode cX11_often 74 = .ok (.istore_n 2, 1) := by decide +kernel
theorem dX11_often_75 : decode cX11_often 75 = .ok (.aload_n 0, 1) := by decide +kernel
theorem dX11_often_76 : decode cX11_often 76 = .ok (.getfield 32, 3) := by decide +kernel
theorem dX11_often_79 : decode cX11_often 79 = .ok (.iload_n 3, 1) := by decide +kernel
theorem dX11_often_80 : decode cX11_often 80 = .ok (.iload 5, 2) := by decide +kernel
theorem dX11_often_82 : decode cX11_often 82 = .ok (.invokevirtual 263, 3) := by decide +kernel
theorem dX11_often_85 : decode cX11_often 85 = .ok (.istore_n 3, 1) := by decide +kernel
theorem dX11_often_86 : decode cX11_often 86 = .ok (.iinc 4 (-1), 3) := by decide +kernel
theorem dX11_often_89 : decode cX11_often 89 = .ok (.goto (-41), 3) := by decide +kernel
theorem dX11_often_92 : decode cX11_often 92 = .ok (.iload_n 3, 1) := by decide +kernel
theorem dX11_often_93 : decode cX11_often 93 = .ok (.iload_n 2, 1) := by decide +kernel
theorem dX11_often_94 : decode cX11_often 94 = .ok (.isub, 1) := by decide +kernel
theorem dX11_often_95 : decode cX11_often 95 = .ok (.ireturn, 1) := by decide +kernel
theorem dX11_shares_0 : decode cX11_shares 0 = .ok (.aload_n 0, 1) := by decide +kernel
theorem dX11_shares_1 : decode cX11_shares 1 = .ok (.iload_n 1, 1) := by decide +kernel
theorem dX11_shares_2 : decode cX11_shares 2 = .ok (.iconst 2, 1) := by decide +kernel
theorem dX11_shares_3 : decode cX11_shares 3 = .ok (.invokestatic 157, 3) := by decide +kernel
theorem dX11_shares_6 : decode cX11_shares 6 = .ok (.invokevirtual 122, 3) := by decide +kernel
theorem dX11_shares_9 : decode cX11_shares 9 = .ok (.aload_n 0, 1) := by decide +kernel
theorem dX11_shares_10 : decode cX11_shares 10 = .ok (.getfield 97, 3) := by decide +kernel
theorem dX11_shares_13 : decode cX11_shares 13 = .ok (.invokevirtual 266, 3) := by decide +kernel
theorem dX11_shares_16 : decode cX11_shares 16 = .ok (.iload_n 1, 1) := by decide +kernel
theorem dX11_shares_17 : decode cX11_shares 17 = .ok (.lookupswitch 43 #[(0, 27), (1, 35)], 27) := by decide +kernel
theorem dX11_shares_44 : decode cX11_shares 44 = .ok (.aload_n 0, 1) := by decide +kernel
theorem dX11_shares_45 : decode cX11_shares 45 = .ok (.getfield 97, 3) := by decide +kernel
theorem dX11_shares_48 : decode cX11_shares 48 = .ok (.getfield 269, 3) := by decide +kernel
theorem dX11_shares_51 : decode cX11_shares 51 = .ok (.ireturn, 1) := by decide +kernel
theorem dX11_shares_52 : decode cX11_shares 52 = .ok (.aload_n 0, 1) := by decide +kernel
theorem dX11_shares_53 : decode cX11_shares 53 = .ok (.getfield 97, 3) := by decide +kernel
theorem dX11_shares_56 : decode cX11_shares 56 = .ok (.getfield 272, 3) := by decide +kernel
theorem dX11_shares_59 : decode cX11_shares 59 = .ok (.ireturn, 1) := by decide +kernel
theorem dX11_shares_60 : decode cX11_shares 60 = .ok (.aload_n 0, 1) := by decide +kernel
theorem dX11_shares_61 : decode cX11_shares 61 = .ok (.getfield 97, 3) := by decide +kernel
theorem dX11_shares_64 : decode cX11_shares 64 = .ok (.getfield 275, 3) := by decide +kernel
theorem dX11_shares_67 : decode cX11_shares 67 = .ok (.ireturn, 1) := by decide +kernel
theorem dX11_sound_0 : decode cX11_sound 0 = .ok (.aload_n 0, 1) := by decide +kernel
theorem dX11_sound_1 : decode cX11_sound 1 = .ok (.getfield 97, 3) := by decide +kernel
theorem dX11_sound_4 : decode cX11_sound 4 = .ok (.invokevirtual 266, 3) := by decide +kernel
theorem dX11_sound_7 : decode cX11_sound 7 = .ok (.aload_n 0, 1) := by decide +kernel
theorem dX11_sound_8 : decode cX11_sound 8 = .ok (.getfield 97, 3) := by decide +kernel
theorem dX11_sound_11 : decode cX11_sound 11 = .ok (.getfield 272, 3) := by decide +kernel
theorem dX11_sound_14 : decode cX11_sound 14 = .ok (.ifCond .ne 17, 3) := by decide +kernel
theorem dX11_sound_17 : decode cX11_sound 17 = .ok (.aload_n 0, 1) := by decide +kernel
theorem dX11_sound_18 : decode cX11_sound 18 = .ok (.getfield 97, 3) := by decide +kernel
theorem dX11_sound_21 : decode cX11_sound 21 = .ok (.getfield 275, 3) := by decide +kernel
theorem dX11_sound_24 : decode cX11_sound 24 = .ok (.ifCond .ne 7, 3) := by decide +kernel
theorem dX11_sound_27 : decode cX11_sound 27 = .ok (.iconst 1, 1) := by decide +kernel
theorem dX11_sound_28 : decode cX11_sound 28 = .ok (.goto 4, 3) := by decide +kernel
theorem dX11_sound_31 : decode cX11_sound 31 = .ok (.iconst 0, 1) := by decide +kernel
theorem dX11_sound_32 : decode cX11_sound 32 = .ok (.ireturn, 1) := by decide +kernel
theorem dX11_needless_0 : decode cX11_needless 0 = .ok (.aload_n 0, 1) := by decide +kernel
theorem dX11_needless_1 : decode cX11_needless 1 = .ok (.getfield 97, 3) := by decide +kernel
theorem dX11_needless_4 : decode cX11_needless 4 = .ok (.invokevirtual 266, 3) := by decide +kernel
theorem dX11_needless_7 : decode cX11_needless 7 = .ok (.iconst 1, 1) := by decide +kernel
theorem dX11_needless_8 : decode cX11_needless 8 = .ok (.aload_n 0, 1) := by decide +kernel
theorem dX11_needless_9 : decode cX11_needless 9 = .ok (.getfield 97, 3) := by decide +kernel
theorem dX11_needless_12 : decode cX11_needless 12 = .ok (.getfield 148, 3) := by decide +kernel
theorem dX11_needless_15 : decode cX11_needless 15 = .ok (.ishl, 1) := by decide +kernel
theorem dX11_needless_16 : decode cX11_needless 16 = .ok (.iconst 1, 1) := by decide +kernel
theorem dX11_needless_17 : decode cX11_needless 17 = .ok (.isub, 1) := by decide +kernel
theorem dX11_needless_18 : decode cX11_needless 18 = .ok (.aload_n 0, 1) := by decide +kernel
theorem dX11_needless_19 : decode cX11_needless 19 = .ok (.getfield 97, 3) := by decide +kernel
theorem dX11_needless_22 : decode cX11_needless 22 = .ok (.getfield 278, 3) := by decide +kernel
theorem dX11_needless_25 : decode cX11_needless 25 = .ok (.iconst (-1), 1) := by decide +kernel
theorem dX11_needless_26 : decode cX11_needless 26 = .ok (.ixor, 1) := by decide +kernel
theorem dX11_needless_27 : decode cX11_needless 27 = .ok (.iand, 1) := by decide +kernel
theorem dX11_needless_28 : decode cX11_needless 28 = .ok (.ireturn, 1) := by decide +kernel
theorem dX11_digit_0 : decode cX11_digit 0 = .ok (.aload_n 0, 1) := by decide +kernel
theorem dX11_digit_1 : decode cX11_digit 1 = .ok (.aload_n 0, 1) := by decide +kernel
theorem dX11_digit_2 : decode cX11_digit 2 = .ok (.iload_n 1, 1) := by decide +kernel
theorem dX11_digit_3 : decode cX11_digit 3 = .ok (.invokevirtual 281, 3) := by decide +kernel
theorem dX11_digit_6 : decode cX11_digit 6 = .ok (.ifCond .eq 22, 3) := by decide +kernel
theorem dX11_digit_9 : decode cX11_digit 9 = .ok (.iload_n 2, 1) := by decide +kernel
theorem dX11_digit_10 : decode cX11_digit 10 = .ok (.ifCond .lt 18, 3) := by decide +kernel
theorem dX11_digit_13 : decode cX11_digit 13 = .ok (.iload_n 2, 1) := by decide +kernel
theorem dX11_digit_14 : decode cX11_digit 14 = .ok (.aload_n 0, 1) := by decide +kernel
theorem dX11_digit_15 : decode cX11_digit 15 = .ok (.getfield 97, 3) := by decide +kernel
theorem dX11_digit_18 : decode cX11_digit 18 = .ok (.getfield 196, 3) := by decide +kernel
theorem dX11_digit_21 : decode cX11_digit 21 = .ok (.if_icmp .ge 7, 3) := by decide +kernel
theorem dX11_digit_24 : decode cX11_digit 24 = .ok (.iconst 1, 1) := by decide +kernel
theorem dX11_digit_25 : decode cX11_digit 25 = .ok (.goto 4, 3) := by decide +kernel
theorem dX11_digit_28 : decode cX11_digit 28 = .ok (.iconst 0, 1) := by decide +kernel
theorem dX11_digit_29 : decode cX11_digit 29 = .ok (.invokevirtual 206, 3) := by decide +kernel
theorem dX11_digit_32 : decode cX11_digit 32 = .ok (.aload_n 0, 1) := by decide +kernel
theorem dX11_digit_33 : decode cX11_digit 33 = .ok (.iload_n 3, 1) := by decide +kernel
theorem dX11_digit_34 : decode cX11_digit 34 = .ok (.iconst 2, 1) := by decide +kernel
theorem dX11_digit_35 : decode cX11_digit 35 = .ok (.invokestatic 157, 3) := by decide +kernel
theorem dX11_digit_38 : decode cX11_digit 38 = .ok (.invokevirtual 122, 3) := by decide +kernel
theorem dX11_digit_41 : decode cX11_digit 41 = .ok (.iload_n 1, 1) := by decide +kernel
theorem dX11_digit_42 : decode cX11_digit 42 = .ok (.iconst 5, 1) := by decide +kernel
theorem dX11_digit_43 : decode cX11_digit 43 = .ok (.imul, 1) := by decide +kernel
theorem dX11_digit_44 : decode cX11_digit 44 = .ok (.iload_n 2, 1) := by decide +kernel
theorem dX11_digit_45 : decode cX11_digit 45 = .ok (.iadd, 1) := by decide +kernel
theorem dX11_digit_46 : decode cX11_digit 46 = .ok (.istore 4, 2) := by decide +kernel
theorem dX11_digit_48 : decode cX11_digit 48 = .ok (.iload_n 3, 1) := by decide +kernel
theorem dX11_digit_49 : decode cX11_digit 49 = .ok (.lookupswitch 49 #[(0, 27), (1, 38)], 27) := by decide +kernel
theorem dX11_digit_76 : decode cX11_digit 76 = .ok (.aload_n 0, 1) := by decide +kernel
theorem dX11_digit_77 : decode cX11_digit 77 = .ok (.getfield 97, 3) := by decide +kernel
theorem dX11_digit_80 : decode cX11_digit 80 = .ok (.getfield 284, 3) := by decide +kernel
theorem dX11_digit_83 : decode cX11_digit 83 = .ok (.iload 4, 2) := by decide +kernel
theorem dX11_digit_85 : decode cX11_digit 85 = .ok (.iaload, 1) := by decide +kernel
theorem dX11_digit_86 : decode cX11_digit 86 = .ok (.ireturn, 1) := by decide +kernel
theorem dX11_digit_87 : decode cX11_digit 87 = .ok (.aload_n 0, 1) := by decide +kernel
theorem dX11_digit_88 : decode cX11_digit 88 = .ok (.getfield 97, 3) := by decide +kernel
theorem dX11_digit_91 : decode cX11_digit 91 = .ok (.getfield 287, 3) := by decide +kernel
theorem dX11_digit_94 : decode cX11_digit 94 = .ok (.iload 4, 2) := by decide +kernel
theorem dX11_digit_96 : decode cX11_digit 96 = .ok (.iaload, 1) := by decide +kernel
theorem dX11_digit_97 : decode cX11_digit 97 = .ok (.ireturn, 1) := by decide +kernel
theorem dX11_digit_98 : decode cX11_digit 98 = .ok (.aload_n 0, 1) := by decide +kernel
theorem dX11_digit_99 : decode cX11_digit 99 = .ok (.getfield 97, 3) := by decide +kernel
theorem dX11_digit_102 : decode cX11_digit 102 = .ok (.getfield 290, 3) := by decide +kernel
theorem dX11_digit_105 : decode cX11_digit 105 = .ok (.iload 4, 2) := by decide +kernel
theorem dX11_digit_107 : decode cX11_digit 107 = .ok (.iaload, 1) := by decide +kernel
theorem dX11_digit_108 : decode cX11_digit 108 = .ok (.ireturn, 1) := by decide +kernel
theorem dX11_search_0 : decode cX11_search 0 = .ok (.aload_n 0, 1) := by decide +kernel
theorem dX11_search_1 : decode cX11_search 1 = .ok (.aload_n 0, 1) := by decide +kernel
theorem dX11_search_2 : decode cX11_search 2 = .ok (.getfield 10, 3) := by decide +kernel
theorem dX11_search_5 : decode cX11_search 5 = .ok (.iload_n 1, 1) := by decide +kernel
theorem dX11_search_6 : decode cX11_search 6 = .ok (.invokevirtual 118, 3) := by decide +kernel
theorem dX11_search_9 : decode cX11_search 9 = .ok (.ifCond .eq 35, 3) := by decide +kernel
theorem dX11_search_12 : decode cX11_search 12 = .ok (.iload_n 1, 1) := by decide +kernel
theorem dX11_search_13 : decode cX11_search 13 = .ok (.aload_n 0, 1) := by decide +kernel
theorem dX11_search_14 : decode cX11_search 14 = .ok (.getfield 97, 3) := by decide +kernel
theorem dX11_search_17 : decode cX11_search 17 = .ok (.getfield 196, 3) := by decide +kernel
theorem dX11_search_20 : decode cX11_search 20 = .ok (.if_icmp .lt 24, 3) := by decide +kernel
theorem dX11_search_23 : decode cX11_search 23 = .ok (.iload_n 1, 1) := by decide +kernel
theorem dX11_search_24 : decode cX11_search 24 = .ok (.bipush 24, 2) := by decide +kernel
theorem dX11_search_26 : decode cX11_search 26 = .ok (.if_icmp .gt 18, 3) := by decide +kernel
theorem dX11_search_29 : decode cX11_search 29 = .ok (.aload_n 0, 1) := by decide +kernel
theorem dX11_search_30 : decode cX11_search 30 = .ok (.getfield 10, 3) := by decide +kernel
theorem dX11_search_33 : decode cX11_search 33 = .ok (.iload_n 1, 1) := by decide +kernel
theorem dX11_search_34 : decode cX11_search 34 = .ok (.invokevirtual 259, 3) := by decide +kernel
theorem dX11_search_37 : decode cX11_search 37 = .ok (.ifCond .eq 7, 3) := by decide +kernel
theorem dX11_search_40 : decode cX11_search 40 = .ok (.iconst 1, 1) := by decide +kernel
theorem dX11_search_41 : decode cX11_search 41 = .ok (.goto 4, 3) := by decide +kernel
theorem dX11_search_44 : decode cX11_search 44 = .ok (.iconst 0, 1) := by decide +kernel
theorem dX11_search_45 : decode cX11_search 45 = .ok (.invokevirtual 122, 3) := by decide +kernel
theorem dX11_search_48 : decode cX11_search 48 = .ok (.aload_n 0, 1) := by decide +kernel
theorem dX11_search_49 : decode cX11_search 49 = .ok (.getfield 81, 3) := by decide +kernel
theorem dX11_search_52 : decode cX11_search 52 = .ok (.aload_n 0, 1) := by decide +kernel
theorem dX11_search_53 : decode cX11_search 53 = .ok (.getfield 10, 3) := by decide +kernel
theorem dX11_search_56 : decode cX11_search 56 = .ok (.iload_n 1, 1) := by decide +kernel
theorem dX11_search_57 : decode cX11_search 57 = .ok (.invokevirtual 293, 3) := by decide +kernel
theorem dX11_search_60 : decode cX11_search 60 = .ok (.aload_n 0, 1) := by decide +kernel
theorem dX11_search_61 : decode cX11_search 61 = .ok (.getfield 10, 3) := by decide +kernel
theorem dX11_search_64 : decode cX11_search 64 = .ok (.iconst 0, 1) := by decide +kernel
theorem dX11_search_65 : decode cX11_search 65 = .ok (.putfield 111, 3) := by decide +kernel
theorem dX11_search_68 : decode cX11_search 68 = .ok (.aload_n 0, 1) := by decide +kernel
theorem dX11_search_69 : decode cX11_search 69 = .ok (.getfield 74, 3) := by decide +kernel
theorem dX11_search_72 : decode cX11_search 72 = .ok (.invokevirtual 296, 3) := by decide +kernel
theorem dX11_search_75 : decode cX11_search 75 = .ok (.iconst 0, 1) := by decide +kernel
theorem dX11_search_76 : decode cX11_search 76 = .ok (.istore_n 2, 1) := by decide +kernel
theorem dX11_search_77 : decode cX11_search 77 = .ok (.iload_n 2, 1) := by decide +kernel
theorem dX11_search_78 : decode cX11_search 78 = .ok (.aload_n 0, 1) := by decide +kernel
theorem dX11_search_79 : decode cX11_search 79 = .ok (.getfield 97, 3) := by decide +kernel
theorem dX11_search_82 : decode cX11_search 82 = .ok (.getfield 148, 3) := by decide +kernel
theorem dX11_search_85 : decode cX11_search 85 = .ok (.if_icmp .ge 29, 3) := by decide +kernel
theorem dX11_search_88 : decode cX11_search 88 = .ok (.aload_n 0, 1) := by decide +kernel
theorem dX11_search_89 : decode cX11_search 89 = .ok (.getfield 74, 3) := by decide +kernel
theorem dX11_search_92 : decode cX11_search 92 = .ok (.aload_n 0, 1) := by decide +kernel
theorem dX11_search_93 : decode cX11_search 93 = .ok (.getfield 97, 3) := by decide +kernel
theorem dX11_search_96 : decode cX11_search 96 = .ok (.iload_n 2, 1) := by decide +kernel
theorem dX11_search_97 : decode cX11_search 97 = .ok (.aload_n 0, 1) := by decide +kernel
theorem dX11_search_98 : decode cX11_search 98 = .ok (.getfield 81, 3) := by decide +kernel
theorem dX11_search_101 : decode cX11_search 101 = .ok (.getfield 299, 3) := by decide +kernel
theorem dX11_search_104 : decode cX11_search 104 = .ok (.iload_n 1, 1) := by decide +kernel
theorem dX11_search_105 : decode cX11_search 105 = .ok (.invokevirtual 302, 3) := by decide +kernel
theorem dX11_search_108 : decode cX11_search 108 = .ok (.iinc 2 1, 3) := by decide +kernel
theorem dX11_search_111 : decode cX11_search 111 = .ok (.goto (-34), 3) := by decide +kernel
theorem dX11_search_114 : decode cX11_search 114 = .ok (.aload_n 0, 1) := by decide +kernel
theorem dX11_search_115 : decode cX11_search 115 = .ok (.getfield 81, 3) := by decide +kernel
theorem dX11_search_118 : decode cX11_search 118 = .ok (.aload_n 0, 1) := by decide +kernel
theorem dX11_search_119 : decode cX11_search 119 = .ok (.getfield 74, 3) := by decide +kernel
theorem dX11_search_122 : decode cX11_search 122 = .ok (.aload_n 0, 1) := by decide +kernel
theorem dX11_search_123 : decode cX11_search 123 = .ok (.getfield 19, 3) := by decide +kernel
theorem dX11_search_126 : decode cX11_search 126 = .ok (.getfield 176, 3) := by decide +kernel
theorem dX11_search_129 : decode cX11_search 129 = .ok (.invokevirtual 306, 3) := by decide +kernel
theorem dX11_search_132 : decode cX11_search 132 = .ok (.aload_n 0, 1) := by decide +kernel
theorem dX11_search_133 : decode cX11_search 133 = .ok (.getfield 81, 3) := by decide +kernel
theorem dX11_search_136 : decode cX11_search 136 = .ok (.getfield 202, 3) := by decide +kernel
theorem dX11_search_139 : decode cX11_search 139 = .ok (.ireturn, 1) := by decide +kernel
theorem dX11_found_0 : decode cX11_found 0 = .ok (.aload_n 0, 1) := by decide +kernel
theorem dX11_found_1 : decode cX11_found 1 = .ok (.aload_n 0, 1) := by decide +kernel
theorem dX11_found_2 : decode cX11_found 2 = .ok (.getfield 81, 3) := by decide +kernel
theorem dX11_found_5 : decode cX11_found 5 = .ok (.getfield 134, 3) := by decide +kernel
theorem dX11_found_8 : decode cX11_found 8 = .ok (.ifCond .eq 22, 3) := by decide +kernel
theorem dX11_found_11 : decode cX11_found 11 = .ok (.iload_n 1, 1) := by decide +kernel
theorem dX11_found_12 : decode cX11_found 12 = .ok (.ifCond .lt 18, 3) := by decide +kernel
theorem dX11_found_15 : decode cX11_found 15 = .ok (.iload_n 1, 1) := by decide +kernel
theorem dX11_found_16 : decode cX11_found 16 = .ok (.aload_n 0, 1) := by decide +kernel
theorem dX11_found_17 : decode cX11_found 17 = .ok (.getfield 81, 3) := by decide +kernel
theorem dX11_found_20 : decode cX11_found 20 = .ok (.getfield 202, 3) := by decide +kernel
theorem dX11_found_23 : decode cX11_found 23 = .ok (.if_icmp .ge 7, 3) := by decide +kernel
theorem dX11_found_26 : decode cX11_found 26 = .ok (.iconst 1, 1) := by decide +kernel
theorem dX11_found_27 : decode cX11_found 27 = .ok (.goto 4, 3) := by decide +kernel
theorem dX11_found_30 : decode cX11_found 30 = .ok (.iconst 0, 1) := by decide +kernel
theorem dX11_found_31 : decode cX11_found 31 = .ok (.invokevirtual 206, 3) := by decide +kernel
theorem dX11_found_34 : decode cX11_found 34 = .ok (.aload_n 0, 1) := by decide +kernel
theorem dX11_found_35 : decode cX11_found 35 = .ok (.iload_n 2, 1) := by decide +kernel
theorem dX11_found_36 : decode cX11_found 36 = .ok (.iconst 3, 1) := by decide +kernel
theorem dX11_found_37 : decode cX11_found 37 = .ok (.invokestatic 157, 3) := by decide +kernel
theorem dX11_found_40 : decode cX11_found 40 = .ok (.invokevirtual 122, 3) := by decide +kernel
theorem dX11_found_43 : decode cX11_found 43 = .ok (.iload_n 2, 1) := by decide +kernel
theorem dX11_found_44 : decode cX11_found 44 = .ok (.tableswitch 58 0 2 #[28, 38, 48], 28) := by decide +kernel
theorem dX11_found_72 : decode cX11_found 72 = .ok (.aload_n 0, 1) := by decide +kernel
theorem dX11_found_73 : decode cX11_found 73 = .ok (.getfield 81, 3) := by decide +kernel
theorem dX11_found_76 : decode cX11_found 76 = .ok (.getfield 310, 3) := by decide +kernel
theorem dX11_found_79 : decode cX11_found 79 = .ok (.iload_n 1, 1) := by decide +kernel
theorem dX11_found_80 : decode cX11_found 80 = .ok (.iaload, 1) := by decide +kernel
theorem dX11_found_81 : decode cX11_found 81 = .ok (.ireturn, 1) := by decide +kernel
theorem dX11_found_82 : decode cX11_found 82 = .ok (.aload_n 0, 1) := by decide +kernel
theorem dX11_found_83 : decode cX11_found 83 = .ok (.getfield 81, 3) := by decide +kernel
theorem dX11_found_86 : decode cX11_found 86 = .ok (.getfield 311, 3) := by decide +kernel
theorem dX11_found_89 : decode cX11_found 89 = .ok (.iload_n 1, 1) := by decide +kernel
theorem dX11_found_90 : decode cX11_found 90 = .ok (.iaload, 1) := by decide +kernel
theorem dX11_found_91 : decode cX11_found 91 = .ok (.ireturn, 1) := by decide +kernel
theorem dX11_found_92 : decode cX11_found 92 = .ok (.aload_n 0, 1) := by decide +kernel
theorem dX11_found_93 : decode cX11_found 93 = .ok (.getfield 81, 3) := by decide +kernel
theorem dX11_found_96 : decode cX11_found 96 = .ok (.getfield 314, 3) := by decide +kernel
theorem dX11_found_99 : decode cX11_found 99 = .ok (.iload_n 1, 1) := by decide +kernel
theorem dX11_found_100 : decode cX11_found 100 = .ok (.iaload, 1) := by decide +kernel
theorem dX11_found_101 : decode cX11_found 101 = .ok (.ireturn, 1) := by decide +kernel
theorem dX11_found_102 : decode cX11_found 102 = .ok (.aload_n 0, 1) := by decide +kernel
theorem dX11_found_103 : decode cX11_found 103 = .ok (.getfield 81, 3) := by decide +kernel
theorem dX11_found_106 : decode cX11_found 106 = .ok (.aload_n 0, 1) := by decide +kernel
theorem dX11_found_107 : decode cX11_found 107 = .ok (.getfield 19, 3) := by decide +kernel
theorem dX11_found_110 : decode cX11_found 110 = .ok (.aload_n 0, 1) := by decide +kernel
theorem dX11_found_111 : decode cX11_found 111 = .ok (.getfield 81, 3) := by decide +kernel
theorem dX11_found_114 : decode cX11_found 114 = .ok (.getfield 310, 3) := by decide +kernel
theorem dX11_found_117 : decode cX11_found 117 = .ok (.iload_n 1, 1) := by decide +kernel
theorem dX11_found_118 : decode cX11_found 118 = .ok (.iaload, 1) := by decide +kernel
theorem dX11_found_119 : decode cX11_found 119 = .ok (.invokevirtual 317, 3) := by decide +kernel
theorem dX11_found_122 : decode cX11_found 122 = .ok (.ireturn, 1) := by decide +kernel
theorem dX11_result_0 : decode cX11_result 0 = .ok (.aload_n 0, 1) := by decide +kernel
theorem dX11_result_1 : decode cX11_result 1 = .ok (.iload_n 1, 1) := by decide +kernel
theorem dX11_result_2 : decode cX11_result 2 = .ok (.iconst 4, 1) := by decide +kernel
theorem dX11_result_3 : decode cX11_result 3 = .ok (.invokestatic 157, 3) := by decide +kernel
theorem dX11_result_6 : decode cX11_result 6 = .ok (.invokevirtual 122, 3) := by decide +kernel
theorem dX11_result_9 : decode cX11_result 9 = .ok (.aload_n 0, 1) := by decide +kernel
theorem dX11_result_10 : decode cX11_result 10 = .ok (.getfield 81, 3) := by decide +kernel
theorem dX11_result_13 : decode cX11_result 13 = .ok (.getfield 134, 3) := by decide +kernel
theorem dX11_result_16 : decode cX11_result 16 = .ok (.ifCond .ne 5, 3) := by decide +kernel
theorem dX11_result_19 : decode cX11_result 19 = .ok (.iconst (-1), 1) := by decide +kernel
theorem dX11_result_20 : decode cX11_result 20 = .ok (.ireturn, 1) := by decide +kernel
theorem dX11_result_21 : decode cX11_result 21 = .ok (.iload_n 1, 1) := by decide +kernel
theorem dX11_result_22 : decode cX11_result 22 = .ok (.tableswitch 62 0 3 #[30, 38, 46, 54], 30) := by decide +kernel
theorem dX11_result_52 : decode cX11_result 52 = .ok (.aload_n 0, 1) := by decide +kernel
theorem dX11_result_53 : decode cX11_result 53 = .ok (.getfield 81, 3) := by decide +kernel
theorem dX11_result_56 : decode cX11_result 56 = .ok (.getfield 321, 3) := by decide +kernel
theorem dX11_result_59 : decode cX11_result 59 = .ok (.ireturn, 1) := by decide +kernel
theorem dX11_result_60 : decode cX11_result 60 = .ok (.aload_n 0, 1) := by decide +kernel
theorem dX11_result_61 : decode cX11_result 61 = .ok (.getfield 81, 3) := by decide +kernel
theorem dX11_result_64 : decode cX11_result 64 = .ok (.getfield 324, 3) := by decide +kernel
theorem dX11_result_67 : decode cX11_result 67 = .ok (.ireturn, 1) := by decide +kernel
theorem dX11_result_68 : decode cX11_result 68 = .ok (.aload_n 0, 1) := by decide +kernel
theorem dX11_result_69 : decode cX11_result 69 = .ok (.getfield 81, 3) := by decide +kernel
theorem dX11_result_72 : decode cX11_result 72 = .ok (.invokevirtual 327, 3) := by decide +kernel
theorem dX11_result_75 : decode cX11_result 75 = .ok (.ireturn, 1) := by decide +kernel
theorem dX11_result_76 : decode cX11_result 76 = .ok (.aload_n 0, 1) := by decide +kernel
theorem dX11_result_77 : decode cX11_result 77 = .ok (.getfield 81, 3) := by decide +kernel
theorem dX11_result_80 : decode cX11_result 80 = .ok (.invokevirtual 330, 3) := by decide +kernel
theorem dX11_result_83 : decode cX11_result 83 = .ok (.ireturn, 1) := by decide +kernel
theorem dX11_result_84 : decode cX11_result 84 = .ok (.aload_n 0, 1) := by decide +kernel
theorem dX11_result_85 : decode cX11_result 85 = .ok (.getfield 81, 3) := by decide +kernel
theorem dX11_result_88 : decode cX11_result 88 = .ok (.getfield 333, 3) := by decide +kernel
theorem dX11_result_91 : decode cX11_result 91 = .ok (.ireturn, 1) := by decide +kernel
theorem dX11_ran_0 : decode cX11_ran 0 = .ok (.aload_n 0, 1) := by decide +kernel
theorem dX11_ran_1 : decode cX11_ran 1 = .ok (.aload_n 0, 1) := by decide +kernel
theorem dX11_ran_2 : decode cX11_ran 2 = .ok (.iload_n 1, 1) := by decide +kernel
theorem dX11_ran_3 : decode cX11_ran 3 = .ok (.invokevirtual 281, 3) := by decide +kernel
theorem dX11_ran_6 : decode cX11_ran 6 = .ok (.invokevirtual 206, 3) := by decide +kernel
theorem dX11_ran_9 : decode cX11_ran 9 = .ok (.aload_n 0, 1) := by decide +kernel
theorem dX11_ran_10 : decode cX11_ran 10 = .ok (.iload_n 2, 1) := by decide +kernel
theorem dX11_ran_11 : decode cX11_ran 11 = .ok (.iconst 1, 1) := by decide +kernel
theorem dX11_ran_12 : decode cX11_ran 12 = .ok (.invokestatic 157, 3) := by decide +kernel
theorem dX11_ran_15 : decode cX11_ran 15 = .ok (.invokevirtual 122, 3) := by decide +kernel
theorem dX11_ran_18 : decode cX11_ran 18 = .ok (.aload_n 0, 1) := by decide +kernel
theorem dX11_ran_19 : decode cX11_ran 19 = .ok (.getfield 81, 3) := by decide +kernel
theorem dX11_ran_22 : decode cX11_ran 22 = .ok (.getfield 134, 3) := by decide +kernel
theorem dX11_ran_25 : decode cX11_ran 25 = .ok (.ifCond .eq 20, 3) := by decide +kernel
theorem dX11_ran_28 : decode cX11_ran 28 = .ok (.aload_n 0, 1) := by decide +kernel
theorem dX11_ran_29 : decode cX11_ran 29 = .ok (.getfield 81, 3) := by decide +kernel
theorem dX11_ran_32 : decode cX11_ran 32 = .ok (.getfield 333, 3) := by decide +kernel
theorem dX11_ran_35 : decode cX11_ran 35 = .ok (.aload_n 0, 1) := by decide +kernel
theorem dX11_ran_36 : decode cX11_ran 36 = .ok (.getfield 97, 3) := by decide +kernel
theorem dX11_ran_39 : decode cX11_ran 39 = .ok (.getfield 196, 3) := by decide +kernel
theorem dX11_ran_42 : decode cX11_ran 42 = .ok (.if_icmp .ge 5, 3) := by decide +kernel
theorem dX11_ran_45 : decode cX11_ran 45 = .ok (.iconst (-1), 1) := by decide +kernel
theorem dX11_ran_46 : decode cX11_ran 46 = .ok (.ireturn, 1) := by decide +kernel
theorem dX11_ran_47 : decode cX11_ran 47 = .ok (.aload_n 0, 1) := by decide +kernel
theorem dX11_ran_48 : decode cX11_ran 48 = .ok (.getfield 74, 3) := by decide +kernel
theorem dX11_ran_51 : decode cX11_ran 51 = .ok (.invokevirtual 296, 3) := by decide +kernel
theorem dX11_ran_54 : decode cX11_ran 54 = .ok (.aload_n 0, 1) := by decide +kernel
theorem dX11_ran_55 : decode cX11_ran 55 = .ok (.getfield 74, 3) := by decide +kernel
theorem dX11_ran_58 : decode cX11_ran 58 = .ok (.aload_n 0, 1) := by decide +kernel
theorem dX11_ran_59 : decode cX11_ran 59 = .ok (.getfield 97, 3) := by decide +kernel
theorem dX11_ran_62 : decode cX11_ran 62 = .ok (.iload_n 1, 1) := by decide +kernel
theorem dX11_ran_63 : decode cX11_ran 63 = .ok (.aload_n 0, 1) := by decide +kernel
theorem dX11_ran_64 : decode cX11_ran 64 = .ok (.getfield 81, 3) := by decide +kernel
theorem dX11_ran_67 : decode cX11_ran 67 = .ok (.getfield 299, 3) := by decide +kernel
theorem dX11_ran_70 : decode cX11_ran 70 = .ok (.aload_n 0, 1) := by decide +kernel
theorem dX11_ran_71 : decode cX11_ran 71 = .ok (.getfield 81, 3) := by decide +kernel
theorem dX11_ran_74 : decode cX11_ran 74 = .ok (.getfield 333, 3) := by decide +kernel
theorem dX11_ran_77 : decode cX11_ran 77 = .ok (.invokevirtual 302, 3) := by decide +kernel
theorem dX11_ran_80 : decode cX11_ran 80 = .ok (.iload_n 2, 1) := by decide +kernel
theorem dX11_ran_81 : decode cX11_ran 81 = .ok (.ifCond .ne 13, 3) := by decide +kernel
theorem dX11_ran_84 : decode cX11_ran 84 = .ok (.aload_n 0, 1) := by decide +kernel
theorem dX11_ran_85 : decode cX11_ran 85 = .ok (.getfield 74, 3) := by decide +kernel
theorem dX11_ran_88 : decode cX11_ran 88 = .ok (.getfield 336, 3) := by decide +kernel
theorem dX11_ran_91 : decode cX11_ran 91 = .ok (.goto 10, 3) := by decide +kernel
theorem dX11_ran_94 : decode cX11_ran 94 = .ok (.aload_n 0, 1) := by decide +kernel
theorem dX11_ran_95 : decode cX11_ran 95 = .ok (.getfield 74, 3) := by decide +kernel
theorem dX11_ran_98 : decode cX11_ran 98 = .ok (.getfield 337, 3) := by decide +kernel
theorem dX11_ran_101 : decode cX11_ran 101 = .ok (.ireturn, 1) := by decide +kernel
theorem dX11_matches_0 : decode cX11_matches 0 = .ok (.aload_n 0, 1) := by decide +kernel
theorem dX11_matches_1 : decode cX11_matches 1 = .ok (.aload_n 0, 1) := by decide +kernel
theorem dX11_matches_2 : decode cX11_matches 2 = .ok (.getfield 10, 3) := by decide +kernel
theorem dX11_matches_5 : decode cX11_matches 5 = .ok (.iload_n 1, 1) := by decide +kernel
theorem dX11_matches_6 : decode cX11_matches 6 = .ok (.invokevirtual 118, 3) := by decide +kernel
theorem dX11_matches_9 : decode cX11_matches 9 = .ok (.ifCond .eq 25, 3) := by decide +kernel
theorem dX11_matches_12 : decode cX11_matches 12 = .ok (.iload_n 2, 1) := by decide +kernel
theorem dX11_matches_13 : decode cX11_matches 13 = .ok (.invokestatic 338, 3) := by decide +kernel
theorem dX11_matches_16 : decode cX11_matches 16 = .ok (.ifCond .eq 18, 3) := by decide +kernel
theorem dX11_matches_19 : decode cX11_matches 19 = .ok (.aload_n 0, 1) := by decide +kernel
theorem dX11_matches_20 : decode cX11_matches 20 = .ok (.getfield 10, 3) := by decide +kernel
theorem dX11_matches_23 : decode cX11_matches 23 = .ok (.iload_n 1, 1) := by decide +kernel
theorem dX11_matches_24 : decode cX11_matches 24 = .ok (.invokevirtual 259, 3) := by decide +kernel
theorem dX11_matches_27 : decode cX11_matches 27 = .ok (.ifCond .eq 7, 3) := by decide +kernel
theorem dX11_matches_30 : decode cX11_matches 30 = .ok (.iconst 1, 1) := by decide +kernel
theorem dX11_matches_31 : decode cX11_matches 31 = .ok (.goto 4, 3) := by decide +kernel
theorem dX11_matches_34 : decode cX11_matches 34 = .ok (.iconst 0, 1) := by decide +kernel
theorem dX11_matches_35 : decode cX11_matches 35 = .ok (.invokevirtual 122, 3) := by decide +kernel
theorem dX11_matches_38 : decode cX11_matches 38 = .ok (.aload_n 0, 1) := by decide +kernel
theorem dX11_matches_39 : decode cX11_matches 39 = .ok (.getfield 65, 3) := by decide +kernel
theorem dX11_matches_42 : decode cX11_matches 42 = .ok (.aload_n 0, 1) := by decide +kernel
theorem dX11_matches_43 : decode cX11_matches 43 = .ok (.getfield 10, 3) := by decide +kernel
theorem dX11_matches_46 : decode cX11_matches 46 = .ok (.iload_n 1, 1) := by decide +kernel
theorem dX11_matches_47 : decode cX11_matches 47 = .ok (.invokevirtual 341, 3) := by decide +kernel
theorem dX11_matches_50 : decode cX11_matches 50 = .ok (.aload_n 0, 1) := by decide +kernel
theorem dX11_matches_51 : decode cX11_matches 51 = .ok (.getfield 65, 3) := by decide +kernel
theorem dX11_matches_54 : decode cX11_matches 54 = .ok (.iload_n 1, 1) := by decide +kernel
theorem dX11_matches_55 : decode cX11_matches 55 = .ok (.iload_n 2, 1) := by decide +kernel
theorem dX11_matches_56 : decode cX11_matches 56 = .ok (.invokevirtual 344, 3) := by decide +kernel
theorem dX11_matches_59 : decode cX11_matches 59 = .ok (.aload_n 0, 1) := by decide +kernel
theorem dX11_matches_60 : decode cX11_matches 60 = .ok (.getfield 10, 3) := by decide +kernel
theorem dX11_matches_63 : decode cX11_matches 63 = .ok (.iconst 0, 1) := by decide +kernel
theorem dX11_matches_64 : decode cX11_matches 64 = .ok (.putfield 111, 3) := by decide +kernel
theorem dX11_matches_67 : decode cX11_matches 67 = .ok (.aload_n 0, 1) := by decide +kernel
theorem dX11_matches_68 : decode cX11_matches 68 = .ok (.getfield 65, 3) := by decide +kernel
theorem dX11_matches_71 : decode cX11_matches 71 = .ok (.getfield 138, 3) := by decide +kernel
theorem dX11_matches_74 : decode cX11_matches 74 = .ok (.ireturn, 1) := by decide +kernel
theorem dX11_match_0 : decode cX11_match 0 = .ok (.aload_n 0, 1) := by decide +kernel
theorem dX11_match_1 : decode cX11_match 1 = .ok (.iload_n 1, 1) := by decide +kernel
theorem dX11_match_2 : decode cX11_match 2 = .ok (.ifCond .lt 18, 3) := by decide +kernel
theorem dX11_match_5 : decode cX11_match 5 = .ok (.iload_n 1, 1) := by decide +kernel
theorem dX11_match_6 : decode cX11_match 6 = .ok (.aload_n 0, 1) := by decide +kernel
theorem dX11_match_7 : decode cX11_match 7 = .ok (.getfield 65, 3) := by decide +kernel
theorem dX11_match_10 : decode cX11_match 10 = .ok (.getfield 138, 3) := by decide +kernel
theorem dX11_match_13 : decode cX11_match 13 = .ok (.if_icmp .ge 7, 3) := by decide +kernel
theorem dX11_match_16 : decode cX11_match 16 = .ok (.iconst 1, 1) := by decide +kernel
theorem dX11_match_17 : decode cX11_match 17 = .ok (.goto 4, 3) := by decide +kernel
theorem dX11_match_20 : decode cX11_match 20 = .ok (.iconst 0, 1) := by decide +kernel
theorem dX11_match_21 : decode cX11_match 21 = .ok (.invokevirtual 206, 3) := by decide +kernel
theorem dX11_match_24 : decode cX11_match 24 = .ok (.aload_n 0, 1) := by decide +kernel
theorem dX11_match_25 : decode cX11_match 25 = .ok (.iload_n 2, 1) := by decide +kernel
theorem dX11_match_26 : decode cX11_match 26 = .ok (.iconst 3, 1) := by decide +kernel
theorem dX11_match_27 : decode cX11_match 27 = .ok (.invokestatic 157, 3) := by decide +kernel
theorem dX11_match_30 : decode cX11_match 30 = .ok (.invokevirtual 122, 3) := by decide +kernel
theorem dX11_match_33 : decode cX11_match 33 = .ok (.iload_n 2, 1) := by decide +kernel
theorem dX11_match_34 : decode cX11_match 34 = .ok (.tableswitch 56 0 2 #[26, 36, 46], 26) := by decide +kernel
theorem dX11_match_60 : decode cX11_match 60 = .ok (.aload_n 0, 1) := by decide +kernel
theorem dX11_match_61 : decode cX11_match 61 = .ok (.getfield 65, 3) := by decide +kernel
theorem dX11_match_64 : decode cX11_match 64 = .ok (.getfield 348, 3) := by decide +kernel
theorem dX11_match_67 : decode cX11_match 67 = .ok (.iload_n 1, 1) := by decide +kernel
theorem dX11_match_68 : decode cX11_match 68 = .ok (.iaload, 1) := by decide +kernel
theorem dX11_match_69 : decode cX11_match 69 = .ok (.ireturn, 1) := by decide +kernel
theorem dX11_match_70 : decode cX11_match 70 = .ok (.aload_n 0, 1) := by decide +kernel
theorem dX11_match_71 : decode cX11_match 71 = .ok (.getfield 65, 3) := by decide +kernel
theorem dX11_match_74 : decode cX11_match 74 = .ok (.getfield 351, 3) := by decide +kernel
theorem dX11_match_77 : decode cX11_match 77 = .ok (.iload_n 1, 1) := by decide +kernel
theorem dX11_match_78 : decode cX11_match 78 = .ok (.iaload, 1) := by decide +kernel
theorem dX11_match_79 : decode cX11_match 79 = .ok (.ireturn, 1) := by decide +kernel
theorem dX11_match_80 : decode cX11_match 80 = .ok (.aload_n 0, 1) := by decide +kernel
theorem dX11_match_81 : decode cX11_match 81 = .ok (.getfield 65, 3) := by decide +kernel
theorem dX11_match_84 : decode cX11_match 84 = .ok (.getfield 354, 3) := by decide +kernel
theorem dX11_match_87 : decode cX11_match 87 = .ok (.iload_n 1, 1) := by decide +kernel
theorem dX11_match_88 : decode cX11_match 88 = .ok (.iaload, 1) := by decide +kernel
theorem dX11_match_89 : decode cX11_match 89 = .ok (.ireturn, 1) := by decide +kernel
theorem dX11_match_90 : decode cX11_match 90 = .ok (.aload_n 0, 1) := by decide +kernel
theorem dX11_match_91 : decode cX11_match 91 = .ok (.getfield 65, 3) := by decide +kernel
theorem dX11_match_94 : decode cX11_match 94 = .ok (.getfield 355, 3) := by decide +kernel
theorem dX11_match_97 : decode cX11_match 97 = .ok (.iload_n 1, 1) := by decide +kernel
theorem dX11_match_98 : decode cX11_match 98 = .ok (.iaload, 1) := by decide +kernel
theorem dX11_match_99 : decode cX11_match 99 = .ok (.ireturn, 1) := by decide +kernel
theorem dX11_maximals_0 : decode cX11_maximals 0 = .ok (.aload_n 0, 1) := by decide +kernel
theorem dX11_maximals_1 : decode cX11_maximals 1 = .ok (.iload_n 1, 1) := by decide +kernel
theorem dX11_maximals_2 : decode cX11_maximals 2 = .ok (.invokestatic 338, 3) := by decide +kernel
theorem dX11_maximals_5 : decode cX11_maximals 5 = .ok (.ifCond .eq 14, 3) := by decide +kernel
theorem dX11_maximals_8 : decode cX11_maximals 8 = .ok (.iload_n 2, 1) := by decide +kernel
theorem dX11_maximals_9 : decode cX11_maximals 9 = .ok (.invokestatic 358, 3) := by decide +kernel
theorem dX11_maximals_12 : decode cX11_maximals 12 = .ok (.ifCond .eq 7, 3) := by decide +kernel
theorem dX11_maximals_15 : decode cX11_maximals 15 = .ok (.iconst 1, 1) := by decide +kernel
theorem dX11_maximals_16 : decode cX11_maximals 16 = .ok (.goto 4, 3) := by decide +kernel
theorem dX11_maximals_19 : decode cX11_maximals 19 = .ok (.iconst 0, 1) := by decide +kernel
theorem dX11_maximals_20 : decode cX11_maximals 20 = .ok (.invokevirtual 122, 3) := by decide +kernel
theorem dX11_maximals_23 : decode cX11_maximals 23 = .ok (.aload_n 0, 1) := by decide +kernel
theorem dX11_maximals_24 : decode cX11_maximals 24 = .ok (.getfield 56, 3) := by decide +kernel
theorem dX11_maximals_27 : decode cX11_maximals 27 = .ok (.iload_n 1, 1) := by decide +kernel
theorem dX11_maximals_28 : decode cX11_maximals 28 = .ok (.iload_n 2, 1) := by decide +kernel
theorem dX11_maximals_29 : decode cX11_maximals 29 = .ok (.invokevirtual 361, 3) := by decide +kernel
theorem dX11_maximals_32 : decode cX11_maximals 32 = .ok (.ireturn, 1) := by decide +kernel
theorem dX11_maximal_0 : decode cX11_maximal 0 = .ok (.aload_n 0, 1) := by decide +kernel
theorem dX11_maximal_1 : decode cX11_maximal 1 = .ok (.iload_n 2, 1) := by decide +kernel
theorem dX11_maximal_2 : decode cX11_maximal 2 = .ok (.invokestatic 338, 3) := by decide +kernel
theorem dX11_maximal_5 : decode cX11_maximal 5 = .ok (.ifCond .eq 23, 3) := by decide +kernel
theorem dX11_maximal_8 : decode cX11_maximal 8 = .ok (.iload_n 3, 1) := by decide +kernel
theorem dX11_maximal_9 : decode cX11_maximal 9 = .ok (.invokestatic 358, 3) := by decide +kernel
theorem dX11_maximal_12 : decode cX11_maximal 12 = .ok (.ifCond .eq 16, 3) := by decide +kernel
theorem dX11_maximal_15 : decode cX11_maximal 15 = .ok (.iload 4, 2) := by decide +kernel
theorem dX11_maximal_17 : decode cX11_maximal 17 = .ok (.iconst 2, 1) := by decide +kernel
theorem dX11_maximal_18 : decode cX11_maximal 18 = .ok (.invokestatic 157, 3) := by decide +kernel
theorem dX11_maximal_21 : decode cX11_maximal 21 = .ok (.ifCond .eq 7, 3) := by decide +kernel
theorem dX11_maximal_24 : decode cX11_maximal 24 = .ok (.iconst 1, 1) := by decide +kernel
theorem dX11_maximal_25 : decode cX11_maximal 25 = .ok (.goto 4, 3) := by decide +kernel
theorem dX11_maximal_28 : decode cX11_maximal 28 = .ok (.iconst 0, 1) := by decide +kernel
theorem dX11_maximal_29 : decode cX11_maximal 29 = .ok (.invokevirtual 122, 3) := by decide +kernel
theorem dX11_maximal_32 : decode cX11_maximal 32 = .ok (.aload_n 0, 1) := by decide +kernel
theorem dX11_maximal_33 : decode cX11_maximal 33 = .ok (.getfield 56, 3) := by decide +kernel
theorem dX11_maximal_36 : decode cX11_maximal 36 = .ok (.iload_n 1, 1) := by decide +kernel
theorem dX11_maximal_37 : decode cX11_maximal 37 = .ok (.iload_n 2, 1) := by decide +kernel
theorem dX11_maximal_38 : decode cX11_maximal 38 = .ok (.iload_n 3, 1) := by decide +kernel
theorem dX11_maximal_39 : decode cX11_maximal 39 = .ok (.invokevirtual 364, 3) := by decide +kernel
theorem dX11_maximal_42 : decode cX11_maximal 42 = .ok (.istore 5, 2) := by decide +kernel
theorem dX11_maximal_44 : decode cX11_maximal 44 = .ok (.aload_n 0, 1) := by decide +kernel
theorem dX11_maximal_45 : decode cX11_maximal 45 = .ok (.iload 5, 2) := by decide +kernel
theorem dX11_maximal_47 : decode cX11_maximal 47 = .ok (.iconst (-1), 1) := by decide +kernel
theorem dX11_maximal_48 : decode cX11_maximal 48 = .ok (.if_icmp .eq 7, 3) := by decide +kernel
theorem dX11_maximal_51 : decode cX11_maximal 51 = .ok (.iconst 1, 1) := by decide +kernel
theorem dX11_maximal_52 : decode cX11_maximal 52 = .ok (.goto 4, 3) := by decide +kernel
theorem dX11_maximal_55 : decode cX11_maximal 55 = .ok (.iconst 0, 1) := by decide +kernel
theorem dX11_maximal_56 : decode cX11_maximal 56 = .ok (.invokevirtual 206, 3) := by decide +kernel
theorem dX11_maximal_59 : decode cX11_maximal 59 = .ok (.iload 4, 2) := by decide +kernel
theorem dX11_maximal_61 : decode cX11_maximal 61 = .ok (.lookupswitch 66 #[(0, 27), (1, 38)], 27) := by decide +kernel
theorem dX11_maximal_88 : decode cX11_maximal 88 = .ok (.aload_n 0, 1) := by decide +kernel
theorem dX11_maximal_89 : decode cX11_maximal 89 = .ok (.getfield 56, 3) := by decide +kernel
theorem dX11_maximal_92 : decode cX11_maximal 92 = .ok (.getfield 368, 3) := by decide +kernel
theorem dX11_maximal_95 : decode cX11_maximal 95 = .ok (.iload 5, 2) := by decide +kernel
theorem dX11_maximal_97 : decode cX11_maximal 97 = .ok (.iaload, 1) := by decide +kernel
theorem dX11_maximal_98 : decode cX11_maximal 98 = .ok (.ireturn, 1) := by decide +kernel
theorem dX11_maximal_99 : decode cX11_maximal 99 = .ok (.aload_n 0, 1) := by decide +kernel
theorem dX11_maximal_100 : decode cX11_maximal 100 = .ok (.getfield 56, 3) := by decide +kernel
theorem dX11_maximal_103 : decode cX11_maximal 103 = .ok (.aload_n 0, 1) := by decide +kernel
theorem dX11_maximal_104 : decode cX11_maximal 104 = .ok (.getfield 56, 3) := by decide +kernel
theorem dX11_maximal_107 : decode cX11_maximal 107 = .ok (.getfield 369, 3) := by decide +kernel
theorem dX11_maximal_110 : decode cX11_maximal 110 = .ok (.iload 5, 2) := by decide +kernel
theorem dX11_maximal_112 : decode cX11_maximal 112 = .ok (.iaload, 1) := by decide +kernel
theorem dX11_maximal_113 : decode cX11_maximal 113 = .ok (.aload_n 0, 1) := by decide +kernel
theorem dX11_maximal_114 : decode cX11_maximal 114 = .ok (.getfield 56, 3) := by decide +kernel
theorem dX11_maximal_117 : decode cX11_maximal 117 = .ok (.getfield 372, 3) := by decide +kernel
theorem dX11_maximal_120 : decode cX11_maximal 120 = .ok (.iload 5, 2) := by decide +kernel
theorem dX11_maximal_122 : decode cX11_maximal 122 = .ok (.iaload, 1) := by decide +kernel
theorem dX11_maximal_123 : decode cX11_maximal 123 = .ok (.invokevirtual 375, 3) := by decide +kernel
theorem dX11_maximal_126 : decode cX11_maximal 126 = .ok (.ireturn, 1) := by decide +kernel
theorem dX11_maximal_127 : decode cX11_maximal 127 = .ok (.aload_n 0, 1) := by decide +kernel
theorem dX11_maximal_128 : decode cX11_maximal 128 = .ok (.getfield 56, 3) := by decide +kernel
theorem dX11_maximal_131 : decode cX11_maximal 131 = .ok (.getfield 372, 3) := by decide +kernel
theorem dX11_maximal_134 : decode cX11_maximal 134 = .ok (.iload 5, 2) := by decide +kernel
theorem dX11_maximal_136 : decode cX11_maximal 136 = .ok (.iaload, 1) := by decide +kernel
theorem dX11_maximal_137 : decode cX11_maximal 137 = .ok (.ireturn, 1) := by decide +kernel
theorem dX11_strings_0 : decode cX11_strings 0 = .ok (.aload_n 0, 1) := by decide +kernel
theorem dX11_strings_1 : decode cX11_strings 1 = .ok (.iload_n 1, 1) := by decide +kernel
theorem dX11_strings_2 : decode cX11_strings 2 = .ok (.invokestatic 338, 3) := by decide +kernel
theorem dX11_strings_5 : decode cX11_strings 5 = .ok (.invokevirtual 122, 3) := by decide +kernel
theorem dX11_strings_8 : decode cX11_strings 8 = .ok (.aload_n 0, 1) := by decide +kernel
theorem dX11_strings_9 : decode cX11_strings 9 = .ok (.getfield 56, 3) := by decide +kernel
theorem dX11_strings_12 : decode cX11_strings 12 = .ok (.iload_n 1, 1) := by decide +kernel
theorem dX11_strings_13 : decode cX11_strings 13 = .ok (.invokevirtual 378, 3) := by decide +kernel
theorem dX11_strings_16 : decode cX11_strings 16 = .ok (.ireturn, 1) := by decide +kernel
theorem dX11_repeat_0 : decode cX11_repeat 0 = .ok (.aload_n 0, 1) := by decide +kernel
theorem dX11_repeat_1 : decode cX11_repeat 1 = .ok (.iload_n 1, 1) := by decide +kernel
theorem dX11_repeat_2 : decode cX11_repeat 2 = .ok (.iconst 2, 1) := by decide +kernel
theorem dX11_repeat_3 : decode cX11_repeat 3 = .ok (.invokestatic 157, 3) := by decide +kernel
theorem dX11_repeat_6 : decode cX11_repeat 6 = .ok (.invokevirtual 122, 3) := by decide +kernel
theorem dX11_repeat_9 : decode cX11_repeat 9 = .ok (.aload_n 0, 1) := by decide +kernel
theorem dX11_repeat_10 : decode cX11_repeat 10 = .ok (.getfield 56, 3) := by decide +kernel
theorem dX11_repeat_13 : decode cX11_repeat 13 = .ok (.invokevirtual 381, 3) := by decide +kernel
theorem dX11_repeat_16 : decode cX11_repeat 16 = .ok (.istore_n 2, 1) := by decide +kernel
theorem dX11_repeat_17 : decode cX11_repeat 17 = .ok (.iload_n 2, 1) := by decide +kernel
theorem dX11_repeat_18 : decode cX11_repeat 18 = .ok (.ifCond .ne 14, 3) := by decide +kernel
theorem dX11_repeat_21 : decode cX11_repeat 21 = .ok (.iload_n 1, 1) := by decide +kernel
theorem dX11_repeat_22 : decode cX11_repeat 22 = .ok (.iconst 1, 1) := by decide +kernel
theorem dX11_repeat_23 : decode cX11_repeat 23 = .ok (.if_icmp .ne 7, 3) := by decide +kernel
theorem dX11_repeat_26 : decode cX11_repeat 26 = .ok (.iconst (-1), 1) := by decide +kernel
theorem dX11_repeat_27 : decode cX11_repeat 27 = .ok (.goto 4, 3) := by decide +kernel
theorem dX11_repeat_30 : decode cX11_repeat 30 = .ok (.iconst 0, 1) := by decide +kernel
theorem dX11_repeat_31 : decode cX11_repeat 31 = .ok (.ireturn, 1) := by decide +kernel
theorem dX11_repeat_32 : decode cX11_repeat 32 = .ok (.aload_n 0, 1) := by decide +kernel
theorem dX11_repeat_33 : decode cX11_repeat 33 = .ok (.getfield 56, 3) := by decide +kernel
theorem dX11_repeat_36 : decode cX11_repeat 36 = .ok (.iload_n 2, 1) := by decide +kernel
theorem dX11_repeat_37 : decode cX11_repeat 37 = .ok (.invokevirtual 384, 3) := by decide +kernel
theorem dX11_repeat_40 : decode cX11_repeat 40 = .ok (.istore_n 3, 1) := by decide +kernel
theorem dX11_repeat_41 : decode cX11_repeat 41 = .ok (.iload_n 1, 1) := by decide +kernel
theorem dX11_repeat_42 : decode cX11_repeat 42 = .ok (.lookupswitch 30 #[(0, 26), (1, 28)], 26) := by decide +kernel
theorem dX11_repeat_68 : decode cX11_repeat 68 = .ok (.iload_n 2, 1) := by decide +kernel
theorem dX11_repeat_69 : decode cX11_repeat 69 = .ok (.ireturn, 1) := by decide +kernel
theorem dX11_repeat_70 : decode cX11_repeat 70 = .ok (.iload_n 3, 1) := by decide +kernel
theorem dX11_repeat_71 : decode cX11_repeat 71 = .ok (.ireturn, 1) := by decide +kernel
theorem dX11_repeat_72 : decode cX11_repeat 72 = .ok (.aload_n 0, 1) := by decide +kernel
theorem dX11_repeat_73 : decode cX11_repeat 73 = .ok (.getfield 56, 3) := by decide +kernel
theorem dX11_repeat_76 : decode cX11_repeat 76 = .ok (.iload_n 3, 1) := by decide +kernel
theorem dX11_repeat_77 : decode cX11_repeat 77 = .ok (.iload_n 2, 1) := by decide +kernel
theorem dX11_repeat_78 : decode cX11_repeat 78 = .ok (.invokevirtual 387, 3) := by decide +kernel
theorem dX11_repeat_81 : decode cX11_repeat 81 = .ok (.ireturn, 1) := by decide +kernel
theorem dX11_unique_0 : decode cX11_unique 0 = .ok (.aload_n 0, 1) := by decide +kernel
theorem dX11_unique_1 : decode cX11_unique 1 = .ok (.aload_n 0, 1) := by decide +kernel
theorem dX11_unique_2 : decode cX11_unique 2 = .ok (.iload_n 1, 1) := by decide +kernel
theorem dX11_unique_3 : decode cX11_unique 3 = .ok (.invokevirtual 203, 3) := by decide +kernel
theorem dX11_unique_6 : decode cX11_unique 6 = .ok (.invokevirtual 206, 3) := by decide +kernel
theorem dX11_unique_9 : decode cX11_unique 9 = .ok (.aload_n 0, 1) := by decide +kernel
theorem dX11_unique_10 : decode cX11_unique 10 = .ok (.getfield 56, 3) := by decide +kernel
theorem dX11_unique_13 : decode cX11_unique 13 = .ok (.iload_n 1, 1) := by decide +kernel
theorem dX11_unique_14 : decode cX11_unique 14 = .ok (.invokevirtual 390, 3) := by decide +kernel
theorem dX11_unique_17 : decode cX11_unique 17 = .ok (.ireturn, 1) := by decide +kernel
theorem dX11_around_0 : decode cX11_around 0 = .ok (.aload_n 0, 1) := by decide +kernel
theorem dX11_around_1 : decode cX11_around 1 = .ok (.aload_n 0, 1) := by decide +kernel
theorem dX11_around_2 : decode cX11_around 2 = .ok (.iload_n 1, 1) := by decide +kernel
theorem dX11_around_3 : decode cX11_around 3 = .ok (.invokevirtual 203, 3) := by decide +kernel
theorem dX11_around_6 : decode cX11_around 6 = .ok (.invokevirtual 206, 3) := by decide +kernel
theorem dX11_around_9 : decode cX11_around 9 = .ok (.aload_n 0, 1) := by decide +kernel
theorem dX11_around_10 : decode cX11_around 10 = .ok (.iload_n 2, 1) := by decide +kernel
theorem dX11_around_11 : decode cX11_around 11 = .ok (.iconst 1, 1) := by decide +kernel
theorem dX11_around_12 : decode cX11_around 12 = .ok (.invokestatic 157, 3) := by decide +kernel
theorem dX11_around_15 : decode cX11_around 15 = .ok (.invokevirtual 122, 3) := by decide +kernel
theorem dX11_around_18 : decode cX11_around 18 = .ok (.aload_n 0, 1) := by decide +kernel
theorem dX11_around_19 : decode cX11_around 19 = .ok (.getfield 56, 3) := by decide +kernel
theorem dX11_around_22 : decode cX11_around 22 = .ok (.iload_n 1, 1) := by decide +kernel
theorem dX11_around_23 : decode cX11_around 23 = .ok (.invokevirtual 392, 3) := by decide +kernel
theorem dX11_around_26 : decode cX11_around 26 = .ok (.istore_n 3, 1) := by decide +kernel
theorem dX11_around_27 : decode cX11_around 27 = .ok (.iload_n 3, 1) := by decide +kernel
theorem dX11_around_28 : decode cX11_around 28 = .ok (.iconst (-1), 1) := by decide +kernel
theorem dX11_around_29 : decode cX11_around 29 = .ok (.if_icmp .ne 5, 3) := by decide +kernel
theorem dX11_around_32 : decode cX11_around 32 = .ok (.iconst (-1), 1) := by decide +kernel
theorem dX11_around_33 : decode cX11_around 33 = .ok (.ireturn, 1) := by decide +kernel
theorem dX11_around_34 : decode cX11_around 34 = .ok (.iload_n 2, 1) := by decide +kernel
theorem dX11_around_35 : decode cX11_around 35 = .ok (.ifCond .ne 15, 3) := by decide +kernel
theorem dX11_around_38 : decode cX11_around 38 = .ok (.aload_n 0, 1) := by decide +kernel
theorem dX11_around_39 : decode cX11_around 39 = .ok (.getfield 56, 3) := by decide +kernel
theorem dX11_around_42 : decode cX11_around 42 = .ok (.iload_n 3, 1) := by decide +kernel
theorem dX11_around_43 : decode cX11_around 43 = .ok (.iload_n 1, 1) := by decide +kernel
theorem dX11_around_44 : decode cX11_around 44 = .ok (.invokevirtual 395, 3) := by decide +kernel
theorem dX11_around_47 : decode cX11_around 47 = .ok (.goto 4, 3) := by decide +kernel
theorem dX11_around_50 : decode cX11_around 50 = .ok (.iload_n 3, 1) := by decide +kernel
theorem dX11_around_51 : decode cX11_around 51 = .ok (.ireturn, 1) := by decide +kernel
theorem dX11_common_0 : decode cX11_common 0 = .ok (.aload_n 0, 1) := by decide +kernel
theorem dX11_common_1 : decode cX11_common 1 = .ok (.iload_n 1, 1) := by decide +kernel
theorem dX11_common_2 : decode cX11_common 2 = .ok (.iconst 1, 1) := by decide +kernel
theorem dX11_common_3 : decode cX11_common 3 = .ok (.invokestatic 157, 3) := by decide +kernel
theorem dX11_common_6 : decode cX11_common 6 = .ok (.invokevirtual 122, 3) := by decide +kernel
theorem dX11_common_9 : decode cX11_common 9 = .ok (.aload_n 0, 1) := by decide +kernel
theorem dX11_common_10 : decode cX11_common 10 = .ok (.getfield 65, 3) := by decide +kernel
theorem dX11_common_13 : decode cX11_common 13 = .ok (.invokevirtual 398, 3) := by decide +kernel
theorem dX11_common_16 : decode cX11_common 16 = .ok (.iload_n 1, 1) := by decide +kernel
theorem dX11_common_17 : decode cX11_common 17 = .ok (.ifCond .ne 13, 3) := by decide +kernel
theorem dX11_common_20 : decode cX11_common 20 = .ok (.aload_n 0, 1) := by decide +kernel
theorem dX11_common_21 : decode cX11_common 21 = .ok (.getfield 65, 3) := by decide +kernel
theorem dX11_common_24 : decode cX11_common 24 = .ok (.getfield 401, 3) := by decide +kernel
theorem dX11_common_27 : decode cX11_common 27 = .ok (.goto 10, 3) := by decide +kernel
theorem dX11_common_30 : decode cX11_common 30 = .ok (.aload_n 0, 1) := by decide +kernel
theorem dX11_common_31 : decode cX11_common 31 = .ok (.getfield 65, 3) := by decide +kernel
theorem dX11_common_34 : decode cX11_common 34 = .ok (.getfield 404, 3) := by decide +kernel
theorem dX11_common_37 : decode cX11_common 37 = .ok (.ireturn, 1) := by decide +kernel
theorem dX11_document_0 : decode cX11_document 0 = .ok (.aload_n 0, 1) := by decide +kernel
theorem dX11_document_1 : decode cX11_document 1 = .ok (.iload_n 1, 1) := by decide +kernel
theorem dX11_document_2 : decode cX11_document 2 = .ok (.ifCond .lt 18, 3) := by decide +kernel
theorem dX11_document_5 : decode cX11_document 5 = .ok (.iload_n 1, 1) := by decide +kernel
theorem dX11_document_6 : decode cX11_document 6 = .ok (.aload_n 0, 1) := by decide +kernel
theorem dX11_document_7 : decode cX11_document 7 = .ok (.getfield 19, 3) := by decide +kernel
theorem dX11_document_10 : decode cX11_document 10 = .ok (.getfield 177, 3) := by decide +kernel
theorem dX11_document_13 : decode cX11_document 13 = .ok (.if_icmp .ge 7, 3) := by decide +kernel
theorem dX11_document_16 : decode cX11_document 16 = .ok (.iconst 1, 1) := by decide +kernel
theorem dX11_document_17 : decode cX11_document 17 = .ok (.goto 4, 3) := by decide +kernel
theorem dX11_document_20 : decode cX11_document 20 = .ok (.iconst 0, 1) := by decide +kernel
theorem dX11_document_21 : decode cX11_document 21 = .ok (.invokevirtual 206, 3) := by decide +kernel
theorem dX11_document_24 : decode cX11_document 24 = .ok (.aload_n 0, 1) := by decide +kernel
theorem dX11_document_25 : decode cX11_document 25 = .ok (.iload_n 2, 1) := by decide +kernel
theorem dX11_document_26 : decode cX11_document 26 = .ok (.iconst 2, 1) := by decide +kernel
theorem dX11_document_27 : decode cX11_document 27 = .ok (.invokestatic 157, 3) := by decide +kernel
theorem dX11_document_30 : decode cX11_document 30 = .ok (.invokevirtual 122, 3) := by decide +kernel
theorem dX11_document_33 : decode cX11_document 33 = .ok (.aload_n 0, 1) := by decide +kernel
theorem dX11_document_34 : decode cX11_document 34 = .ok (.getfield 19, 3) := by decide +kernel
theorem dX11_document_37 : decode cX11_document 37 = .ok (.getfield 250, 3) := by decide +kernel
theorem dX11_document_40 : decode cX11_document 40 = .ok (.iload_n 1, 1) := by decide +kernel
theorem dX11_document_41 : decode cX11_document 41 = .ok (.iaload, 1) := by decide +kernel
theorem dX11_document_42 : decode cX11_document 42 = .ok (.istore_n 3, 1) := by decide +kernel
theorem dX11_document_43 : decode cX11_document 43 = .ok (.iload_n 2, 1) := by decide +kernel
theorem dX11_document_44 : decode cX11_document 44 = .ok (.lookupswitch 40 #[(0, 28), (1, 30)], 28) := by decide +kernel
theorem dX11_document_72 : decode cX11_document 72 = .ok (.iload_n 3, 1) := by decide +kernel
theorem dX11_document_73 : decode cX11_document 73 = .ok (.ireturn, 1) := by decide +kernel
theorem dX11_document_74 : decode cX11_document 74 = .ok (.aload_n 0, 1) := by decide +kernel
theorem dX11_document_75 : decode cX11_document 75 = .ok (.getfield 19, 3) := by decide +kernel
theorem dX11_document_78 : decode cX11_document 78 = .ok (.getfield 407, 3) := by decide +kernel
theorem dX11_document_81 : decode cX11_document 81 = .ok (.iload_n 3, 1) := by decide +kernel
theorem dX11_document_82 : decode cX11_document 82 = .ok (.iaload, 1) := by decide +kernel
theorem dX11_document_83 : decode cX11_document 83 = .ok (.ireturn, 1) := by decide +kernel
theorem dX11_document_84 : decode cX11_document 84 = .ok (.aload_n 0, 1) := by decide +kernel
theorem dX11_document_85 : decode cX11_document 85 = .ok (.iload_n 1, 1) := by decide +kernel
theorem dX11_document_86 : decode cX11_document 86 = .ok (.invokevirtual 410, 3) := by decide +kernel
theorem dX11_document_89 : decode cX11_document 89 = .ok (.ireturn, 1) := by decide +kernel
theorem dX11_print_0 : decode cX11_print 0 = .ok (.aload_n 0, 1) := by decide +kernel
theorem dX11_print_1 : decode cX11_print 1 = .ok (.iload_n 1, 1) := by decide +kernel
theorem dX11_print_2 : decode cX11_print 2 = .ok (.invokestatic 212, 3) := by decide +kernel
theorem dX11_print_5 : decode cX11_print 5 = .ok (.invokevirtual 206, 3) := by decide +kernel
theorem dX11_print_8 : decode cX11_print 8 = .ok (.aload_n 0, 1) := by decide +kernel
theorem dX11_print_9 : decode cX11_print 9 = .ok (.iload_n 1, 1) := by decide +kernel
theorem dX11_print_10 : decode cX11_print 10 = .ok (.invokevirtual 215, 3) := by decide +kernel
theorem dX11_print_13 : decode cX11_print 13 = .ok (.astore_n 2, 1) := by decide +kernel
theorem dX11_print_14 : decode cX11_print 14 = .ok (.lconst 0, 1) := by decide +kernel
theorem dX11_print_15 : decode cX11_print 15 = .ok (.lstore_n 3, 1) := by decide +kernel
theorem dX11_print_16 : decode cX11_print 16 = .ok (.iconst 0, 1) := by decide +kernel
theorem dX11_print_17 : decode cX11_print 17 = .ok (.istore 5, 2) := by decide +kernel
theorem dX11_print_19 : decode cX11_print 19 = .ok (.iload 5, 2) := by decide +kernel
theorem dX11_print_21 : decode cX11_print 21 = .ok (.aload_n 0, 1) := by decide +kernel
theorem dX11_print_22 : decode cX11_print 22 = .ok (.getfield 19, 3) := by decide +kernel
theorem dX11_print_25 : decode cX11_print 25 = .ok (.getfield 176, 3) := by decide +kernel
theorem dX11_print_28 : decode cX11_print 28 = .ok (.if_icmp .gt 26, 3) := by decide +kernel
theorem dX11_print_31 : decode cX11_print 31 = .ok (.ldc2_w 413, 3) := by decide +kernel
theorem dX11_print_34 : decode cX11_print 34 = .ok (.lload_n 3, 1) := by decide +kernel
theorem dX11_print_35 : decode cX11_print 35 = .ok (.lmul, 1) := by decide +kernel
theorem dX11_print_36 : decode cX11_print 36 = .ok (.aload_n 2, 1) := by decide +kernel
theorem dX11_print_37 : decode cX11_print 37 = .ok (.iload 5, 2) := by decide +kernel
theorem dX11_print_39 : decode cX11_print 39 = .ok (.invokevirtual 223, 3) := by decide +kernel
theorem dX11_print_42 : decode cX11_print 42 = .ok (.invokestatic 209, 3) := by decide +kernel
theorem dX11_print_45 : decode cX11_print 45 = .ok (.i2l, 1) := by decide +kernel
theorem dX11_print_46 : decode cX11_print 46 = .ok (.ladd, 1) := by decide +kernel
theorem dX11_print_47 : decode cX11_print 47 = .ok (.lstore_n 3, 1) := by decide +kernel
theorem dX11_print_48 : decode cX11_print 48 = .ok (.iinc 5 1, 3) := by decide +kernel
theorem dX11_print_51 : decode cX11_print 51 = .ok (.goto (-32), 3) := by decide +kernel
theorem dX11_print_54 : decode cX11_print 54 = .ok (.lload_n 3, 1) := by decide +kernel
theorem dX11_print_55 : decode cX11_print 55 = .ok (.lreturn, 1) := by decide +kernel
theorem dX11_status_0 : decode cX11_status 0 = .ok (.iload_n 1, 1) := by decide +kernel
theorem dX11_status_1 : decode cX11_status 1 = .ok (.tableswitch 42 0 2 #[27, 32, 37], 27) := by decide +kernel
theorem dX11_status_28 : decode cX11_status 28 = .ok (.aload_n 0, 1) := by decide +kernel
theorem dX11_status_29 : decode cX11_status 29 = .ok (.getfield 415, 3) := by decide +kernel
theorem dX11_status_32 : decode cX11_status 32 = .ok (.ireturn, 1) := by decide +kernel
theorem dX11_status_33 : decode cX11_status 33 = .ok (.aload_n 0, 1) := by decide +kernel
theorem dX11_status_34 : decode cX11_status 34 = .ok (.getfield 418, 3) := by decide +kernel
theorem dX11_status_37 : decode cX11_status 37 = .ok (.ireturn, 1) := by decide +kernel
theorem dX11_status_38 : decode cX11_status 38 = .ok (.aload_n 0, 1) := by decide +kernel
theorem dX11_status_39 : decode cX11_status 39 = .ok (.getfield 421, 3) := by decide +kernel
theorem dX11_status_42 : decode cX11_status 42 = .ok (.ireturn, 1) := by decide +kernel
theorem dX11_status_43 : decode cX11_status 43 = .ok (.iconst (-1), 1) := by decide +kernel
theorem dX11_status_44 : decode cX11_status 44 = .ok (.ireturn, 1) := by decide +kernel
theorem dX11_index_0 : decode cX11_index 0 = .ok (.aload_n 0, 1) := by decide +kernel
theorem dX11_index_1 : decode cX11_index 1 = .ok (.getfield 19, 3) := by decide +kernel
theorem dX11_index_4 : decode cX11_index 4 = .ok (.invokevirtual 424, 3) := by decide +kernel
theorem dX11_index_7 : decode cX11_index 7 = .ok (.aload_n 0, 1) := by decide +kernel
theorem dX11_index_8 : decode cX11_index 8 = .ok (.getfield 32, 3) := by decide +kernel
theorem dX11_index_11 : decode cX11_index 11 = .ok (.aload_n 0, 1) := by decide +kernel
theorem dX11_index_12 : decode cX11_index 12 = .ok (.getfield 19, 3) := by decide +kernel
theorem dX11_index_15 : decode cX11_index 15 = .ok (.getfield 176, 3) := by decide +kernel
theorem dX11_index_18 : decode cX11_index 18 = .ok (.invokevirtual 427, 3) := by decide +kernel
theorem dX11_index_21 : decode cX11_index 21 = .ok (.aload_n 0, 1) := by decide +kernel
theorem dX11_index_22 : decode cX11_index 22 = .ok (.getfield 39, 3) := by decide +kernel
theorem dX11_index_25 : decode cX11_index 25 = .ok (.aload_n 0, 1) := by decide +kernel
theorem dX11_index_26 : decode cX11_index 26 = .ok (.getfield 19, 3) := by decide +kernel
theorem dX11_index_29 : decode cX11_index 29 = .ok (.getfield 176, 3) := by decide +kernel
theorem dX11_index_32 : decode cX11_index 32 = .ok (.invokevirtual 427, 3) := by decide +kernel
theorem dX11_index_35 : decode cX11_index 35 = .ok (.aload_n 0, 1) := by decide +kernel
theorem dX11_index_36 : decode cX11_index 36 = .ok (.getfield 56, 3) := by decide +kernel
theorem dX11_index_39 : decode cX11_index 39 = .ok (.invokevirtual 430, 3) := by decide +kernel
theorem dX11_index_42 : decode cX11_index 42 = .ok (.aload_n 0, 1) := by decide +kernel
theorem dX11_index_43 : decode cX11_index 43 = .ok (.getfield 47, 3) := by decide +kernel
theorem dX11_index_46 : decode cX11_index 46 = .ok (.invokevirtual 173, 3) := by decide +kernel
theorem dX11_index_49 : decode cX11_index 49 = .ok (.return_, 1) := by decide +kernel
theorem dX11_needElement_0 : decode cX11_needElement 0 = .ok (.iload_n 1, 1) := by decide +kernel
theorem dX11_needElement_1 : decode cX11_needElement 1 = .ok (.ifCond .ne 24, 3) := by decide +kernel
theorem dX11_needElement_4 : decode cX11_needElement 4 = .ok (.aload_n 0, 1) := by decide +kernel
theorem dX11_needElement_5 : decode cX11_needElement 5 = .ok (.dup, 1) := by decide +kernel
theorem dX11_needElement_6 : decode cX11_needElement 6 = .ok (.getfield 415, 3) := by decide +kernel
theorem dX11_needElement_9 : decode cX11_needElement 9 = .ok (.iconst 1, 1) := by decide +kernel
theorem dX11_needElement_10 : decode cX11_needElement 10 = .ok (.iadd, 1) := by decide +kernel
theorem dX11_needElement_11 : decode cX11_needElement 11 = .ok (.putfield 415, 3) := by decide +kernel
theorem dX11_needElement_14 : decode cX11_needElement 14 = .ok (.new 433, 3) := by decide +kernel
theorem dX11_needElement_17 : decode cX11_needElement 17 = .ok (.dup, 1) := by decide +kernel
theorem dX11_needElement_18 : decode cX11_needElement 18 = .ok (.ldc_w 435, 3) := by decide +kernel
theorem dX11_needElement_21 : decode cX11_needElement 21 = .ok (.invokespecial 437, 3) := by decide +kernel
theorem dX11_needElement_24 : decode cX11_needElement 24 = .ok (.athrow, 1) := by decide +kernel
theorem dX11_needElement_25 : decode cX11_needElement 25 = .ok (.return_, 1) := by decide +kernel
theorem dX11_needArgument_0 : decode cX11_needArgument 0 = .ok (.iload_n 1, 1) := by decide +kernel
theorem dX11_needArgument_1 : decode cX11_needArgument 1 = .ok (.ifCond .ne 24, 3) := by decide +kernel
theorem dX11_needArgument_4 : decode cX11_needArgument 4 = .ok (.aload_n 0, 1) := by decide +kernel
theorem dX11_needArgument_5 : decode cX11_needArgument 5 = .ok (.dup, 1) := by decide +kernel
theorem dX11_needArgument_6 : decode cX11_needArgument 6 = .ok (.getfield 418, 3) := by decide +kernel
theorem dX11_needArgument_9 : decode cX11_needArgument 9 = .ok (.iconst 1, 1) := by decide +kernel
theorem dX11_needArgument_10 : decode cX11_needArgument 10 = .ok (.iadd, 1) := by decide +kernel
theorem dX11_needArgument_11 : decode cX11_needArgument 11 = .ok (.putfield 418, 3) := by decide +kernel
theorem dX11_needArgument_14 : decode cX11_needArgument 14 = .ok (.new 440, 3) := by decide +kernel
theorem dX11_needArgument_17 : decode cX11_needArgument 17 = .ok (.dup, 1) := by decide +kernel
theorem dX11_needArgument_18 : decode cX11_needArgument 18 = .ok (.ldc_w 442, 3) := by decide +kernel
theorem dX11_needArgument_21 : decode cX11_needArgument 21 = .ok (.invokespecial 444, 3) := by decide +kernel
theorem dX11_needArgument_24 : decode cX11_needArgument 24 = .ok (.athrow, 1) := by decide +kernel
theorem dX11_needArgument_25 : decode cX11_needArgument 25 = .ok (.return_, 1) := by decide +kernel
theorem dX11_needState_0 : decode cX11_needState 0 = .ok (.iload_n 1, 1) := by decide +kernel
theorem dX11_needState_1 : decode cX11_needState 1 = .ok (.ifCond .ne 24, 3) := by decide +kernel
theorem dX11_needState_4 : decode cX11_needState 4 = .ok (.aload_n 0, 1) := by decide +kernel
theorem dX11_needState_5 : decode cX11_needState 5 = .ok (.dup, 1) := by decide +kernel
theorem dX11_needState_6 : decode cX11_needState 6 = .ok (.getfield 421, 3) := by decide +kernel
theorem dX11_needState_9 : decode cX11_needState 9 = .ok (.iconst 1, 1) := by decide +kernel
theorem dX11_needState_10 : decode cX11_needState 10 = .ok (.iadd, 1) := by decide +kernel
theorem dX11_needState_11 : decode cX11_needState 11 = .ok (.putfield 421, 3) := by decide +kernel
theorem dX11_needState_14 : decode cX11_needState 14 = .ok (.new 445, 3) := by decide +kernel
theorem dX11_needState_17 : decode cX11_needState 17 = .ok (.dup, 1) := by decide +kernel
theorem dX11_needState_18 : decode cX11_needState 18 = .ok (.ldc_w 447, 3) := by decide +kernel
theorem dX11_needState_21 : decode cX11_needState 21 = .ok (.invokespecial 449, 3) := by decide +kernel
theorem dX11_needState_24 : decode cX11_needState 24 = .ok (.athrow, 1) := by decide +kernel
theorem dX11_needState_25 : decode cX11_needState 25 = .ok (.return_, 1) := by decide +kernel
theorem dX11_isSide_0 : decode cX11_isSide 0 = .ok (.iload_n 0, 1) := by decide +kernel
theorem dX11_isSide_1 : decode cX11_isSide 1 = .ok (.ifCond .eq 8, 3) := by decide +kernel
theorem dX11_isSide_4 : decode cX11_isSide 4 = .ok (.iload_n 0, 1) := by decide +kernel
theorem dX11_isSide_5 : decode cX11_isSide 5 = .ok (.iconst 1, 1) := by decide +kernel
theorem dX11_isSide_6 : decode cX11_isSide 6 = .ok (.if_icmp .ne 7, 3) := by decide +kernel
theorem dX11_isSide_9 : decode cX11_isSide 9 = .ok (.iconst 1, 1) := by decide +kernel
theorem dX11_isSide_10 : decode cX11_isSide 10 = .ok (.goto 4, 3) := by decide +kernel
theorem dX11_isSide_13 : decode cX11_isSide 13 = .ok (.iconst 0, 1) := by decide +kernel
theorem dX11_isSide_14 : decode cX11_isSide 14 = .ok (.ireturn, 1) := by decide +kernel
theorem dX11_isWhat_0 : decode cX11_isWhat 0 = .ok (.iload_n 0, 1) := by decide +kernel
theorem dX11_isWhat_1 : decode cX11_isWhat 1 = .ok (.ifCond .lt 12, 3) := by decide +kernel
theorem dX11_isWhat_4 : decode cX11_isWhat 4 = .ok (.iload_n 0, 1) := by decide +kernel
theorem dX11_isWhat_5 : decode cX11_isWhat 5 = .ok (.iload_n 1, 1) := by decide +kernel
theorem dX11_isWhat_6 : decode cX11_isWhat 6 = .ok (.if_icmp .gt 7, 3) := by decide +kernel
theorem dX11_isWhat_9 : decode cX11_isWhat 9 = .ok (.iconst 1, 1) := by decide +kernel
theorem dX11_isWhat_10 : decode cX11_isWhat 10 = .ok (.goto 4, 3) := by decide +kernel
theorem dX11_isWhat_13 : decode cX11_isWhat 13 = .ok (.iconst 0, 1) := by decide +kernel
theorem dX11_isWhat_14 : decode cX11_isWhat 14 = .ok (.ireturn, 1) := by decide +kernel
theorem dX11_isLength_0 : decode cX11_isLength 0 = .ok (.iload_n 0, 1) := by decide +kernel
theorem dX11_isLength_1 : decode cX11_isLength 1 = .ok (.iconst 1, 1) := by decide +kernel
theorem dX11_isLength_2 : decode cX11_isLength 2 = .ok (.if_icmp .lt 14, 3) := by decide +kernel
theorem dX11_isLength_5 : decode cX11_isLength 5 = .ok (.iload_n 0, 1) := by decide +kernel
theorem dX11_isLength_6 : decode cX11_isLength 6 = .ok (.sipush 240, 3) := by decide +kernel
theorem dX11_isLength_9 : decode cX11_isLength 9 = .ok (.if_icmp .gt 7, 3) := by decide +kernel
theorem dX11_isLength_12 : decode cX11_isLength 12 = .ok (.iconst 1, 1) := by decide +kernel
theorem dX11_isLength_13 : decode cX11_isLength 13 = .ok (.goto 4, 3) := by decide +kernel
theorem dX11_isLength_16 : decode cX11_isLength 16 = .ok (.iconst 0, 1) := by decide +kernel
theorem dX11_isLength_17 : decode cX11_isLength 17 = .ok (.ireturn, 1) := by decide +kernel
theorem dX11_isOften_0 : decode cX11_isOften 0 = .ok (.iload_n 0, 1) := by decide +kernel
theorem dX11_isOften_1 : decode cX11_isOften 1 = .ok (.iconst 2, 1) := by decide +kernel
theorem dX11_isOften_2 : decode cX11_isOften 2 = .ok (.if_icmp .lt 14, 3) := by decide +kernel
theorem dX11_isOften_5 : decode cX11_isOften 5 = .ok (.iload_n 0, 1) := by decide +kernel
theorem dX11_isOften_6 : decode cX11_isOften 6 = .ok (.sipush 241, 3) := by decide +kernel
theorem dX11_isOften_9 : decode cX11_isOften 9 = .ok (.if_icmp .gt 7, 3) := by decide +kernel
theorem dX11_isOften_12 : decode cX11_isOften 12 = .ok (.iconst 1, 1) := by decide +kernel
theorem dX11_isOften_13 : decode cX11_isOften 13 = .ok (.goto 4, 3) := by decide +kernel
theorem dX11_isOften_16 : decode cX11_isOften 16 = .ok (.iconst 0, 1) := by decide +kernel
theorem dX11_isOften_17 : decode cX11_isOften 17 = .ok (.ireturn, 1) := by decide +kernel
theorem dX11_isPlace_0 : decode cX11_isPlace 0 = .ok (.iload_n 1, 1) := by decide +kernel
theorem dX11_isPlace_1 : decode cX11_isPlace 1 = .ok (.ifCond .lt 18, 3) := by decide +kernel
theorem dX11_isPlace_4 : decode cX11_isPlace 4 = .ok (.iload_n 1, 1) := by decide +kernel
theorem dX11_isPlace_5 : decode cX11_isPlace 5 = .ok (.aload_n 0, 1) := by decide +kernel
theorem dX11_isPlace_6 : decode cX11_isPlace 6 = .ok (.getfield 19, 3) := by decide +kernel
theorem dX11_isPlace_9 : decode cX11_isPlace 9 = .ok (.getfield 176, 3) := by decide +kernel
theorem dX11_isPlace_12 : decode cX11_isPlace 12 = .ok (.if_icmp .gt 7, 3) := by decide +kernel
theorem dX11_isPlace_15 : decode cX11_isPlace 15 = .ok (.iconst 1, 1) := by decide +kernel
theorem dX11_isPlace_16 : decode cX11_isPlace 16 = .ok (.goto 4, 3) := by decide +kernel
theorem dX11_isPlace_19 : decode cX11_isPlace 19 = .ok (.iconst 0, 1) := by decide +kernel
theorem dX11_isPlace_20 : decode cX11_isPlace 20 = .ok (.ireturn, 1) := by decide +kernel
theorem dX11_isSearch_0 : decode cX11_isSearch 0 = .ok (.iload_n 1, 1) := by decide +kernel
theorem dX11_isSearch_1 : decode cX11_isSearch 1 = .ok (.ifCond .lt 18, 3) := by decide +kernel
theorem dX11_isSearch_4 : decode cX11_isSearch 4 = .ok (.iload_n 1, 1) := by decide +kernel
theorem dX11_isSearch_5 : decode cX11_isSearch 5 = .ok (.aload_n 0, 1) := by decide +kernel
theorem dX11_isSearch_6 : decode cX11_isSearch 6 = .ok (.getfield 97, 3) := by decide +kernel
theorem dX11_isSearch_9 : decode cX11_isSearch 9 = .ok (.getfield 148, 3) := by decide +kernel
theorem dX11_isSearch_12 : decode cX11_isSearch 12 = .ok (.if_icmp .ge 7, 3) := by decide +kernel
theorem dX11_isSearch_15 : decode cX11_isSearch 15 = .ok (.iconst 1, 1) := by decide +kernel
theorem dX11_isSearch_16 : decode cX11_isSearch 16 = .ok (.goto 4, 3) := by decide +kernel
theorem dX11_isSearch_19 : decode cX11_isSearch 19 = .ok (.iconst 0, 1) := by decide +kernel
theorem dX11_isSearch_20 : decode cX11_isSearch 20 = .ok (.ireturn, 1) := by decide +kernel
theorem dX11_isLetter_0 : decode cX11_isLetter 0 = .ok (.iload_n 0, 1) := by decide +kernel
theorem dX11_isLetter_1 : decode cX11_isLetter 1 = .ok (.bipush 97, 2) := by decide +kernel
theorem dX11_isLetter_3 : decode cX11_isLetter 3 = .ok (.if_icmp .lt 13, 3) := by decide +kernel
theorem dX11_isLetter_6 : decode cX11_isLetter 6 = .ok (.iload_n 0, 1) := by decide +kernel
theorem dX11_isLetter_7 : decode cX11_isLetter 7 = .ok (.bipush 105, 2) := by decide +kernel
theorem dX11_isLetter_9 : decode cX11_isLetter 9 = .ok (.if_icmp .ge 7, 3) := by decide +kernel
theorem dX11_isLetter_12 : decode cX11_isLetter 12 = .ok (.iconst 1, 1) := by decide +kernel
theorem dX11_isLetter_13 : decode cX11_isLetter 13 = .ok (.goto 4, 3) := by decide +kernel
theorem dX11_isLetter_16 : decode cX11_isLetter 16 = .ok (.iconst 0, 1) := by decide +kernel
theorem dX11_isLetter_17 : decode cX11_isLetter 17 = .ok (.ireturn, 1) := by decide +kernel
theorem dX11_byteOf_0 : decode cX11_byteOf 0 = .ok (.iload_n 0, 1) := by decide +kernel
theorem dX11_byteOf_1 : decode cX11_byteOf 1 = .ok (.ifCond .ne 5, 3) := by decide +kernel
theorem dX11_byteOf_4 : decode cX11_byteOf 4 = .ok (.iconst 0, 1) := by decide +kernel
theorem dX11_byteOf_5 : decode cX11_byteOf 5 = .ok (.ireturn, 1) := by decide +kernel
theorem dX11_byteOf_6 : decode cX11_byteOf 6 = .ok (.iload_n 0, 1) := by decide +kernel
theorem dX11_byteOf_7 : decode cX11_byteOf 7 = .ok (.iconst 1, 1) := by decide +kernel
theorem dX11_byteOf_8 : decode cX11_byteOf 8 = .ok (.if_icmp .ne 8, 3) := by decide +kernel
theorem dX11_byteOf_11 : decode cX11_byteOf 11 = .ok (.bipush 124, 2) := by decide +kernel
theorem dX11_byteOf_13 : decode cX11_byteOf 13 = .ok (.goto 9, 3) := by decide +kernel
theorem dX11_byteOf_16 : decode cX11_byteOf 16 = .ok (.iload_n 0, 1) := by decide +kernel
theorem dX11_byteOf_17 : decode cX11_byteOf 17 = .ok (.iconst 2, 1) := by decide +kernel
theorem dX11_byteOf_18 : decode cX11_byteOf 18 = .ok (.isub, 1) := by decide +kernel
theorem dX11_byteOf_19 : decode cX11_byteOf 19 = .ok (.bipush 97, 2) := by decide +kernel
theorem dX11_byteOf_21 : decode cX11_byteOf 21 = .ok (.iadd, 1) := by decide +kernel
theorem dX11_byteOf_22 : decode cX11_byteOf 22 = .ok (.ireturn, 1) := by decide +kernel
theorem dX11_rowsOf_0 : decode cX11_rowsOf 0 = .ok (.iload_n 1, 1) := by decide +kernel
theorem dX11_rowsOf_1 : decode cX11_rowsOf 1 = .ok (.ifCond .ne 10, 3) := by decide +kernel
theorem dX11_rowsOf_4 : decode cX11_rowsOf 4 = .ok (.aload_n 0, 1) := by decide +kernel
theorem dX11_rowsOf_5 : decode cX11_rowsOf 5 = .ok (.getfield 32, 3) := by decide +kernel
theorem dX11_rowsOf_8 : decode cX11_rowsOf 8 = .ok (.goto 7, 3) := by decide +kernel
theorem dX11_rowsOf_11 : decode cX11_rowsOf 11 = .ok (.aload_n 0, 1) := by decide +kernel
theorem dX11_rowsOf_12 : decode cX11_rowsOf 12 = .ok (.getfield 39, 3) := by decide +kernel
theorem dX11_rowsOf_15 : decode cX11_rowsOf 15 = .ok (.areturn, 1) := by decide +kernel
theorem dX11_isHit_0 : decode cX11_isHit 0 = .ok (.aload_n 0, 1) := by decide +kernel
theorem dX11_isHit_1 : decode cX11_isHit 1 = .ok (.getfield 32, 3) := by decide +kernel
theorem dX11_isHit_4 : decode cX11_isHit 4 = .ok (.getfield 232, 3) := by decide +kernel
theorem dX11_isHit_7 : decode cX11_isHit 7 = .ok (.iload_n 1, 1) := by decide +kernel
theorem dX11_isHit_8 : decode cX11_isHit 8 = .ok (.iaload, 1) := by decide +kernel
theorem dX11_isHit_9 : decode cX11_isHit 9 = .ok (.aload_n 0, 1) := by decide +kernel
theorem dX11_isHit_10 : decode cX11_isHit 10 = .ok (.getfield 47, 3) := by decide +kernel
theorem dX11_isHit_13 : decode cX11_isHit 13 = .ok (.invokevirtual 188, 3) := by decide +kernel
theorem dX11_isHit_16 : decode cX11_isHit 16 = .ok (.isub, 1) := by decide +kernel
theorem dX11_isHit_17 : decode cX11_isHit 17 = .ok (.istore_n 2, 1) := by decide +kernel
theorem dX11_isHit_18 : decode cX11_isHit 18 = .ok (.iload_n 2, 1) := by decide +kernel
theorem dX11_isHit_19 : decode cX11_isHit 19 = .ok (.ifCond .lt 18, 3) := by decide +kernel
theorem dX11_isHit_22 : decode cX11_isHit 22 = .ok (.iload_n 2, 1) := by decide +kernel
theorem dX11_isHit_23 : decode cX11_isHit 23 = .ok (.aload_n 0, 1) := by decide +kernel
theorem dX11_isHit_24 : decode cX11_isHit 24 = .ok (.getfield 47, 3) := by decide +kernel
theorem dX11_isHit_27 : decode cX11_isHit 27 = .ok (.invokevirtual 194, 3) := by decide +kernel
theorem dX11_isHit_30 : decode cX11_isHit 30 = .ok (.if_icmp .ge 7, 3) := by decide +kernel
theorem dX11_isHit_33 : decode cX11_isHit 33 = .ok (.iconst 1, 1) := by decide +kernel
theorem dX11_isHit_34 : decode cX11_isHit 34 = .ok (.goto 4, 3) := by decide +kernel
theorem dX11_isHit_37 : decode cX11_isHit 37 = .ok (.iconst 0, 1) := by decide +kernel
theorem dX11_isHit_38 : decode cX11_isHit 38 = .ok (.ireturn, 1) := by decide +kernel
theorem dX11_nextHit_0 : decode cX11_nextHit 0 = .ok (.iload_n 1, 1) := by decide +kernel
theorem dX11_nextHit_1 : decode cX11_nextHit 1 = .ok (.istore_n 2, 1) := by decide +kernel
theorem dX11_nextHit_2 : decode cX11_nextHit 2 = .ok (.iload_n 2, 1) := by decide +kernel
theorem dX11_nextHit_3 : decode cX11_nextHit 3 = .ok (.aload_n 0, 1) := by decide +kernel
theorem dX11_nextHit_4 : decode cX11_nextHit 4 = .ok (.getfield 19, 3) := by decide +kernel
theorem dX11_nextHit_7 : decode cX11_nextHit 7 = .ok (.getfield 176, 3) := by decide +kernel
theorem dX11_nextHit_10 : decode cX11_nextHit 10 = .ok (.if_icmp .gt 19, 3) := by decide +kernel
theorem dX11_nextHit_13 : decode cX11_nextHit 13 = .ok (.aload_n 0, 1) := by decide +kernel
theorem dX11_nextHit_14 : decode cX11_nextHit 14 = .ok (.iload_n 2, 1) := by decide +kernel
theorem dX11_nextHit_15 : decode cX11_nextHit 15 = .ok (.invokevirtual 450, 3) := by decide +kernel
theorem dX11_nextHit_18 : decode cX11_nextHit 18 = .ok (.ifCond .eq 5, 3) := by decide +kernel
theorem dX11_nextHit_21 : decode cX11_nextHit 21 = .ok (.iload_n 2, 1) := by decide +kernel
theorem dX11_nextHit_22 : decode cX11_nextHit 22 = .ok (.ireturn, 1) := by decide +kernel
theorem dX11_nextHit_23 : decode cX11_nextHit 23 = .ok (.iinc 2 1, 3) := by decide +kernel
theorem dX11_nextHit_26 : decode cX11_nextHit 26 = .ok (.goto (-24), 3) := by decide +kernel
theorem dX11_nextHit_29 : decode cX11_nextHit 29 = .ok (.iconst (-1), 1) := by decide +kernel
theorem dX11_nextHit_30 : decode cX11_nextHit 30 = .ok (.ireturn, 1) := by decide +kernel
theorem dX11_placeOfHit_0 : decode cX11_placeOfHit 0 = .ok (.iload_n 1, 1) := by decide +kernel
theorem dX11_placeOfHit_1 : decode cX11_placeOfHit 1 = .ok (.ifCond .lt 14, 3) := by decide +kernel
theorem dX11_placeOfHit_4 : decode cX11_placeOfHit 4 = .ok (.iload_n 1, 1) := by decide +kernel
theorem dX11_placeOfHit_5 : decode cX11_placeOfHit 5 = .ok (.aload_n 0, 1) := by decide +kernel
theorem dX11_placeOfHit_6 : decode cX11_placeOfHit 6 = .ok (.getfield 47, 3) := by decide +kernel
theorem dX11_placeOfHit_9 : decode cX11_placeOfHit 9 = .ok (.invokevirtual 194, 3) := by decide +kernel
theorem dX11_placeOfHit_12 : decode cX11_placeOfHit 12 = .ok (.if_icmp .lt 5, 3) := by decide +kernel
theorem dX11_placeOfHit_15 : decode cX11_placeOfHit 15 = .ok (.iconst (-1), 1) := by decide +kernel
theorem dX11_placeOfHit_16 : decode cX11_placeOfHit 16 = .ok (.ireturn, 1) := by decide +kernel
theorem dX11_placeOfHit_17 : decode cX11_placeOfHit 17 = .ok (.aload_n 0, 1) := by decide +kernel
theorem dX11_placeOfHit_18 : decode cX11_placeOfHit 18 = .ok (.iconst 0, 1) := by decide +kernel
theorem dX11_placeOfHit_19 : decode cX11_placeOfHit 19 = .ok (.invokevirtual 453, 3) := by decide +kernel
theorem dX11_placeOfHit_22 : decode cX11_placeOfHit 22 = .ok (.istore_n 2, 1) := by decide +kernel
theorem dX11_placeOfHit_23 : decode cX11_placeOfHit 23 = .ok (.iconst 0, 1) := by decide +kernel
theorem dX11_placeOfHit_24 : decode cX11_placeOfHit 24 = .ok (.istore_n 3, 1) := by decide +kernel
theorem dX11_placeOfHit_25 : decode cX11_placeOfHit 25 = .ok (.iload_n 3, 1) := by decide +kernel
theorem dX11_placeOfHit_26 : decode cX11_placeOfHit 26 = .ok (.iload_n 1, 1) := by decide +kernel
theorem dX11_placeOfHit_27 : decode cX11_placeOfHit 27 = .ok (.if_icmp .ge 22, 3) := by decide +kernel
theorem dX11_placeOfHit_30 : decode cX11_placeOfHit 30 = .ok (.iload_n 2, 1) := by decide +kernel
theorem dX11_placeOfHit_31 : decode cX11_placeOfHit 31 = .ok (.iconst (-1), 1) := by decide +kernel
theorem dX11_placeOfHit_32 : decode cX11_placeOfHit 32 = .ok (.if_icmp .eq 17, 3) := by decide +kernel
theorem dX11_placeOfHit_35 : decode cX11_placeOfHit 35 = .ok (.aload_n 0, 1) := by decide +kernel
theorem dX11_placeOfHit_36 : decode cX11_placeOfHit 36 = .ok (.iload_n 2, 1) := by decide +kernel
theorem dX11_placeOfHit_37 : decode cX11_placeOfHit 37 = .ok (.iconst 1, 1) := by decide +kernel
theorem dX11_placeOfHit_38 : decode cX11_placeOfHit 38 = .ok (.iadd, 1) := by decide +kernel
theorem dX11_placeOfHit_39 : decode cX11_placeOfHit 39 = .ok (.invokevirtual 453, 3) := by decide +kernel
theorem dX11_placeOfHit_42 : decode cX11_placeOfHit 42 = .ok (.istore_n 2, 1) := by decide +kernel
theorem dX11_placeOfHit_43 : decode cX11_placeOfHit 43 = .ok (.iinc 3 1, 3) := by decide +kernel
theorem dX11_placeOfHit_46 : decode cX11_placeOfHit 46 = .ok (.goto (-21), 3) := by decide +kernel
theorem dX11_placeOfHit_49 : decode cX11_placeOfHit 49 = .ok (.iload_n 2, 1) := by decide +kernel
theorem dX11_placeOfHit_50 : decode cX11_placeOfHit 50 = .ok (.ireturn, 1) := by decide +kernel
theorem dX11_documentsHit_0 : decode cX11_documentsHit 0 = .ok (.iconst 0, 1) := by decide +kernel
theorem dX11_documentsHit_1 : decode cX11_documentsHit 1 = .ok (.istore_n 1, 1) := by decide +kernel
theorem dX11_documentsHit_2 : decode cX11_documentsHit 2 = .ok (.iconst 0, 1) := by decide +kernel
theorem dX11_documentsHit_3 : decode cX11_documentsHit 3 = .ok (.istore_n 2, 1) := by decide +kernel
theorem dX11_documentsHit_4 : decode cX11_documentsHit 4 = .ok (.iload_n 2, 1) := by decide +kernel
theorem dX11_documentsHit_5 : decode cX11_documentsHit 5 = .ok (.aload_n 0, 1) := by decide +kernel
theorem dX11_documentsHit_6 : decode cX11_documentsHit 6 = .ok (.getfield 19, 3) := by decide +kernel
theorem dX11_documentsHit_9 : decode cX11_documentsHit 9 = .ok (.getfield 177, 3) := by decide +kernel
theorem dX11_documentsHit_12 : decode cX11_documentsHit 12 = .ok (.if_icmp .ge 20, 3) := by decide +kernel
theorem dX11_documentsHit_15 : decode cX11_documentsHit 15 = .ok (.aload_n 0, 1) := by decide +kernel
theorem dX11_documentsHit_16 : decode cX11_documentsHit 16 = .ok (.iload_n 2, 1) := by decide +kernel
theorem dX11_documentsHit_17 : decode cX11_documentsHit 17 = .ok (.invokevirtual 410, 3) := by decide +kernel
theorem dX11_documentsHit_20 : decode cX11_documentsHit 20 = .ok (.ifCond .le 6, 3) := by decide +kernel
theorem dX11_documentsHit_23 : decode cX11_documentsHit 23 = .ok (.iinc 1 1, 3) := by decide +kernel
theorem dX11_documentsHit_26 : decode cX11_documentsHit 26 = .ok (.iinc 2 1, 3) := by decide +kernel
theorem dX11_documentsHit_29 : decode cX11_documentsHit 29 = .ok (.goto (-25), 3) := by decide +kernel
theorem dX11_documentsHit_32 : decode cX11_documentsHit 32 = .ok (.iload_n 1, 1) := by decide +kernel
theorem dX11_documentsHit_33 : decode cX11_documentsHit 33 = .ok (.ireturn, 1) := by decide +kernel
theorem dX11_hitsIn_0 : decode cX11_hitsIn 0 = .ok (.iconst 0, 1) := by decide +kernel
theorem dX11_hitsIn_1 : decode cX11_hitsIn 1 = .ok (.istore_n 2, 1) := by decide +kernel
theorem dX11_hitsIn_2 : decode cX11_hitsIn 2 = .ok (.aload_n 0, 1) := by decide +kernel
theorem dX11_hitsIn_3 : decode cX11_hitsIn 3 = .ok (.getfield 19, 3) := by decide +kernel
theorem dX11_hitsIn_6 : decode cX11_hitsIn 6 = .ok (.getfield 250, 3) := by decide +kernel
theorem dX11_hitsIn_9 : decode cX11_hitsIn 9 = .ok (.iload_n 1, 1) := by decide +kernel
theorem dX11_hitsIn_10 : decode cX11_hitsIn 10 = .ok (.iaload, 1) := by decide +kernel
theorem dX11_hitsIn_11 : decode cX11_hitsIn 11 = .ok (.istore_n 3, 1) := by decide +kernel
theorem dX11_hitsIn_12 : decode cX11_hitsIn 12 = .ok (.iload_n 3, 1) := by decide +kernel
theorem dX11_hitsIn_13 : decode cX11_hitsIn 13 = .ok (.aload_n 0, 1) := by decide +kernel
theorem dX11_hitsIn_14 : decode cX11_hitsIn 14 = .ok (.getfield 19, 3) := by decide +kernel
theorem dX11_hitsIn_17 : decode cX11_hitsIn 17 = .ok (.getfield 176, 3) := by decide +kernel
theorem dX11_hitsIn_20 : decode cX11_hitsIn 20 = .ok (.if_icmp .gt 36, 3) := by decide +kernel
theorem dX11_hitsIn_23 : decode cX11_hitsIn 23 = .ok (.aload_n 0, 1) := by decide +kernel
theorem dX11_hitsIn_24 : decode cX11_hitsIn 24 = .ok (.getfield 19, 3) := by decide +kernel
theorem dX11_hitsIn_27 : decode cX11_hitsIn 27 = .ok (.getfield 247, 3) := by decide +kernel
theorem dX11_hitsIn_30 : decode cX11_hitsIn 30 = .ok (.iload_n 3, 1) := by decide +kernel
theorem dX11_hitsIn_31 : decode cX11_hitsIn 31 = .ok (.iaload, 1) := by decide +kernel
theorem dX11_hitsIn_32 : decode cX11_hitsIn 32 = .ok (.iload_n 1, 1) := by decide +kernel
theorem dX11_hitsIn_33 : decode cX11_hitsIn 33 = .ok (.if_icmp .eq 6, 3) := by decide +kernel
theorem dX11_hitsIn_36 : decode cX11_hitsIn 36 = .ok (.goto 20, 3) := by decide +kernel
theorem dX11_hitsIn_39 : decode cX11_hitsIn 39 = .ok (.aload_n 0, 1) := by decide +kernel
theorem dX11_hitsIn_40 : decode cX11_hitsIn 40 = .ok (.iload_n 3, 1) := by decide +kernel
theorem dX11_hitsIn_41 : decode cX11_hitsIn 41 = .ok (.invokevirtual 450, 3) := by decide +kernel
theorem dX11_hitsIn_44 : decode cX11_hitsIn 44 = .ok (.ifCond .eq 6, 3) := by decide +kernel
theorem dX11_hitsIn_47 : decode cX11_hitsIn 47 = .ok (.iinc 2 1, 3) := by decide +kernel
theorem dX11_hitsIn_50 : decode cX11_hitsIn 50 = .ok (.iinc 3 1, 3) := by decide +kernel
theorem dX11_hitsIn_53 : decode cX11_hitsIn 53 = .ok (.goto (-41), 3) := by decide +kernel
theorem dX11_hitsIn_56 : decode cX11_hitsIn 56 = .ok (.iload_n 2, 1) := by decide +kernel
theorem dX11_hitsIn_57 : decode cX11_hitsIn 57 = .ok (.ireturn, 1) := by decide +kernel
theorem dX11_gapsBetweenHits_0 : decode cX11_gapsBetweenHits 0 = .ok (.iconst (-1), 1) := by decide +kernel
theorem dX11_gapsBetweenHits_1 : decode cX11_gapsBetweenHits 1 = .ok (.istore_n 2, 1) := by decide +kernel
theorem dX11_gapsBetweenHits_2 : decode cX11_gapsBetweenHits 2 = .ok (.iconst (-1), 1) := by decide +kernel
theorem dX11_gapsBetweenHits_3 : decode cX11_gapsBetweenHits 3 = .ok (.istore_n 3, 1) := by decide +kernel
theorem dX11_gapsBetweenHits_4 : decode cX11_gapsBetweenHits 4 = .ok (.iconst 0, 1) := by decide +kernel
theorem dX11_gapsBetweenHits_5 : decode cX11_gapsBetweenHits 5 = .ok (.istore 4, 2) := by decide +kernel
theorem dX11_gapsBetweenHits_7 : decode cX11_gapsBetweenHits 7 = .ok (.aload_n 0, 1) := by decide +kernel
theorem dX11_gapsBetweenHits_8 : decode cX11_gapsBetweenHits 8 = .ok (.iconst 0, 1) := by decide +kernel
theorem dX11_gapsBetweenHits_9 : decode cX11_gapsBetweenHits 9 = .ok (.invokevirtual 453, 3) := by decide +kernel
theorem dX11_gapsBetweenHits_12 : decode cX11_gapsBetweenHits 12 = .ok (.istore 5, 2) := by decide +kernel
theorem dX11_gapsBetweenHits_14 : decode cX11_gapsBetweenHits 14 = .ok (.iconst 1, 1) := by decide +kernel
theorem dX11_gapsBetweenHits_15 : decode cX11_gapsBetweenHits 15 = .ok (.istore 6, 2) := by decide +kernel
theorem dX11_gapsBetweenHits_17 : decode cX11_gapsBetweenHits 17 = .ok (.iload 6, 2) := by decide +kernel
theorem dX11_gapsBetweenHits_19 : decode cX11_gapsBetweenHits 19 = .ok (.aload_n 0, 1) := by decide +kernel
theorem dX11_gapsBetweenHits_20 : decode cX11_gapsBetweenHits 20 = .ok (.getfield 47, 3) := by decide +kernel
theorem dX11_gapsBetweenHits_23 : decode cX11_gapsBetweenHits 23 = .ok (.invokevirtual 194, 3) := by decide +kernel
theorem dX11_gapsBetweenHits_26 : decode cX11_gapsBetweenHits 26 = .ok (.if_icmp .ge 76, 3) := by decide +kernel
theorem dX11_gapsBetweenHits_29 : decode cX11_gapsBetweenHits 29 = .ok (.aload_n 0, 1) := by decide +kernel
theorem dX11_gapsBetweenHits_30 : decode cX11_gapsBetweenHits 30 = .ok (.iload 5, 2) := by decide +kernel
theorem dX11_gapsBetweenHits_32 : decode cX11_gapsBetweenHits 32 = .ok (.iconst 1, 1) := by decide +kernel
theorem dX11_gapsBetweenHits_33 : decode cX11_gapsBetweenHits 33 = .ok (.iadd, 1) := by decide +kernel
theorem dX11_gapsBetweenHits_34 : decode cX11_gapsBetweenHits 34 = .ok (.invokevirtual 453, 3) := by decide +kernel
theorem dX11_gapsBetweenHits_37 : decode cX11_gapsBetweenHits 37 = .ok (.istore 7, 2) := by decide +kernel
theorem dX11_gapsBetweenHits_39 : decode cX11_gapsBetweenHits 39 = .ok (.iload 7, 2) := by decide +kernel
theorem dX11_gapsBetweenHits_41 : decode cX11_gapsBetweenHits 41 = .ok (.iload 5, 2) := by decide +kernel
theorem dX11_gapsBetweenHits_43 : decode cX11_gapsBetweenHits 43 = .ok (.isub, 1) := by decide +kernel
theorem dX11_gapsBetweenHits_44 : decode cX11_gapsBetweenHits 44 = .ok (.istore 8, 2) := by decide +kernel
theorem dX11_gapsBetweenHits_46 : decode cX11_gapsBetweenHits 46 = .ok (.iload_n 2, 1) := by decide +kernel
theorem dX11_gapsBetweenHits_47 : decode cX11_gapsBetweenHits 47 = .ok (.iconst (-1), 1) := by decide +kernel
theorem dX11_gapsBetweenHits_48 : decode cX11_gapsBetweenHits 48 = .ok (.if_icmp .ne 8, 3) := by decide +kernel
theorem dX11_gapsBetweenHits_51 : decode cX11_gapsBetweenHits 51 = .ok (.iload 8, 2) := by decide +kernel
theorem dX11_gapsBetweenHits_53 : decode cX11_gapsBetweenHits 53 = .ok (.goto 9, 3) := by decide +kernel
theorem dX11_gapsBetweenHits_56 : decode cX11_gapsBetweenHits 56 = .ok (.iload_n 2, 1) := by decide +kernel
theorem dX11_gapsBetweenHits_57 : decode cX11_gapsBetweenHits 57 = .ok (.iload 8, 2) := by decide +kernel
theorem dX11_gapsBetweenHits_59 : decode cX11_gapsBetweenHits 59 = .ok (.invokestatic 456, 3) := by decide +kernel
theorem dX11_gapsBetweenHits_62 : decode cX11_gapsBetweenHits 62 = .ok (.istore_n 2, 1) := by decide +kernel
theorem dX11_gapsBetweenHits_63 : decode cX11_gapsBetweenHits 63 = .ok (.iload_n 3, 1) := by decide +kernel
theorem dX11_gapsBetweenHits_64 : decode cX11_gapsBetweenHits 64 = .ok (.iload 8, 2) := by decide +kernel
theorem dX11_gapsBetweenHits_66 : decode cX11_gapsBetweenHits 66 = .ok (.invokestatic 461, 3) := by decide +kernel
theorem dX11_gapsBetweenHits_69 : decode cX11_gapsBetweenHits 69 = .ok (.istore_n 3, 1) := by decide +kernel
theorem dX11_gapsBetweenHits_70 : decode cX11_gapsBetweenHits 70 = .ok (.iload 4, 2) := by decide +kernel
theorem dX11_gapsBetweenHits_72 : decode cX11_gapsBetweenHits 72 = .ok (.iload 8, 2) := by decide +kernel
theorem dX11_gapsBetweenHits_74 : decode cX11_gapsBetweenHits 74 = .ok (.aload_n 0, 1) := by decide +kernel
theorem dX11_gapsBetweenHits_75 : decode cX11_gapsBetweenHits 75 = .ok (.getfield 47, 3) := by decide +kernel
theorem dX11_gapsBetweenHits_78 : decode cX11_gapsBetweenHits 78 = .ok (.getfield 161, 3) := by decide +kernel
theorem dX11_gapsBetweenHits_81 : decode cX11_gapsBetweenHits 81 = .ok (.if_icmp .ge 7, 3) := by decide +kernel
theorem dX11_gapsBetweenHits_84 : decode cX11_gapsBetweenHits 84 = .ok (.iconst 1, 1) := by decide +kernel
theorem dX11_gapsBetweenHits_85 : decode cX11_gapsBetweenHits 85 = .ok (.goto 4, 3) := by decide +kernel
theorem dX11_gapsBetweenHits_88 : decode cX11_gapsBetweenHits 88 = .ok (.iconst 0, 1) := by decide +kernel
theorem dX11_gapsBetweenHits_89 : decode cX11_gapsBetweenHits 89 = .ok (.iadd, 1) := by decide +kernel
theorem dX11_gapsBetweenHits_90 : decode cX11_gapsBetweenHits 90 = .ok (.istore 4, 2) := by decide +kernel
theorem dX11_gapsBetweenHits_92 : decode cX11_gapsBetweenHits 92 = .ok (.iload 7, 2) := by decide +kernel
theorem dX11_gapsBetweenHits_94 : decode cX11_gapsBetweenHits 94 = .ok (.istore 5, 2) := by decide +kernel
theorem dX11_gapsBetweenHits_96 : decode cX11_gapsBetweenHits 96 = .ok (.iinc 6 1, 3) := by decide +kernel
theorem dX11_gapsBetweenHits_99 : decode cX11_gapsBetweenHits 99 = .ok (.goto (-82), 3) := by decide +kernel
theorem dX11_gapsBetweenHits_102 : decode cX11_gapsBetweenHits 102 = .ok (.iload_n 1, 1) := by decide +kernel
theorem dX11_gapsBetweenHits_103 : decode cX11_gapsBetweenHits 103 = .ok (.lookupswitch 29 #[(1, 25), (2, 27)], 25) := by decide +kernel
theorem dX11_gapsBetweenHits_128 : decode cX11_gapsBetweenHits 128 = .ok (.iload_n 2, 1) := by decide +kernel
theorem dX11_gapsBetweenHits_129 : decode cX11_gapsBetweenHits 129 = .ok (.ireturn, 1) := by decide +kernel
theorem dX11_gapsBetweenHits_130 : decode cX11_gapsBetweenHits 130 = .ok (.iload_n 3, 1) := by decide +kernel
theorem dX11_gapsBetweenHits_131 : decode cX11_gapsBetweenHits 131 = .ok (.ireturn, 1) := by decide +kernel
theorem dX11_gapsBetweenHits_132 : decode cX11_gapsBetweenHits 132 = .ok (.iload 4, 2) := by decide +kernel
theorem dX11_gapsBetweenHits_134 : decode cX11_gapsBetweenHits 134 = .ok (.ireturn, 1) := by decide +kernel
