theorem dX12_alike_74 : decode cX12_alike 74 = .ok (.iadd, 1) := by decide +kernel
theorem dX12_alike_75 : decode cX12_alike 75 = .ok (.iaload, 1) := by decide +kernel
theorem dX12_alike_76 : decode cX12_alike 76 = .ok (.if_icmp .ne 9, 3) := by decide +kernel
theorem dX12_alike_79 : decode cX12_alike 79 = .ok (.iinc 5 1, 3) := by decide +kernel
theorem dX12_alike_82 : decode cX12_alike 82 = .ok (.goto (-52), 3) := by decide +kernel
theorem dX12_alike_85 : decode cX12_alike 85 = .ok (.iload 5, 2) := by decide +kernel
theorem dX12_alike_87 : decode cX12_alike 87 = .ok (.ireturn, 1) := by decide +kernel
theorem dX12_row_0 : decode cX12_row 0 = .ok (.aload_n 0, 1) := by decide +kernel
theorem dX12_row_1 : decode cX12_row 1 = .ok (.iconst 0, 1) := by decide +kernel
theorem dX12_row_2 : decode cX12_row 2 = .ok (.putfield 105, 3) := by decide +kernel
theorem dX12_row_5 : decode cX12_row 5 = .ok (.aload_n 0, 1) := by decide +kernel
theorem dX12_row_6 : decode cX12_row 6 = .ok (.aload_n 0, 1) := by decide +kernel
theorem dX12_row_7 : decode cX12_row 7 = .ok (.iload_n 1, 1) := by decide +kernel
theorem dX12_row_8 : decode cX12_row 8 = .ok (.iload_n 2, 1) := by decide +kernel
theorem dX12_row_9 : decode cX12_row 9 = .ok (.invokevirtual 226, 3) := by decide +kernel
theorem dX12_row_12 : decode cX12_row 12 = .ok (.ifCond .ne 7, 3) := by decide +kernel
theorem dX12_row_15 : decode cX12_row 15 = .ok (.iconst 1, 1) := by decide +kernel
theorem dX12_row_16 : decode cX12_row 16 = .ok (.goto 4, 3) := by decide +kernel
theorem dX12_row_19 : decode cX12_row 19 = .ok (.iconst 0, 1) := by decide +kernel
theorem dX12_row_20 : decode cX12_row 20 = .ok (.iconst 1, 1) := by decide +kernel
theorem dX12_row_21 : decode cX12_row 21 = .ok (.iconst 0, 1) := by decide +kernel
theorem dX12_row_22 : decode cX12_row 22 = .ok (.invokevirtual 122, 3) := by decide +kernel
theorem dX12_row_25 : decode cX12_row 25 = .ok (.ifCond .ne 27, 3) := by decide +kernel
theorem dX12_row_28 : decode cX12_row 28 = .ok (.aload_n 0, 1) := by decide +kernel
theorem dX12_row_29 : decode cX12_row 29 = .ok (.iload_n 3, 1) := by decide +kernel
theorem dX12_row_30 : decode cX12_row 30 = .ok (.iconst 0, 1) := by decide +kernel
theorem dX12_row_31 : decode cX12_row 31 = .ok (.bipush 6, 2) := by decide +kernel
theorem dX12_row_33 : decode cX12_row 33 = .ok (.invokestatic 108, 3) := by decide +kernel
theorem dX12_row_36 : decode cX12_row 36 = .ok (.ifCond .ne 7, 3) := by decide +kernel
theorem dX12_row_39 : decode cX12_row 39 = .ok (.iconst 1, 1) := by decide +kernel
theorem dX12_row_40 : decode cX12_row 40 = .ok (.goto 4, 3) := by decide +kernel
theorem dX12_row_43 : decode cX12_row 43 = .ok (.iconst 0, 1) := by decide +kernel
theorem dX12_row_44 : decode cX12_row 44 = .ok (.iconst 2, 1) := by decide +kernel
theorem dX12_row_45 : decode cX12_row 45 = .ok (.iconst 1, 1) := by decide +kernel
theorem dX12_row_46 : decode cX12_row 46 = .ok (.invokevirtual 122, 3) := by decide +kernel
theorem dX12_row_49 : decode cX12_row 49 = .ok (.ifCond .eq 5, 3) := by decide +kernel
theorem dX12_row_52 : decode cX12_row 52 = .ok (.iconst 0, 1) := by decide +kernel
theorem dX12_row_53 : decode cX12_row 53 = .ok (.ireturn, 1) := by decide +kernel
theorem dX12_row_54 : decode cX12_row 54 = .ok (.aload_n 0, 1) := by decide +kernel
theorem dX12_row_55 : decode cX12_row 55 = .ok (.getfield 31, 3) := by decide +kernel
theorem dX12_row_58 : decode cX12_row 58 = .ok (.iload_n 1, 1) := by decide +kernel
theorem dX12_row_59 : decode cX12_row 59 = .ok (.aaload, 1) := by decide +kernel
theorem dX12_row_60 : decode cX12_row 60 = .ok (.iload_n 2, 1) := by decide +kernel
theorem dX12_row_61 : decode cX12_row 61 = .ok (.iaload, 1) := by decide +kernel
theorem dX12_row_62 : decode cX12_row 62 = .ok (.istore 4, 2) := by decide +kernel
theorem dX12_row_64 : decode cX12_row 64 = .ok (.iload_n 3, 1) := by decide +kernel
theorem dX12_row_65 : decode cX12_row 65 = .ok (.tableswitch 110 0 5 #[39, 42, 55, 65, 86, 102], 39) := by decide +kernel
theorem dX12_row_104 : decode cX12_row 104 = .ok (.iload 4, 2) := by decide +kernel
theorem dX12_row_106 : decode cX12_row 106 = .ok (.ireturn, 1) := by decide +kernel
theorem dX12_row_107 : decode cX12_row 107 = .ok (.aload_n 0, 1) := by decide +kernel
theorem dX12_row_108 : decode cX12_row 108 = .ok (.getfield 28, 3) := by decide +kernel
theorem dX12_row_111 : decode cX12_row 111 = .ok (.iload_n 1, 1) := by decide +kernel
theorem dX12_row_112 : decode cX12_row 112 = .ok (.aaload, 1) := by decide +kernel
theorem dX12_row_113 : decode cX12_row 113 = .ok (.iload 4, 2) := by decide +kernel
theorem dX12_row_115 : decode cX12_row 115 = .ok (.iaload, 1) := by decide +kernel
theorem dX12_row_116 : decode cX12_row 116 = .ok (.invokestatic 223, 3) := by decide +kernel
theorem dX12_row_119 : decode cX12_row 119 = .ok (.ireturn, 1) := by decide +kernel
theorem dX12_row_120 : decode cX12_row 120 = .ok (.aload_n 0, 1) := by decide +kernel
theorem dX12_row_121 : decode cX12_row 121 = .ok (.iload_n 1, 1) := by decide +kernel
theorem dX12_row_122 : decode cX12_row 122 = .ok (.iload_n 2, 1) := by decide +kernel
theorem dX12_row_123 : decode cX12_row 123 = .ok (.invokevirtual 230, 3) := by decide +kernel
theorem dX12_row_126 : decode cX12_row 126 = .ok (.invokestatic 223, 3) := by decide +kernel
theorem dX12_row_129 : decode cX12_row 129 = .ok (.ireturn, 1) := by decide +kernel
theorem dX12_row_130 : decode cX12_row 130 = .ok (.iload 4, 2) := by decide +kernel
theorem dX12_row_132 : decode cX12_row 132 = .ok (.ifCond .ne 7, 3) := by decide +kernel
theorem dX12_row_135 : decode cX12_row 135 = .ok (.iconst 0, 1) := by decide +kernel
theorem dX12_row_136 : decode cX12_row 136 = .ok (.goto 14, 3) := by decide +kernel
theorem dX12_row_139 : decode cX12_row 139 = .ok (.aload_n 0, 1) := by decide +kernel
theorem dX12_row_140 : decode cX12_row 140 = .ok (.getfield 34, 3) := by decide +kernel
theorem dX12_row_143 : decode cX12_row 143 = .ok (.iload_n 1, 1) := by decide +kernel
theorem dX12_row_144 : decode cX12_row 144 = .ok (.aaload, 1) := by decide +kernel
theorem dX12_row_145 : decode cX12_row 145 = .ok (.iload 4, 2) := by decide +kernel
theorem dX12_row_147 : decode cX12_row 147 = .ok (.iconst 1, 1) := by decide +kernel
theorem dX12_row_148 : decode cX12_row 148 = .ok (.isub, 1) := by decide +kernel
theorem dX12_row_149 : decode cX12_row 149 = .ok (.iaload, 1) := by decide +kernel
theorem dX12_row_150 : decode cX12_row 150 = .ok (.ireturn, 1) := by decide +kernel
theorem dX12_row_151 : decode cX12_row 151 = .ok (.iload 4, 2) := by decide +kernel
theorem dX12_row_153 : decode cX12_row 153 = .ok (.aload_n 0, 1) := by decide +kernel
theorem dX12_row_154 : decode cX12_row 154 = .ok (.getfield 23, 3) := by decide +kernel
theorem dX12_row_157 : decode cX12_row 157 = .ok (.irem, 1) := by decide +kernel
theorem dX12_row_158 : decode cX12_row 158 = .ok (.ifCond .ne 7, 3) := by decide +kernel
theorem dX12_row_161 : decode cX12_row 161 = .ok (.iconst 1, 1) := by decide +kernel
theorem dX12_row_162 : decode cX12_row 162 = .ok (.goto 4, 3) := by decide +kernel
theorem dX12_row_165 : decode cX12_row 165 = .ok (.iconst 0, 1) := by decide +kernel
theorem dX12_row_166 : decode cX12_row 166 = .ok (.ireturn, 1) := by decide +kernel
theorem dX12_row_167 : decode cX12_row 167 = .ok (.iload 4, 2) := by decide +kernel
theorem dX12_row_169 : decode cX12_row 169 = .ok (.aload_n 0, 1) := by decide +kernel
theorem dX12_row_170 : decode cX12_row 170 = .ok (.getfield 23, 3) := by decide +kernel
theorem dX12_row_173 : decode cX12_row 173 = .ok (.irem, 1) := by decide +kernel
theorem dX12_row_174 : decode cX12_row 174 = .ok (.ireturn, 1) := by decide +kernel
theorem dX12_row_175 : decode cX12_row 175 = .ok (.aload_n 0, 1) := by decide +kernel
theorem dX12_row_176 : decode cX12_row 176 = .ok (.iload_n 1, 1) := by decide +kernel
theorem dX12_row_177 : decode cX12_row 177 = .ok (.iload_n 2, 1) := by decide +kernel
theorem dX12_row_178 : decode cX12_row 178 = .ok (.invokevirtual 233, 3) := by decide +kernel
theorem dX12_row_181 : decode cX12_row 181 = .ok (.ireturn, 1) := by decide +kernel
theorem dX12_rowOf_0 : decode cX12_rowOf 0 = .ok (.aload_n 0, 1) := by decide +kernel
theorem dX12_rowOf_1 : decode cX12_rowOf 1 = .ok (.iconst 0, 1) := by decide +kernel
theorem dX12_rowOf_2 : decode cX12_rowOf 2 = .ok (.putfield 105, 3) := by decide +kernel
theorem dX12_rowOf_5 : decode cX12_rowOf 5 = .ok (.aload_n 0, 1) := by decide +kernel
theorem dX12_rowOf_6 : decode cX12_rowOf 6 = .ok (.aload_n 0, 1) := by decide +kernel
theorem dX12_rowOf_7 : decode cX12_rowOf 7 = .ok (.iload_n 1, 1) := by decide +kernel
theorem dX12_rowOf_8 : decode cX12_rowOf 8 = .ok (.iload_n 2, 1) := by decide +kernel
theorem dX12_rowOf_9 : decode cX12_rowOf 9 = .ok (.invokevirtual 226, 3) := by decide +kernel
theorem dX12_rowOf_12 : decode cX12_rowOf 12 = .ok (.ifCond .ne 7, 3) := by decide +kernel
theorem dX12_rowOf_15 : decode cX12_rowOf 15 = .ok (.iconst 1, 1) := by decide +kernel
theorem dX12_rowOf_16 : decode cX12_rowOf 16 = .ok (.goto 4, 3) := by decide +kernel
theorem dX12_rowOf_19 : decode cX12_rowOf 19 = .ok (.iconst 0, 1) := by decide +kernel
theorem dX12_rowOf_20 : decode cX12_rowOf 20 = .ok (.iconst 1, 1) := by decide +kernel
theorem dX12_rowOf_21 : decode cX12_rowOf 21 = .ok (.iconst 0, 1) := by decide +kernel
theorem dX12_rowOf_22 : decode cX12_rowOf 22 = .ok (.invokevirtual 122, 3) := by decide +kernel
theorem dX12_rowOf_25 : decode cX12_rowOf 25 = .ok (.ifCond .eq 5, 3) := by decide +kernel
theorem dX12_rowOf_28 : decode cX12_rowOf 28 = .ok (.iconst 0, 1) := by decide +kernel
theorem dX12_rowOf_29 : decode cX12_rowOf 29 = .ok (.ireturn, 1) := by decide +kernel
theorem dX12_rowOf_30 : decode cX12_rowOf 30 = .ok (.aload_n 0, 1) := by decide +kernel
theorem dX12_rowOf_31 : decode cX12_rowOf 31 = .ok (.getfield 34, 3) := by decide +kernel
theorem dX12_rowOf_34 : decode cX12_rowOf 34 = .ok (.iload_n 1, 1) := by decide +kernel
theorem dX12_rowOf_35 : decode cX12_rowOf 35 = .ok (.aaload, 1) := by decide +kernel
theorem dX12_rowOf_36 : decode cX12_rowOf 36 = .ok (.iload_n 2, 1) := by decide +kernel
theorem dX12_rowOf_37 : decode cX12_rowOf 37 = .ok (.iaload, 1) := by decide +kernel
theorem dX12_rowOf_38 : decode cX12_rowOf 38 = .ok (.ireturn, 1) := by decide +kernel
theorem dX12_count_0 : decode cX12_count 0 = .ok (.aload_n 0, 1) := by decide +kernel
theorem dX12_count_1 : decode cX12_count 1 = .ok (.iconst 0, 1) := by decide +kernel
theorem dX12_count_2 : decode cX12_count 2 = .ok (.putfield 105, 3) := by decide +kernel
theorem dX12_count_5 : decode cX12_count 5 = .ok (.aload_n 0, 1) := by decide +kernel
theorem dX12_count_6 : decode cX12_count 6 = .ok (.iload_n 1, 1) := by decide +kernel
theorem dX12_count_7 : decode cX12_count 7 = .ok (.iconst 0, 1) := by decide +kernel
theorem dX12_count_8 : decode cX12_count 8 = .ok (.iconst 1, 1) := by decide +kernel
theorem dX12_count_9 : decode cX12_count 9 = .ok (.invokestatic 108, 3) := by decide +kernel
theorem dX12_count_12 : decode cX12_count 12 = .ok (.ifCond .eq 17, 3) := by decide +kernel
theorem dX12_count_15 : decode cX12_count 15 = .ok (.iload_n 2, 1) := by decide +kernel
theorem dX12_count_16 : decode cX12_count 16 = .ok (.iconst 0, 1) := by decide +kernel
theorem dX12_count_17 : decode cX12_count 17 = .ok (.aload_n 0, 1) := by decide +kernel
theorem dX12_count_18 : decode cX12_count 18 = .ok (.getfield 20, 3) := by decide +kernel
theorem dX12_count_21 : decode cX12_count 21 = .ok (.iconst 1, 1) := by decide +kernel
theorem dX12_count_22 : decode cX12_count 22 = .ok (.iadd, 1) := by decide +kernel
theorem dX12_count_23 : decode cX12_count 23 = .ok (.invokestatic 108, 3) := by decide +kernel
theorem dX12_count_26 : decode cX12_count 26 = .ok (.ifCond .ne 7, 3) := by decide +kernel
theorem dX12_count_29 : decode cX12_count 29 = .ok (.iconst 1, 1) := by decide +kernel
theorem dX12_count_30 : decode cX12_count 30 = .ok (.goto 4, 3) := by decide +kernel
theorem dX12_count_33 : decode cX12_count 33 = .ok (.iconst 0, 1) := by decide +kernel
theorem dX12_count_34 : decode cX12_count 34 = .ok (.iconst 1, 1) := by decide +kernel
theorem dX12_count_35 : decode cX12_count 35 = .ok (.iconst 0, 1) := by decide +kernel
theorem dX12_count_36 : decode cX12_count 36 = .ok (.invokevirtual 122, 3) := by decide +kernel
theorem dX12_count_39 : decode cX12_count 39 = .ok (.ifCond .ne 24, 3) := by decide +kernel
theorem dX12_count_42 : decode cX12_count 42 = .ok (.aload_n 0, 1) := by decide +kernel
theorem dX12_count_43 : decode cX12_count 43 = .ok (.iload_n 3, 1) := by decide +kernel
theorem dX12_count_44 : decode cX12_count 44 = .ok (.invokestatic 118, 3) := by decide +kernel
theorem dX12_count_47 : decode cX12_count 47 = .ok (.ifCond .ne 7, 3) := by decide +kernel
theorem dX12_count_50 : decode cX12_count 50 = .ok (.iconst 1, 1) := by decide +kernel
theorem dX12_count_51 : decode cX12_count 51 = .ok (.goto 4, 3) := by decide +kernel
theorem dX12_count_54 : decode cX12_count 54 = .ok (.iconst 0, 1) := by decide +kernel
theorem dX12_count_55 : decode cX12_count 55 = .ok (.iconst 2, 1) := by decide +kernel
theorem dX12_count_56 : decode cX12_count 56 = .ok (.iconst 1, 1) := by decide +kernel
theorem dX12_count_57 : decode cX12_count 57 = .ok (.invokevirtual 122, 3) := by decide +kernel
theorem dX12_count_60 : decode cX12_count 60 = .ok (.ifCond .eq 5, 3) := by decide +kernel
theorem dX12_count_63 : decode cX12_count 63 = .ok (.iconst 0, 1) := by decide +kernel
theorem dX12_count_64 : decode cX12_count 64 = .ok (.ireturn, 1) := by decide +kernel
theorem dX12_count_65 : decode cX12_count 65 = .ok (.iconst 0, 1) := by decide +kernel
theorem dX12_count_66 : decode cX12_count 66 = .ok (.istore 4, 2) := by decide +kernel
theorem dX12_count_68 : decode cX12_count 68 = .ok (.iconst 0, 1) := by decide +kernel
theorem dX12_count_69 : decode cX12_count 69 = .ok (.istore 5, 2) := by decide +kernel
theorem dX12_count_71 : decode cX12_count 71 = .ok (.iload 5, 2) := by decide +kernel
theorem dX12_count_73 : decode cX12_count 73 = .ok (.iload_n 2, 1) := by decide +kernel
theorem dX12_count_74 : decode cX12_count 74 = .ok (.if_icmp .ge 33, 3) := by decide +kernel
theorem dX12_count_77 : decode cX12_count 77 = .ok (.iload 4, 2) := by decide +kernel
theorem dX12_count_79 : decode cX12_count 79 = .ok (.aload_n 0, 1) := by decide +kernel
theorem dX12_count_80 : decode cX12_count 80 = .ok (.iload_n 1, 1) := by decide +kernel
theorem dX12_count_81 : decode cX12_count 81 = .ok (.iload 5, 2) := by decide +kernel
theorem dX12_count_83 : decode cX12_count 83 = .ok (.invokevirtual 230, 3) := by decide +kernel
theorem dX12_count_86 : decode cX12_count 86 = .ok (.invokestatic 223, 3) := by decide +kernel
theorem dX12_count_89 : decode cX12_count 89 = .ok (.iload_n 3, 1) := by decide +kernel
theorem dX12_count_90 : decode cX12_count 90 = .ok (.if_icmp .ne 7, 3) := by decide +kernel
theorem dX12_count_93 : decode cX12_count 93 = .ok (.iconst 1, 1) := by decide +kernel
theorem dX12_count_94 : decode cX12_count 94 = .ok (.goto 4, 3) := by decide +kernel
theorem dX12_count_97 : decode cX12_count 97 = .ok (.iconst 0, 1) := by decide +kernel
theorem dX12_count_98 : decode cX12_count 98 = .ok (.iadd, 1) := by decide +kernel
theorem dX12_count_99 : decode cX12_count 99 = .ok (.istore 4, 2) := by decide +kernel
theorem dX12_count_101 : decode cX12_count 101 = .ok (.iinc 5 1, 3) := by decide +kernel
theorem dX12_count_104 : decode cX12_count 104 = .ok (.goto (-33), 3) := by decide +kernel
theorem dX12_count_107 : decode cX12_count 107 = .ok (.iload 4, 2) := by decide +kernel
theorem dX12_count_109 : decode cX12_count 109 = .ok (.ireturn, 1) := by decide +kernel
theorem dX12_letter_0 : decode cX12_letter 0 = .ok (.aload_n 0, 1) := by decide +kernel
theorem dX12_letter_1 : decode cX12_letter 1 = .ok (.iconst 0, 1) := by decide +kernel
theorem dX12_letter_2 : decode cX12_letter 2 = .ok (.putfield 105, 3) := by decide +kernel
theorem dX12_letter_5 : decode cX12_letter 5 = .ok (.aload_n 0, 1) := by decide +kernel
theorem dX12_letter_6 : decode cX12_letter 6 = .ok (.iload_n 1, 1) := by decide +kernel
theorem dX12_letter_7 : decode cX12_letter 7 = .ok (.iconst 0, 1) := by decide +kernel
theorem dX12_letter_8 : decode cX12_letter 8 = .ok (.aload_n 0, 1) := by decide +kernel
theorem dX12_letter_9 : decode cX12_letter 9 = .ok (.invokevirtual 183, 3) := by decide +kernel
theorem dX12_letter_12 : decode cX12_letter 12 = .ok (.iconst 1, 1) := by decide +kernel
theorem dX12_letter_13 : decode cX12_letter 13 = .ok (.isub, 1) := by decide +kernel
theorem dX12_letter_14 : decode cX12_letter 14 = .ok (.invokestatic 108, 3) := by decide +kernel
theorem dX12_letter_17 : decode cX12_letter 17 = .ok (.ifCond .ne 7, 3) := by decide +kernel
theorem dX12_letter_20 : decode cX12_letter 20 = .ok (.iconst 1, 1) := by decide +kernel
theorem dX12_letter_21 : decode cX12_letter 21 = .ok (.goto 4, 3) := by decide +kernel
theorem dX12_letter_24 : decode cX12_letter 24 = .ok (.iconst 0, 1) := by decide +kernel
theorem dX12_letter_25 : decode cX12_letter 25 = .ok (.iconst 1, 1) := by decide +kernel
theorem dX12_letter_26 : decode cX12_letter 26 = .ok (.iconst 0, 1) := by decide +kernel
theorem dX12_letter_27 : decode cX12_letter 27 = .ok (.invokevirtual 122, 3) := by decide +kernel
theorem dX12_letter_30 : decode cX12_letter 30 = .ok (.ifCond .eq 5, 3) := by decide +kernel
theorem dX12_letter_33 : decode cX12_letter 33 = .ok (.iconst 0, 1) := by decide +kernel
theorem dX12_letter_34 : decode cX12_letter 34 = .ok (.ireturn, 1) := by decide +kernel
theorem dX12_letter_35 : decode cX12_letter 35 = .ok (.aload_n 0, 1) := by decide +kernel
theorem dX12_letter_36 : decode cX12_letter 36 = .ok (.getfield 43, 3) := by decide +kernel
theorem dX12_letter_39 : decode cX12_letter 39 = .ok (.aload_n 0, 1) := by decide +kernel
theorem dX12_letter_40 : decode cX12_letter 40 = .ok (.getfield 37, 3) := by decide +kernel
theorem dX12_letter_43 : decode cX12_letter 43 = .ok (.iload_n 1, 1) := by decide +kernel
theorem dX12_letter_44 : decode cX12_letter 44 = .ok (.iadd, 1) := by decide +kernel
theorem dX12_letter_45 : decode cX12_letter 45 = .ok (.iaload, 1) := by decide +kernel
theorem dX12_letter_46 : decode cX12_letter 46 = .ok (.invokestatic 223, 3) := by decide +kernel
theorem dX12_letter_49 : decode cX12_letter 49 = .ok (.ireturn, 1) := by decide +kernel
theorem dX12_grows_0 : decode cX12_grows 0 = .ok (.aload_n 0, 1) := by decide +kernel
theorem dX12_grows_1 : decode cX12_grows 1 = .ok (.iconst 0, 1) := by decide +kernel
theorem dX12_grows_2 : decode cX12_grows 2 = .ok (.putfield 105, 3) := by decide +kernel
theorem dX12_grows_5 : decode cX12_grows 5 = .ok (.aload_n 0, 1) := by decide +kernel
theorem dX12_grows_6 : decode cX12_grows 6 = .ok (.iload_n 1, 1) := by decide +kernel
theorem dX12_grows_7 : decode cX12_grows 7 = .ok (.iconst 0, 1) := by decide +kernel
theorem dX12_grows_8 : decode cX12_grows 8 = .ok (.iconst 1, 1) := by decide +kernel
theorem dX12_grows_9 : decode cX12_grows 9 = .ok (.invokestatic 108, 3) := by decide +kernel
theorem dX12_grows_12 : decode cX12_grows 12 = .ok (.ifCond .ne 7, 3) := by decide +kernel
theorem dX12_grows_15 : decode cX12_grows 15 = .ok (.iconst 1, 1) := by decide +kernel
theorem dX12_grows_16 : decode cX12_grows 16 = .ok (.goto 4, 3) := by decide +kernel
theorem dX12_grows_19 : decode cX12_grows 19 = .ok (.iconst 0, 1) := by decide +kernel
theorem dX12_grows_20 : decode cX12_grows 20 = .ok (.iconst 1, 1) := by decide +kernel
theorem dX12_grows_21 : decode cX12_grows 21 = .ok (.iconst 1, 1) := by decide +kernel
theorem dX12_grows_22 : decode cX12_grows 22 = .ok (.invokevirtual 122, 3) := by decide +kernel
theorem dX12_grows_25 : decode cX12_grows 25 = .ok (.ifCond .eq 5, 3) := by decide +kernel
theorem dX12_grows_28 : decode cX12_grows 28 = .ok (.iconst 0, 1) := by decide +kernel
theorem dX12_grows_29 : decode cX12_grows 29 = .ok (.ireturn, 1) := by decide +kernel
theorem dX12_grows_30 : decode cX12_grows 30 = .ok (.iconst 0, 1) := by decide +kernel
theorem dX12_grows_31 : decode cX12_grows 31 = .ok (.istore_n 2, 1) := by decide +kernel
theorem dX12_grows_32 : decode cX12_grows 32 = .ok (.iconst 2, 1) := by decide +kernel
theorem dX12_grows_33 : decode cX12_grows 33 = .ok (.istore_n 3, 1) := by decide +kernel
theorem dX12_grows_34 : decode cX12_grows 34 = .ok (.iload_n 3, 1) := by decide +kernel
theorem dX12_grows_35 : decode cX12_grows 35 = .ok (.bipush 10, 2) := by decide +kernel
theorem dX12_grows_37 : decode cX12_grows 37 = .ok (.if_icmp .ge 44, 3) := by decide +kernel
theorem dX12_grows_40 : decode cX12_grows 40 = .ok (.aload_n 0, 1) := by decide +kernel
theorem dX12_grows_41 : decode cX12_grows 41 = .ok (.invokevirtual 183, 3) := by decide +kernel
theorem dX12_grows_44 : decode cX12_grows 44 = .ok (.bipush 40, 2) := by decide +kernel
theorem dX12_grows_46 : decode cX12_grows 46 = .ok (.if_icmp .ge 35, 3) := by decide +kernel
theorem dX12_grows_49 : decode cX12_grows 49 = .ok (.iload_n 2, 1) := by decide +kernel
theorem dX12_grows_50 : decode cX12_grows 50 = .ok (.aload_n 0, 1) := by decide +kernel
theorem dX12_grows_51 : decode cX12_grows 51 = .ok (.iload_n 3, 1) := by decide +kernel
theorem dX12_grows_52 : decode cX12_grows 52 = .ok (.iload_n 1, 1) := by decide +kernel
theorem dX12_grows_53 : decode cX12_grows 53 = .ok (.invokevirtual 193, 3) := by decide +kernel
theorem dX12_grows_56 : decode cX12_grows 56 = .ok (.ifCond .le 11, 3) := by decide +kernel
theorem dX12_grows_59 : decode cX12_grows 59 = .ok (.iconst 1, 1) := by decide +kernel
theorem dX12_grows_60 : decode cX12_grows 60 = .ok (.iload_n 3, 1) := by decide +kernel
theorem dX12_grows_61 : decode cX12_grows 61 = .ok (.iconst 2, 1) := by decide +kernel
theorem dX12_grows_62 : decode cX12_grows 62 = .ok (.isub, 1) := by decide +kernel
theorem dX12_grows_63 : decode cX12_grows 63 = .ok (.ishl, 1) := by decide +kernel
theorem dX12_grows_64 : decode cX12_grows 64 = .ok (.goto 4, 3) := by decide +kernel
theorem dX12_grows_67 : decode cX12_grows 67 = .ok (.iconst 0, 1) := by decide +kernel
theorem dX12_grows_68 : decode cX12_grows 68 = .ok (.ior, 1) := by decide +kernel
theorem dX12_grows_69 : decode cX12_grows 69 = .ok (.istore_n 2, 1) := by decide +kernel
theorem dX12_grows_70 : decode cX12_grows 70 = .ok (.aload_n 0, 1) := by decide +kernel
theorem dX12_grows_71 : decode cX12_grows 71 = .ok (.iload_n 1, 1) := by decide +kernel
theorem dX12_grows_72 : decode cX12_grows 72 = .ok (.invokevirtual 196, 3) := by decide +kernel
theorem dX12_grows_75 : decode cX12_grows 75 = .ok (.iinc 3 1, 3) := by decide +kernel
theorem dX12_grows_78 : decode cX12_grows 78 = .ok (.goto (-44), 3) := by decide +kernel
theorem dX12_grows_81 : decode cX12_grows 81 = .ok (.iload_n 2, 1) := by decide +kernel
theorem dX12_grows_82 : decode cX12_grows 82 = .ok (.ireturn, 1) := by decide +kernel
theorem dX12_isHit_0 : decode cX12_isHit 0 = .ok (.iconst 0, 1) := by decide +kernel
theorem dX12_isHit_1 : decode cX12_isHit 1 = .ok (.istore_n 2, 1) := by decide +kernel
theorem dX12_isHit_2 : decode cX12_isHit 2 = .ok (.iload_n 2, 1) := by decide +kernel
theorem dX12_isHit_3 : decode cX12_isHit 3 = .ok (.aload_n 0, 1) := by decide +kernel
theorem dX12_isHit_4 : decode cX12_isHit 4 = .ok (.invokevirtual 183, 3) := by decide +kernel
theorem dX12_isHit_7 : decode cX12_isHit 7 = .ok (.if_icmp .ge 45, 3) := by decide +kernel
theorem dX12_isHit_10 : decode cX12_isHit 10 = .ok (.iload_n 1, 1) := by decide +kernel
theorem dX12_isHit_11 : decode cX12_isHit 11 = .ok (.iload_n 2, 1) := by decide +kernel
theorem dX12_isHit_12 : decode cX12_isHit 12 = .ok (.iadd, 1) := by decide +kernel
theorem dX12_isHit_13 : decode cX12_isHit 13 = .ok (.aload_n 0, 1) := by decide +kernel
theorem dX12_isHit_14 : decode cX12_isHit 14 = .ok (.getfield 20, 3) := by decide +kernel
theorem dX12_isHit_17 : decode cX12_isHit 17 = .ok (.if_icmp .ge 27, 3) := by decide +kernel
theorem dX12_isHit_20 : decode cX12_isHit 20 = .ok (.aload_n 0, 1) := by decide +kernel
theorem dX12_isHit_21 : decode cX12_isHit 21 = .ok (.getfield 28, 3) := by decide +kernel
theorem dX12_isHit_24 : decode cX12_isHit 24 = .ok (.iconst 0, 1) := by decide +kernel
theorem dX12_isHit_25 : decode cX12_isHit 25 = .ok (.aaload, 1) := by decide +kernel
theorem dX12_isHit_26 : decode cX12_isHit 26 = .ok (.iload_n 1, 1) := by decide +kernel
theorem dX12_isHit_27 : decode cX12_isHit 27 = .ok (.iload_n 2, 1) := by decide +kernel
theorem dX12_isHit_28 : decode cX12_isHit 28 = .ok (.iadd, 1) := by decide +kernel
theorem dX12_isHit_29 : decode cX12_isHit 29 = .ok (.iaload, 1) := by decide +kernel
theorem dX12_isHit_30 : decode cX12_isHit 30 = .ok (.aload_n 0, 1) := by decide +kernel
theorem dX12_isHit_31 : decode cX12_isHit 31 = .ok (.getfield 43, 3) := by decide +kernel
theorem dX12_isHit_34 : decode cX12_isHit 34 = .ok (.aload_n 0, 1) := by decide +kernel
theorem dX12_isHit_35 : decode cX12_isHit 35 = .ok (.getfield 37, 3) := by decide +kernel
theorem dX12_isHit_38 : decode cX12_isHit 38 = .ok (.iload_n 2, 1) := by decide +kernel
theorem dX12_isHit_39 : decode cX12_isHit 39 = .ok (.iadd, 1) := by decide +kernel
theorem dX12_isHit_40 : decode cX12_isHit 40 = .ok (.iaload, 1) := by decide +kernel
theorem dX12_isHit_41 : decode cX12_isHit 41 = .ok (.if_icmp .eq 5, 3) := by decide +kernel
theorem dX12_isHit_44 : decode cX12_isHit 44 = .ok (.iconst 0, 1) := by decide +kernel
theorem dX12_isHit_45 : decode cX12_isHit 45 = .ok (.ireturn, 1) := by decide +kernel
theorem dX12_isHit_46 : decode cX12_isHit 46 = .ok (.iinc 2 1, 3) := by decide +kernel
theorem dX12_isHit_49 : decode cX12_isHit 49 = .ok (.goto (-47), 3) := by decide +kernel
theorem dX12_isHit_52 : decode cX12_isHit 52 = .ok (.iconst 1, 1) := by decide +kernel
theorem dX12_isHit_53 : decode cX12_isHit 53 = .ok (.ireturn, 1) := by decide +kernel
theorem dX12_documentOf_0 : decode cX12_documentOf 0 = .ok (.iconst 0, 1) := by decide +kernel
theorem dX12_documentOf_1 : decode cX12_documentOf 1 = .ok (.istore_n 2, 1) := by decide +kernel
theorem dX12_documentOf_2 : decode cX12_documentOf 2 = .ok (.iconst 0, 1) := by decide +kernel
theorem dX12_documentOf_3 : decode cX12_documentOf 3 = .ok (.istore_n 3, 1) := by decide +kernel
theorem dX12_documentOf_4 : decode cX12_documentOf 4 = .ok (.iload_n 3, 1) := by decide +kernel
theorem dX12_documentOf_5 : decode cX12_documentOf 5 = .ok (.iload_n 1, 1) := by decide +kernel
theorem dX12_documentOf_6 : decode cX12_documentOf 6 = .ok (.if_icmp .ge 37, 3) := by decide +kernel
theorem dX12_documentOf_9 : decode cX12_documentOf 9 = .ok (.iload_n 3, 1) := by decide +kernel
theorem dX12_documentOf_10 : decode cX12_documentOf 10 = .ok (.aload_n 0, 1) := by decide +kernel
theorem dX12_documentOf_11 : decode cX12_documentOf 11 = .ok (.getfield 20, 3) := by decide +kernel
theorem dX12_documentOf_14 : decode cX12_documentOf 14 = .ok (.if_icmp .ge 29, 3) := by decide +kernel
theorem dX12_documentOf_17 : decode cX12_documentOf 17 = .ok (.iload_n 2, 1) := by decide +kernel
theorem dX12_documentOf_18 : decode cX12_documentOf 18 = .ok (.aload_n 0, 1) := by decide +kernel
theorem dX12_documentOf_19 : decode cX12_documentOf 19 = .ok (.getfield 28, 3) := by decide +kernel
theorem dX12_documentOf_22 : decode cX12_documentOf 22 = .ok (.iconst 0, 1) := by decide +kernel
theorem dX12_documentOf_23 : decode cX12_documentOf 23 = .ok (.aaload, 1) := by decide +kernel
theorem dX12_documentOf_24 : decode cX12_documentOf 24 = .ok (.iload_n 3, 1) := by decide +kernel
theorem dX12_documentOf_25 : decode cX12_documentOf 25 = .ok (.iaload, 1) := by decide +kernel
theorem dX12_documentOf_26 : decode cX12_documentOf 26 = .ok (.iconst 1, 1) := by decide +kernel
theorem dX12_documentOf_27 : decode cX12_documentOf 27 = .ok (.if_icmp .ne 7, 3) := by decide +kernel
theorem dX12_documentOf_30 : decode cX12_documentOf 30 = .ok (.iconst 1, 1) := by decide +kernel
theorem dX12_documentOf_31 : decode cX12_documentOf 31 = .ok (.goto 4, 3) := by decide +kernel
theorem dX12_documentOf_34 : decode cX12_documentOf 34 = .ok (.iconst 0, 1) := by decide +kernel
theorem dX12_documentOf_35 : decode cX12_documentOf 35 = .ok (.iadd, 1) := by decide +kernel
theorem dX12_documentOf_36 : decode cX12_documentOf 36 = .ok (.istore_n 2, 1) := by decide +kernel
theorem dX12_documentOf_37 : decode cX12_documentOf 37 = .ok (.iinc 3 1, 3) := by decide +kernel
theorem dX12_documentOf_40 : decode cX12_documentOf 40 = .ok (.goto (-36), 3) := by decide +kernel
theorem dX12_documentOf_43 : decode cX12_documentOf 43 = .ok (.iload_n 2, 1) := by decide +kernel
theorem dX12_documentOf_44 : decode cX12_documentOf 44 = .ok (.ireturn, 1) := by decide +kernel
theorem dX12_beginOf_0 : decode cX12_beginOf 0 = .ok (.iload_n 1, 1) := by decide +kernel
theorem dX12_beginOf_1 : decode cX12_beginOf 1 = .ok (.istore_n 2, 1) := by decide +kernel
theorem dX12_beginOf_2 : decode cX12_beginOf 2 = .ok (.iconst 0, 1) := by decide +kernel
theorem dX12_beginOf_3 : decode cX12_beginOf 3 = .ok (.istore_n 3, 1) := by decide +kernel
theorem dX12_beginOf_4 : decode cX12_beginOf 4 = .ok (.iload_n 2, 1) := by decide +kernel
theorem dX12_beginOf_5 : decode cX12_beginOf 5 = .ok (.ifCond .le 29, 3) := by decide +kernel
theorem dX12_beginOf_8 : decode cX12_beginOf 8 = .ok (.iload_n 2, 1) := by decide +kernel
theorem dX12_beginOf_9 : decode cX12_beginOf 9 = .ok (.aload_n 0, 1) := by decide +kernel
theorem dX12_beginOf_10 : decode cX12_beginOf 10 = .ok (.getfield 28, 3) := by decide +kernel
theorem dX12_beginOf_13 : decode cX12_beginOf 13 = .ok (.iconst 0, 1) := by decide +kernel
theorem dX12_beginOf_14 : decode cX12_beginOf 14 = .ok (.aaload, 1) := by decide +kernel
theorem dX12_beginOf_15 : decode cX12_beginOf 15 = .ok (.iload_n 3, 1) := by decide +kernel
theorem dX12_beginOf_16 : decode cX12_beginOf 16 = .ok (.iaload, 1) := by decide +kernel
theorem dX12_beginOf_17 : decode cX12_beginOf 17 = .ok (.iconst 1, 1) := by decide +kernel
theorem dX12_beginOf_18 : decode cX12_beginOf 18 = .ok (.if_icmp .ne 7, 3) := by decide +kernel
theorem dX12_beginOf_21 : decode cX12_beginOf 21 = .ok (.iconst 1, 1) := by decide +kernel
theorem dX12_beginOf_22 : decode cX12_beginOf 22 = .ok (.goto 4, 3) := by decide +kernel
theorem dX12_beginOf_25 : decode cX12_beginOf 25 = .ok (.iconst 0, 1) := by decide +kernel
theorem dX12_beginOf_26 : decode cX12_beginOf 26 = .ok (.isub, 1) := by decide +kernel
theorem dX12_beginOf_27 : decode cX12_beginOf 27 = .ok (.istore_n 2, 1) := by decide +kernel
theorem dX12_beginOf_28 : decode cX12_beginOf 28 = .ok (.iinc 3 1, 3) := by decide +kernel
theorem dX12_beginOf_31 : decode cX12_beginOf 31 = .ok (.goto (-27), 3) := by decide +kernel
theorem dX12_beginOf_34 : decode cX12_beginOf 34 = .ok (.iload_n 3, 1) := by decide +kernel
theorem dX12_beginOf_35 : decode cX12_beginOf 35 = .ok (.ireturn, 1) := by decide +kernel
theorem dX12_hitAt_0 : decode cX12_hitAt 0 = .ok (.iconst (-1), 1) := by decide +kernel
theorem dX12_hitAt_1 : decode cX12_hitAt 1 = .ok (.istore_n 2, 1) := by decide +kernel
theorem dX12_hitAt_2 : decode cX12_hitAt 2 = .ok (.iconst 0, 1) := by decide +kernel
theorem dX12_hitAt_3 : decode cX12_hitAt 3 = .ok (.istore_n 3, 1) := by decide +kernel
theorem dX12_hitAt_4 : decode cX12_hitAt 4 = .ok (.iload_n 3, 1) := by decide +kernel
theorem dX12_hitAt_5 : decode cX12_hitAt 5 = .ok (.aload_n 0, 1) := by decide +kernel
theorem dX12_hitAt_6 : decode cX12_hitAt 6 = .ok (.getfield 20, 3) := by decide +kernel
theorem dX12_hitAt_9 : decode cX12_hitAt 9 = .ok (.if_icmp .gt 32, 3) := by decide +kernel
theorem dX12_hitAt_12 : decode cX12_hitAt 12 = .ok (.iload_n 2, 1) := by decide +kernel
theorem dX12_hitAt_13 : decode cX12_hitAt 13 = .ok (.aload_n 0, 1) := by decide +kernel
theorem dX12_hitAt_14 : decode cX12_hitAt 14 = .ok (.iload_n 3, 1) := by decide +kernel
theorem dX12_hitAt_15 : decode cX12_hitAt 15 = .ok (.invokevirtual 236, 3) := by decide +kernel
theorem dX12_hitAt_18 : decode cX12_hitAt 18 = .ok (.ifCond .eq 7, 3) := by decide +kernel
theorem dX12_hitAt_21 : decode cX12_hitAt 21 = .ok (.iconst 1, 1) := by decide +kernel
theorem dX12_hitAt_22 : decode cX12_hitAt 22 = .ok (.goto 4, 3) := by decide +kernel
theorem dX12_hitAt_25 : decode cX12_hitAt 25 = .ok (.iconst 0, 1) := by decide +kernel
theorem dX12_hitAt_26 : decode cX12_hitAt 26 = .ok (.iadd, 1) := by decide +kernel
theorem dX12_hitAt_27 : decode cX12_hitAt 27 = .ok (.istore_n 2, 1) := by decide +kernel
theorem dX12_hitAt_28 : decode cX12_hitAt 28 = .ok (.iload_n 2, 1) := by decide +kernel
theorem dX12_hitAt_29 : decode cX12_hitAt 29 = .ok (.iload_n 1, 1) := by decide +kernel
theorem dX12_hitAt_30 : decode cX12_hitAt 30 = .ok (.if_icmp .ne 5, 3) := by decide +kernel
theorem dX12_hitAt_33 : decode cX12_hitAt 33 = .ok (.iload_n 3, 1) := by decide +kernel
theorem dX12_hitAt_34 : decode cX12_hitAt 34 = .ok (.ireturn, 1) := by decide +kernel
theorem dX12_hitAt_35 : decode cX12_hitAt 35 = .ok (.iinc 3 1, 3) := by decide +kernel
theorem dX12_hitAt_38 : decode cX12_hitAt 38 = .ok (.goto (-34), 3) := by decide +kernel
theorem dX12_hitAt_41 : decode cX12_hitAt 41 = .ok (.iconst (-1), 1) := by decide +kernel
theorem dX12_hitAt_42 : decode cX12_hitAt 42 = .ok (.ireturn, 1) := by decide +kernel
theorem dX12_hit_0 : decode cX12_hit 0 = .ok (.aload_n 0, 1) := by decide +kernel
theorem dX12_hit_1 : decode cX12_hit 1 = .ok (.iconst 0, 1) := by decide +kernel
theorem dX12_hit_2 : decode cX12_hit 2 = .ok (.putfield 105, 3) := by decide +kernel
theorem dX12_hit_5 : decode cX12_hit 5 = .ok (.aload_n 0, 1) := by decide +kernel
theorem dX12_hit_6 : decode cX12_hit 6 = .ok (.iload_n 1, 1) := by decide +kernel
theorem dX12_hit_7 : decode cX12_hit 7 = .ok (.iconst 0, 1) := by decide +kernel
theorem dX12_hit_8 : decode cX12_hit 8 = .ok (.aload_n 0, 1) := by decide +kernel
theorem dX12_hit_9 : decode cX12_hit 9 = .ok (.invokevirtual 190, 3) := by decide +kernel
theorem dX12_hit_12 : decode cX12_hit 12 = .ok (.iconst 1, 1) := by decide +kernel
theorem dX12_hit_13 : decode cX12_hit 13 = .ok (.isub, 1) := by decide +kernel
theorem dX12_hit_14 : decode cX12_hit 14 = .ok (.invokestatic 108, 3) := by decide +kernel
theorem dX12_hit_17 : decode cX12_hit 17 = .ok (.ifCond .ne 7, 3) := by decide +kernel
theorem dX12_hit_20 : decode cX12_hit 20 = .ok (.iconst 1, 1) := by decide +kernel
theorem dX12_hit_21 : decode cX12_hit 21 = .ok (.goto 4, 3) := by decide +kernel
theorem dX12_hit_24 : decode cX12_hit 24 = .ok (.iconst 0, 1) := by decide +kernel
theorem dX12_hit_25 : decode cX12_hit 25 = .ok (.iconst 1, 1) := by decide +kernel
theorem dX12_hit_26 : decode cX12_hit 26 = .ok (.iconst 0, 1) := by decide +kernel
theorem dX12_hit_27 : decode cX12_hit 27 = .ok (.invokevirtual 122, 3) := by decide +kernel
theorem dX12_hit_30 : decode cX12_hit 30 = .ok (.ifCond .ne 26, 3) := by decide +kernel
theorem dX12_hit_33 : decode cX12_hit 33 = .ok (.aload_n 0, 1) := by decide +kernel
theorem dX12_hit_34 : decode cX12_hit 34 = .ok (.iload_n 2, 1) := by decide +kernel
theorem dX12_hit_35 : decode cX12_hit 35 = .ok (.iconst 0, 1) := by decide +kernel
theorem dX12_hit_36 : decode cX12_hit 36 = .ok (.iconst 2, 1) := by decide +kernel
theorem dX12_hit_37 : decode cX12_hit 37 = .ok (.invokestatic 108, 3) := by decide +kernel
theorem dX12_hit_40 : decode cX12_hit 40 = .ok (.ifCond .ne 7, 3) := by decide +kernel
theorem dX12_hit_43 : decode cX12_hit 43 = .ok (.iconst 1, 1) := by decide +kernel
theorem dX12_hit_44 : decode cX12_hit 44 = .ok (.goto 4, 3) := by decide +kernel
theorem dX12_hit_47 : decode cX12_hit 47 = .ok (.iconst 0, 1) := by decide +kernel
theorem dX12_hit_48 : decode cX12_hit 48 = .ok (.iconst 2, 1) := by decide +kernel
theorem dX12_hit_49 : decode cX12_hit 49 = .ok (.iconst 1, 1) := by decide +kernel
theorem dX12_hit_50 : decode cX12_hit 50 = .ok (.invokevirtual 122, 3) := by decide +kernel
theorem dX12_hit_53 : decode cX12_hit 53 = .ok (.ifCond .eq 5, 3) := by decide +kernel
theorem dX12_hit_56 : decode cX12_hit 56 = .ok (.iconst 0, 1) := by decide +kernel
theorem dX12_hit_57 : decode cX12_hit 57 = .ok (.ireturn, 1) := by decide +kernel
theorem dX12_hit_58 : decode cX12_hit 58 = .ok (.aload_n 0, 1) := by decide +kernel
theorem dX12_hit_59 : decode cX12_hit 59 = .ok (.iload_n 1, 1) := by decide +kernel
theorem dX12_hit_60 : decode cX12_hit 60 = .ok (.invokevirtual 239, 3) := by decide +kernel
theorem dX12_hit_63 : decode cX12_hit 63 = .ok (.istore_n 3, 1) := by decide +kernel
theorem dX12_hit_64 : decode cX12_hit 64 = .ok (.aload_n 0, 1) := by decide +kernel
theorem dX12_hit_65 : decode cX12_hit 65 = .ok (.iload_n 3, 1) := by decide +kernel
theorem dX12_hit_66 : decode cX12_hit 66 = .ok (.invokevirtual 242, 3) := by decide +kernel
theorem dX12_hit_69 : decode cX12_hit 69 = .ok (.istore 4, 2) := by decide +kernel
theorem dX12_hit_71 : decode cX12_hit 71 = .ok (.iload_n 2, 1) := by decide +kernel
theorem dX12_hit_72 : decode cX12_hit 72 = .ok (.ifCond .ne 7, 3) := by decide +kernel
theorem dX12_hit_75 : decode cX12_hit 75 = .ok (.iload_n 3, 1) := by decide +kernel
theorem dX12_hit_76 : decode cX12_hit 76 = .ok (.goto 21, 3) := by decide +kernel
theorem dX12_hit_79 : decode cX12_hit 79 = .ok (.iload_n 2, 1) := by decide +kernel
theorem dX12_hit_80 : decode cX12_hit 80 = .ok (.iconst 1, 1) := by decide +kernel
theorem dX12_hit_81 : decode cX12_hit 81 = .ok (.if_icmp .ne 8, 3) := by decide +kernel
theorem dX12_hit_84 : decode cX12_hit 84 = .ok (.iload 4, 2) := by decide +kernel
theorem dX12_hit_86 : decode cX12_hit 86 = .ok (.goto 11, 3) := by decide +kernel
theorem dX12_hit_89 : decode cX12_hit 89 = .ok (.iload_n 3, 1) := by decide +kernel
theorem dX12_hit_90 : decode cX12_hit 90 = .ok (.aload_n 0, 1) := by decide +kernel
theorem dX12_hit_91 : decode cX12_hit 91 = .ok (.iload 4, 2) := by decide +kernel
theorem dX12_hit_93 : decode cX12_hit 93 = .ok (.invokevirtual 245, 3) := by decide +kernel
theorem dX12_hit_96 : decode cX12_hit 96 = .ok (.isub, 1) := by decide +kernel
theorem dX12_hit_97 : decode cX12_hit 97 = .ok (.ireturn, 1) := by decide +kernel
theorem dX12_hitsIn_0 : decode cX12_hitsIn 0 = .ok (.iconst 0, 1) := by decide +kernel
theorem dX12_hitsIn_1 : decode cX12_hitsIn 1 = .ok (.istore_n 2, 1) := by decide +kernel
theorem dX12_hitsIn_2 : decode cX12_hitsIn 2 = .ok (.iconst 0, 1) := by decide +kernel
theorem dX12_hitsIn_3 : decode cX12_hitsIn 3 = .ok (.istore_n 3, 1) := by decide +kernel
theorem dX12_hitsIn_4 : decode cX12_hitsIn 4 = .ok (.iload_n 3, 1) := by decide +kernel
theorem dX12_hitsIn_5 : decode cX12_hitsIn 5 = .ok (.aload_n 0, 1) := by decide +kernel
theorem dX12_hitsIn_6 : decode cX12_hitsIn 6 = .ok (.getfield 20, 3) := by decide +kernel
theorem dX12_hitsIn_9 : decode cX12_hitsIn 9 = .ok (.if_icmp .gt 34, 3) := by decide +kernel
theorem dX12_hitsIn_12 : decode cX12_hitsIn 12 = .ok (.iload_n 2, 1) := by decide +kernel
theorem dX12_hitsIn_13 : decode cX12_hitsIn 13 = .ok (.aload_n 0, 1) := by decide +kernel
theorem dX12_hitsIn_14 : decode cX12_hitsIn 14 = .ok (.iload_n 3, 1) := by decide +kernel
theorem dX12_hitsIn_15 : decode cX12_hitsIn 15 = .ok (.invokevirtual 236, 3) := by decide +kernel
theorem dX12_hitsIn_18 : decode cX12_hitsIn 18 = .ok (.ifCond .eq 16, 3) := by decide +kernel
theorem dX12_hitsIn_21 : decode cX12_hitsIn 21 = .ok (.aload_n 0, 1) := by decide +kernel
theorem dX12_hitsIn_22 : decode cX12_hitsIn 22 = .ok (.iload_n 3, 1) := by decide +kernel
theorem dX12_hitsIn_23 : decode cX12_hitsIn 23 = .ok (.invokevirtual 242, 3) := by decide +kernel
theorem dX12_hitsIn_26 : decode cX12_hitsIn 26 = .ok (.iload_n 1, 1) := by decide +kernel
theorem dX12_hitsIn_27 : decode cX12_hitsIn 27 = .ok (.if_icmp .ne 7, 3) := by decide +kernel
theorem dX12_hitsIn_30 : decode cX12_hitsIn 30 = .ok (.iconst 1, 1) := by decide +kernel
theorem dX12_hitsIn_31 : decode cX12_hitsIn 31 = .ok (.goto 4, 3) := by decide +kernel
theorem dX12_hitsIn_34 : decode cX12_hitsIn 34 = .ok (.iconst 0, 1) := by decide +kernel
theorem dX12_hitsIn_35 : decode cX12_hitsIn 35 = .ok (.iadd, 1) := by decide +kernel
theorem dX12_hitsIn_36 : decode cX12_hitsIn 36 = .ok (.istore_n 2, 1) := by decide +kernel
theorem dX12_hitsIn_37 : decode cX12_hitsIn 37 = .ok (.iinc 3 1, 3) := by decide +kernel
theorem dX12_hitsIn_40 : decode cX12_hitsIn 40 = .ok (.goto (-36), 3) := by decide +kernel
theorem dX12_hitsIn_43 : decode cX12_hitsIn 43 = .ok (.iload_n 2, 1) := by decide +kernel
theorem dX12_hitsIn_44 : decode cX12_hitsIn 44 = .ok (.ireturn, 1) := by decide +kernel
theorem dX12_hits_0 : decode cX12_hits 0 = .ok (.aload_n 0, 1) := by decide +kernel
theorem dX12_hits_1 : decode cX12_hits 1 = .ok (.iconst 0, 1) := by decide +kernel
theorem dX12_hits_2 : decode cX12_hits 2 = .ok (.putfield 105, 3) := by decide +kernel
theorem dX12_hits_5 : decode cX12_hits 5 = .ok (.aload_n 0, 1) := by decide +kernel
theorem dX12_hits_6 : decode cX12_hits 6 = .ok (.iload_n 1, 1) := by decide +kernel
theorem dX12_hits_7 : decode cX12_hits 7 = .ok (.iconst 0, 1) := by decide +kernel
theorem dX12_hits_8 : decode cX12_hits 8 = .ok (.iconst 3, 1) := by decide +kernel
theorem dX12_hits_9 : decode cX12_hits 9 = .ok (.invokestatic 108, 3) := by decide +kernel
theorem dX12_hits_12 : decode cX12_hits 12 = .ok (.ifCond .ne 7, 3) := by decide +kernel
theorem dX12_hits_15 : decode cX12_hits 15 = .ok (.iconst 1, 1) := by decide +kernel
theorem dX12_hits_16 : decode cX12_hits 16 = .ok (.goto 4, 3) := by decide +kernel
theorem dX12_hits_19 : decode cX12_hits 19 = .ok (.iconst 0, 1) := by decide +kernel
theorem dX12_hits_20 : decode cX12_hits 20 = .ok (.iconst 1, 1) := by decide +kernel
theorem dX12_hits_21 : decode cX12_hits 21 = .ok (.iconst 1, 1) := by decide +kernel
theorem dX12_hits_22 : decode cX12_hits 22 = .ok (.invokevirtual 122, 3) := by decide +kernel
theorem dX12_hits_25 : decode cX12_hits 25 = .ok (.ifCond .eq 5, 3) := by decide +kernel
theorem dX12_hits_28 : decode cX12_hits 28 = .ok (.iconst 0, 1) := by decide +kernel
theorem dX12_hits_29 : decode cX12_hits 29 = .ok (.ireturn, 1) := by decide +kernel
theorem dX12_hits_30 : decode cX12_hits 30 = .ok (.iconst 0, 1) := by decide +kernel
theorem dX12_hits_31 : decode cX12_hits 31 = .ok (.istore_n 2, 1) := by decide +kernel
theorem dX12_hits_32 : decode cX12_hits 32 = .ok (.iconst (-1), 1) := by decide +kernel
theorem dX12_hits_33 : decode cX12_hits 33 = .ok (.istore_n 3, 1) := by decide +kernel
theorem dX12_hits_34 : decode cX12_hits 34 = .ok (.iconst (-1), 1) := by decide +kernel
theorem dX12_hits_35 : decode cX12_hits 35 = .ok (.istore 4, 2) := by decide +kernel
theorem dX12_hits_37 : decode cX12_hits 37 = .ok (.iconst 0, 1) := by decide +kernel
theorem dX12_hits_38 : decode cX12_hits 38 = .ok (.istore 5, 2) := by decide +kernel
theorem dX12_hits_40 : decode cX12_hits 40 = .ok (.iconst (-1), 1) := by decide +kernel
theorem dX12_hits_41 : decode cX12_hits 41 = .ok (.istore 6, 2) := by decide +kernel
theorem dX12_hits_43 : decode cX12_hits 43 = .ok (.iconst 0, 1) := by decide +kernel
theorem dX12_hits_44 : decode cX12_hits 44 = .ok (.istore 7, 2) := by decide +kernel
theorem dX12_hits_46 : decode cX12_hits 46 = .ok (.iload 7, 2) := by decide +kernel
theorem dX12_hits_48 : decode cX12_hits 48 = .ok (.aload_n 0, 1) := by decide +kernel
theorem dX12_hits_49 : decode cX12_hits 49 = .ok (.invokevirtual 205, 3) := by decide +kernel
theorem dX12_hits_52 : decode cX12_hits 52 = .ok (.if_icmp .ge 30, 3) := by decide +kernel
theorem dX12_hits_55 : decode cX12_hits 55 = .ok (.iload_n 1, 1) := by decide +kernel
theorem dX12_hits_56 : decode cX12_hits 56 = .ok (.ifCond .ne 26, 3) := by decide +kernel
theorem dX12_hits_59 : decode cX12_hits 59 = .ok (.iload_n 2, 1) := by decide +kernel
theorem dX12_hits_60 : decode cX12_hits 60 = .ok (.aload_n 0, 1) := by decide +kernel
theorem dX12_hits_61 : decode cX12_hits 61 = .ok (.iload 7, 2) := by decide +kernel
theorem dX12_hits_63 : decode cX12_hits 63 = .ok (.invokevirtual 248, 3) := by decide +kernel
theorem dX12_hits_66 : decode cX12_hits 66 = .ok (.ifCond .le 7, 3) := by decide +kernel
theorem dX12_hits_69 : decode cX12_hits 69 = .ok (.iconst 1, 1) := by decide +kernel
theorem dX12_hits_70 : decode cX12_hits 70 = .ok (.goto 4, 3) := by decide +kernel
theorem dX12_hits_73 : decode cX12_hits 73 = .ok (.iconst 0, 1) := by decide +kernel
theorem dX12_hits_74 : decode cX12_hits 74 = .ok (.iadd, 1) := by decide +kernel
theorem dX12_hits_75 : decode cX12_hits 75 = .ok (.istore_n 2, 1) := by decide +kernel
theorem dX12_hits_76 : decode cX12_hits 76 = .ok (.iinc 7 1, 3) := by decide +kernel
theorem dX12_hits_79 : decode cX12_hits 79 = .ok (.goto (-33), 3) := by decide +kernel
theorem dX12_hits_82 : decode cX12_hits 82 = .ok (.iconst 0, 1) := by decide +kernel
theorem dX12_hits_83 : decode cX12_hits 83 = .ok (.istore 7, 2) := by decide +kernel
theorem dX12_hits_85 : decode cX12_hits 85 = .ok (.iload 7, 2) := by decide +kernel
theorem dX12_hits_87 : decode cX12_hits 87 = .ok (.aload_n 0, 1) := by decide +kernel
theorem dX12_hits_88 : decode cX12_hits 88 = .ok (.getfield 20, 3) := by decide +kernel
theorem dX12_hits_91 : decode cX12_hits 91 = .ok (.if_icmp .gt 88, 3) := by decide +kernel
theorem dX12_hits_94 : decode cX12_hits 94 = .ok (.aload_n 0, 1) := by decide +kernel
theorem dX12_hits_95 : decode cX12_hits 95 = .ok (.iload 7, 2) := by decide +kernel
theorem dX12_hits_97 : decode cX12_hits 97 = .ok (.invokevirtual 236, 3) := by decide +kernel
theorem dX12_hits_100 : decode cX12_hits 100 = .ok (.ifCond .ne 6, 3) := by decide +kernel
theorem dX12_hits_103 : decode cX12_hits 103 = .ok (.goto 70, 3) := by decide +kernel
theorem dX12_hits_106 : decode cX12_hits 106 = .ok (.iload 6, 2) := by decide +kernel
theorem dX12_hits_108 : decode cX12_hits 108 = .ok (.iconst (-1), 1) := by decide +kernel
theorem dX12_hits_109 : decode cX12_hits 109 = .ok (.if_icmp .eq 60, 3) := by decide +kernel
theorem dX12_hits_112 : decode cX12_hits 112 = .ok (.iload_n 3, 1) := by decide +kernel
theorem dX12_hits_113 : decode cX12_hits 113 = .ok (.iconst (-1), 1) := by decide +kernel
theorem dX12_hits_114 : decode cX12_hits 114 = .ok (.if_icmp .ne 11, 3) := by decide +kernel
theorem dX12_hits_117 : decode cX12_hits 117 = .ok (.iload 7, 2) := by decide +kernel
theorem dX12_hits_119 : decode cX12_hits 119 = .ok (.iload 6, 2) := by decide +kernel
theorem dX12_hits_121 : decode cX12_hits 121 = .ok (.isub, 1) := by decide +kernel
theorem dX12_hits_122 : decode cX12_hits 122 = .ok (.goto 12, 3) := by decide +kernel
theorem dX12_hits_125 : decode cX12_hits 125 = .ok (.iload_n 3, 1) := by decide +kernel
theorem dX12_hits_126 : decode cX12_hits 126 = .ok (.iload 7, 2) := by decide +kernel
theorem dX12_hits_128 : decode cX12_hits 128 = .ok (.iload 6, 2) := by decide +kernel
theorem dX12_hits_130 : decode cX12_hits 130 = .ok (.isub, 1) := by decide +kernel
theorem dX12_hits_131 : decode cX12_hits 131 = .ok (.invokestatic 251, 3) := by decide +kernel
theorem dX12_hits_134 : decode cX12_hits 134 = .ok (.istore_n 3, 1) := by decide +kernel
theorem dX12_hits_135 : decode cX12_hits 135 = .ok (.iload 4, 2) := by decide +kernel
theorem dX12_hits_137 : decode cX12_hits 137 = .ok (.iload 7, 2) := by decide +kernel
theorem dX12_hits_139 : decode cX12_hits 139 = .ok (.iload 6, 2) := by decide +kernel
theorem dX12_hits_141 : decode cX12_hits 141 = .ok (.isub, 1) := by decide +kernel
theorem dX12_hits_142 : decode cX12_hits 142 = .ok (.invokestatic 202, 3) := by decide +kernel
theorem dX12_hits_145 : decode cX12_hits 145 = .ok (.istore 4, 2) := by decide +kernel
theorem dX12_hits_147 : decode cX12_hits 147 = .ok (.iload 5, 2) := by decide +kernel
theorem dX12_hits_149 : decode cX12_hits 149 = .ok (.iload 7, 2) := by decide +kernel
theorem dX12_hits_151 : decode cX12_hits 151 = .ok (.iload 6, 2) := by decide +kernel
theorem dX12_hits_153 : decode cX12_hits 153 = .ok (.aload_n 0, 1) := by decide +kernel
theorem dX12_hits_154 : decode cX12_hits 154 = .ok (.invokevirtual 183, 3) := by decide +kernel
theorem dX12_hits_157 : decode cX12_hits 157 = .ok (.iadd, 1) := by decide +kernel
theorem dX12_hits_158 : decode cX12_hits 158 = .ok (.if_icmp .ge 7, 3) := by decide +kernel
theorem dX12_hits_161 : decode cX12_hits 161 = .ok (.iconst 1, 1) := by decide +kernel
theorem dX12_hits_162 : decode cX12_hits 162 = .ok (.goto 4, 3) := by decide +kernel
theorem dX12_hits_165 : decode cX12_hits 165 = .ok (.iconst 0, 1) := by decide +kernel
theorem dX12_hits_166 : decode cX12_hits 166 = .ok (.iadd, 1) := by decide +kernel
theorem dX12_hits_167 : decode cX12_hits 167 = .ok (.istore 5, 2) := by decide +kernel
theorem dX12_hits_169 : decode cX12_hits 169 = .ok (.iload 7, 2) := by decide +kernel
theorem dX12_hits_171 : decode cX12_hits 171 = .ok (.istore 6, 2) := by decide +kernel
theorem dX12_hits_173 : decode cX12_hits 173 = .ok (.iinc 7 1, 3) := by decide +kernel
theorem dX12_hits_176 : decode cX12_hits 176 = .ok (.goto (-91), 3) := by decide +kernel
theorem dX12_hits_179 : decode cX12_hits 179 = .ok (.iload_n 1, 1) := by decide +kernel
theorem dX12_hits_180 : decode cX12_hits 180 = .ok (.ifCond .ne 7, 3) := by decide +kernel
theorem dX12_hits_183 : decode cX12_hits 183 = .ok (.iload_n 2, 1) := by decide +kernel
theorem dX12_hits_184 : decode cX12_hits 184 = .ok (.goto 24, 3) := by decide +kernel
theorem dX12_hits_187 : decode cX12_hits 187 = .ok (.iload_n 1, 1) := by decide +kernel
theorem dX12_hits_188 : decode cX12_hits 188 = .ok (.iconst 1, 1) := by decide +kernel
theorem dX12_hits_189 : decode cX12_hits 189 = .ok (.if_icmp .ne 7, 3) := by decide +kernel
theorem dX12_hits_192 : decode cX12_hits 192 = .ok (.iload_n 3, 1) := by decide +kernel
theorem dX12_hits_193 : decode cX12_hits 193 = .ok (.goto 15, 3) := by decide +kernel
theorem dX12_hits_196 : decode cX12_hits 196 = .ok (.iload_n 1, 1) := by decide +kernel
theorem dX12_hits_197 : decode cX12_hits 197 = .ok (.iconst 2, 1) := by decide +kernel
theorem dX12_hits_198 : decode cX12_hits 198 = .ok (.if_icmp .ne 8, 3) := by decide +kernel
theorem dX12_hits_201 : decode cX12_hits 201 = .ok (.iload 4, 2) := by decide +kernel
theorem dX12_hits_203 : decode cX12_hits 203 = .ok (.goto 5, 3) := by decide +kernel
theorem dX12_hits_206 : decode cX12_hits 206 = .ok (.iload 5, 2) := by decide +kernel
theorem dX12_hits_208 : decode cX12_hits 208 = .ok (.ireturn, 1) := by decide +kernel
theorem dX12_areLetters_0 : decode cX12_areLetters 0 = .ok (.iconst 0, 1) := by decide +kernel
theorem dX12_areLetters_1 : decode cX12_areLetters 1 = .ok (.istore_n 2, 1) := by decide +kernel
theorem dX12_areLetters_2 : decode cX12_areLetters 2 = .ok (.iload_n 2, 1) := by decide +kernel
theorem dX12_areLetters_3 : decode cX12_areLetters 3 = .ok (.iload_n 1, 1) := by decide +kernel
theorem dX12_areLetters_4 : decode cX12_areLetters 4 = .ok (.if_icmp .ge 23, 3) := by decide +kernel
theorem dX12_areLetters_7 : decode cX12_areLetters 7 = .ok (.aload_n 0, 1) := by decide +kernel
theorem dX12_areLetters_8 : decode cX12_areLetters 8 = .ok (.getfield 17, 3) := by decide +kernel
theorem dX12_areLetters_11 : decode cX12_areLetters 11 = .ok (.iload_n 2, 1) := by decide +kernel
theorem dX12_areLetters_12 : decode cX12_areLetters 12 = .ok (.iaload, 1) := by decide +kernel
theorem dX12_areLetters_13 : decode cX12_areLetters 13 = .ok (.invokestatic 118, 3) := by decide +kernel
theorem dX12_areLetters_16 : decode cX12_areLetters 16 = .ok (.ifCond .ne 5, 3) := by decide +kernel
theorem dX12_areLetters_19 : decode cX12_areLetters 19 = .ok (.iconst 0, 1) := by decide +kernel
theorem dX12_areLetters_20 : decode cX12_areLetters 20 = .ok (.ireturn, 1) := by decide +kernel
theorem dX12_areLetters_21 : decode cX12_areLetters 21 = .ok (.iinc 2 1, 3) := by decide +kernel
theorem dX12_areLetters_24 : decode cX12_areLetters 24 = .ok (.goto (-22), 3) := by decide +kernel
theorem dX12_areLetters_27 : decode cX12_areLetters 27 = .ok (.iconst 1, 1) := by decide +kernel
theorem dX12_areLetters_28 : decode cX12_areLetters 28 = .ok (.ireturn, 1) := by decide +kernel
theorem dX12_often_0 : decode cX12_often 0 = .ok (.aload_n 0, 1) := by decide +kernel
theorem dX12_often_1 : decode cX12_often 1 = .ok (.iconst 0, 1) := by decide +kernel
theorem dX12_often_2 : decode cX12_often 2 = .ok (.putfield 105, 3) := by decide +kernel
theorem dX12_often_5 : decode cX12_often 5 = .ok (.aload_n 0, 1) := by decide +kernel
theorem dX12_often_6 : decode cX12_often 6 = .ok (.iload_n 1, 1) := by decide +kernel
theorem dX12_often_7 : decode cX12_often 7 = .ok (.iconst 1, 1) := by decide +kernel
theorem dX12_often_8 : decode cX12_often 8 = .ok (.aload_n 0, 1) := by decide +kernel
theorem dX12_often_9 : decode cX12_often 9 = .ok (.getfield 115, 3) := by decide +kernel
theorem dX12_often_12 : decode cX12_often 12 = .ok (.invokestatic 108, 3) := by decide +kernel
theorem dX12_often_15 : decode cX12_often 15 = .ok (.ifCond .eq 11, 3) := by decide +kernel
theorem dX12_often_18 : decode cX12_often 18 = .ok (.aload_n 0, 1) := by decide +kernel
theorem dX12_often_19 : decode cX12_often 19 = .ok (.iload_n 1, 1) := by decide +kernel
theorem dX12_often_20 : decode cX12_often 20 = .ok (.invokevirtual 254, 3) := by decide +kernel
theorem dX12_often_23 : decode cX12_often 23 = .ok (.ifCond .ne 7, 3) := by decide +kernel
theorem dX12_often_26 : decode cX12_often 26 = .ok (.iconst 1, 1) := by decide +kernel
theorem dX12_often_27 : decode cX12_often 27 = .ok (.goto 4, 3) := by decide +kernel
theorem dX12_often_30 : decode cX12_often 30 = .ok (.iconst 0, 1) := by decide +kernel
theorem dX12_often_31 : decode cX12_often 31 = .ok (.iconst 1, 1) := by decide +kernel
theorem dX12_often_32 : decode cX12_often 32 = .ok (.iconst 1, 1) := by decide +kernel
theorem dX12_often_33 : decode cX12_often 33 = .ok (.invokevirtual 122, 3) := by decide +kernel
theorem dX12_often_36 : decode cX12_often 36 = .ok (.ifCond .eq 5, 3) := by decide +kernel
theorem dX12_often_39 : decode cX12_often 39 = .ok (.iconst 0, 1) := by decide +kernel
theorem dX12_often_40 : decode cX12_often 40 = .ok (.ireturn, 1) := by decide +kernel
theorem dX12_often_41 : decode cX12_often 41 = .ok (.iconst 0, 1) := by decide +kernel
theorem dX12_often_42 : decode cX12_often 42 = .ok (.istore_n 2, 1) := by decide +kernel
theorem dX12_often_43 : decode cX12_often 43 = .ok (.iconst 0, 1) := by decide +kernel
theorem dX12_often_44 : decode cX12_often 44 = .ok (.istore_n 3, 1) := by decide +kernel
theorem dX12_often_45 : decode cX12_often 45 = .ok (.iload_n 3, 1) := by decide +kernel
theorem dX12_often_46 : decode cX12_often 46 = .ok (.iload_n 1, 1) := by decide +kernel
theorem dX12_often_47 : decode cX12_often 47 = .ok (.iadd, 1) := by decide +kernel
theorem dX12_often_48 : decode cX12_often 48 = .ok (.aload_n 0, 1) := by decide +kernel
theorem dX12_often_49 : decode cX12_often 49 = .ok (.getfield 20, 3) := by decide +kernel
theorem dX12_often_52 : decode cX12_often 52 = .ok (.if_icmp .gt 62, 3) := by decide +kernel
theorem dX12_often_55 : decode cX12_often 55 = .ok (.iconst 0, 1) := by decide +kernel
theorem dX12_often_56 : decode cX12_often 56 = .ok (.istore 4, 2) := by decide +kernel
theorem dX12_often_58 : decode cX12_often 58 = .ok (.iload 4, 2) := by decide +kernel
theorem dX12_often_60 : decode cX12_often 60 = .ok (.iload_n 1, 1) := by decide +kernel
theorem dX12_often_61 : decode cX12_often 61 = .ok (.if_icmp .ge 33, 3) := by decide +kernel
theorem dX12_often_64 : decode cX12_often 64 = .ok (.aload_n 0, 1) := by decide +kernel
theorem dX12_often_65 : decode cX12_often 65 = .ok (.getfield 28, 3) := by decide +kernel
theorem dX12_often_68 : decode cX12_often 68 = .ok (.iconst 0, 1) := by decide +kernel
theorem dX12_often_69 : decode cX12_often 69 = .ok (.aaload, 1) := by decide +kernel
theorem dX12_often_70 : decode cX12_often 70 = .ok (.iload_n 3, 1) := by decide +kernel
theorem dX12_often_71 : decode cX12_often 71 = .ok (.iload 4, 2) := by decide +kernel
theorem dX12_often_73 : decode cX12_often 73 = .ok (.iadd, 1) := by decide +kernel
theorem dX12_often_74 : decode cX12_often 74 = .ok (.iaload, 1) := by decide +kernel
theorem dX12_often_75 : decode cX12_often 75 = .ok (.invokestatic 223, 3) := by decide +kernel
theorem dX12_often_78 : decode cX12_often 78 = .ok (.aload_n 0, 1) := by decide +kernel
theorem dX12_often_79 : decode cX12_often 79 = .ok (.getfield 17, 3) := by decide +kernel
theorem dX12_often_82 : decode cX12_often 82 = .ok (.iload 4, 2) := by decide +kernel
theorem dX12_often_84 : decode cX12_often 84 = .ok (.iaload, 1) := by decide +kernel
theorem dX12_often_85 : decode cX12_often 85 = .ok (.if_icmp .ne 9, 3) := by decide +kernel
theorem dX12_often_88 : decode cX12_often 88 = .ok (.iinc 4 1, 3) := by decide +kernel
theorem dX12_often_91 : decode cX12_often 91 = .ok (.goto (-33), 3) := by decide +kernel
theorem dX12_often_94 : decode cX12_often 94 = .ok (.iload_n 2, 1) := by decide +kernel
theorem dX12_often_95 : decode cX12_often 95 = .ok (.iload 4, 2) := by decide +kernel
theorem dX12_often_97 : decode cX12_often 97 = .ok (.iload_n 1, 1) := by decide +kernel
theorem dX12_often_98 : decode cX12_often 98 = .ok (.if_icmp .ne 7, 3) := by decide +kernel
theorem dX12_often_101 : decode cX12_often 101 = .ok (.iconst 1, 1) := by decide +kernel
theorem dX12_often_102 : decode cX12_often 102 = .ok (.goto 4, 3) := by decide +kernel
theorem dX12_often_105 : decode cX12_often 105 = .ok (.iconst 0, 1) := by decide +kernel
theorem dX12_often_106 : decode cX12_often 106 = .ok (.iadd, 1) := by decide +kernel
theorem dX12_often_107 : decode cX12_often 107 = .ok (.istore_n 2, 1) := by decide +kernel
theorem dX12_often_108 : decode cX12_often 108 = .ok (.iinc 3 1, 3) := by decide +kernel
theorem dX12_often_111 : decode cX12_often 111 = .ok (.goto (-66), 3) := by decide +kernel
theorem dX12_often_114 : decode cX12_often 114 = .ok (.iload_n 2, 1) := by decide +kernel
theorem dX12_often_115 : decode cX12_often 115 = .ok (.ireturn, 1) := by decide +kernel
theorem dX12_covers_0 : decode cX12_covers 0 = .ok (.iconst 0, 1) := by decide +kernel
theorem dX12_covers_1 : decode cX12_covers 1 = .ok (.istore_n 2, 1) := by decide +kernel
theorem dX12_covers_2 : decode cX12_covers 2 = .ok (.iconst 0, 1) := by decide +kernel
theorem dX12_covers_3 : decode cX12_covers 3 = .ok (.istore_n 3, 1) := by decide +kernel
theorem dX12_covers_4 : decode cX12_covers 4 = .ok (.iload_n 3, 1) := by decide +kernel
theorem dX12_covers_5 : decode cX12_covers 5 = .ok (.aload_n 0, 1) := by decide +kernel
theorem dX12_covers_6 : decode cX12_covers 6 = .ok (.getfield 52, 3) := by decide +kernel
theorem dX12_covers_9 : decode cX12_covers 9 = .ok (.iconst 0, 1) := by decide +kernel
theorem dX12_covers_10 : decode cX12_covers 10 = .ok (.iaload, 1) := by decide +kernel
theorem dX12_covers_11 : decode cX12_covers 11 = .ok (.if_icmp .ge 62, 3) := by decide +kernel
theorem dX12_covers_14 : decode cX12_covers 14 = .ok (.iload_n 2, 1) := by decide +kernel
theorem dX12_covers_15 : decode cX12_covers 15 = .ok (.aload_n 0, 1) := by decide +kernel
theorem dX12_covers_16 : decode cX12_covers 16 = .ok (.getfield 69, 3) := by decide +kernel
theorem dX12_covers_19 : decode cX12_covers 19 = .ok (.aload_n 0, 1) := by decide +kernel
theorem dX12_covers_20 : decode cX12_covers 20 = .ok (.getfield 57, 3) := by decide +kernel
theorem dX12_covers_23 : decode cX12_covers 23 = .ok (.iconst 0, 1) := by decide +kernel
theorem dX12_covers_24 : decode cX12_covers 24 = .ok (.aaload, 1) := by decide +kernel
theorem dX12_covers_25 : decode cX12_covers 25 = .ok (.iload_n 1, 1) := by decide +kernel
theorem dX12_covers_26 : decode cX12_covers 26 = .ok (.aaload, 1) := by decide +kernel
theorem dX12_covers_27 : decode cX12_covers 27 = .ok (.iconst 0, 1) := by decide +kernel
theorem dX12_covers_28 : decode cX12_covers 28 = .ok (.aaload, 1) := by decide +kernel
theorem dX12_covers_29 : decode cX12_covers 29 = .ok (.iload_n 3, 1) := by decide +kernel
theorem dX12_covers_30 : decode cX12_covers 30 = .ok (.iaload, 1) := by decide +kernel
theorem dX12_covers_31 : decode cX12_covers 31 = .ok (.iaload, 1) := by decide +kernel
theorem dX12_covers_32 : decode cX12_covers 32 = .ok (.iadd, 1) := by decide +kernel
theorem dX12_covers_33 : decode cX12_covers 33 = .ok (.istore_n 2, 1) := by decide +kernel
theorem dX12_covers_34 : decode cX12_covers 34 = .ok (.iload_n 2, 1) := by decide +kernel
theorem dX12_covers_35 : decode cX12_covers 35 = .ok (.aload_n 0, 1) := by decide +kernel
theorem dX12_covers_36 : decode cX12_covers 36 = .ok (.getfield 57, 3) := by decide +kernel
theorem dX12_covers_39 : decode cX12_covers 39 = .ok (.iconst 0, 1) := by decide +kernel
theorem dX12_covers_40 : decode cX12_covers 40 = .ok (.aaload, 1) := by decide +kernel
theorem dX12_covers_41 : decode cX12_covers 41 = .ok (.iload_n 1, 1) := by decide +kernel
theorem dX12_covers_42 : decode cX12_covers 42 = .ok (.aaload, 1) := by decide +kernel
theorem dX12_covers_43 : decode cX12_covers 43 = .ok (.iconst 1, 1) := by decide +kernel
theorem dX12_covers_44 : decode cX12_covers 44 = .ok (.aaload, 1) := by decide +kernel
theorem dX12_covers_45 : decode cX12_covers 45 = .ok (.iload_n 3, 1) := by decide +kernel
theorem dX12_covers_46 : decode cX12_covers 46 = .ok (.iaload, 1) := by decide +kernel
theorem dX12_covers_47 : decode cX12_covers 47 = .ok (.aload_n 0, 1) := by decide +kernel
theorem dX12_covers_48 : decode cX12_covers 48 = .ok (.getfield 57, 3) := by decide +kernel
theorem dX12_covers_51 : decode cX12_covers 51 = .ok (.iconst 0, 1) := by decide +kernel
theorem dX12_covers_52 : decode cX12_covers 52 = .ok (.aaload, 1) := by decide +kernel
theorem dX12_covers_53 : decode cX12_covers 53 = .ok (.iload_n 1, 1) := by decide +kernel
theorem dX12_covers_54 : decode cX12_covers 54 = .ok (.aaload, 1) := by decide +kernel
theorem dX12_covers_55 : decode cX12_covers 55 = .ok (.iconst 2, 1) := by decide +kernel
theorem dX12_covers_56 : decode cX12_covers 56 = .ok (.aaload, 1) := by decide +kernel
theorem dX12_covers_57 : decode cX12_covers 57 = .ok (.iload_n 3, 1) := by decide +kernel
theorem dX12_covers_58 : decode cX12_covers 58 = .ok (.iaload, 1) := by decide +kernel
theorem dX12_covers_59 : decode cX12_covers 59 = .ok (.invokestatic 108, 3) := by decide +kernel
theorem dX12_covers_62 : decode cX12_covers 62 = .ok (.ifCond .ne 5, 3) := by decide +kernel
theorem dX12_covers_65 : decode cX12_covers 65 = .ok (.iconst 0, 1) := by decide +kernel
theorem dX12_covers_66 : decode cX12_covers 66 = .ok (.ireturn, 1) := by decide +kernel
theorem dX12_covers_67 : decode cX12_covers 67 = .ok (.iinc 3 1, 3) := by decide +kernel
theorem dX12_covers_70 : decode cX12_covers 70 = .ok (.goto (-66), 3) := by decide +kernel
theorem dX12_covers_73 : decode cX12_covers 73 = .ok (.iconst 1, 1) := by decide +kernel
theorem dX12_covers_74 : decode cX12_covers 74 = .ok (.ireturn, 1) := by decide +kernel
theorem dX12_sharesBy_0 : decode cX12_sharesBy 0 = .ok (.aload_n 0, 1) := by decide +kernel
theorem dX12_sharesBy_1 : decode cX12_sharesBy 1 = .ok (.invokevirtual 214, 3) := by decide +kernel
theorem dX12_sharesBy_4 : decode cX12_sharesBy 4 = .ok (.istore_n 2, 1) := by decide +kernel
theorem dX12_sharesBy_5 : decode cX12_sharesBy 5 = .ok (.iconst 1, 1) := by decide +kernel
theorem dX12_sharesBy_6 : decode cX12_sharesBy 6 = .ok (.istore_n 3, 1) := by decide +kernel
theorem dX12_sharesBy_7 : decode cX12_sharesBy 7 = .ok (.iconst 0, 1) := by decide +kernel
theorem dX12_sharesBy_8 : decode cX12_sharesBy 8 = .ok (.istore 4, 2) := by decide +kernel
theorem dX12_sharesBy_10 : decode cX12_sharesBy 10 = .ok (.iconst 0, 1) := by decide +kernel
theorem dX12_sharesBy_11 : decode cX12_sharesBy 11 = .ok (.istore 5, 2) := by decide +kernel
theorem dX12_sharesBy_13 : decode cX12_sharesBy 13 = .ok (.iload 5, 2) := by decide +kernel
theorem dX12_sharesBy_15 : decode cX12_sharesBy 15 = .ok (.aload_n 0, 1) := by decide +kernel
theorem dX12_sharesBy_16 : decode cX12_sharesBy 16 = .ok (.getfield 52, 3) := by decide +kernel
theorem dX12_sharesBy_19 : decode cX12_sharesBy 19 = .ok (.iconst 0, 1) := by decide +kernel
theorem dX12_sharesBy_20 : decode cX12_sharesBy 20 = .ok (.iaload, 1) := by decide +kernel
theorem dX12_sharesBy_21 : decode cX12_sharesBy 21 = .ok (.if_icmp .ge 15, 3) := by decide +kernel
theorem dX12_sharesBy_24 : decode cX12_sharesBy 24 = .ok (.iload_n 3, 1) := by decide +kernel
theorem dX12_sharesBy_25 : decode cX12_sharesBy 25 = .ok (.iload_n 2, 1) := by decide +kernel
theorem dX12_sharesBy_26 : decode cX12_sharesBy 26 = .ok (.iconst 1, 1) := by decide +kernel
theorem dX12_sharesBy_27 : decode cX12_sharesBy 27 = .ok (.iadd, 1) := by decide +kernel
theorem dX12_sharesBy_28 : decode cX12_sharesBy 28 = .ok (.imul, 1) := by decide +kernel
theorem dX12_sharesBy_29 : decode cX12_sharesBy 29 = .ok (.istore_n 3, 1) := by decide +kernel
theorem dX12_sharesBy_30 : decode cX12_sharesBy 30 = .ok (.iinc 5 1, 3) := by decide +kernel
theorem dX12_sharesBy_33 : decode cX12_sharesBy 33 = .ok (.goto (-20), 3) := by decide +kernel
theorem dX12_sharesBy_36 : decode cX12_sharesBy 36 = .ok (.iconst 0, 1) := by decide +kernel
theorem dX12_sharesBy_37 : decode cX12_sharesBy 37 = .ok (.istore 5, 2) := by decide +kernel
theorem dX12_sharesBy_39 : decode cX12_sharesBy 39 = .ok (.iload 5, 2) := by decide +kernel
theorem dX12_sharesBy_41 : decode cX12_sharesBy 41 = .ok (.iload_n 3, 1) := by decide +kernel
theorem dX12_sharesBy_42 : decode cX12_sharesBy 42 = .ok (.if_icmp .ge 164, 3) := by decide +kernel
theorem dX12_sharesBy_45 : decode cX12_sharesBy 45 = .ok (.iconst 0, 1) := by decide +kernel
theorem dX12_sharesBy_46 : decode cX12_sharesBy 46 = .ok (.istore 6, 2) := by decide +kernel
theorem dX12_sharesBy_48 : decode cX12_sharesBy 48 = .ok (.iload 5, 2) := by decide +kernel
theorem dX12_sharesBy_50 : decode cX12_sharesBy 50 = .ok (.istore 7, 2) := by decide +kernel
theorem dX12_sharesBy_52 : decode cX12_sharesBy 52 = .ok (.iconst 0, 1) := by decide +kernel
theorem dX12_sharesBy_53 : decode cX12_sharesBy 53 = .ok (.istore 8, 2) := by decide +kernel
theorem dX12_sharesBy_55 : decode cX12_sharesBy 55 = .ok (.iconst 0, 1) := by decide +kernel
theorem dX12_sharesBy_56 : decode cX12_sharesBy 56 = .ok (.istore 9, 2) := by decide +kernel
theorem dX12_sharesBy_58 : decode cX12_sharesBy 58 = .ok (.iload 9, 2) := by decide +kernel
theorem dX12_sharesBy_60 : decode cX12_sharesBy 60 = .ok (.aload_n 0, 1) := by decide +kernel
theorem dX12_sharesBy_61 : decode cX12_sharesBy 61 = .ok (.getfield 52, 3) := by decide +kernel
theorem dX12_sharesBy_64 : decode cX12_sharesBy 64 = .ok (.iconst 0, 1) := by decide +kernel
theorem dX12_sharesBy_65 : decode cX12_sharesBy 65 = .ok (.iaload, 1) := by decide +kernel
theorem dX12_sharesBy_66 : decode cX12_sharesBy 66 = .ok (.if_icmp .ge 42, 3) := by decide +kernel
theorem dX12_sharesBy_69 : decode cX12_sharesBy 69 = .ok (.aload_n 0, 1) := by decide +kernel
theorem dX12_sharesBy_70 : decode cX12_sharesBy 70 = .ok (.getfield 69, 3) := by decide +kernel
theorem dX12_sharesBy_73 : decode cX12_sharesBy 73 = .ok (.iload 9, 2) := by decide +kernel
theorem dX12_sharesBy_75 : decode cX12_sharesBy 75 = .ok (.iload 7, 2) := by decide +kernel
theorem dX12_sharesBy_77 : decode cX12_sharesBy 77 = .ok (.iload_n 2, 1) := by decide +kernel
theorem dX12_sharesBy_78 : decode cX12_sharesBy 78 = .ok (.iconst 1, 1) := by decide +kernel
theorem dX12_sharesBy_79 : decode cX12_sharesBy 79 = .ok (.iadd, 1) := by decide +kernel
theorem dX12_sharesBy_80 : decode cX12_sharesBy 80 = .ok (.irem, 1) := by decide +kernel
theorem dX12_sharesBy_81 : decode cX12_sharesBy 81 = .ok (.iastore, 1) := by decide +kernel
theorem dX12_sharesBy_82 : decode cX12_sharesBy 82 = .ok (.iload 6, 2) := by decide +kernel
theorem dX12_sharesBy_84 : decode cX12_sharesBy 84 = .ok (.aload_n 0, 1) := by decide +kernel
theorem dX12_sharesBy_85 : decode cX12_sharesBy 85 = .ok (.getfield 69, 3) := by decide +kernel
theorem dX12_sharesBy_88 : decode cX12_sharesBy 88 = .ok (.iload 9, 2) := by decide +kernel
theorem dX12_sharesBy_90 : decode cX12_sharesBy 90 = .ok (.iaload, 1) := by decide +kernel
theorem dX12_sharesBy_91 : decode cX12_sharesBy 91 = .ok (.iadd, 1) := by decide +kernel
theorem dX12_sharesBy_92 : decode cX12_sharesBy 92 = .ok (.istore 6, 2) := by decide +kernel
theorem dX12_sharesBy_94 : decode cX12_sharesBy 94 = .ok (.iload 7, 2) := by decide +kernel
theorem dX12_sharesBy_96 : decode cX12_sharesBy 96 = .ok (.iload_n 2, 1) := by decide +kernel
theorem dX12_sharesBy_97 : decode cX12_sharesBy 97 = .ok (.iconst 1, 1) := by decide +kernel
theorem dX12_sharesBy_98 : decode cX12_sharesBy 98 = .ok (.iadd, 1) := by decide +kernel
theorem dX12_sharesBy_99 : decode cX12_sharesBy 99 = .ok (.idiv, 1) := by decide +kernel
theorem dX12_sharesBy_100 : decode cX12_sharesBy 100 = .ok (.istore 7, 2) := by decide +kernel
theorem dX12_sharesBy_102 : decode cX12_sharesBy 102 = .ok (.iinc 9 1, 3) := by decide +kernel
theorem dX12_sharesBy_105 : decode cX12_sharesBy 105 = .ok (.goto (-47), 3) := by decide +kernel
theorem dX12_sharesBy_108 : decode cX12_sharesBy 108 = .ok (.iload 6, 2) := by decide +kernel
theorem dX12_sharesBy_110 : decode cX12_sharesBy 110 = .ok (.iload_n 2, 1) := by decide +kernel
theorem dX12_sharesBy_111 : decode cX12_sharesBy 111 = .ok (.if_icmp .le 6, 3) := by decide +kernel
theorem dX12_sharesBy_114 : decode cX12_sharesBy 114 = .ok (.goto 86, 3) := by decide +kernel
theorem dX12_sharesBy_117 : decode cX12_sharesBy 117 = .ok (.iconst 0, 1) := by decide +kernel
theorem dX12_sharesBy_118 : decode cX12_sharesBy 118 = .ok (.istore 9, 2) := by decide +kernel
theorem dX12_sharesBy_120 : decode cX12_sharesBy 120 = .ok (.iload 9, 2) := by decide +kernel
theorem dX12_sharesBy_122 : decode cX12_sharesBy 122 = .ok (.aload_n 0, 1) := by decide +kernel
theorem dX12_sharesBy_123 : decode cX12_sharesBy 123 = .ok (.getfield 49, 3) := by decide +kernel
theorem dX12_sharesBy_126 : decode cX12_sharesBy 126 = .ok (.iconst 0, 1) := by decide +kernel
theorem dX12_sharesBy_127 : decode cX12_sharesBy 127 = .ok (.iaload, 1) := by decide +kernel
theorem dX12_sharesBy_128 : decode cX12_sharesBy 128 = .ok (.if_icmp .ge 37, 3) := by decide +kernel
theorem dX12_sharesBy_131 : decode cX12_sharesBy 131 = .ok (.iload 8, 2) := by decide +kernel
theorem dX12_sharesBy_133 : decode cX12_sharesBy 133 = .ok (.iload 9, 2) := by decide +kernel
theorem dX12_sharesBy_135 : decode cX12_sharesBy 135 = .ok (.aload_n 0, 1) := by decide +kernel
theorem dX12_sharesBy_136 : decode cX12_sharesBy 136 = .ok (.getfield 72, 3) := by decide +kernel
theorem dX12_sharesBy_139 : decode cX12_sharesBy 139 = .ok (.if_icmp .eq 16, 3) := by decide +kernel
theorem dX12_sharesBy_142 : decode cX12_sharesBy 142 = .ok (.aload_n 0, 1) := by decide +kernel
theorem dX12_sharesBy_143 : decode cX12_sharesBy 143 = .ok (.iload 9, 2) := by decide +kernel
theorem dX12_sharesBy_145 : decode cX12_sharesBy 145 = .ok (.invokevirtual 257, 3) := by decide +kernel
theorem dX12_sharesBy_148 : decode cX12_sharesBy 148 = .ok (.ifCond .eq 7, 3) := by decide +kernel
theorem dX12_sharesBy_151 : decode cX12_sharesBy 151 = .ok (.iconst 1, 1) := by decide +kernel
theorem dX12_sharesBy_152 : decode cX12_sharesBy 152 = .ok (.goto 4, 3) := by decide +kernel
theorem dX12_sharesBy_155 : decode cX12_sharesBy 155 = .ok (.iconst 0, 1) := by decide +kernel
theorem dX12_sharesBy_156 : decode cX12_sharesBy 156 = .ok (.iadd, 1) := by decide +kernel
theorem dX12_sharesBy_157 : decode cX12_sharesBy 157 = .ok (.istore 8, 2) := by decide +kernel
theorem dX12_sharesBy_159 : decode cX12_sharesBy 159 = .ok (.iinc 9 1, 3) := by decide +kernel
theorem dX12_sharesBy_162 : decode cX12_sharesBy 162 = .ok (.goto (-42), 3) := by decide +kernel
theorem dX12_sharesBy_165 : decode cX12_sharesBy 165 = .ok (.iload 4, 2) := by decide +kernel
theorem dX12_sharesBy_167 : decode cX12_sharesBy 167 = .ok (.iload_n 1, 1) := by decide +kernel
theorem dX12_sharesBy_168 : decode cX12_sharesBy 168 = .ok (.ifCond .eq 24, 3) := by decide +kernel
theorem dX12_sharesBy_171 : decode cX12_sharesBy 171 = .ok (.iload_n 1, 1) := by decide +kernel
theorem dX12_sharesBy_172 : decode cX12_sharesBy 172 = .ok (.iconst 1, 1) := by decide +kernel
theorem dX12_sharesBy_173 : decode cX12_sharesBy 173 = .ok (.if_icmp .ne 8, 3) := by decide +kernel
theorem dX12_sharesBy_176 : decode cX12_sharesBy 176 = .ok (.iload 8, 2) := by decide +kernel
theorem dX12_sharesBy_178 : decode cX12_sharesBy 178 = .ok (.ifCond .eq 14, 3) := by decide +kernel
theorem dX12_sharesBy_181 : decode cX12_sharesBy 181 = .ok (.iload_n 1, 1) := by decide +kernel
theorem dX12_sharesBy_182 : decode cX12_sharesBy 182 = .ok (.iconst 2, 1) := by decide +kernel
theorem dX12_sharesBy_183 : decode cX12_sharesBy 183 = .ok (.if_icmp .ne 13, 3) := by decide +kernel
theorem dX12_sharesBy_186 : decode cX12_sharesBy 186 = .ok (.iload 8, 2) := by decide +kernel
theorem dX12_sharesBy_188 : decode cX12_sharesBy 188 = .ok (.iconst 1, 1) := by decide +kernel
theorem dX12_sharesBy_189 : decode cX12_sharesBy 189 = .ok (.if_icmp .le 7, 3) := by decide +kernel
theorem dX12_sharesBy_192 : decode cX12_sharesBy 192 = .ok (.iconst 1, 1) := by decide +kernel
theorem dX12_sharesBy_193 : decode cX12_sharesBy 193 = .ok (.goto 4, 3) := by decide +kernel
theorem dX12_sharesBy_196 : decode cX12_sharesBy 196 = .ok (.iconst 0, 1) := by decide +kernel
theorem dX12_sharesBy_197 : decode cX12_sharesBy 197 = .ok (.iadd, 1) := by decide +kernel
theorem dX12_sharesBy_198 : decode cX12_sharesBy 198 = .ok (.istore 4, 2) := by decide +kernel
theorem dX12_sharesBy_200 : decode cX12_sharesBy 200 = .ok (.iinc 5 1, 3) := by decide +kernel
theorem dX12_sharesBy_203 : decode cX12_sharesBy 203 = .ok (.goto (-164), 3) := by decide +kernel
theorem dX12_sharesBy_206 : decode cX12_sharesBy 206 = .ok (.iload 4, 2) := by decide +kernel
theorem dX12_sharesBy_208 : decode cX12_sharesBy 208 = .ok (.ireturn, 1) := by decide +kernel
theorem dX12_shares_0 : decode cX12_shares 0 = .ok (.aload_n 0, 1) := by decide +kernel
theorem dX12_shares_1 : decode cX12_shares 1 = .ok (.iconst 0, 1) := by decide +kernel
theorem dX12_shares_2 : decode cX12_shares 2 = .ok (.putfield 105, 3) := by decide +kernel
theorem dX12_shares_5 : decode cX12_shares 5 = .ok (.aload_n 0, 1) := by decide +kernel
theorem dX12_shares_6 : decode cX12_shares 6 = .ok (.iload_n 1, 1) := by decide +kernel
theorem dX12_shares_7 : decode cX12_shares 7 = .ok (.iconst 0, 1) := by decide +kernel
theorem dX12_shares_8 : decode cX12_shares 8 = .ok (.iconst 2, 1) := by decide +kernel
theorem dX12_shares_9 : decode cX12_shares 9 = .ok (.invokestatic 108, 3) := by decide +kernel
theorem dX12_shares_12 : decode cX12_shares 12 = .ok (.ifCond .ne 7, 3) := by decide +kernel
theorem dX12_shares_15 : decode cX12_shares 15 = .ok (.iconst 1, 1) := by decide +kernel
theorem dX12_shares_16 : decode cX12_shares 16 = .ok (.goto 4, 3) := by decide +kernel
theorem dX12_shares_19 : decode cX12_shares 19 = .ok (.iconst 0, 1) := by decide +kernel
theorem dX12_shares_20 : decode cX12_shares 20 = .ok (.iconst 1, 1) := by decide +kernel
theorem dX12_shares_21 : decode cX12_shares 21 = .ok (.iconst 1, 1) := by decide +kernel
theorem dX12_shares_22 : decode cX12_shares 22 = .ok (.invokevirtual 122, 3) := by decide +kernel
theorem dX12_shares_25 : decode cX12_shares 25 = .ok (.ifCond .eq 5, 3) := by decide +kernel
theorem dX12_shares_28 : decode cX12_shares 28 = .ok (.iconst 0, 1) := by decide +kernel
theorem dX12_shares_29 : decode cX12_shares 29 = .ok (.ireturn, 1) := by decide +kernel
theorem dX12_shares_30 : decode cX12_shares 30 = .ok (.aload_n 0, 1) := by decide +kernel
theorem dX12_shares_31 : decode cX12_shares 31 = .ok (.iload_n 1, 1) := by decide +kernel
theorem dX12_shares_32 : decode cX12_shares 32 = .ok (.invokevirtual 260, 3) := by decide +kernel
theorem dX12_shares_35 : decode cX12_shares 35 = .ok (.ireturn, 1) := by decide +kernel
theorem dX12_sound_0 : decode cX12_sound 0 = .ok (.aload_n 0, 1) := by decide +kernel
theorem dX12_sound_1 : decode cX12_sound 1 = .ok (.iconst 0, 1) := by decide +kernel
theorem dX12_sound_2 : decode cX12_sound 2 = .ok (.putfield 105, 3) := by decide +kernel
theorem dX12_sound_5 : decode cX12_sound 5 = .ok (.aload_n 0, 1) := by decide +kernel
theorem dX12_sound_6 : decode cX12_sound 6 = .ok (.iconst 1, 1) := by decide +kernel
theorem dX12_sound_7 : decode cX12_sound 7 = .ok (.invokevirtual 260, 3) := by decide +kernel
theorem dX12_sound_10 : decode cX12_sound 10 = .ok (.ifCond .ne 15, 3) := by decide +kernel
theorem dX12_sound_13 : decode cX12_sound 13 = .ok (.aload_n 0, 1) := by decide +kernel
theorem dX12_sound_14 : decode cX12_sound 14 = .ok (.iconst 2, 1) := by decide +kernel
theorem dX12_sound_15 : decode cX12_sound 15 = .ok (.invokevirtual 260, 3) := by decide +kernel
theorem dX12_sound_18 : decode cX12_sound 18 = .ok (.ifCond .ne 7, 3) := by decide +kernel
theorem dX12_sound_21 : decode cX12_sound 21 = .ok (.iconst 1, 1) := by decide +kernel
theorem dX12_sound_22 : decode cX12_sound 22 = .ok (.goto 4, 3) := by decide +kernel
theorem dX12_sound_25 : decode cX12_sound 25 = .ok (.iconst 0, 1) := by decide +kernel
theorem dX12_sound_26 : decode cX12_sound 26 = .ok (.ireturn, 1) := by decide +kernel
theorem dX12_needless_0 : decode cX12_needless 0 = .ok (.aload_n 0, 1) := by decide +kernel
theorem dX12_needless_1 : decode cX12_needless 1 = .ok (.iconst 0, 1) := by decide +kernel
theorem dX12_needless_2 : decode cX12_needless 2 = .ok (.putfield 105, 3) := by decide +kernel
theorem dX12_needless_5 : decode cX12_needless 5 = .ok (.iconst 0, 1) := by decide +kernel
theorem dX12_needless_6 : decode cX12_needless 6 = .ok (.istore_n 1, 1) := by decide +kernel
theorem dX12_needless_7 : decode cX12_needless 7 = .ok (.aload_n 0, 1) := by decide +kernel
theorem dX12_needless_8 : decode cX12_needless 8 = .ok (.iconst 1, 1) := by decide +kernel
theorem dX12_needless_9 : decode cX12_needless 9 = .ok (.invokevirtual 260, 3) := by decide +kernel
theorem dX12_needless_12 : decode cX12_needless 12 = .ok (.istore_n 2, 1) := by decide +kernel
theorem dX12_needless_13 : decode cX12_needless 13 = .ok (.iconst 0, 1) := by decide +kernel
theorem dX12_needless_14 : decode cX12_needless 14 = .ok (.istore_n 3, 1) := by decide +kernel
theorem dX12_needless_15 : decode cX12_needless 15 = .ok (.iload_n 3, 1) := by decide +kernel
theorem dX12_needless_16 : decode cX12_needless 16 = .ok (.aload_n 0, 1) := by decide +kernel
theorem dX12_needless_17 : decode cX12_needless 17 = .ok (.getfield 49, 3) := by decide +kernel
theorem dX12_needless_20 : decode cX12_needless 20 = .ok (.iconst 0, 1) := by decide +kernel
theorem dX12_needless_21 : decode cX12_needless 21 = .ok (.iaload, 1) := by decide +kernel
theorem dX12_needless_22 : decode cX12_needless 22 = .ok (.if_icmp .ge 33, 3) := by decide +kernel
theorem dX12_needless_25 : decode cX12_needless 25 = .ok (.aload_n 0, 1) := by decide +kernel
theorem dX12_needless_26 : decode cX12_needless 26 = .ok (.iload_n 3, 1) := by decide +kernel
theorem dX12_needless_27 : decode cX12_needless 27 = .ok (.putfield 72, 3) := by decide +kernel
theorem dX12_needless_30 : decode cX12_needless 30 = .ok (.iload_n 1, 1) := by decide +kernel
theorem dX12_needless_31 : decode cX12_needless 31 = .ok (.aload_n 0, 1) := by decide +kernel
theorem dX12_needless_32 : decode cX12_needless 32 = .ok (.iconst 1, 1) := by decide +kernel
theorem dX12_needless_33 : decode cX12_needless 33 = .ok (.invokevirtual 260, 3) := by decide +kernel
theorem dX12_needless_36 : decode cX12_needless 36 = .ok (.iload_n 2, 1) := by decide +kernel
theorem dX12_needless_37 : decode cX12_needless 37 = .ok (.if_icmp .ne 9, 3) := by decide +kernel
theorem dX12_needless_40 : decode cX12_needless 40 = .ok (.iconst 1, 1) := by decide +kernel
theorem dX12_needless_41 : decode cX12_needless 41 = .ok (.iload_n 3, 1) := by decide +kernel
theorem dX12_needless_42 : decode cX12_needless 42 = .ok (.ishl, 1) := by decide +kernel
theorem dX12_needless_43 : decode cX12_needless 43 = .ok (.goto 4, 3) := by decide +kernel
theorem dX12_needless_46 : decode cX12_needless 46 = .ok (.iconst 0, 1) := by decide +kernel
theorem dX12_needless_47 : decode cX12_needless 47 = .ok (.ior, 1) := by decide +kernel
theorem dX12_needless_48 : decode cX12_needless 48 = .ok (.istore_n 1, 1) := by decide +kernel
theorem dX12_needless_49 : decode cX12_needless 49 = .ok (.iinc 3 1, 3) := by decide +kernel
theorem dX12_needless_52 : decode cX12_needless 52 = .ok (.goto (-37), 3) := by decide +kernel
theorem dX12_needless_55 : decode cX12_needless 55 = .ok (.aload_n 0, 1) := by decide +kernel
theorem dX12_needless_56 : decode cX12_needless 56 = .ok (.iconst (-1), 1) := by decide +kernel
theorem dX12_needless_57 : decode cX12_needless 57 = .ok (.putfield 72, 3) := by decide +kernel
theorem dX12_needless_60 : decode cX12_needless 60 = .ok (.iload_n 1, 1) := by decide +kernel
theorem dX12_needless_61 : decode cX12_needless 61 = .ok (.ireturn, 1) := by decide +kernel
theorem dX12_digit_0 : decode cX12_digit 0 = .ok (.aload_n 0, 1) := by decide +kernel
theorem dX12_digit_1 : decode cX12_digit 1 = .ok (.iconst 0, 1) := by decide +kernel
theorem dX12_digit_2 : decode cX12_digit 2 = .ok (.putfield 105, 3) := by decide +kernel
theorem dX12_digit_5 : decode cX12_digit 5 = .ok (.aload_n 0, 1) := by decide +kernel
theorem dX12_digit_6 : decode cX12_digit 6 = .ok (.iload_n 1, 1) := by decide +kernel
theorem dX12_digit_7 : decode cX12_digit 7 = .ok (.iconst 0, 1) := by decide +kernel
theorem dX12_digit_8 : decode cX12_digit 8 = .ok (.aload_n 0, 1) := by decide +kernel
theorem dX12_digit_9 : decode cX12_digit 9 = .ok (.getfield 49, 3) := by decide +kernel
theorem dX12_digit_12 : decode cX12_digit 12 = .ok (.iconst 0, 1) := by decide +kernel
theorem dX12_digit_13 : decode cX12_digit 13 = .ok (.iaload, 1) := by decide +kernel
theorem dX12_digit_14 : decode cX12_digit 14 = .ok (.iconst 1, 1) := by decide +kernel
theorem dX12_digit_15 : decode cX12_digit 15 = .ok (.isub, 1) := by decide +kernel
theorem dX12_digit_16 : decode cX12_digit 16 = .ok (.invokestatic 108, 3) := by decide +kernel
theorem dX12_digit_19 : decode cX12_digit 19 = .ok (.ifCond .eq 19, 3) := by decide +kernel
theorem dX12_digit_22 : decode cX12_digit 22 = .ok (.iload_n 2, 1) := by decide +kernel
theorem dX12_digit_23 : decode cX12_digit 23 = .ok (.iconst 0, 1) := by decide +kernel
theorem dX12_digit_24 : decode cX12_digit 24 = .ok (.aload_n 0, 1) := by decide +kernel
theorem dX12_digit_25 : decode cX12_digit 25 = .ok (.getfield 52, 3) := by decide +kernel
theorem dX12_digit_28 : decode cX12_digit 28 = .ok (.iconst 0, 1) := by decide +kernel
theorem dX12_digit_29 : decode cX12_digit 29 = .ok (.iaload, 1) := by decide +kernel
theorem dX12_digit_30 : decode cX12_digit 30 = .ok (.iconst 1, 1) := by decide +kernel
theorem dX12_digit_31 : decode cX12_digit 31 = .ok (.isub, 1) := by decide +kernel
theorem dX12_digit_32 : decode cX12_digit 32 = .ok (.invokestatic 108, 3) := by decide +kernel
theorem dX12_digit_35 : decode cX12_digit 35 = .ok (.ifCond .ne 7, 3) := by decide +kernel
theorem dX12_digit_38 : decode cX12_digit 38 = .ok (.iconst 1, 1) := by decide +kernel
theorem dX12_digit_39 : decode cX12_digit 39 = .ok (.goto 4, 3) := by decide +kernel
theorem dX12_digit_42 : decode cX12_digit 42 = .ok (.iconst 0, 1) := by decide +kernel
theorem dX12_digit_43 : decode cX12_digit 43 = .ok (.iconst 1, 1) := by decide +kernel
theorem dX12_digit_44 : decode cX12_digit 44 = .ok (.iconst 0, 1) := by decide +kernel
theorem dX12_digit_45 : decode cX12_digit 45 = .ok (.invokevirtual 122, 3) := by decide +kernel
theorem dX12_digit_48 : decode cX12_digit 48 = .ok (.ifCond .ne 26, 3) := by decide +kernel
theorem dX12_digit_51 : decode cX12_digit 51 = .ok (.aload_n 0, 1) := by decide +kernel
theorem dX12_digit_52 : decode cX12_digit 52 = .ok (.iload_n 3, 1) := by decide +kernel
theorem dX12_digit_53 : decode cX12_digit 53 = .ok (.iconst 0, 1) := by decide +kernel
theorem dX12_digit_54 : decode cX12_digit 54 = .ok (.iconst 2, 1) := by decide +kernel
theorem dX12_digit_55 : decode cX12_digit 55 = .ok (.invokestatic 108, 3) := by decide +kernel
theorem dX12_digit_58 : decode cX12_digit 58 = .ok (.ifCond .ne 7, 3) := by decide +kernel
theorem dX12_digit_61 : decode cX12_digit 61 = .ok (.iconst 1, 1) := by decide +kernel
theorem dX12_digit_62 : decode cX12_digit 62 = .ok (.goto 4, 3) := by decide +kernel
theorem dX12_digit_65 : decode cX12_digit 65 = .ok (.iconst 0, 1) := by decide +kernel
theorem dX12_digit_66 : decode cX12_digit 66 = .ok (.iconst 2, 1) := by decide +kernel
theorem dX12_digit_67 : decode cX12_digit 67 = .ok (.iconst 1, 1) := by decide +kernel
theorem dX12_digit_68 : decode cX12_digit 68 = .ok (.invokevirtual 122, 3) := by decide +kernel
theorem dX12_digit_71 : decode cX12_digit 71 = .ok (.ifCond .eq 5, 3) := by decide +kernel
theorem dX12_digit_74 : decode cX12_digit 74 = .ok (.iconst 0, 1) := by decide +kernel
theorem dX12_digit_75 : decode cX12_digit 75 = .ok (.ireturn, 1) := by decide +kernel
theorem dX12_digit_76 : decode cX12_digit 76 = .ok (.aload_n 0, 1) := by decide +kernel
theorem dX12_digit_77 : decode cX12_digit 77 = .ok (.getfield 57, 3) := by decide +kernel
theorem dX12_digit_80 : decode cX12_digit 80 = .ok (.iconst 0, 1) := by decide +kernel
theorem dX12_digit_81 : decode cX12_digit 81 = .ok (.aaload, 1) := by decide +kernel
theorem dX12_digit_82 : decode cX12_digit 82 = .ok (.iload_n 1, 1) := by decide +kernel
theorem dX12_digit_83 : decode cX12_digit 83 = .ok (.aaload, 1) := by decide +kernel
theorem dX12_digit_84 : decode cX12_digit 84 = .ok (.iload_n 3, 1) := by decide +kernel
theorem dX12_digit_85 : decode cX12_digit 85 = .ok (.aaload, 1) := by decide +kernel
theorem dX12_digit_86 : decode cX12_digit 86 = .ok (.iload_n 2, 1) := by decide +kernel
theorem dX12_digit_87 : decode cX12_digit 87 = .ok (.iaload, 1) := by decide +kernel
theorem dX12_digit_88 : decode cX12_digit 88 = .ok (.ireturn, 1) := by decide +kernel
theorem dX12_laysTurns_0 : decode cX12_laysTurns 0 = .ok (.iconst 0, 1) := by decide +kernel
theorem dX12_laysTurns_1 : decode cX12_laysTurns 1 = .ok (.istore_n 2, 1) := by decide +kernel
theorem dX12_laysTurns_2 : decode cX12_laysTurns 2 = .ok (.aload_n 0, 1) := by decide +kernel
theorem dX12_laysTurns_3 : decode cX12_laysTurns 3 = .ok (.getfield 263, 3) := by decide +kernel
theorem dX12_laysTurns_6 : decode cX12_laysTurns 6 = .ok (.istore_n 3, 1) := by decide +kernel
theorem dX12_laysTurns_7 : decode cX12_laysTurns 7 = .ok (.aload_n 0, 1) := by decide +kernel
theorem dX12_laysTurns_8 : decode cX12_laysTurns 8 = .ok (.getfield 52, 3) := by decide +kernel
theorem dX12_laysTurns_11 : decode cX12_laysTurns 11 = .ok (.iconst 0, 1) := by decide +kernel
theorem dX12_laysTurns_12 : decode cX12_laysTurns 12 = .ok (.iaload, 1) := by decide +kernel
theorem dX12_laysTurns_13 : decode cX12_laysTurns 13 = .ok (.istore 4, 2) := by decide +kernel
theorem dX12_laysTurns_15 : decode cX12_laysTurns 15 = .ok (.iconst (-1), 1) := by decide +kernel
theorem dX12_laysTurns_16 : decode cX12_laysTurns 16 = .ok (.istore 5, 2) := by decide +kernel
theorem dX12_laysTurns_18 : decode cX12_laysTurns 18 = .ok (.iconst 0, 1) := by decide +kernel
theorem dX12_laysTurns_19 : decode cX12_laysTurns 19 = .ok (.istore 6, 2) := by decide +kernel
theorem dX12_laysTurns_21 : decode cX12_laysTurns 21 = .ok (.iload 6, 2) := by decide +kernel
theorem dX12_laysTurns_23 : decode cX12_laysTurns 23 = .ok (.iload 4, 2) := by decide +kernel
theorem dX12_laysTurns_25 : decode cX12_laysTurns 25 = .ok (.if_icmp .ge 177, 3) := by decide +kernel
theorem dX12_laysTurns_28 : decode cX12_laysTurns 28 = .ok (.aload_n 0, 1) := by decide +kernel
theorem dX12_laysTurns_29 : decode cX12_laysTurns 29 = .ok (.getfield 57, 3) := by decide +kernel
theorem dX12_laysTurns_32 : decode cX12_laysTurns 32 = .ok (.iconst 0, 1) := by decide +kernel
theorem dX12_laysTurns_33 : decode cX12_laysTurns 33 = .ok (.aaload, 1) := by decide +kernel
theorem dX12_laysTurns_34 : decode cX12_laysTurns 34 = .ok (.iload_n 1, 1) := by decide +kernel
theorem dX12_laysTurns_35 : decode cX12_laysTurns 35 = .ok (.aaload, 1) := by decide +kernel
theorem dX12_laysTurns_36 : decode cX12_laysTurns 36 = .ok (.iconst 0, 1) := by decide +kernel
theorem dX12_laysTurns_37 : decode cX12_laysTurns 37 = .ok (.aaload, 1) := by decide +kernel
theorem dX12_laysTurns_38 : decode cX12_laysTurns 38 = .ok (.iload 6, 2) := by decide +kernel
theorem dX12_laysTurns_40 : decode cX12_laysTurns 40 = .ok (.iaload, 1) := by decide +kernel
theorem dX12_laysTurns_41 : decode cX12_laysTurns 41 = .ok (.istore 7, 2) := by decide +kernel
theorem dX12_laysTurns_43 : decode cX12_laysTurns 43 = .ok (.iload 7, 2) := by decide +kernel
theorem dX12_laysTurns_45 : decode cX12_laysTurns 45 = .ok (.iload_n 3, 1) := by decide +kernel
theorem dX12_laysTurns_46 : decode cX12_laysTurns 46 = .ok (.imul, 1) := by decide +kernel
theorem dX12_laysTurns_47 : decode cX12_laysTurns 47 = .ok (.iload 4, 2) := by decide +kernel
theorem dX12_laysTurns_49 : decode cX12_laysTurns 49 = .ok (.idiv, 1) := by decide +kernel
theorem dX12_laysTurns_50 : decode cX12_laysTurns 50 = .ok (.istore 8, 2) := by decide +kernel
theorem dX12_laysTurns_52 : decode cX12_laysTurns 52 = .ok (.iload 7, 2) := by decide +kernel
theorem dX12_laysTurns_54 : decode cX12_laysTurns 54 = .ok (.iconst 1, 1) := by decide +kernel
theorem dX12_laysTurns_55 : decode cX12_laysTurns 55 = .ok (.iadd, 1) := by decide +kernel
theorem dX12_laysTurns_56 : decode cX12_laysTurns 56 = .ok (.iload_n 3, 1) := by decide +kernel
theorem dX12_laysTurns_57 : decode cX12_laysTurns 57 = .ok (.imul, 1) := by decide +kernel
theorem dX12_laysTurns_58 : decode cX12_laysTurns 58 = .ok (.iload 4, 2) := by decide +kernel
theorem dX12_laysTurns_60 : decode cX12_laysTurns 60 = .ok (.idiv, 1) := by decide +kernel
theorem dX12_laysTurns_61 : decode cX12_laysTurns 61 = .ok (.istore 9, 2) := by decide +kernel
theorem dX12_laysTurns_63 : decode cX12_laysTurns 63 = .ok (.iload 6, 2) := by decide +kernel
theorem dX12_laysTurns_65 : decode cX12_laysTurns 65 = .ok (.ifCond .le 14, 3) := by decide +kernel
theorem dX12_laysTurns_68 : decode cX12_laysTurns 68 = .ok (.iload 7, 2) := by decide +kernel
theorem dX12_laysTurns_70 : decode cX12_laysTurns 70 = .ok (.iload 5, 2) := by decide +kernel
theorem dX12_laysTurns_72 : decode cX12_laysTurns 72 = .ok (.if_icmp .ge 7, 3) := by decide +kernel
theorem dX12_laysTurns_75 : decode cX12_laysTurns 75 = .ok (.iconst 1, 1) := by decide +kernel
theorem dX12_laysTurns_76 : decode cX12_laysTurns 76 = .ok (.goto 4, 3) := by decide +kernel
theorem dX12_laysTurns_79 : decode cX12_laysTurns 79 = .ok (.iconst 0, 1) := by decide +kernel
theorem dX12_laysTurns_80 : decode cX12_laysTurns 80 = .ok (.istore 10, 2) := by decide +kernel
theorem dX12_laysTurns_82 : decode cX12_laysTurns 82 = .ok (.iconst 0, 1) := by decide +kernel
theorem dX12_laysTurns_83 : decode cX12_laysTurns 83 = .ok (.istore 11, 2) := by decide +kernel
theorem dX12_laysTurns_85 : decode cX12_laysTurns 85 = .ok (.iload 11, 2) := by decide +kernel
theorem dX12_laysTurns_87 : decode cX12_laysTurns 87 = .ok (.iload 9, 2) := by decide +kernel
theorem dX12_laysTurns_89 : decode cX12_laysTurns 89 = .ok (.iload 8, 2) := by decide +kernel
theorem dX12_laysTurns_91 : decode cX12_laysTurns 91 = .ok (.isub, 1) := by decide +kernel
theorem dX12_laysTurns_92 : decode cX12_laysTurns 92 = .ok (.if_icmp .ge 85, 3) := by decide +kernel
theorem dX12_laysTurns_95 : decode cX12_laysTurns 95 = .ok (.aload_n 0, 1) := by decide +kernel
theorem dX12_laysTurns_96 : decode cX12_laysTurns 96 = .ok (.getfield 75, 3) := by decide +kernel
theorem dX12_laysTurns_99 : decode cX12_laysTurns 99 = .ok (.iload_n 2, 1) := by decide +kernel
theorem dX12_laysTurns_100 : decode cX12_laysTurns 100 = .ok (.iload 10, 2) := by decide +kernel
theorem dX12_laysTurns_102 : decode cX12_laysTurns 102 = .ok (.ifCond .eq 13, 3) := by decide +kernel
theorem dX12_laysTurns_105 : decode cX12_laysTurns 105 = .ok (.iload 9, 2) := by decide +kernel
theorem dX12_laysTurns_107 : decode cX12_laysTurns 107 = .ok (.iconst 1, 1) := by decide +kernel
theorem dX12_laysTurns_108 : decode cX12_laysTurns 108 = .ok (.isub, 1) := by decide +kernel
theorem dX12_laysTurns_109 : decode cX12_laysTurns 109 = .ok (.iload 11, 2) := by decide +kernel
theorem dX12_laysTurns_111 : decode cX12_laysTurns 111 = .ok (.isub, 1) := by decide +kernel
theorem dX12_laysTurns_112 : decode cX12_laysTurns 112 = .ok (.goto 8, 3) := by decide +kernel
theorem dX12_laysTurns_115 : decode cX12_laysTurns 115 = .ok (.iload 8, 2) := by decide +kernel
theorem dX12_laysTurns_117 : decode cX12_laysTurns 117 = .ok (.iload 11, 2) := by decide +kernel
theorem dX12_laysTurns_119 : decode cX12_laysTurns 119 = .ok (.iadd, 1) := by decide +kernel
theorem dX12_laysTurns_120 : decode cX12_laysTurns 120 = .ok (.iastore, 1) := by decide +kernel
theorem dX12_laysTurns_121 : decode cX12_laysTurns 121 = .ok (.aload_n 0, 1) := by decide +kernel
theorem dX12_laysTurns_122 : decode cX12_laysTurns 122 = .ok (.getfield 78, 3) := by decide +kernel
theorem dX12_laysTurns_125 : decode cX12_laysTurns 125 = .ok (.iload_n 2, 1) := by decide +kernel
theorem dX12_laysTurns_126 : decode cX12_laysTurns 126 = .ok (.iload 10, 2) := by decide +kernel
theorem dX12_laysTurns_128 : decode cX12_laysTurns 128 = .ok (.ifCond .eq 7, 3) := by decide +kernel
theorem dX12_laysTurns_131 : decode cX12_laysTurns 131 = .ok (.iconst 0, 1) := by decide +kernel
theorem dX12_laysTurns_132 : decode cX12_laysTurns 132 = .ok (.goto 4, 3) := by decide +kernel
theorem dX12_laysTurns_135 : decode cX12_laysTurns 135 = .ok (.iconst 1, 1) := by decide +kernel
theorem dX12_laysTurns_136 : decode cX12_laysTurns 136 = .ok (.iastore, 1) := by decide +kernel
theorem dX12_laysTurns_137 : decode cX12_laysTurns 137 = .ok (.aload_n 0, 1) := by decide +kernel
theorem dX12_laysTurns_138 : decode cX12_laysTurns 138 = .ok (.getfield 81, 3) := by decide +kernel
theorem dX12_laysTurns_141 : decode cX12_laysTurns 141 = .ok (.iload_n 2, 1) := by decide +kernel
theorem dX12_laysTurns_142 : decode cX12_laysTurns 142 = .ok (.iload 6, 2) := by decide +kernel
theorem dX12_laysTurns_144 : decode cX12_laysTurns 144 = .ok (.iastore, 1) := by decide +kernel
theorem dX12_laysTurns_145 : decode cX12_laysTurns 145 = .ok (.aload_n 0, 1) := by decide +kernel
theorem dX12_laysTurns_146 : decode cX12_laysTurns 146 = .ok (.getfield 84, 3) := by decide +kernel
theorem dX12_laysTurns_149 : decode cX12_laysTurns 149 = .ok (.iload_n 2, 1) := by decide +kernel
theorem dX12_laysTurns_150 : decode cX12_laysTurns 150 = .ok (.iload 11, 2) := by decide +kernel
theorem dX12_laysTurns_152 : decode cX12_laysTurns 152 = .ok (.iload 9, 2) := by decide +kernel
theorem dX12_laysTurns_154 : decode cX12_laysTurns 154 = .ok (.iload 8, 2) := by decide +kernel
theorem dX12_laysTurns_156 : decode cX12_laysTurns 156 = .ok (.isub, 1) := by decide +kernel
theorem dX12_laysTurns_157 : decode cX12_laysTurns 157 = .ok (.iconst 1, 1) := by decide +kernel
theorem dX12_laysTurns_158 : decode cX12_laysTurns 158 = .ok (.isub, 1) := by decide +kernel
theorem dX12_laysTurns_159 : decode cX12_laysTurns 159 = .ok (.if_icmp .ne 7, 3) := by decide +kernel
theorem dX12_laysTurns_162 : decode cX12_laysTurns 162 = .ok (.iconst 1, 1) := by decide +kernel
theorem dX12_laysTurns_163 : decode cX12_laysTurns 163 = .ok (.goto 4, 3) := by decide +kernel
theorem dX12_laysTurns_166 : decode cX12_laysTurns 166 = .ok (.iconst 0, 1) := by decide +kernel
theorem dX12_laysTurns_167 : decode cX12_laysTurns 167 = .ok (.iastore, 1) := by decide +kernel
theorem dX12_laysTurns_168 : decode cX12_laysTurns 168 = .ok (.iinc 2 1, 3) := by decide +kernel
theorem dX12_laysTurns_171 : decode cX12_laysTurns 171 = .ok (.iinc 11 1, 3) := by decide +kernel
theorem dX12_laysTurns_174 : decode cX12_laysTurns 174 = .ok (.goto (-89), 3) := by decide +kernel
theorem dX12_laysTurns_177 : decode cX12_laysTurns 177 = .ok (.iload 6, 2) := by decide +kernel
theorem dX12_laysTurns_179 : decode cX12_laysTurns 179 = .ok (.ifCond .eq 8, 3) := by decide +kernel
theorem dX12_laysTurns_182 : decode cX12_laysTurns 182 = .ok (.iload 10, 2) := by decide +kernel
theorem dX12_laysTurns_184 : decode cX12_laysTurns 184 = .ok (.ifCond .eq 8, 3) := by decide +kernel
theorem dX12_laysTurns_187 : decode cX12_laysTurns 187 = .ok (.iload 7, 2) := by decide +kernel
theorem dX12_laysTurns_189 : decode cX12_laysTurns 189 = .ok (.goto 5, 3) := by decide +kernel
theorem dX12_laysTurns_192 : decode cX12_laysTurns 192 = .ok (.iload 5, 2) := by decide +kernel
theorem dX12_laysTurns_194 : decode cX12_laysTurns 194 = .ok (.istore 5, 2) := by decide +kernel
theorem dX12_laysTurns_196 : decode cX12_laysTurns 196 = .ok (.iinc 6 1, 3) := by decide +kernel
theorem dX12_laysTurns_199 : decode cX12_laysTurns 199 = .ok (.goto (-178), 3) := by decide +kernel
theorem dX12_laysTurns_202 : decode cX12_laysTurns 202 = .ok (.return_, 1) := by decide +kernel
theorem dX12_narrows_0 : decode cX12_narrows 0 = .ok (.iconst 0, 1) := by decide +kernel
theorem dX12_narrows_1 : decode cX12_narrows 1 = .ok (.istore 4, 2) := by decide +kernel
theorem dX12_narrows_3 : decode cX12_narrows 3 = .ok (.iconst 0, 1) := by decide +kernel
theorem dX12_narrows_4 : decode cX12_narrows 4 = .ok (.istore 5, 2) := by decide +kernel
theorem dX12_narrows_6 : decode cX12_narrows 6 = .ok (.iload 5, 2) := by decide +kernel
theorem dX12_narrows_8 : decode cX12_narrows 8 = .ok (.iload_n 2, 1) := by decide +kernel
theorem dX12_narrows_9 : decode cX12_narrows 9 = .ok (.if_icmp .ge 106, 3) := by decide +kernel
theorem dX12_narrows_12 : decode cX12_narrows 12 = .ok (.aload_n 0, 1) := by decide +kernel
theorem dX12_narrows_13 : decode cX12_narrows 13 = .ok (.getfield 87, 3) := by decide +kernel
theorem dX12_narrows_16 : decode cX12_narrows 16 = .ok (.iload_n 1, 1) := by decide +kernel
theorem dX12_narrows_17 : decode cX12_narrows 17 = .ok (.aaload, 1) := by decide +kernel
theorem dX12_narrows_18 : decode cX12_narrows 18 = .ok (.iload 5, 2) := by decide +kernel
theorem dX12_narrows_20 : decode cX12_narrows 20 = .ok (.iaload, 1) := by decide +kernel
theorem dX12_narrows_21 : decode cX12_narrows 21 = .ok (.istore 6, 2) := by decide +kernel
theorem dX12_narrows_23 : decode cX12_narrows 23 = .ok (.aload_n 0, 1) := by decide +kernel
theorem dX12_narrows_24 : decode cX12_narrows 24 = .ok (.getfield 78, 3) := by decide +kernel
theorem dX12_narrows_27 : decode cX12_narrows 27 = .ok (.iload_n 1, 1) := by decide +kernel
theorem dX12_narrows_28 : decode cX12_narrows 28 = .ok (.iaload, 1) := by decide +kernel
theorem dX12_narrows_29 : decode cX12_narrows 29 = .ok (.ifCond .ne 10, 3) := by decide +kernel
theorem dX12_narrows_32 : decode cX12_narrows 32 = .ok (.iload 6, 2) := by decide +kernel
theorem dX12_narrows_34 : decode cX12_narrows 34 = .ok (.iconst 1, 1) := by decide +kernel
theorem dX12_narrows_35 : decode cX12_narrows 35 = .ok (.isub, 1) := by decide +kernel
theorem dX12_narrows_36 : decode cX12_narrows 36 = .ok (.goto 5, 3) := by decide +kernel
theorem dX12_narrows_39 : decode cX12_narrows 39 = .ok (.iload 6, 2) := by decide +kernel
theorem dX12_narrows_41 : decode cX12_narrows 41 = .ok (.istore 7, 2) := by decide +kernel
theorem dX12_narrows_43 : decode cX12_narrows 43 = .ok (.aload_n 0, 1) := by decide +kernel
theorem dX12_narrows_44 : decode cX12_narrows 44 = .ok (.getfield 78, 3) := by decide +kernel
theorem dX12_narrows_47 : decode cX12_narrows 47 = .ok (.iload_n 1, 1) := by decide +kernel
theorem dX12_narrows_48 : decode cX12_narrows 48 = .ok (.iaload, 1) := by decide +kernel
theorem dX12_narrows_49 : decode cX12_narrows 49 = .ok (.ifCond .ne 8, 3) := by decide +kernel
theorem dX12_narrows_52 : decode cX12_narrows 52 = .ok (.iload 7, 2) := by decide +kernel
theorem dX12_narrows_54 : decode cX12_narrows 54 = .ok (.goto 7, 3) := by decide +kernel
theorem dX12_narrows_57 : decode cX12_narrows 57 = .ok (.iload 6, 2) := by decide +kernel
theorem dX12_narrows_59 : decode cX12_narrows 59 = .ok (.iload_n 1, 1) := by decide +kernel
theorem dX12_narrows_60 : decode cX12_narrows 60 = .ok (.iadd, 1) := by decide +kernel
theorem dX12_narrows_61 : decode cX12_narrows 61 = .ok (.istore 8, 2) := by decide +kernel
theorem dX12_narrows_63 : decode cX12_narrows 63 = .ok (.iload 8, 2) := by decide +kernel
theorem dX12_narrows_65 : decode cX12_narrows 65 = .ok (.ifCond .lt 44, 3) := by decide +kernel
theorem dX12_narrows_68 : decode cX12_narrows 68 = .ok (.iload 8, 2) := by decide +kernel
theorem dX12_narrows_70 : decode cX12_narrows 70 = .ok (.aload_n 0, 1) := by decide +kernel
theorem dX12_narrows_71 : decode cX12_narrows 71 = .ok (.getfield 20, 3) := by decide +kernel
theorem dX12_narrows_74 : decode cX12_narrows 74 = .ok (.if_icmp .ge 35, 3) := by decide +kernel
theorem dX12_narrows_77 : decode cX12_narrows 77 = .ok (.aload_n 0, 1) := by decide +kernel
theorem dX12_narrows_78 : decode cX12_narrows 78 = .ok (.getfield 28, 3) := by decide +kernel
theorem dX12_narrows_81 : decode cX12_narrows 81 = .ok (.iconst 0, 1) := by decide +kernel
theorem dX12_narrows_82 : decode cX12_narrows 82 = .ok (.aaload, 1) := by decide +kernel
theorem dX12_narrows_83 : decode cX12_narrows 83 = .ok (.iload 8, 2) := by decide +kernel
theorem dX12_narrows_85 : decode cX12_narrows 85 = .ok (.iaload, 1) := by decide +kernel
theorem dX12_narrows_86 : decode cX12_narrows 86 = .ok (.iload_n 3, 1) := by decide +kernel
theorem dX12_narrows_87 : decode cX12_narrows 87 = .ok (.if_icmp .eq 6, 3) := by decide +kernel
theorem dX12_narrows_90 : decode cX12_narrows 90 = .ok (.goto 19, 3) := by decide +kernel
theorem dX12_narrows_93 : decode cX12_narrows 93 = .ok (.aload_n 0, 1) := by decide +kernel
theorem dX12_narrows_94 : decode cX12_narrows 94 = .ok (.getfield 87, 3) := by decide +kernel
theorem dX12_narrows_97 : decode cX12_narrows 97 = .ok (.iload_n 1, 1) := by decide +kernel
theorem dX12_narrows_98 : decode cX12_narrows 98 = .ok (.iconst 1, 1) := by decide +kernel
theorem dX12_narrows_99 : decode cX12_narrows 99 = .ok (.iadd, 1) := by decide +kernel
theorem dX12_narrows_100 : decode cX12_narrows 100 = .ok (.aaload, 1) := by decide +kernel
theorem dX12_narrows_101 : decode cX12_narrows 101 = .ok (.iload 4, 2) := by decide +kernel
theorem dX12_narrows_103 : decode cX12_narrows 103 = .ok (.iload 7, 2) := by decide +kernel
theorem dX12_narrows_105 : decode cX12_narrows 105 = .ok (.iastore, 1) := by decide +kernel
theorem dX12_narrows_106 : decode cX12_narrows 106 = .ok (.iinc 4 1, 3) := by decide +kernel
theorem dX12_narrows_109 : decode cX12_narrows 109 = .ok (.iinc 5 1, 3) := by decide +kernel
theorem dX12_narrows_112 : decode cX12_narrows 112 = .ok (.goto (-106), 3) := by decide +kernel
theorem dX12_narrows_115 : decode cX12_narrows 115 = .ok (.iload 4, 2) := by decide +kernel
theorem dX12_narrows_117 : decode cX12_narrows 117 = .ok (.ireturn, 1) := by decide +kernel
theorem dX12_goes_0 : decode cX12_goes 0 = .ok (.iload_n 2, 1) := by decide +kernel
theorem dX12_goes_1 : decode cX12_goes 1 = .ok (.aload_n 0, 1) := by decide +kernel
theorem dX12_goes_2 : decode cX12_goes 2 = .ok (.getfield 263, 3) := by decide +kernel
theorem dX12_goes_5 : decode cX12_goes 5 = .ok (.if_icmp .ne 95, 3) := by decide +kernel
theorem dX12_goes_8 : decode cX12_goes 8 = .ok (.iconst 0, 1) := by decide +kernel
theorem dX12_goes_9 : decode cX12_goes 9 = .ok (.istore 5, 2) := by decide +kernel
theorem dX12_goes_11 : decode cX12_goes 11 = .ok (.iload 5, 2) := by decide +kernel
theorem dX12_goes_13 : decode cX12_goes 13 = .ok (.iload_n 3, 1) := by decide +kernel
theorem dX12_goes_14 : decode cX12_goes 14 = .ok (.if_icmp .ge 85, 3) := by decide +kernel
theorem dX12_goes_17 : decode cX12_goes 17 = .ok (.aload_n 0, 1) := by decide +kernel
theorem dX12_goes_18 : decode cX12_goes 18 = .ok (.getfield 87, 3) := by decide +kernel
theorem dX12_goes_21 : decode cX12_goes 21 = .ok (.iload_n 2, 1) := by decide +kernel
theorem dX12_goes_22 : decode cX12_goes 22 = .ok (.aaload, 1) := by decide +kernel
theorem dX12_goes_23 : decode cX12_goes 23 = .ok (.iload 5, 2) := by decide +kernel
theorem dX12_goes_25 : decode cX12_goes 25 = .ok (.iaload, 1) := by decide +kernel
theorem dX12_goes_26 : decode cX12_goes 26 = .ok (.istore 6, 2) := by decide +kernel
theorem dX12_goes_28 : decode cX12_goes 28 = .ok (.aload_n 0, 1) := by decide +kernel
theorem dX12_goes_29 : decode cX12_goes 29 = .ok (.dup, 1) := by decide +kernel
theorem dX12_goes_30 : decode cX12_goes 30 = .ok (.getfield 266, 3) := by decide +kernel
theorem dX12_goes_33 : decode cX12_goes 33 = .ok (.iconst 1, 1) := by decide +kernel
theorem dX12_goes_34 : decode cX12_goes 34 = .ok (.iadd, 1) := by decide +kernel
theorem dX12_goes_35 : decode cX12_goes 35 = .ok (.putfield 266, 3) := by decide +kernel
theorem dX12_goes_38 : decode cX12_goes 38 = .ok (.aload_n 0, 1) := by decide +kernel
theorem dX12_goes_39 : decode cX12_goes 39 = .ok (.getfield 269, 3) := by decide +kernel
theorem dX12_goes_42 : decode cX12_goes 42 = .ok (.ifCond .eq 6, 3) := by decide +kernel
theorem dX12_goes_45 : decode cX12_goes 45 = .ok (.goto 48, 3) := by decide +kernel
theorem dX12_goes_48 : decode cX12_goes 48 = .ok (.aload_n 0, 1) := by decide +kernel
theorem dX12_goes_49 : decode cX12_goes 49 = .ok (.getfield 63, 3) := by decide +kernel
theorem dX12_goes_52 : decode cX12_goes 52 = .ok (.iload 6, 2) := by decide +kernel
theorem dX12_goes_54 : decode cX12_goes 54 = .ok (.aload_n 0, 1) := by decide +kernel
theorem dX12_goes_55 : decode cX12_goes 55 = .ok (.getfield 60, 3) := by decide +kernel
theorem dX12_goes_58 : decode cX12_goes 58 = .ok (.iload 6, 2) := by decide +kernel
theorem dX12_goes_60 : decode cX12_goes 60 = .ok (.iaload, 1) := by decide +kernel
theorem dX12_goes_61 : decode cX12_goes 61 = .ok (.ifCond .ne 8, 3) := by decide +kernel
theorem dX12_goes_64 : decode cX12_goes 64 = .ok (.iload 4, 2) := by decide +kernel
theorem dX12_goes_66 : decode cX12_goes 66 = .ok (.goto 15, 3) := by decide +kernel
theorem dX12_goes_69 : decode cX12_goes 69 = .ok (.aload_n 0, 1) := by decide +kernel
theorem dX12_goes_70 : decode cX12_goes 70 = .ok (.getfield 63, 3) := by decide +kernel
theorem dX12_goes_73 : decode cX12_goes 73 = .ok (.iload 6, 2) := by decide +kernel
theorem dX12_goes_75 : decode cX12_goes 75 = .ok (.iaload, 1) := by decide +kernel
theorem dX12_goes_76 : decode cX12_goes 76 = .ok (.iload 4, 2) := by decide +kernel
theorem dX12_goes_78 : decode cX12_goes 78 = .ok (.invokestatic 251, 3) := by decide +kernel
theorem dX12_goes_81 : decode cX12_goes 81 = .ok (.iastore, 1) := by decide +kernel
theorem dX12_goes_82 : decode cX12_goes 82 = .ok (.aload_n 0, 1) := by decide +kernel
theorem dX12_goes_83 : decode cX12_goes 83 = .ok (.getfield 60, 3) := by decide +kernel
theorem dX12_goes_86 : decode cX12_goes 86 = .ok (.iload 6, 2) := by decide +kernel
theorem dX12_goes_88 : decode cX12_goes 88 = .ok (.dup2, 1) := by decide +kernel
theorem dX12_goes_89 : decode cX12_goes 89 = .ok (.iaload, 1) := by decide +kernel
theorem dX12_goes_90 : decode cX12_goes 90 = .ok (.iconst 1, 1) := by decide +kernel
theorem dX12_goes_91 : decode cX12_goes 91 = .ok (.iadd, 1) := by decide +kernel
theorem dX12_goes_92 : decode cX12_goes 92 = .ok (.iastore, 1) := by decide +kernel
theorem dX12_goes_93 : decode cX12_goes 93 = .ok (.iinc 5 1, 3) := by decide +kernel
theorem dX12_goes_96 : decode cX12_goes 96 = .ok (.goto (-85), 3) := by decide +kernel
theorem dX12_goes_99 : decode cX12_goes 99 = .ok (.return_, 1) := by decide +kernel
theorem dX12_goes_100 : decode cX12_goes 100 = .ok (.aload_n 0, 1) := by decide +kernel
theorem dX12_goes_101 : decode cX12_goes 101 = .ok (.getfield 81, 3) := by decide +kernel
theorem dX12_goes_104 : decode cX12_goes 104 = .ok (.iload_n 2, 1) := by decide +kernel
theorem dX12_goes_105 : decode cX12_goes 105 = .ok (.iaload, 1) := by decide +kernel
theorem dX12_goes_106 : decode cX12_goes 106 = .ok (.istore 5, 2) := by decide +kernel
theorem dX12_goes_108 : decode cX12_goes 108 = .ok (.iconst 2, 1) := by decide +kernel
theorem dX12_goes_109 : decode cX12_goes 109 = .ok (.istore 6, 2) := by decide +kernel
theorem dX12_goes_111 : decode cX12_goes 111 = .ok (.iload 6, 2) := by decide +kernel
theorem dX12_goes_113 : decode cX12_goes 113 = .ok (.bipush 10, 2) := by decide +kernel
theorem dX12_goes_115 : decode cX12_goes 115 = .ok (.if_icmp .ge 136, 3) := by decide +kernel
theorem dX12_goes_118 : decode cX12_goes 118 = .ok (.aload_n 0, 1) := by decide +kernel
theorem dX12_goes_119 : decode cX12_goes 119 = .ok (.iload 6, 2) := by decide +kernel
theorem dX12_goes_121 : decode cX12_goes 121 = .ok (.invokevirtual 199, 3) := by decide +kernel
theorem dX12_goes_124 : decode cX12_goes 124 = .ok (.ifCond .ne 6, 3) := by decide +kernel
theorem dX12_goes_127 : decode cX12_goes 127 = .ok (.goto 118, 3) := by decide +kernel
theorem dX12_goes_130 : decode cX12_goes 130 = .ok (.iload 4, 2) := by decide +kernel
theorem dX12_goes_132 : decode cX12_goes 132 = .ok (.iload 6, 2) := by decide +kernel
theorem dX12_goes_134 : decode cX12_goes 134 = .ok (.aload_n 0, 1) := by decide +kernel
theorem dX12_goes_135 : decode cX12_goes 135 = .ok (.getfield 66, 3) := by decide +kernel
theorem dX12_goes_138 : decode cX12_goes 138 = .ok (.aload_n 0, 1) := by decide +kernel
theorem dX12_goes_139 : decode cX12_goes 139 = .ok (.getfield 75, 3) := by decide +kernel
theorem dX12_goes_142 : decode cX12_goes 142 = .ok (.iload_n 2, 1) := by decide +kernel
theorem dX12_goes_143 : decode cX12_goes 143 = .ok (.iaload, 1) := by decide +kernel
theorem dX12_goes_144 : decode cX12_goes 144 = .ok (.iaload, 1) := by decide +kernel
theorem dX12_goes_145 : decode cX12_goes 145 = .ok (.if_icmp .ne 7, 3) := by decide +kernel
theorem dX12_goes_148 : decode cX12_goes 148 = .ok (.iconst 0, 1) := by decide +kernel
theorem dX12_goes_149 : decode cX12_goes 149 = .ok (.goto 4, 3) := by decide +kernel
theorem dX12_goes_152 : decode cX12_goes 152 = .ok (.iconst 1, 1) := by decide +kernel
theorem dX12_goes_153 : decode cX12_goes 153 = .ok (.iadd, 1) := by decide +kernel
theorem dX12_goes_154 : decode cX12_goes 154 = .ok (.istore 7, 2) := by decide +kernel
theorem dX12_goes_156 : decode cX12_goes 156 = .ok (.iload 7, 2) := by decide +kernel
theorem dX12_goes_158 : decode cX12_goes 158 = .ok (.aload_n 0, 1) := by decide +kernel
theorem dX12_goes_159 : decode cX12_goes 159 = .ok (.getfield 57, 3) := by decide +kernel
theorem dX12_goes_162 : decode cX12_goes 162 = .ok (.iconst 0, 1) := by decide +kernel
theorem dX12_goes_163 : decode cX12_goes 163 = .ok (.aaload, 1) := by decide +kernel
theorem dX12_goes_164 : decode cX12_goes 164 = .ok (.iload_n 1, 1) := by decide +kernel
theorem dX12_goes_165 : decode cX12_goes 165 = .ok (.aaload, 1) := by decide +kernel
theorem dX12_goes_166 : decode cX12_goes 166 = .ok (.iconst 2, 1) := by decide +kernel
theorem dX12_goes_167 : decode cX12_goes 167 = .ok (.aaload, 1) := by decide +kernel
theorem dX12_goes_168 : decode cX12_goes 168 = .ok (.iload 5, 2) := by decide +kernel
theorem dX12_goes_170 : decode cX12_goes 170 = .ok (.iaload, 1) := by decide +kernel
theorem dX12_goes_171 : decode cX12_goes 171 = .ok (.if_icmp .le 6, 3) := by decide +kernel
theorem dX12_goes_174 : decode cX12_goes 174 = .ok (.goto 71, 3) := by decide +kernel
theorem dX12_goes_177 : decode cX12_goes 177 = .ok (.aload_n 0, 1) := by decide +kernel
theorem dX12_goes_178 : decode cX12_goes 178 = .ok (.dup, 1) := by decide +kernel
theorem dX12_goes_179 : decode cX12_goes 179 = .ok (.getfield 272, 3) := by decide +kernel
theorem dX12_goes_182 : decode cX12_goes 182 = .ok (.iconst 1, 1) := by decide +kernel
theorem dX12_goes_183 : decode cX12_goes 183 = .ok (.iadd, 1) := by decide +kernel
theorem dX12_goes_184 : decode cX12_goes 184 = .ok (.putfield 272, 3) := by decide +kernel
theorem dX12_goes_187 : decode cX12_goes 187 = .ok (.aload_n 0, 1) := by decide +kernel
theorem dX12_goes_188 : decode cX12_goes 188 = .ok (.getfield 84, 3) := by decide +kernel
theorem dX12_goes_191 : decode cX12_goes 191 = .ok (.iload_n 2, 1) := by decide +kernel
theorem dX12_goes_192 : decode cX12_goes 192 = .ok (.iaload, 1) := by decide +kernel
theorem dX12_goes_193 : decode cX12_goes 193 = .ok (.iconst 1, 1) := by decide +kernel
theorem dX12_goes_194 : decode cX12_goes 194 = .ok (.if_icmp .ne 24, 3) := by decide +kernel
theorem dX12_goes_197 : decode cX12_goes 197 = .ok (.iload 7, 2) := by decide +kernel
theorem dX12_goes_199 : decode cX12_goes 199 = .ok (.aload_n 0, 1) := by decide +kernel
theorem dX12_goes_200 : decode cX12_goes 200 = .ok (.getfield 57, 3) := by decide +kernel
theorem dX12_goes_203 : decode cX12_goes 203 = .ok (.iconst 0, 1) := by decide +kernel
theorem dX12_goes_204 : decode cX12_goes 204 = .ok (.aaload, 1) := by decide +kernel
theorem dX12_goes_205 : decode cX12_goes 205 = .ok (.iload_n 1, 1) := by decide +kernel
theorem dX12_goes_206 : decode cX12_goes 206 = .ok (.aaload, 1) := by decide +kernel
theorem dX12_goes_207 : decode cX12_goes 207 = .ok (.iconst 1, 1) := by decide +kernel
theorem dX12_goes_208 : decode cX12_goes 208 = .ok (.aaload, 1) := by decide +kernel
theorem dX12_goes_209 : decode cX12_goes 209 = .ok (.iload 5, 2) := by decide +kernel
theorem dX12_goes_211 : decode cX12_goes 211 = .ok (.iaload, 1) := by decide +kernel
theorem dX12_goes_212 : decode cX12_goes 212 = .ok (.if_icmp .ge 6, 3) := by decide +kernel
theorem dX12_goes_215 : decode cX12_goes 215 = .ok (.goto 30, 3) := by decide +kernel
theorem dX12_goes_218 : decode cX12_goes 218 = .ok (.aload_n 0, 1) := by decide +kernel
theorem dX12_goes_219 : decode cX12_goes 219 = .ok (.iload_n 2, 1) := by decide +kernel
theorem dX12_goes_220 : decode cX12_goes 220 = .ok (.iload_n 3, 1) := by decide +kernel
theorem dX12_goes_221 : decode cX12_goes 221 = .ok (.iload 6, 2) := by decide +kernel
theorem dX12_goes_223 : decode cX12_goes 223 = .ok (.invokevirtual 275, 3) := by decide +kernel
theorem dX12_goes_226 : decode cX12_goes 226 = .ok (.istore 8, 2) := by decide +kernel
theorem dX12_goes_228 : decode cX12_goes 228 = .ok (.iload 8, 2) := by decide +kernel
theorem dX12_goes_230 : decode cX12_goes 230 = .ok (.ifCond .le 15, 3) := by decide +kernel
theorem dX12_goes_233 : decode cX12_goes 233 = .ok (.aload_n 0, 1) := by decide +kernel
theorem dX12_goes_234 : decode cX12_goes 234 = .ok (.iload_n 1, 1) := by decide +kernel
theorem dX12_goes_235 : decode cX12_goes 235 = .ok (.iload_n 2, 1) := by decide +kernel
theorem dX12_goes_236 : decode cX12_goes 236 = .ok (.iconst 1, 1) := by decide +kernel
theorem dX12_goes_237 : decode cX12_goes 237 = .ok (.iadd, 1) := by decide +kernel
theorem dX12_goes_238 : decode cX12_goes 238 = .ok (.iload 8, 2) := by decide +kernel
theorem dX12_goes_240 : decode cX12_goes 240 = .ok (.iload 7, 2) := by decide +kernel
theorem dX12_goes_242 : decode cX12_goes 242 = .ok (.invokevirtual 279, 3) := by decide +kernel
theorem dX12_goes_245 : decode cX12_goes 245 = .ok (.iinc 6 1, 3) := by decide +kernel
theorem dX12_goes_248 : decode cX12_goes 248 = .ok (.goto (-137), 3) := by decide +kernel
theorem dX12_goes_251 : decode cX12_goes 251 = .ok (.return_, 1) := by decide +kernel
theorem dX12_runs_0 : decode cX12_runs 0 = .ok (.aload_n 0, 1) := by decide +kernel
theorem dX12_runs_1 : decode cX12_runs 1 = .ok (.iload_n 1, 1) := by decide +kernel
theorem dX12_runs_2 : decode cX12_runs 2 = .ok (.invokevirtual 283, 3) := by decide +kernel
theorem dX12_runs_5 : decode cX12_runs 5 = .ok (.iconst 0, 1) := by decide +kernel
theorem dX12_runs_6 : decode cX12_runs 6 = .ok (.istore_n 2, 1) := by decide +kernel
theorem dX12_runs_7 : decode cX12_runs 7 = .ok (.iload_n 2, 1) := by decide +kernel
theorem dX12_runs_8 : decode cX12_runs 8 = .ok (.aload_n 0, 1) := by decide +kernel
theorem dX12_runs_9 : decode cX12_runs 9 = .ok (.getfield 20, 3) := by decide +kernel
theorem dX12_runs_12 : decode cX12_runs 12 = .ok (.if_icmp .gt 18, 3) := by decide +kernel
theorem dX12_runs_15 : decode cX12_runs 15 = .ok (.aload_n 0, 1) := by decide +kernel
theorem dX12_runs_16 : decode cX12_runs 16 = .ok (.getfield 87, 3) := by decide +kernel
theorem dX12_runs_19 : decode cX12_runs 19 = .ok (.iconst 0, 1) := by decide +kernel
theorem dX12_runs_20 : decode cX12_runs 20 = .ok (.aaload, 1) := by decide +kernel
theorem dX12_runs_21 : decode cX12_runs 21 = .ok (.iload_n 2, 1) := by decide +kernel
theorem dX12_runs_22 : decode cX12_runs 22 = .ok (.iload_n 2, 1) := by decide +kernel
theorem dX12_runs_23 : decode cX12_runs 23 = .ok (.iastore, 1) := by decide +kernel
theorem dX12_runs_24 : decode cX12_runs 24 = .ok (.iinc 2 1, 3) := by decide +kernel
theorem dX12_runs_27 : decode cX12_runs 27 = .ok (.goto (-20), 3) := by decide +kernel
theorem dX12_runs_30 : decode cX12_runs 30 = .ok (.aload_n 0, 1) := by decide +kernel
theorem dX12_runs_31 : decode cX12_runs 31 = .ok (.iload_n 1, 1) := by decide +kernel
theorem dX12_runs_32 : decode cX12_runs 32 = .ok (.iconst 0, 1) := by decide +kernel
theorem dX12_runs_33 : decode cX12_runs 33 = .ok (.aload_n 0, 1) := by decide +kernel
theorem dX12_runs_34 : decode cX12_runs 34 = .ok (.getfield 20, 3) := by decide +kernel
theorem dX12_runs_37 : decode cX12_runs 37 = .ok (.iconst 1, 1) := by decide +kernel
theorem dX12_runs_38 : decode cX12_runs 38 = .ok (.iadd, 1) := by decide +kernel
theorem dX12_runs_39 : decode cX12_runs 39 = .ok (.iconst 0, 1) := by decide +kernel
theorem dX12_runs_40 : decode cX12_runs 40 = .ok (.invokevirtual 279, 3) := by decide +kernel
theorem dX12_runs_43 : decode cX12_runs 43 = .ok (.return_, 1) := by decide +kernel
theorem dX12_search_0 : decode cX12_search 0 = .ok (.aload_n 0, 1) := by decide +kernel
theorem dX12_search_1 : decode cX12_search 1 = .ok (.iconst 0, 1) := by decide +kernel
theorem dX12_search_2 : decode cX12_search 2 = .ok (.putfield 105, 3) := by decide +kernel
theorem dX12_search_5 : decode cX12_search 5 = .ok (.aload_n 0, 1) := by decide +kernel
theorem dX12_search_6 : decode cX12_search 6 = .ok (.iload_n 1, 1) := by decide +kernel
theorem dX12_search_7 : decode cX12_search 7 = .ok (.iconst 1, 1) := by decide +kernel
theorem dX12_search_8 : decode cX12_search 8 = .ok (.aload_n 0, 1) := by decide +kernel
theorem dX12_search_9 : decode cX12_search 9 = .ok (.getfield 115, 3) := by decide +kernel
theorem dX12_search_12 : decode cX12_search 12 = .ok (.invokestatic 108, 3) := by decide +kernel
theorem dX12_search_15 : decode cX12_search 15 = .ok (.ifCond .eq 27, 3) := by decide +kernel
theorem dX12_search_18 : decode cX12_search 18 = .ok (.iload_n 1, 1) := by decide +kernel
theorem dX12_search_19 : decode cX12_search 19 = .ok (.aload_n 0, 1) := by decide +kernel
theorem dX12_search_20 : decode cX12_search 20 = .ok (.getfield 52, 3) := by decide +kernel
theorem dX12_search_23 : decode cX12_search 23 = .ok (.iconst 0, 1) := by decide +kernel
theorem dX12_search_24 : decode cX12_search 24 = .ok (.iaload, 1) := by decide +kernel
theorem dX12_search_25 : decode cX12_search 25 = .ok (.if_icmp .lt 17, 3) := by decide +kernel
theorem dX12_search_28 : decode cX12_search 28 = .ok (.iload_n 1, 1) := by decide +kernel
theorem dX12_search_29 : decode cX12_search 29 = .ok (.bipush 24, 2) := by decide +kernel
theorem dX12_search_31 : decode cX12_search 31 = .ok (.if_icmp .gt 11, 3) := by decide +kernel
theorem dX12_search_34 : decode cX12_search 34 = .ok (.aload_n 0, 1) := by decide +kernel
theorem dX12_search_35 : decode cX12_search 35 = .ok (.iload_n 1, 1) := by decide +kernel
theorem dX12_search_36 : decode cX12_search 36 = .ok (.invokevirtual 254, 3) := by decide +kernel
theorem dX12_search_39 : decode cX12_search 39 = .ok (.ifCond .ne 7, 3) := by decide +kernel
theorem dX12_search_42 : decode cX12_search 42 = .ok (.iconst 1, 1) := by decide +kernel
theorem dX12_search_43 : decode cX12_search 43 = .ok (.goto 4, 3) := by decide +kernel
theorem dX12_search_46 : decode cX12_search 46 = .ok (.iconst 0, 1) := by decide +kernel
theorem dX12_search_47 : decode cX12_search 47 = .ok (.iconst 1, 1) := by decide +kernel
theorem dX12_search_48 : decode cX12_search 48 = .ok (.iconst 1, 1) := by decide +kernel
theorem dX12_search_49 : decode cX12_search 49 = .ok (.invokevirtual 122, 3) := by decide +kernel
theorem dX12_search_52 : decode cX12_search 52 = .ok (.ifCond .eq 5, 3) := by decide +kernel
theorem dX12_search_55 : decode cX12_search 55 = .ok (.iconst 0, 1) := by decide +kernel
theorem dX12_search_56 : decode cX12_search 56 = .ok (.ireturn, 1) := by decide +kernel
theorem dX12_search_57 : decode cX12_search 57 = .ok (.aload_n 0, 1) := by decide +kernel
theorem dX12_search_58 : decode cX12_search 58 = .ok (.iconst 0, 1) := by decide +kernel
theorem dX12_search_59 : decode cX12_search 59 = .ok (.putfield 115, 3) := by decide +kernel
theorem dX12_search_62 : decode cX12_search 62 = .ok (.aload_n 0, 1) := by decide +kernel
theorem dX12_search_63 : decode cX12_search 63 = .ok (.iload_n 1, 1) := by decide +kernel
theorem dX12_search_64 : decode cX12_search 64 = .ok (.putfield 263, 3) := by decide +kernel
theorem dX12_search_67 : decode cX12_search 67 = .ok (.iconst 0, 1) := by decide +kernel
theorem dX12_search_68 : decode cX12_search 68 = .ok (.istore_n 2, 1) := by decide +kernel
theorem dX12_search_69 : decode cX12_search 69 = .ok (.iload_n 2, 1) := by decide +kernel
theorem dX12_search_70 : decode cX12_search 70 = .ok (.iload_n 1, 1) := by decide +kernel
theorem dX12_search_71 : decode cX12_search 71 = .ok (.if_icmp .ge 26, 3) := by decide +kernel
theorem dX12_search_74 : decode cX12_search 74 = .ok (.aload_n 0, 1) := by decide +kernel
theorem dX12_search_75 : decode cX12_search 75 = .ok (.getfield 66, 3) := by decide +kernel
theorem dX12_search_78 : decode cX12_search 78 = .ok (.iload_n 2, 1) := by decide +kernel
theorem dX12_search_79 : decode cX12_search 79 = .ok (.aload_n 0, 1) := by decide +kernel
theorem dX12_search_80 : decode cX12_search 80 = .ok (.getfield 17, 3) := by decide +kernel
theorem dX12_search_83 : decode cX12_search 83 = .ok (.iload_n 2, 1) := by decide +kernel
theorem dX12_search_84 : decode cX12_search 84 = .ok (.iaload, 1) := by decide +kernel
theorem dX12_search_85 : decode cX12_search 85 = .ok (.bipush 97, 2) := by decide +kernel
theorem dX12_search_87 : decode cX12_search 87 = .ok (.isub, 1) := by decide +kernel
theorem dX12_search_88 : decode cX12_search 88 = .ok (.iconst 2, 1) := by decide +kernel
theorem dX12_search_89 : decode cX12_search 89 = .ok (.iadd, 1) := by decide +kernel
theorem dX12_search_90 : decode cX12_search 90 = .ok (.iastore, 1) := by decide +kernel
theorem dX12_search_91 : decode cX12_search 91 = .ok (.iinc 2 1, 3) := by decide +kernel
theorem dX12_search_94 : decode cX12_search 94 = .ok (.goto (-25), 3) := by decide +kernel
theorem dX12_search_97 : decode cX12_search 97 = .ok (.iconst 0, 1) := by decide +kernel
theorem dX12_search_98 : decode cX12_search 98 = .ok (.istore_n 2, 1) := by decide +kernel
theorem dX12_search_99 : decode cX12_search 99 = .ok (.iload_n 2, 1) := by decide +kernel
theorem dX12_search_100 : decode cX12_search 100 = .ok (.aload_n 0, 1) := by decide +kernel
theorem dX12_search_101 : decode cX12_search 101 = .ok (.getfield 20, 3) := by decide +kernel
theorem dX12_search_104 : decode cX12_search 104 = .ok (.if_icmp .gt 23, 3) := by decide +kernel
theorem dX12_search_107 : decode cX12_search 107 = .ok (.aload_n 0, 1) := by decide +kernel
theorem dX12_search_108 : decode cX12_search 108 = .ok (.getfield 60, 3) := by decide +kernel
theorem dX12_search_111 : decode cX12_search 111 = .ok (.iload_n 2, 1) := by decide +kernel
theorem dX12_search_112 : decode cX12_search 112 = .ok (.iconst 0, 1) := by decide +kernel
theorem dX12_search_113 : decode cX12_search 113 = .ok (.iastore, 1) := by decide +kernel
theorem dX12_search_114 : decode cX12_search 114 = .ok (.aload_n 0, 1) := by decide +kernel
theorem dX12_search_115 : decode cX12_search 115 = .ok (.getfield 63, 3) := by decide +kernel
theorem dX12_search_118 : decode cX12_search 118 = .ok (.iload_n 2, 1) := by decide +kernel
theorem dX12_search_119 : decode cX12_search 119 = .ok (.iconst 0, 1) := by decide +kernel
theorem dX12_search_120 : decode cX12_search 120 = .ok (.iastore, 1) := by decide +kernel
theorem dX12_search_121 : decode cX12_search 121 = .ok (.iinc 2 1, 3) := by decide +kernel
theorem dX12_search_124 : decode cX12_search 124 = .ok (.goto (-25), 3) := by decide +kernel
theorem dX12_search_127 : decode cX12_search 127 = .ok (.aload_n 0, 1) := by decide +kernel
theorem dX12_search_128 : decode cX12_search 128 = .ok (.iconst 1, 1) := by decide +kernel
theorem dX12_search_129 : decode cX12_search 129 = .ok (.putfield 130, 3) := by decide +kernel
theorem dX12_search_132 : decode cX12_search 132 = .ok (.aload_n 0, 1) := by decide +kernel
theorem dX12_search_133 : decode cX12_search 133 = .ok (.iconst 0, 1) := by decide +kernel
theorem dX12_search_134 : decode cX12_search 134 = .ok (.putfield 269, 3) := by decide +kernel
theorem dX12_search_137 : decode cX12_search 137 = .ok (.aload_n 0, 1) := by decide +kernel
theorem dX12_search_138 : decode cX12_search 138 = .ok (.iconst 0, 1) := by decide +kernel
theorem dX12_search_139 : decode cX12_search 139 = .ok (.putfield 272, 3) := by decide +kernel
theorem dX12_search_142 : decode cX12_search 142 = .ok (.aload_n 0, 1) := by decide +kernel
theorem dX12_search_143 : decode cX12_search 143 = .ok (.iconst 0, 1) := by decide +kernel
theorem dX12_search_144 : decode cX12_search 144 = .ok (.putfield 266, 3) := by decide +kernel
theorem dX12_search_147 : decode cX12_search 147 = .ok (.iconst 0, 1) := by decide +kernel
theorem dX12_search_148 : decode cX12_search 148 = .ok (.istore_n 2, 1) := by decide +kernel
theorem dX12_search_149 : decode cX12_search 149 = .ok (.iload_n 2, 1) := by decide +kernel
theorem dX12_search_150 : decode cX12_search 150 = .ok (.aload_n 0, 1) := by decide +kernel
theorem dX12_search_151 : decode cX12_search 151 = .ok (.getfield 49, 3) := by decide +kernel
theorem dX12_search_154 : decode cX12_search 154 = .ok (.iconst 0, 1) := by decide +kernel
theorem dX12_search_155 : decode cX12_search 155 = .ok (.iaload, 1) := by decide +kernel
theorem dX12_search_156 : decode cX12_search 156 = .ok (.if_icmp .ge 14, 3) := by decide +kernel
theorem dX12_search_159 : decode cX12_search 159 = .ok (.aload_n 0, 1) := by decide +kernel
theorem dX12_search_160 : decode cX12_search 160 = .ok (.iload_n 2, 1) := by decide +kernel
theorem dX12_search_161 : decode cX12_search 161 = .ok (.invokevirtual 286, 3) := by decide +kernel
theorem dX12_search_164 : decode cX12_search 164 = .ok (.iinc 2 1, 3) := by decide +kernel
theorem dX12_search_167 : decode cX12_search 167 = .ok (.goto (-18), 3) := by decide +kernel
theorem dX12_search_170 : decode cX12_search 170 = .ok (.aload_n 0, 1) := by decide +kernel
theorem dX12_search_171 : decode cX12_search 171 = .ok (.aload_n 0, 1) := by decide +kernel
theorem dX12_search_172 : decode cX12_search 172 = .ok (.getfield 272, 3) := by decide +kernel
theorem dX12_search_175 : decode cX12_search 175 = .ok (.putfield 289, 3) := by decide +kernel
theorem dX12_search_178 : decode cX12_search 178 = .ok (.aload_n 0, 1) := by decide +kernel
theorem dX12_search_179 : decode cX12_search 179 = .ok (.aload_n 0, 1) := by decide +kernel
theorem dX12_search_180 : decode cX12_search 180 = .ok (.getfield 266, 3) := by decide +kernel
theorem dX12_search_183 : decode cX12_search 183 = .ok (.putfield 292, 3) := by decide +kernel
theorem dX12_search_186 : decode cX12_search 186 = .ok (.aload_n 0, 1) := by decide +kernel
theorem dX12_search_187 : decode cX12_search 187 = .ok (.invokevirtual 217, 3) := by decide +kernel
theorem dX12_search_190 : decode cX12_search 190 = .ok (.ireturn, 1) := by decide +kernel
theorem dX12_foundAt_0 : decode cX12_foundAt 0 = .ok (.iconst (-1), 1) := by decide +kernel
theorem dX12_foundAt_1 : decode cX12_foundAt 1 = .ok (.istore_n 2, 1) := by decide +kernel
theorem dX12_foundAt_2 : decode cX12_foundAt 2 = .ok (.iconst 0, 1) := by decide +kernel
theorem dX12_foundAt_3 : decode cX12_foundAt 3 = .ok (.istore_n 3, 1) := by decide +kernel
theorem dX12_foundAt_4 : decode cX12_foundAt 4 = .ok (.iload_n 3, 1) := by decide +kernel
theorem dX12_foundAt_5 : decode cX12_foundAt 5 = .ok (.aload_n 0, 1) := by decide +kernel
theorem dX12_foundAt_6 : decode cX12_foundAt 6 = .ok (.getfield 20, 3) := by decide +kernel
theorem dX12_foundAt_9 : decode cX12_foundAt 9 = .ok (.if_icmp .ge 33, 3) := by decide +kernel
theorem dX12_foundAt_12 : decode cX12_foundAt 12 = .ok (.iload_n 2, 1) := by decide +kernel
theorem dX12_foundAt_13 : decode cX12_foundAt 13 = .ok (.aload_n 0, 1) := by decide +kernel
theorem dX12_foundAt_14 : decode cX12_foundAt 14 = .ok (.getfield 60, 3) := by decide +kernel
theorem dX12_foundAt_17 : decode cX12_foundAt 17 = .ok (.iload_n 3, 1) := by decide +kernel
theorem dX12_foundAt_18 : decode cX12_foundAt 18 = .ok (.iaload, 1) := by decide +kernel
theorem dX12_foundAt_19 : decode cX12_foundAt 19 = .ok (.ifCond .le 7, 3) := by decide +kernel
theorem dX12_foundAt_22 : decode cX12_foundAt 22 = .ok (.iconst 1, 1) := by decide +kernel
theorem dX12_foundAt_23 : decode cX12_foundAt 23 = .ok (.goto 4, 3) := by decide +kernel
theorem dX12_foundAt_26 : decode cX12_foundAt 26 = .ok (.iconst 0, 1) := by decide +kernel
theorem dX12_foundAt_27 : decode cX12_foundAt 27 = .ok (.iadd, 1) := by decide +kernel
theorem dX12_foundAt_28 : decode cX12_foundAt 28 = .ok (.istore_n 2, 1) := by decide +kernel
theorem dX12_foundAt_29 : decode cX12_foundAt 29 = .ok (.iload_n 2, 1) := by decide +kernel
theorem dX12_foundAt_30 : decode cX12_foundAt 30 = .ok (.iload_n 1, 1) := by decide +kernel
theorem dX12_foundAt_31 : decode cX12_foundAt 31 = .ok (.if_icmp .ne 5, 3) := by decide +kernel
theorem dX12_foundAt_34 : decode cX12_foundAt 34 = .ok (.iload_n 3, 1) := by decide +kernel
theorem dX12_foundAt_35 : decode cX12_foundAt 35 = .ok (.ireturn, 1) := by decide +kernel
theorem dX12_foundAt_36 : decode cX12_foundAt 36 = .ok (.iinc 3 1, 3) := by decide +kernel
theorem dX12_foundAt_39 : decode cX12_foundAt 39 = .ok (.goto (-35), 3) := by decide +kernel
theorem dX12_foundAt_42 : decode cX12_foundAt 42 = .ok (.iconst (-1), 1) := by decide +kernel
theorem dX12_foundAt_43 : decode cX12_foundAt 43 = .ok (.ireturn, 1) := by decide +kernel
theorem dX12_found_0 : decode cX12_found 0 = .ok (.aload_n 0, 1) := by decide +kernel
theorem dX12_found_1 : decode cX12_found 1 = .ok (.iconst 0, 1) := by decide +kernel
theorem dX12_found_2 : decode cX12_found 2 = .ok (.putfield 105, 3) := by decide +kernel
theorem dX12_found_5 : decode cX12_found 5 = .ok (.aload_n 0, 1) := by decide +kernel
theorem dX12_found_6 : decode cX12_found 6 = .ok (.aload_n 0, 1) := by decide +kernel
theorem dX12_found_7 : decode cX12_found 7 = .ok (.getfield 130, 3) := by decide +kernel
theorem dX12_found_10 : decode cX12_found 10 = .ok (.ifCond .eq 17, 3) := by decide +kernel
theorem dX12_found_13 : decode cX12_found 13 = .ok (.iload_n 1, 1) := by decide +kernel
theorem dX12_found_14 : decode cX12_found 14 = .ok (.iconst 0, 1) := by decide +kernel
theorem dX12_found_15 : decode cX12_found 15 = .ok (.aload_n 0, 1) := by decide +kernel
theorem dX12_found_16 : decode cX12_found 16 = .ok (.invokevirtual 217, 3) := by decide +kernel
theorem dX12_found_19 : decode cX12_found 19 = .ok (.iconst 1, 1) := by decide +kernel
theorem dX12_found_20 : decode cX12_found 20 = .ok (.isub, 1) := by decide +kernel
theorem dX12_found_21 : decode cX12_found 21 = .ok (.invokestatic 108, 3) := by decide +kernel
theorem dX12_found_24 : decode cX12_found 24 = .ok (.ifCond .ne 7, 3) := by decide +kernel
theorem dX12_found_27 : decode cX12_found 27 = .ok (.iconst 1, 1) := by decide +kernel
theorem dX12_found_28 : decode cX12_found 28 = .ok (.goto 4, 3) := by decide +kernel
theorem dX12_found_31 : decode cX12_found 31 = .ok (.iconst 0, 1) := by decide +kernel
theorem dX12_found_32 : decode cX12_found 32 = .ok (.iconst 1, 1) := by decide +kernel
theorem dX12_found_33 : decode cX12_found 33 = .ok (.iconst 0, 1) := by decide +kernel
theorem dX12_found_34 : decode cX12_found 34 = .ok (.invokevirtual 122, 3) := by decide +kernel
theorem dX12_found_37 : decode cX12_found 37 = .ok (.ifCond .ne 26, 3) := by decide +kernel
theorem dX12_found_40 : decode cX12_found 40 = .ok (.aload_n 0, 1) := by decide +kernel
theorem dX12_found_41 : decode cX12_found 41 = .ok (.iload_n 2, 1) := by decide +kernel
theorem dX12_found_42 : decode cX12_found 42 = .ok (.iconst 0, 1) := by decide +kernel
theorem dX12_found_43 : decode cX12_found 43 = .ok (.iconst 3, 1) := by decide +kernel
theorem dX12_found_44 : decode cX12_found 44 = .ok (.invokestatic 108, 3) := by decide +kernel
theorem dX12_found_47 : decode cX12_found 47 = .ok (.ifCond .ne 7, 3) := by decide +kernel
theorem dX12_found_50 : decode cX12_found 50 = .ok (.iconst 1, 1) := by decide +kernel
theorem dX12_found_51 : decode cX12_found 51 = .ok (.goto 4, 3) := by decide +kernel
theorem dX12_found_54 : decode cX12_found 54 = .ok (.iconst 0, 1) := by decide +kernel
theorem dX12_found_55 : decode cX12_found 55 = .ok (.iconst 2, 1) := by decide +kernel
theorem dX12_found_56 : decode cX12_found 56 = .ok (.iconst 1, 1) := by decide +kernel
theorem dX12_found_57 : decode cX12_found 57 = .ok (.invokevirtual 122, 3) := by decide +kernel
theorem dX12_found_60 : decode cX12_found 60 = .ok (.ifCond .eq 5, 3) := by decide +kernel
theorem dX12_found_63 : decode cX12_found 63 = .ok (.iconst 0, 1) := by decide +kernel
theorem dX12_found_64 : decode cX12_found 64 = .ok (.ireturn, 1) := by decide +kernel
theorem dX12_found_65 : decode cX12_found 65 = .ok (.aload_n 0, 1) := by decide +kernel
theorem dX12_found_66 : decode cX12_found 66 = .ok (.iload_n 1, 1) := by decide +kernel
theorem dX12_found_67 : decode cX12_found 67 = .ok (.invokevirtual 295, 3) := by decide +kernel
theorem dX12_found_70 : decode cX12_found 70 = .ok (.istore_n 3, 1) := by decide +kernel
theorem dX12_found_71 : decode cX12_found 71 = .ok (.iconst 0, 1) := by decide +kernel
theorem dX12_found_72 : decode cX12_found 72 = .ok (.istore 4, 2) := by decide +kernel
theorem dX12_found_74 : decode cX12_found 74 = .ok (.iconst 0, 1) := by decide +kernel
theorem dX12_found_75 : decode cX12_found 75 = .ok (.istore 5, 2) := by decide +kernel
theorem dX12_found_77 : decode cX12_found 77 = .ok (.iload 5, 2) := by decide +kernel
theorem dX12_found_79 : decode cX12_found 79 = .ok (.aload_n 0, 1) := by decide +kernel
theorem dX12_found_80 : decode cX12_found 80 = .ok (.getfield 263, 3) := by decide +kernel
theorem dX12_found_83 : decode cX12_found 83 = .ok (.if_icmp .ge 43, 3) := by decide +kernel
theorem dX12_found_86 : decode cX12_found 86 = .ok (.iload 4, 2) := by decide +kernel
theorem dX12_found_88 : decode cX12_found 88 = .ok (.aload_n 0, 1) := by decide +kernel
theorem dX12_found_89 : decode cX12_found 89 = .ok (.getfield 28, 3) := by decide +kernel
theorem dX12_found_92 : decode cX12_found 92 = .ok (.iconst 0, 1) := by decide +kernel
theorem dX12_found_93 : decode cX12_found 93 = .ok (.aaload, 1) := by decide +kernel
theorem dX12_found_94 : decode cX12_found 94 = .ok (.iload_n 3, 1) := by decide +kernel
theorem dX12_found_95 : decode cX12_found 95 = .ok (.iload 5, 2) := by decide +kernel
theorem dX12_found_97 : decode cX12_found 97 = .ok (.iadd, 1) := by decide +kernel
theorem dX12_found_98 : decode cX12_found 98 = .ok (.iaload, 1) := by decide +kernel
theorem dX12_found_99 : decode cX12_found 99 = .ok (.aload_n 0, 1) := by decide +kernel
theorem dX12_found_100 : decode cX12_found 100 = .ok (.getfield 66, 3) := by decide +kernel
theorem dX12_found_103 : decode cX12_found 103 = .ok (.iload 5, 2) := by decide +kernel
theorem dX12_found_105 : decode cX12_found 105 = .ok (.iaload, 1) := by decide +kernel
theorem dX12_found_106 : decode cX12_found 106 = .ok (.if_icmp .eq 10, 3) := by decide +kernel
theorem dX12_found_109 : decode cX12_found 109 = .ok (.iconst 1, 1) := by decide +kernel
theorem dX12_found_110 : decode cX12_found 110 = .ok (.iload 5, 2) := by decide +kernel
theorem dX12_found_112 : decode cX12_found 112 = .ok (.ishl, 1) := by decide +kernel
theorem dX12_found_113 : decode cX12_found 113 = .ok (.goto 4, 3) := by decide +kernel
theorem dX12_found_116 : decode cX12_found 116 = .ok (.iconst 0, 1) := by decide +kernel
theorem dX12_found_117 : decode cX12_found 117 = .ok (.ior, 1) := by decide +kernel
theorem dX12_found_118 : decode cX12_found 118 = .ok (.istore 4, 2) := by decide +kernel
theorem dX12_found_120 : decode cX12_found 120 = .ok (.iinc 5 1, 3) := by decide +kernel
theorem dX12_found_123 : decode cX12_found 123 = .ok (.goto (-46), 3) := by decide +kernel
theorem dX12_found_126 : decode cX12_found 126 = .ok (.iload_n 2, 1) := by decide +kernel
theorem dX12_found_127 : decode cX12_found 127 = .ok (.ifCond .ne 7, 3) := by decide +kernel
theorem dX12_found_130 : decode cX12_found 130 = .ok (.iload_n 3, 1) := by decide +kernel
theorem dX12_found_131 : decode cX12_found 131 = .ok (.goto 33, 3) := by decide +kernel
theorem dX12_found_134 : decode cX12_found 134 = .ok (.iload_n 2, 1) := by decide +kernel
theorem dX12_found_135 : decode cX12_found 135 = .ok (.iconst 1, 1) := by decide +kernel
theorem dX12_found_136 : decode cX12_found 136 = .ok (.if_icmp .ne 12, 3) := by decide +kernel
theorem dX12_found_139 : decode cX12_found 139 = .ok (.aload_n 0, 1) := by decide +kernel
theorem dX12_found_140 : decode cX12_found 140 = .ok (.getfield 63, 3) := by decide +kernel
theorem dX12_found_143 : decode cX12_found 143 = .ok (.iload_n 3, 1) := by decide +kernel
theorem dX12_found_144 : decode cX12_found 144 = .ok (.iaload, 1) := by decide +kernel
theorem dX12_found_145 : decode cX12_found 145 = .ok (.goto 19, 3) := by decide +kernel
theorem dX12_found_148 : decode cX12_found 148 = .ok (.iload_n 2, 1) := by decide +kernel
theorem dX12_found_149 : decode cX12_found 149 = .ok (.iconst 2, 1) := by decide +kernel
theorem dX12_found_150 : decode cX12_found 150 = .ok (.if_icmp .ne 12, 3) := by decide +kernel
theorem dX12_found_153 : decode cX12_found 153 = .ok (.aload_n 0, 1) := by decide +kernel
theorem dX12_found_154 : decode cX12_found 154 = .ok (.getfield 60, 3) := by decide +kernel
theorem dX12_found_157 : decode cX12_found 157 = .ok (.iload_n 3, 1) := by decide +kernel
theorem dX12_found_158 : decode cX12_found 158 = .ok (.iaload, 1) := by decide +kernel
theorem dX12_found_159 : decode cX12_found 159 = .ok (.goto 5, 3) := by decide +kernel
theorem dX12_found_162 : decode cX12_found 162 = .ok (.iload 4, 2) := by decide +kernel
theorem dX12_found_164 : decode cX12_found 164 = .ok (.ireturn, 1) := by decide +kernel
theorem dX12_result_0 : decode cX12_result 0 = .ok (.aload_n 0, 1) := by decide +kernel
theorem dX12_result_1 : decode cX12_result 1 = .ok (.iconst 0, 1) := by decide +kernel
theorem dX12_result_2 : decode cX12_result 2 = .ok (.putfield 105, 3) := by decide +kernel
theorem dX12_result_5 : decode cX12_result 5 = .ok (.aload_n 0, 1) := by decide +kernel
theorem dX12_result_6 : decode cX12_result 6 = .ok (.iload_n 1, 1) := by decide +kernel
theorem dX12_result_7 : decode cX12_result 7 = .ok (.iconst 0, 1) := by decide +kernel
theorem dX12_result_8 : decode cX12_result 8 = .ok (.iconst 4, 1) := by decide +kernel
theorem dX12_result_9 : decode cX12_result 9 = .ok (.invokestatic 108, 3) := by decide +kernel
theorem dX12_result_12 : decode cX12_result 12 = .ok (.ifCond .ne 7, 3) := by decide +kernel
theorem dX12_result_15 : decode cX12_result 15 = .ok (.iconst 1, 1) := by decide +kernel
theorem dX12_result_16 : decode cX12_result 16 = .ok (.goto 4, 3) := by decide +kernel
theorem dX12_result_19 : decode cX12_result 19 = .ok (.iconst 0, 1) := by decide +kernel
theorem dX12_result_20 : decode cX12_result 20 = .ok (.iconst 1, 1) := by decide +kernel
theorem dX12_result_21 : decode cX12_result 21 = .ok (.iconst 1, 1) := by decide +kernel
theorem dX12_result_22 : decode cX12_result 22 = .ok (.invokevirtual 122, 3) := by decide +kernel
theorem dX12_result_25 : decode cX12_result 25 = .ok (.ifCond .eq 5, 3) := by decide +kernel
theorem dX12_result_28 : decode cX12_result 28 = .ok (.iconst 0, 1) := by decide +kernel
theorem dX12_result_29 : decode cX12_result 29 = .ok (.ireturn, 1) := by decide +kernel
theorem dX12_result_30 : decode cX12_result 30 = .ok (.aload_n 0, 1) := by decide +kernel
theorem dX12_result_31 : decode cX12_result 31 = .ok (.getfield 130, 3) := by decide +kernel
theorem dX12_result_34 : decode cX12_result 34 = .ok (.ifCond .ne 5, 3) := by decide +kernel
theorem dX12_result_37 : decode cX12_result 37 = .ok (.iconst (-1), 1) := by decide +kernel
theorem dX12_result_38 : decode cX12_result 38 = .ok (.ireturn, 1) := by decide +kernel
theorem dX12_result_39 : decode cX12_result 39 = .ok (.iconst 0, 1) := by decide +kernel
theorem dX12_result_40 : decode cX12_result 40 = .ok (.istore_n 2, 1) := by decide +kernel
theorem dX12_result_41 : decode cX12_result 41 = .ok (.iconst (-1), 1) := by decide +kernel
theorem dX12_result_42 : decode cX12_result 42 = .ok (.istore_n 3, 1) := by decide +kernel
theorem dX12_result_43 : decode cX12_result 43 = .ok (.iconst 0, 1) := by decide +kernel
theorem dX12_result_44 : decode cX12_result 44 = .ok (.istore 4, 2) := by decide +kernel
theorem dX12_result_46 : decode cX12_result 46 = .ok (.iload 4, 2) := by decide +kernel
theorem dX12_result_48 : decode cX12_result 48 = .ok (.aload_n 0, 1) := by decide +kernel
theorem dX12_result_49 : decode cX12_result 49 = .ok (.getfield 20, 3) := by decide +kernel
theorem dX12_result_52 : decode cX12_result 52 = .ok (.if_icmp .ge 52, 3) := by decide +kernel
theorem dX12_result_55 : decode cX12_result 55 = .ok (.aload_n 0, 1) := by decide +kernel
theorem dX12_result_56 : decode cX12_result 56 = .ok (.getfield 60, 3) := by decide +kernel
theorem dX12_result_59 : decode cX12_result 59 = .ok (.iload 4, 2) := by decide +kernel
theorem dX12_result_61 : decode cX12_result 61 = .ok (.iaload, 1) := by decide +kernel
theorem dX12_result_62 : decode cX12_result 62 = .ok (.ifCond .ne 6, 3) := by decide +kernel
theorem dX12_result_65 : decode cX12_result 65 = .ok (.goto 33, 3) := by decide +kernel
theorem dX12_result_68 : decode cX12_result 68 = .ok (.iload_n 2, 1) := by decide +kernel
theorem dX12_result_69 : decode cX12_result 69 = .ok (.aload_n 0, 1) := by decide +kernel
theorem dX12_result_70 : decode cX12_result 70 = .ok (.getfield 63, 3) := by decide +kernel
theorem dX12_result_73 : decode cX12_result 73 = .ok (.iload 4, 2) := by decide +kernel
theorem dX12_result_75 : decode cX12_result 75 = .ok (.iaload, 1) := by decide +kernel
theorem dX12_result_76 : decode cX12_result 76 = .ok (.ifCond .ne 7, 3) := by decide +kernel
theorem dX12_result_79 : decode cX12_result 79 = .ok (.iconst 1, 1) := by decide +kernel
theorem dX12_result_80 : decode cX12_result 80 = .ok (.goto 4, 3) := by decide +kernel
theorem dX12_result_83 : decode cX12_result 83 = .ok (.iconst 0, 1) := by decide +kernel
theorem dX12_result_84 : decode cX12_result 84 = .ok (.iadd, 1) := by decide +kernel
theorem dX12_result_85 : decode cX12_result 85 = .ok (.istore_n 2, 1) := by decide +kernel
theorem dX12_result_86 : decode cX12_result 86 = .ok (.iload_n 3, 1) := by decide +kernel
theorem dX12_result_87 : decode cX12_result 87 = .ok (.aload_n 0, 1) := by decide +kernel
theorem dX12_result_88 : decode cX12_result 88 = .ok (.getfield 63, 3) := by decide +kernel
theorem dX12_result_91 : decode cX12_result 91 = .ok (.iload 4, 2) := by decide +kernel
theorem dX12_result_93 : decode cX12_result 93 = .ok (.iaload, 1) := by decide +kernel
theorem dX12_result_94 : decode cX12_result 94 = .ok (.invokestatic 202, 3) := by decide +kernel
theorem dX12_result_97 : decode cX12_result 97 = .ok (.istore_n 3, 1) := by decide +kernel
theorem dX12_result_98 : decode cX12_result 98 = .ok (.iinc 4 1, 3) := by decide +kernel
theorem dX12_result_101 : decode cX12_result 101 = .ok (.goto (-55), 3) := by decide +kernel
theorem dX12_result_104 : decode cX12_result 104 = .ok (.iload_n 1, 1) := by decide +kernel
theorem dX12_result_105 : decode cX12_result 105 = .ok (.ifCond .ne 10, 3) := by decide +kernel
theorem dX12_result_108 : decode cX12_result 108 = .ok (.aload_n 0, 1) := by decide +kernel
theorem dX12_result_109 : decode cX12_result 109 = .ok (.getfield 292, 3) := by decide +kernel
theorem dX12_result_112 : decode cX12_result 112 = .ok (.goto 37, 3) := by decide +kernel
theorem dX12_result_115 : decode cX12_result 115 = .ok (.iload_n 1, 1) := by decide +kernel
theorem dX12_result_116 : decode cX12_result 116 = .ok (.iconst 1, 1) := by decide +kernel
theorem dX12_result_117 : decode cX12_result 117 = .ok (.if_icmp .ne 10, 3) := by decide +kernel
theorem dX12_result_120 : decode cX12_result 120 = .ok (.aload_n 0, 1) := by decide +kernel
theorem dX12_result_121 : decode cX12_result 121 = .ok (.getfield 289, 3) := by decide +kernel
theorem dX12_result_124 : decode cX12_result 124 = .ok (.goto 25, 3) := by decide +kernel
theorem dX12_result_127 : decode cX12_result 127 = .ok (.iload_n 1, 1) := by decide +kernel
theorem dX12_result_128 : decode cX12_result 128 = .ok (.iconst 2, 1) := by decide +kernel
theorem dX12_result_129 : decode cX12_result 129 = .ok (.if_icmp .ne 7, 3) := by decide +kernel
theorem dX12_result_132 : decode cX12_result 132 = .ok (.iload_n 2, 1) := by decide +kernel
theorem dX12_result_133 : decode cX12_result 133 = .ok (.goto 16, 3) := by decide +kernel
theorem dX12_result_136 : decode cX12_result 136 = .ok (.iload_n 1, 1) := by decide +kernel
theorem dX12_result_137 : decode cX12_result 137 = .ok (.iconst 3, 1) := by decide +kernel
theorem dX12_result_138 : decode cX12_result 138 = .ok (.if_icmp .ne 7, 3) := by decide +kernel
theorem dX12_result_141 : decode cX12_result 141 = .ok (.iload_n 3, 1) := by decide +kernel
theorem dX12_result_142 : decode cX12_result 142 = .ok (.goto 7, 3) := by decide +kernel
theorem dX12_result_145 : decode cX12_result 145 = .ok (.aload_n 0, 1) := by decide +kernel
theorem dX12_result_146 : decode cX12_result 146 = .ok (.getfield 263, 3) := by decide +kernel
theorem dX12_result_149 : decode cX12_result 149 = .ok (.ireturn, 1) := by decide +kernel
theorem dX12_ran_0 : decode cX12_ran 0 = .ok (.aload_n 0, 1) := by decide +kernel
theorem dX12_ran_1 : decode cX12_ran 1 = .ok (.iconst 0, 1) := by decide +kernel
theorem dX12_ran_2 : decode cX12_ran 2 = .ok (.putfield 105, 3) := by decide +kernel
theorem dX12_ran_5 : decode cX12_ran 5 = .ok (.aload_n 0, 1) := by decide +kernel
theorem dX12_ran_6 : decode cX12_ran 6 = .ok (.iload_n 1, 1) := by decide +kernel
theorem dX12_ran_7 : decode cX12_ran 7 = .ok (.iconst 0, 1) := by decide +kernel
theorem dX12_ran_8 : decode cX12_ran 8 = .ok (.aload_n 0, 1) := by decide +kernel
theorem dX12_ran_9 : decode cX12_ran 9 = .ok (.getfield 49, 3) := by decide +kernel
theorem dX12_ran_12 : decode cX12_ran 12 = .ok (.iconst 0, 1) := by decide +kernel
theorem dX12_ran_13 : decode cX12_ran 13 = .ok (.iaload, 1) := by decide +kernel
theorem dX12_ran_14 : decode cX12_ran 14 = .ok (.iconst 1, 1) := by decide +kernel
theorem dX12_ran_15 : decode cX12_ran 15 = .ok (.isub, 1) := by decide +kernel
theorem dX12_ran_16 : decode cX12_ran 16 = .ok (.invokestatic 108, 3) := by decide +kernel
theorem dX12_ran_19 : decode cX12_ran 19 = .ok (.ifCond .ne 7, 3) := by decide +kernel
theorem dX12_ran_22 : decode cX12_ran 22 = .ok (.iconst 1, 1) := by decide +kernel
theorem dX12_ran_23 : decode cX12_ran 23 = .ok (.goto 4, 3) := by decide +kernel
theorem dX12_ran_26 : decode cX12_ran 26 = .ok (.iconst 0, 1) := by decide +kernel
theorem dX12_ran_27 : decode cX12_ran 27 = .ok (.iconst 1, 1) := by decide +kernel
theorem dX12_ran_28 : decode cX12_ran 28 = .ok (.iconst 0, 1) := by decide +kernel
theorem dX12_ran_29 : decode cX12_ran 29 = .ok (.invokevirtual 122, 3) := by decide +kernel
theorem dX12_ran_32 : decode cX12_ran 32 = .ok (.ifCond .ne 26, 3) := by decide +kernel
theorem dX12_ran_35 : decode cX12_ran 35 = .ok (.aload_n 0, 1) := by decide +kernel
theorem dX12_ran_36 : decode cX12_ran 36 = .ok (.iload_n 2, 1) := by decide +kernel
theorem dX12_ran_37 : decode cX12_ran 37 = .ok (.iconst 0, 1) := by decide +kernel
theorem dX12_ran_38 : decode cX12_ran 38 = .ok (.iconst 1, 1) := by decide +kernel
theorem dX12_ran_39 : decode cX12_ran 39 = .ok (.invokestatic 108, 3) := by decide +kernel
theorem dX12_ran_42 : decode cX12_ran 42 = .ok (.ifCond .ne 7, 3) := by decide +kernel
theorem dX12_ran_45 : decode cX12_ran 45 = .ok (.iconst 1, 1) := by decide +kernel
theorem dX12_ran_46 : decode cX12_ran 46 = .ok (.goto 4, 3) := by decide +kernel
theorem dX12_ran_49 : decode cX12_ran 49 = .ok (.iconst 0, 1) := by decide +kernel
theorem dX12_ran_50 : decode cX12_ran 50 = .ok (.iconst 2, 1) := by decide +kernel
theorem dX12_ran_51 : decode cX12_ran 51 = .ok (.iconst 1, 1) := by decide +kernel
theorem dX12_ran_52 : decode cX12_ran 52 = .ok (.invokevirtual 122, 3) := by decide +kernel
theorem dX12_ran_55 : decode cX12_ran 55 = .ok (.ifCond .eq 5, 3) := by decide +kernel
theorem dX12_ran_58 : decode cX12_ran 58 = .ok (.iconst 0, 1) := by decide +kernel
theorem dX12_ran_59 : decode cX12_ran 59 = .ok (.ireturn, 1) := by decide +kernel
theorem dX12_ran_60 : decode cX12_ran 60 = .ok (.aload_n 0, 1) := by decide +kernel
theorem dX12_ran_61 : decode cX12_ran 61 = .ok (.getfield 130, 3) := by decide +kernel
theorem dX12_ran_64 : decode cX12_ran 64 = .ok (.ifCond .eq 16, 3) := by decide +kernel
theorem dX12_ran_67 : decode cX12_ran 67 = .ok (.aload_n 0, 1) := by decide +kernel
theorem dX12_ran_68 : decode cX12_ran 68 = .ok (.getfield 263, 3) := by decide +kernel
theorem dX12_ran_71 : decode cX12_ran 71 = .ok (.aload_n 0, 1) := by decide +kernel
theorem dX12_ran_72 : decode cX12_ran 72 = .ok (.getfield 52, 3) := by decide +kernel
theorem dX12_ran_75 : decode cX12_ran 75 = .ok (.iconst 0, 1) := by decide +kernel
theorem dX12_ran_76 : decode cX12_ran 76 = .ok (.iaload, 1) := by decide +kernel
theorem dX12_ran_77 : decode cX12_ran 77 = .ok (.if_icmp .ge 5, 3) := by decide +kernel
theorem dX12_ran_80 : decode cX12_ran 80 = .ok (.iconst (-1), 1) := by decide +kernel
theorem dX12_ran_81 : decode cX12_ran 81 = .ok (.ireturn, 1) := by decide +kernel
theorem dX12_ran_82 : decode cX12_ran 82 = .ok (.aload_n 0, 1) := by decide +kernel
theorem dX12_ran_83 : decode cX12_ran 83 = .ok (.iconst 1, 1) := by decide +kernel
theorem dX12_ran_84 : decode cX12_ran 84 = .ok (.putfield 269, 3) := by decide +kernel
theorem dX12_ran_87 : decode cX12_ran 87 = .ok (.aload_n 0, 1) := by decide +kernel
theorem dX12_ran_88 : decode cX12_ran 88 = .ok (.iconst 0, 1) := by decide +kernel
theorem dX12_ran_89 : decode cX12_ran 89 = .ok (.putfield 272, 3) := by decide +kernel
theorem dX12_ran_92 : decode cX12_ran 92 = .ok (.aload_n 0, 1) := by decide +kernel
theorem dX12_ran_93 : decode cX12_ran 93 = .ok (.iconst 0, 1) := by decide +kernel
theorem dX12_ran_94 : decode cX12_ran 94 = .ok (.putfield 266, 3) := by decide +kernel
theorem dX12_ran_97 : decode cX12_ran 97 = .ok (.aload_n 0, 1) := by decide +kernel
theorem dX12_ran_98 : decode cX12_ran 98 = .ok (.iload_n 1, 1) := by decide +kernel
theorem dX12_ran_99 : decode cX12_ran 99 = .ok (.invokevirtual 286, 3) := by decide +kernel
theorem dX12_ran_102 : decode cX12_ran 102 = .ok (.aload_n 0, 1) := by decide +kernel
theorem dX12_ran_103 : decode cX12_ran 103 = .ok (.iconst 0, 1) := by decide +kernel
theorem dX12_ran_104 : decode cX12_ran 104 = .ok (.putfield 269, 3) := by decide +kernel
theorem dX12_ran_107 : decode cX12_ran 107 = .ok (.iload_n 2, 1) := by decide +kernel
theorem dX12_ran_108 : decode cX12_ran 108 = .ok (.ifCond .ne 10, 3) := by decide +kernel
theorem dX12_ran_111 : decode cX12_ran 111 = .ok (.aload_n 0, 1) := by decide +kernel
theorem dX12_ran_112 : decode cX12_ran 112 = .ok (.getfield 266, 3) := by decide +kernel
theorem dX12_ran_115 : decode cX12_ran 115 = .ok (.goto 7, 3) := by decide +kernel
theorem dX12_ran_118 : decode cX12_ran 118 = .ok (.aload_n 0, 1) := by decide +kernel
theorem dX12_ran_119 : decode cX12_ran 119 = .ok (.getfield 272, 3) := by decide +kernel
theorem dX12_ran_122 : decode cX12_ran 122 = .ok (.ireturn, 1) := by decide +kernel
theorem dX12_run_0 : decode cX12_run 0 = .ok (.iconst 0, 1) := by decide +kernel
