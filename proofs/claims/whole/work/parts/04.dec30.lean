theorem dX12_init_0 : decode cX12_init 0 = .ok (.aload_n 0, 1) := by decide +kernel
theorem dX12_init_1 : decode cX12_init 1 = .ok (.invokespecial 1, 3) := by decide +kernel
theorem dX12_init_4 : decode cX12_init 4 = .ok (.aload_n 0, 1) := by decide +kernel
theorem dX12_init_5 : decode cX12_init 5 = .ok (.iconst 3, 1) := by decide +kernel
theorem dX12_init_6 : decode cX12_init 6 = .ok (.newarray .int, 2) := by decide +kernel
theorem dX12_init_8 : decode cX12_init 8 = .ok (.putfield 7, 3) := by decide +kernel
theorem dX12_init_11 : decode cX12_init 11 = .ok (.aload_n 0, 1) := by decide +kernel
theorem dX12_init_12 : decode cX12_init 12 = .ok (.iconst (-1), 1) := by decide +kernel
theorem dX12_init_13 : decode cX12_init 13 = .ok (.putfield 13, 3) := by decide +kernel
theorem dX12_init_16 : decode cX12_init 16 = .ok (.aload_n 0, 1) := by decide +kernel
theorem dX12_init_17 : decode cX12_init 17 = .ok (.sipush 240, 3) := by decide +kernel
theorem dX12_init_20 : decode cX12_init 20 = .ok (.newarray .int, 2) := by decide +kernel
theorem dX12_init_22 : decode cX12_init 22 = .ok (.putfield 17, 3) := by decide +kernel
theorem dX12_init_25 : decode cX12_init 25 = .ok (.aload_n 0, 1) := by decide +kernel
theorem dX12_init_26 : decode cX12_init 26 = .ok (.iconst 1, 1) := by decide +kernel
theorem dX12_init_27 : decode cX12_init 27 = .ok (.putfield 20, 3) := by decide +kernel
theorem dX12_init_30 : decode cX12_init 30 = .ok (.aload_n 0, 1) := by decide +kernel
theorem dX12_init_31 : decode cX12_init 31 = .ok (.iconst 4, 1) := by decide +kernel
theorem dX12_init_32 : decode cX12_init 32 = .ok (.putfield 23, 3) := by decide +kernel
theorem dX12_init_35 : decode cX12_init 35 = .ok (.aload_n 0, 1) := by decide +kernel
theorem dX12_init_36 : decode cX12_init 36 = .ok (.iconst 2, 1) := by decide +kernel
theorem dX12_init_37 : decode cX12_init 37 = .ok (.sipush 241, 3) := by decide +kernel
theorem dX12_init_40 : decode cX12_init 40 = .ok (.multianewarray 26 2, 4) := by decide +kernel
theorem dX12_init_44 : decode cX12_init 44 = .ok (.putfield 28, 3) := by decide +kernel
theorem dX12_init_47 : decode cX12_init 47 = .ok (.aload_n 0, 1) := by decide +kernel
theorem dX12_init_48 : decode cX12_init 48 = .ok (.iconst 2, 1) := by decide +kernel
theorem dX12_init_49 : decode cX12_init 49 = .ok (.sipush 241, 3) := by decide +kernel
theorem dX12_init_52 : decode cX12_init 52 = .ok (.multianewarray 26 2, 4) := by decide +kernel
theorem dX12_init_56 : decode cX12_init 56 = .ok (.putfield 31, 3) := by decide +kernel
theorem dX12_init_59 : decode cX12_init 59 = .ok (.aload_n 0, 1) := by decide +kernel
theorem dX12_init_60 : decode cX12_init 60 = .ok (.iconst 2, 1) := by decide +kernel
theorem dX12_init_61 : decode cX12_init 61 = .ok (.sipush 241, 3) := by decide +kernel
theorem dX12_init_64 : decode cX12_init 64 = .ok (.multianewarray 26 2, 4) := by decide +kernel
theorem dX12_init_68 : decode cX12_init 68 = .ok (.putfield 34, 3) := by decide +kernel
theorem dX12_init_71 : decode cX12_init 71 = .ok (.aload_n 0, 1) := by decide +kernel
theorem dX12_init_72 : decode cX12_init 72 = .ok (.bipush 42, 2) := by decide +kernel
theorem dX12_init_74 : decode cX12_init 74 = .ok (.putfield 37, 3) := by decide +kernel
theorem dX12_init_77 : decode cX12_init 77 = .ok (.aload_n 0, 1) := by decide +kernel
theorem dX12_init_78 : decode cX12_init 78 = .ok (.bipush 42, 2) := by decide +kernel
theorem dX12_init_80 : decode cX12_init 80 = .ok (.putfield 40, 3) := by decide +kernel
theorem dX12_init_83 : decode cX12_init 83 = .ok (.aload_n 0, 1) := by decide +kernel
theorem dX12_init_84 : decode cX12_init 84 = .ok (.bipush 84, 2) := by decide +kernel
theorem dX12_init_86 : decode cX12_init 86 = .ok (.newarray .int, 2) := by decide +kernel
theorem dX12_init_88 : decode cX12_init 88 = .ok (.putfield 43, 3) := by decide +kernel
theorem dX12_init_91 : decode cX12_init 91 = .ok (.aload_n 0, 1) := by decide +kernel
theorem dX12_init_92 : decode cX12_init 92 = .ok (.bipush 40, 2) := by decide +kernel
theorem dX12_init_94 : decode cX12_init 94 = .ok (.newarray .int, 2) := by decide +kernel
theorem dX12_init_96 : decode cX12_init 96 = .ok (.putfield 46, 3) := by decide +kernel
theorem dX12_init_99 : decode cX12_init 99 = .ok (.aload_n 0, 1) := by decide +kernel
theorem dX12_init_100 : decode cX12_init 100 = .ok (.iconst 2, 1) := by decide +kernel
theorem dX12_init_101 : decode cX12_init 101 = .ok (.newarray .int, 2) := by decide +kernel
theorem dX12_init_103 : decode cX12_init 103 = .ok (.dup, 1) := by decide +kernel
theorem dX12_init_104 : decode cX12_init 104 = .ok (.iconst 0, 1) := by decide +kernel
theorem dX12_init_105 : decode cX12_init 105 = .ok (.iconst 1, 1) := by decide +kernel
theorem dX12_init_106 : decode cX12_init 106 = .ok (.iastore, 1) := by decide +kernel
theorem dX12_init_107 : decode cX12_init 107 = .ok (.dup, 1) := by decide +kernel
theorem dX12_init_108 : decode cX12_init 108 = .ok (.iconst 1, 1) := by decide +kernel
theorem dX12_init_109 : decode cX12_init 109 = .ok (.iconst 0, 1) := by decide +kernel
theorem dX12_init_110 : decode cX12_init 110 = .ok (.iastore, 1) := by decide +kernel
theorem dX12_init_111 : decode cX12_init 111 = .ok (.putfield 49, 3) := by decide +kernel
theorem dX12_init_114 : decode cX12_init 114 = .ok (.aload_n 0, 1) := by decide +kernel
theorem dX12_init_115 : decode cX12_init 115 = .ok (.iconst 2, 1) := by decide +kernel
theorem dX12_init_116 : decode cX12_init 116 = .ok (.newarray .int, 2) := by decide +kernel
theorem dX12_init_118 : decode cX12_init 118 = .ok (.dup, 1) := by decide +kernel
theorem dX12_init_119 : decode cX12_init 119 = .ok (.iconst 0, 1) := by decide +kernel
theorem dX12_init_120 : decode cX12_init 120 = .ok (.iconst 1, 1) := by decide +kernel
theorem dX12_init_121 : decode cX12_init 121 = .ok (.iastore, 1) := by decide +kernel
theorem dX12_init_122 : decode cX12_init 122 = .ok (.dup, 1) := by decide +kernel
theorem dX12_init_123 : decode cX12_init 123 = .ok (.iconst 1, 1) := by decide +kernel
theorem dX12_init_124 : decode cX12_init 124 = .ok (.iconst 0, 1) := by decide +kernel
theorem dX12_init_125 : decode cX12_init 125 = .ok (.iastore, 1) := by decide +kernel
theorem dX12_init_126 : decode cX12_init 126 = .ok (.putfield 52, 3) := by decide +kernel
theorem dX12_init_129 : decode cX12_init 129 = .ok (.aload_n 0, 1) := by decide +kernel
theorem dX12_init_130 : decode cX12_init 130 = .ok (.iconst 2, 1) := by decide +kernel
theorem dX12_init_131 : decode cX12_init 131 = .ok (.bipush 8, 2) := by decide +kernel
theorem dX12_init_133 : decode cX12_init 133 = .ok (.iconst 3, 1) := by decide +kernel
theorem dX12_init_134 : decode cX12_init 134 = .ok (.iconst 5, 1) := by decide +kernel
theorem dX12_init_135 : decode cX12_init 135 = .ok (.multianewarray 55 4, 4) := by decide +kernel
theorem dX12_init_139 : decode cX12_init 139 = .ok (.putfield 57, 3) := by decide +kernel
theorem dX12_init_142 : decode cX12_init 142 = .ok (.aload_n 0, 1) := by decide +kernel
theorem dX12_init_143 : decode cX12_init 143 = .ok (.sipush 241, 3) := by decide +kernel
theorem dX12_init_146 : decode cX12_init 146 = .ok (.newarray .int, 2) := by decide +kernel
theorem dX12_init_148 : decode cX12_init 148 = .ok (.putfield 60, 3) := by decide +kernel
theorem dX12_init_151 : decode cX12_init 151 = .ok (.aload_n 0, 1) := by decide +kernel
theorem dX12_init_152 : decode cX12_init 152 = .ok (.sipush 241, 3) := by decide +kernel
theorem dX12_init_155 : decode cX12_init 155 = .ok (.newarray .int, 2) := by decide +kernel
theorem dX12_init_157 : decode cX12_init 157 = .ok (.putfield 63, 3) := by decide +kernel
theorem dX12_init_160 : decode cX12_init 160 = .ok (.aload_n 0, 1) := by decide +kernel
theorem dX12_init_161 : decode cX12_init 161 = .ok (.bipush 24, 2) := by decide +kernel
theorem dX12_init_163 : decode cX12_init 163 = .ok (.newarray .int, 2) := by decide +kernel
theorem dX12_init_165 : decode cX12_init 165 = .ok (.putfield 66, 3) := by decide +kernel
theorem dX12_init_168 : decode cX12_init 168 = .ok (.aload_n 0, 1) := by decide +kernel
theorem dX12_init_169 : decode cX12_init 169 = .ok (.iconst 5, 1) := by decide +kernel
theorem dX12_init_170 : decode cX12_init 170 = .ok (.newarray .int, 2) := by decide +kernel
theorem dX12_init_172 : decode cX12_init 172 = .ok (.putfield 69, 3) := by decide +kernel
theorem dX12_init_175 : decode cX12_init 175 = .ok (.aload_n 0, 1) := by decide +kernel
theorem dX12_init_176 : decode cX12_init 176 = .ok (.iconst (-1), 1) := by decide +kernel
theorem dX12_init_177 : decode cX12_init 177 = .ok (.putfield 72, 3) := by decide +kernel
theorem dX12_init_180 : decode cX12_init 180 = .ok (.aload_n 0, 1) := by decide +kernel
theorem dX12_init_181 : decode cX12_init 181 = .ok (.bipush 24, 2) := by decide +kernel
theorem dX12_init_183 : decode cX12_init 183 = .ok (.newarray .int, 2) := by decide +kernel
theorem dX12_init_185 : decode cX12_init 185 = .ok (.putfield 75, 3) := by decide +kernel
theorem dX12_init_188 : decode cX12_init 188 = .ok (.aload_n 0, 1) := by decide +kernel
theorem dX12_init_189 : decode cX12_init 189 = .ok (.bipush 24, 2) := by decide +kernel
theorem dX12_init_191 : decode cX12_init 191 = .ok (.newarray .int, 2) := by decide +kernel
theorem dX12_init_193 : decode cX12_init 193 = .ok (.putfield 78, 3) := by decide +kernel
theorem dX12_init_196 : decode cX12_init 196 = .ok (.aload_n 0, 1) := by decide +kernel
theorem dX12_init_197 : decode cX12_init 197 = .ok (.bipush 24, 2) := by decide +kernel
theorem dX12_init_199 : decode cX12_init 199 = .ok (.newarray .int, 2) := by decide +kernel
theorem dX12_init_201 : decode cX12_init 201 = .ok (.putfield 81, 3) := by decide +kernel
theorem dX12_init_204 : decode cX12_init 204 = .ok (.aload_n 0, 1) := by decide +kernel
theorem dX12_init_205 : decode cX12_init 205 = .ok (.bipush 24, 2) := by decide +kernel
theorem dX12_init_207 : decode cX12_init 207 = .ok (.newarray .int, 2) := by decide +kernel
theorem dX12_init_209 : decode cX12_init 209 = .ok (.putfield 84, 3) := by decide +kernel
theorem dX12_init_212 : decode cX12_init 212 = .ok (.aload_n 0, 1) := by decide +kernel
theorem dX12_init_213 : decode cX12_init 213 = .ok (.bipush 25, 2) := by decide +kernel
theorem dX12_init_215 : decode cX12_init 215 = .ok (.sipush 241, 3) := by decide +kernel
theorem dX12_init_218 : decode cX12_init 218 = .ok (.multianewarray 26 2, 4) := by decide +kernel
theorem dX12_init_222 : decode cX12_init 222 = .ok (.putfield 87, 3) := by decide +kernel
theorem dX12_init_225 : decode cX12_init 225 = .ok (.aload_n 0, 1) := by decide +kernel
theorem dX12_init_226 : decode cX12_init 226 = .ok (.sipush 240, 3) := by decide +kernel
theorem dX12_init_229 : decode cX12_init 229 = .ok (.iconst 4, 1) := by decide +kernel
theorem dX12_init_230 : decode cX12_init 230 = .ok (.multianewarray 26 2, 4) := by decide +kernel
theorem dX12_init_234 : decode cX12_init 234 = .ok (.putfield 90, 3) := by decide +kernel
theorem dX12_init_237 : decode cX12_init 237 = .ok (.aload_n 0, 1) := by decide +kernel
theorem dX12_init_238 : decode cX12_init 238 = .ok (.sipush 240, 3) := by decide +kernel
theorem dX12_init_241 : decode cX12_init 241 = .ok (.newarray .int, 2) := by decide +kernel
theorem dX12_init_243 : decode cX12_init 243 = .ok (.putfield 93, 3) := by decide +kernel
theorem dX12_init_246 : decode cX12_init 246 = .ok (.aload_n 0, 1) := by decide +kernel
theorem dX12_init_247 : decode cX12_init 247 = .ok (.sipush 240, 3) := by decide +kernel
theorem dX12_init_250 : decode cX12_init 250 = .ok (.newarray .int, 2) := by decide +kernel
theorem dX12_init_252 : decode cX12_init 252 = .ok (.putfield 96, 3) := by decide +kernel
theorem dX12_init_255 : decode cX12_init 255 = .ok (.aload_n 0, 1) := by decide +kernel
theorem dX12_init_256 : decode cX12_init 256 = .ok (.iconst 3, 1) := by decide +kernel
theorem dX12_init_257 : decode cX12_init 257 = .ok (.newarray .int, 2) := by decide +kernel
theorem dX12_init_259 : decode cX12_init 259 = .ok (.putfield 99, 3) := by decide +kernel
theorem dX12_init_262 : decode cX12_init 262 = .ok (.aload_n 0, 1) := by decide +kernel
theorem dX12_init_263 : decode cX12_init 263 = .ok (.getfield 28, 3) := by decide +kernel
theorem dX12_init_266 : decode cX12_init 266 = .ok (.iconst 0, 1) := by decide +kernel
theorem dX12_init_267 : decode cX12_init 267 = .ok (.aaload, 1) := by decide +kernel
theorem dX12_init_268 : decode cX12_init 268 = .ok (.iconst 0, 1) := by decide +kernel
theorem dX12_init_269 : decode cX12_init 269 = .ok (.iconst 2, 1) := by decide +kernel
theorem dX12_init_270 : decode cX12_init 270 = .ok (.iastore, 1) := by decide +kernel
theorem dX12_init_271 : decode cX12_init 271 = .ok (.aload_n 0, 1) := by decide +kernel
theorem dX12_init_272 : decode cX12_init 272 = .ok (.invokevirtual 102, 3) := by decide +kernel
theorem dX12_init_275 : decode cX12_init 275 = .ok (.return_, 1) := by decide +kernel
theorem dX12_thrown_0 : decode cX12_thrown 0 = .ok (.aload_n 0, 1) := by decide +kernel
theorem dX12_thrown_1 : decode cX12_thrown 1 = .ok (.getfield 105, 3) := by decide +kernel
theorem dX12_thrown_4 : decode cX12_thrown 4 = .ok (.ireturn, 1) := by decide +kernel
theorem dX12_bad_0 : decode cX12_bad 0 = .ok (.iload_n 1, 1) := by decide +kernel
theorem dX12_bad_1 : decode cX12_bad 1 = .ok (.ifCond .eq 25, 3) := by decide +kernel
theorem dX12_bad_4 : decode cX12_bad 4 = .ok (.aload_n 0, 1) := by decide +kernel
theorem dX12_bad_5 : decode cX12_bad 5 = .ok (.getfield 105, 3) := by decide +kernel
theorem dX12_bad_8 : decode cX12_bad 8 = .ok (.ifCond .ne 18, 3) := by decide +kernel
theorem dX12_bad_11 : decode cX12_bad 11 = .ok (.aload_n 0, 1) := by decide +kernel
theorem dX12_bad_12 : decode cX12_bad 12 = .ok (.iload_n 2, 1) := by decide +kernel
theorem dX12_bad_13 : decode cX12_bad 13 = .ok (.putfield 105, 3) := by decide +kernel
theorem dX12_bad_16 : decode cX12_bad 16 = .ok (.aload_n 0, 1) := by decide +kernel
theorem dX12_bad_17 : decode cX12_bad 17 = .ok (.getfield 7, 3) := by decide +kernel
theorem dX12_bad_20 : decode cX12_bad 20 = .ok (.iload_n 3, 1) := by decide +kernel
theorem dX12_bad_21 : decode cX12_bad 21 = .ok (.dup2, 1) := by decide +kernel
theorem dX12_bad_22 : decode cX12_bad 22 = .ok (.iaload, 1) := by decide +kernel
theorem dX12_bad_23 : decode cX12_bad 23 = .ok (.iconst 1, 1) := by decide +kernel
theorem dX12_bad_24 : decode cX12_bad 24 = .ok (.iadd, 1) := by decide +kernel
theorem dX12_bad_25 : decode cX12_bad 25 = .ok (.iastore, 1) := by decide +kernel
theorem dX12_bad_26 : decode cX12_bad 26 = .ok (.aload_n 0, 1) := by decide +kernel
theorem dX12_bad_27 : decode cX12_bad 27 = .ok (.getfield 105, 3) := by decide +kernel
theorem dX12_bad_30 : decode cX12_bad 30 = .ok (.ifCond .eq 7, 3) := by decide +kernel
theorem dX12_bad_33 : decode cX12_bad 33 = .ok (.iconst 1, 1) := by decide +kernel
theorem dX12_bad_34 : decode cX12_bad 34 = .ok (.goto 4, 3) := by decide +kernel
theorem dX12_bad_37 : decode cX12_bad 37 = .ok (.iconst 0, 1) := by decide +kernel
theorem dX12_bad_38 : decode cX12_bad 38 = .ok (.ireturn, 1) := by decide +kernel
theorem dX12_in_0 : decode cX12_in 0 = .ok (.iload_n 0, 1) := by decide +kernel
theorem dX12_in_1 : decode cX12_in 1 = .ok (.iload_n 1, 1) := by decide +kernel
theorem dX12_in_2 : decode cX12_in 2 = .ok (.if_icmp .lt 12, 3) := by decide +kernel
theorem dX12_in_5 : decode cX12_in 5 = .ok (.iload_n 0, 1) := by decide +kernel
theorem dX12_in_6 : decode cX12_in 6 = .ok (.iload_n 2, 1) := by decide +kernel
theorem dX12_in_7 : decode cX12_in 7 = .ok (.if_icmp .gt 7, 3) := by decide +kernel
theorem dX12_in_10 : decode cX12_in 10 = .ok (.iconst 1, 1) := by decide +kernel
theorem dX12_in_11 : decode cX12_in 11 = .ok (.goto 4, 3) := by decide +kernel
theorem dX12_in_14 : decode cX12_in 14 = .ok (.iconst 0, 1) := by decide +kernel
theorem dX12_in_15 : decode cX12_in 15 = .ok (.ireturn, 1) := by decide +kernel
theorem dX12_less_0 : decode cX12_less 0 = .ok (.iload_n 0, 1) := by decide +kernel
theorem dX12_less_1 : decode cX12_less 1 = .ok (.iload_n 1, 1) := by decide +kernel
theorem dX12_less_2 : decode cX12_less 2 = .ok (.if_icmp .ge 7, 3) := by decide +kernel
theorem dX12_less_5 : decode cX12_less 5 = .ok (.iload_n 0, 1) := by decide +kernel
theorem dX12_less_6 : decode cX12_less 6 = .ok (.goto 4, 3) := by decide +kernel
theorem dX12_less_9 : decode cX12_less 9 = .ok (.iload_n 1, 1) := by decide +kernel
theorem dX12_less_10 : decode cX12_less 10 = .ok (.ireturn, 1) := by decide +kernel
theorem dX12_more_0 : decode cX12_more 0 = .ok (.iload_n 0, 1) := by decide +kernel
theorem dX12_more_1 : decode cX12_more 1 = .ok (.iload_n 1, 1) := by decide +kernel
theorem dX12_more_2 : decode cX12_more 2 = .ok (.if_icmp .le 7, 3) := by decide +kernel
theorem dX12_more_5 : decode cX12_more 5 = .ok (.iload_n 0, 1) := by decide +kernel
theorem dX12_more_6 : decode cX12_more 6 = .ok (.goto 4, 3) := by decide +kernel
theorem dX12_more_9 : decode cX12_more 9 = .ok (.iload_n 1, 1) := by decide +kernel
theorem dX12_more_10 : decode cX12_more 10 = .ok (.ireturn, 1) := by decide +kernel
theorem dX12_isLetter_0 : decode cX12_isLetter 0 = .ok (.iload_n 0, 1) := by decide +kernel
theorem dX12_isLetter_1 : decode cX12_isLetter 1 = .ok (.bipush 97, 2) := by decide +kernel
theorem dX12_isLetter_3 : decode cX12_isLetter 3 = .ok (.bipush 104, 2) := by decide +kernel
theorem dX12_isLetter_5 : decode cX12_isLetter 5 = .ok (.invokestatic 108, 3) := by decide +kernel
theorem dX12_isLetter_8 : decode cX12_isLetter 8 = .ok (.ireturn, 1) := by decide +kernel
theorem dX12_byteOf_0 : decode cX12_byteOf 0 = .ok (.iload_n 0, 1) := by decide +kernel
theorem dX12_byteOf_1 : decode cX12_byteOf 1 = .ok (.ifCond .ne 7, 3) := by decide +kernel
theorem dX12_byteOf_4 : decode cX12_byteOf 4 = .ok (.iconst 0, 1) := by decide +kernel
theorem dX12_byteOf_5 : decode cX12_byteOf 5 = .ok (.goto 19, 3) := by decide +kernel
theorem dX12_byteOf_8 : decode cX12_byteOf 8 = .ok (.iload_n 0, 1) := by decide +kernel
theorem dX12_byteOf_9 : decode cX12_byteOf 9 = .ok (.iconst 1, 1) := by decide +kernel
theorem dX12_byteOf_10 : decode cX12_byteOf 10 = .ok (.if_icmp .ne 8, 3) := by decide +kernel
theorem dX12_byteOf_13 : decode cX12_byteOf 13 = .ok (.bipush 124, 2) := by decide +kernel
theorem dX12_byteOf_15 : decode cX12_byteOf 15 = .ok (.goto 9, 3) := by decide +kernel
theorem dX12_byteOf_18 : decode cX12_byteOf 18 = .ok (.bipush 97, 2) := by decide +kernel
theorem dX12_byteOf_20 : decode cX12_byteOf 20 = .ok (.iload_n 0, 1) := by decide +kernel
theorem dX12_byteOf_21 : decode cX12_byteOf 21 = .ok (.iadd, 1) := by decide +kernel
theorem dX12_byteOf_22 : decode cX12_byteOf 22 = .ok (.iconst 2, 1) := by decide +kernel
theorem dX12_byteOf_23 : decode cX12_byteOf 23 = .ok (.isub, 1) := by decide +kernel
theorem dX12_byteOf_24 : decode cX12_byteOf 24 = .ok (.ireturn, 1) := by decide +kernel
theorem dX12_isAhead_0 : decode cX12_isAhead 0 = .ok (.iconst 0, 1) := by decide +kernel
theorem dX12_isAhead_1 : decode cX12_isAhead 1 = .ok (.istore 4, 2) := by decide +kernel
theorem dX12_isAhead_3 : decode cX12_isAhead 3 = .ok (.iload_n 2, 1) := by decide +kernel
theorem dX12_isAhead_4 : decode cX12_isAhead 4 = .ok (.iload 4, 2) := by decide +kernel
theorem dX12_isAhead_6 : decode cX12_isAhead 6 = .ok (.iadd, 1) := by decide +kernel
theorem dX12_isAhead_7 : decode cX12_isAhead 7 = .ok (.aload_n 0, 1) := by decide +kernel
theorem dX12_isAhead_8 : decode cX12_isAhead 8 = .ok (.getfield 20, 3) := by decide +kernel
theorem dX12_isAhead_11 : decode cX12_isAhead 11 = .ok (.if_icmp .ge 45, 3) := by decide +kernel
theorem dX12_isAhead_14 : decode cX12_isAhead 14 = .ok (.iload_n 3, 1) := by decide +kernel
theorem dX12_isAhead_15 : decode cX12_isAhead 15 = .ok (.iload 4, 2) := by decide +kernel
theorem dX12_isAhead_17 : decode cX12_isAhead 17 = .ok (.iadd, 1) := by decide +kernel
theorem dX12_isAhead_18 : decode cX12_isAhead 18 = .ok (.aload_n 0, 1) := by decide +kernel
theorem dX12_isAhead_19 : decode cX12_isAhead 19 = .ok (.getfield 20, 3) := by decide +kernel
theorem dX12_isAhead_22 : decode cX12_isAhead 22 = .ok (.if_icmp .ge 34, 3) := by decide +kernel
theorem dX12_isAhead_25 : decode cX12_isAhead 25 = .ok (.aload_n 0, 1) := by decide +kernel
theorem dX12_isAhead_26 : decode cX12_isAhead 26 = .ok (.getfield 28, 3) := by decide +kernel
theorem dX12_isAhead_29 : decode cX12_isAhead 29 = .ok (.iload_n 1, 1) := by decide +kernel
theorem dX12_isAhead_30 : decode cX12_isAhead 30 = .ok (.aaload, 1) := by decide +kernel
theorem dX12_isAhead_31 : decode cX12_isAhead 31 = .ok (.iload_n 2, 1) := by decide +kernel
theorem dX12_isAhead_32 : decode cX12_isAhead 32 = .ok (.iload 4, 2) := by decide +kernel
theorem dX12_isAhead_34 : decode cX12_isAhead 34 = .ok (.iadd, 1) := by decide +kernel
theorem dX12_isAhead_35 : decode cX12_isAhead 35 = .ok (.iaload, 1) := by decide +kernel
theorem dX12_isAhead_36 : decode cX12_isAhead 36 = .ok (.aload_n 0, 1) := by decide +kernel
theorem dX12_isAhead_37 : decode cX12_isAhead 37 = .ok (.getfield 28, 3) := by decide +kernel
theorem dX12_isAhead_40 : decode cX12_isAhead 40 = .ok (.iload_n 1, 1) := by decide +kernel
theorem dX12_isAhead_41 : decode cX12_isAhead 41 = .ok (.aaload, 1) := by decide +kernel
theorem dX12_isAhead_42 : decode cX12_isAhead 42 = .ok (.iload_n 3, 1) := by decide +kernel
theorem dX12_isAhead_43 : decode cX12_isAhead 43 = .ok (.iload 4, 2) := by decide +kernel
theorem dX12_isAhead_45 : decode cX12_isAhead 45 = .ok (.iadd, 1) := by decide +kernel
theorem dX12_isAhead_46 : decode cX12_isAhead 46 = .ok (.iaload, 1) := by decide +kernel
theorem dX12_isAhead_47 : decode cX12_isAhead 47 = .ok (.if_icmp .ne 9, 3) := by decide +kernel
theorem dX12_isAhead_50 : decode cX12_isAhead 50 = .ok (.iinc 4 1, 3) := by decide +kernel
theorem dX12_isAhead_53 : decode cX12_isAhead 53 = .ok (.goto (-50), 3) := by decide +kernel
theorem dX12_isAhead_56 : decode cX12_isAhead 56 = .ok (.iload_n 2, 1) := by decide +kernel
theorem dX12_isAhead_57 : decode cX12_isAhead 57 = .ok (.iload 4, 2) := by decide +kernel
theorem dX12_isAhead_59 : decode cX12_isAhead 59 = .ok (.iadd, 1) := by decide +kernel
theorem dX12_isAhead_60 : decode cX12_isAhead 60 = .ok (.aload_n 0, 1) := by decide +kernel
theorem dX12_isAhead_61 : decode cX12_isAhead 61 = .ok (.getfield 20, 3) := by decide +kernel
theorem dX12_isAhead_64 : decode cX12_isAhead 64 = .ok (.if_icmp .ge 17, 3) := by decide +kernel
theorem dX12_isAhead_67 : decode cX12_isAhead 67 = .ok (.aload_n 0, 1) := by decide +kernel
theorem dX12_isAhead_68 : decode cX12_isAhead 68 = .ok (.getfield 28, 3) := by decide +kernel
theorem dX12_isAhead_71 : decode cX12_isAhead 71 = .ok (.iload_n 1, 1) := by decide +kernel
theorem dX12_isAhead_72 : decode cX12_isAhead 72 = .ok (.aaload, 1) := by decide +kernel
theorem dX12_isAhead_73 : decode cX12_isAhead 73 = .ok (.iload_n 2, 1) := by decide +kernel
theorem dX12_isAhead_74 : decode cX12_isAhead 74 = .ok (.iload 4, 2) := by decide +kernel
theorem dX12_isAhead_76 : decode cX12_isAhead 76 = .ok (.iadd, 1) := by decide +kernel
theorem dX12_isAhead_77 : decode cX12_isAhead 77 = .ok (.iaload, 1) := by decide +kernel
theorem dX12_isAhead_78 : decode cX12_isAhead 78 = .ok (.goto 4, 3) := by decide +kernel
theorem dX12_isAhead_81 : decode cX12_isAhead 81 = .ok (.iconst 0, 1) := by decide +kernel
theorem dX12_isAhead_82 : decode cX12_isAhead 82 = .ok (.istore 5, 2) := by decide +kernel
theorem dX12_isAhead_84 : decode cX12_isAhead 84 = .ok (.iload_n 3, 1) := by decide +kernel
theorem dX12_isAhead_85 : decode cX12_isAhead 85 = .ok (.iload 4, 2) := by decide +kernel
theorem dX12_isAhead_87 : decode cX12_isAhead 87 = .ok (.iadd, 1) := by decide +kernel
theorem dX12_isAhead_88 : decode cX12_isAhead 88 = .ok (.aload_n 0, 1) := by decide +kernel
theorem dX12_isAhead_89 : decode cX12_isAhead 89 = .ok (.getfield 20, 3) := by decide +kernel
theorem dX12_isAhead_92 : decode cX12_isAhead 92 = .ok (.if_icmp .ge 17, 3) := by decide +kernel
theorem dX12_isAhead_95 : decode cX12_isAhead 95 = .ok (.aload_n 0, 1) := by decide +kernel
theorem dX12_isAhead_96 : decode cX12_isAhead 96 = .ok (.getfield 28, 3) := by decide +kernel
theorem dX12_isAhead_99 : decode cX12_isAhead 99 = .ok (.iload_n 1, 1) := by decide +kernel
theorem dX12_isAhead_100 : decode cX12_isAhead 100 = .ok (.aaload, 1) := by decide +kernel
theorem dX12_isAhead_101 : decode cX12_isAhead 101 = .ok (.iload_n 3, 1) := by decide +kernel
theorem dX12_isAhead_102 : decode cX12_isAhead 102 = .ok (.iload 4, 2) := by decide +kernel
theorem dX12_isAhead_104 : decode cX12_isAhead 104 = .ok (.iadd, 1) := by decide +kernel
theorem dX12_isAhead_105 : decode cX12_isAhead 105 = .ok (.iaload, 1) := by decide +kernel
theorem dX12_isAhead_106 : decode cX12_isAhead 106 = .ok (.goto 4, 3) := by decide +kernel
theorem dX12_isAhead_109 : decode cX12_isAhead 109 = .ok (.iconst 0, 1) := by decide +kernel
theorem dX12_isAhead_110 : decode cX12_isAhead 110 = .ok (.istore 6, 2) := by decide +kernel
theorem dX12_isAhead_112 : decode cX12_isAhead 112 = .ok (.iload 5, 2) := by decide +kernel
theorem dX12_isAhead_114 : decode cX12_isAhead 114 = .ok (.iload 6, 2) := by decide +kernel
theorem dX12_isAhead_116 : decode cX12_isAhead 116 = .ok (.if_icmp .ge 7, 3) := by decide +kernel
theorem dX12_isAhead_119 : decode cX12_isAhead 119 = .ok (.iconst 1, 1) := by decide +kernel
theorem dX12_isAhead_120 : decode cX12_isAhead 120 = .ok (.goto 4, 3) := by decide +kernel
theorem dX12_isAhead_123 : decode cX12_isAhead 123 = .ok (.iconst 0, 1) := by decide +kernel
theorem dX12_isAhead_124 : decode cX12_isAhead 124 = .ok (.ireturn, 1) := by decide +kernel
theorem dX12_laysRows_0 : decode cX12_laysRows 0 = .ok (.aload_n 0, 1) := by decide +kernel
theorem dX12_laysRows_1 : decode cX12_laysRows 1 = .ok (.getfield 28, 3) := by decide +kernel
theorem dX12_laysRows_4 : decode cX12_laysRows 4 = .ok (.iconst 0, 1) := by decide +kernel
theorem dX12_laysRows_5 : decode cX12_laysRows 5 = .ok (.aaload, 1) := by decide +kernel
theorem dX12_laysRows_6 : decode cX12_laysRows 6 = .ok (.aload_n 0, 1) := by decide +kernel
theorem dX12_laysRows_7 : decode cX12_laysRows 7 = .ok (.getfield 20, 3) := by decide +kernel
theorem dX12_laysRows_10 : decode cX12_laysRows 10 = .ok (.iconst 0, 1) := by decide +kernel
theorem dX12_laysRows_11 : decode cX12_laysRows 11 = .ok (.iastore, 1) := by decide +kernel
theorem dX12_laysRows_12 : decode cX12_laysRows 12 = .ok (.iconst 0, 1) := by decide +kernel
theorem dX12_laysRows_13 : decode cX12_laysRows 13 = .ok (.istore_n 1, 1) := by decide +kernel
theorem dX12_laysRows_14 : decode cX12_laysRows 14 = .ok (.iload_n 1, 1) := by decide +kernel
theorem dX12_laysRows_15 : decode cX12_laysRows 15 = .ok (.aload_n 0, 1) := by decide +kernel
theorem dX12_laysRows_16 : decode cX12_laysRows 16 = .ok (.getfield 20, 3) := by decide +kernel
theorem dX12_laysRows_19 : decode cX12_laysRows 19 = .ok (.if_icmp .ge 32, 3) := by decide +kernel
theorem dX12_laysRows_22 : decode cX12_laysRows 22 = .ok (.aload_n 0, 1) := by decide +kernel
theorem dX12_laysRows_23 : decode cX12_laysRows 23 = .ok (.getfield 28, 3) := by decide +kernel
theorem dX12_laysRows_26 : decode cX12_laysRows 26 = .ok (.iconst 1, 1) := by decide +kernel
theorem dX12_laysRows_27 : decode cX12_laysRows 27 = .ok (.aaload, 1) := by decide +kernel
theorem dX12_laysRows_28 : decode cX12_laysRows 28 = .ok (.iload_n 1, 1) := by decide +kernel
theorem dX12_laysRows_29 : decode cX12_laysRows 29 = .ok (.aload_n 0, 1) := by decide +kernel
theorem dX12_laysRows_30 : decode cX12_laysRows 30 = .ok (.getfield 28, 3) := by decide +kernel
theorem dX12_laysRows_33 : decode cX12_laysRows 33 = .ok (.iconst 0, 1) := by decide +kernel
theorem dX12_laysRows_34 : decode cX12_laysRows 34 = .ok (.aaload, 1) := by decide +kernel
theorem dX12_laysRows_35 : decode cX12_laysRows 35 = .ok (.aload_n 0, 1) := by decide +kernel
theorem dX12_laysRows_36 : decode cX12_laysRows 36 = .ok (.getfield 20, 3) := by decide +kernel
theorem dX12_laysRows_39 : decode cX12_laysRows 39 = .ok (.iconst 1, 1) := by decide +kernel
theorem dX12_laysRows_40 : decode cX12_laysRows 40 = .ok (.isub, 1) := by decide +kernel
theorem dX12_laysRows_41 : decode cX12_laysRows 41 = .ok (.iload_n 1, 1) := by decide +kernel
theorem dX12_laysRows_42 : decode cX12_laysRows 42 = .ok (.isub, 1) := by decide +kernel
theorem dX12_laysRows_43 : decode cX12_laysRows 43 = .ok (.iaload, 1) := by decide +kernel
theorem dX12_laysRows_44 : decode cX12_laysRows 44 = .ok (.iastore, 1) := by decide +kernel
theorem dX12_laysRows_45 : decode cX12_laysRows 45 = .ok (.iinc 1 1, 3) := by decide +kernel
theorem dX12_laysRows_48 : decode cX12_laysRows 48 = .ok (.goto (-34), 3) := by decide +kernel
theorem dX12_laysRows_51 : decode cX12_laysRows 51 = .ok (.aload_n 0, 1) := by decide +kernel
theorem dX12_laysRows_52 : decode cX12_laysRows 52 = .ok (.getfield 28, 3) := by decide +kernel
theorem dX12_laysRows_55 : decode cX12_laysRows 55 = .ok (.iconst 1, 1) := by decide +kernel
theorem dX12_laysRows_56 : decode cX12_laysRows 56 = .ok (.aaload, 1) := by decide +kernel
theorem dX12_laysRows_57 : decode cX12_laysRows 57 = .ok (.aload_n 0, 1) := by decide +kernel
theorem dX12_laysRows_58 : decode cX12_laysRows 58 = .ok (.getfield 20, 3) := by decide +kernel
theorem dX12_laysRows_61 : decode cX12_laysRows 61 = .ok (.iconst 0, 1) := by decide +kernel
theorem dX12_laysRows_62 : decode cX12_laysRows 62 = .ok (.iastore, 1) := by decide +kernel
theorem dX12_laysRows_63 : decode cX12_laysRows 63 = .ok (.iconst 0, 1) := by decide +kernel
theorem dX12_laysRows_64 : decode cX12_laysRows 64 = .ok (.istore_n 1, 1) := by decide +kernel
theorem dX12_laysRows_65 : decode cX12_laysRows 65 = .ok (.iload_n 1, 1) := by decide +kernel
theorem dX12_laysRows_66 : decode cX12_laysRows 66 = .ok (.iconst 2, 1) := by decide +kernel
theorem dX12_laysRows_67 : decode cX12_laysRows 67 = .ok (.if_icmp .ge 115, 3) := by decide +kernel
theorem dX12_laysRows_70 : decode cX12_laysRows 70 = .ok (.iconst 0, 1) := by decide +kernel
theorem dX12_laysRows_71 : decode cX12_laysRows 71 = .ok (.istore_n 2, 1) := by decide +kernel
theorem dX12_laysRows_72 : decode cX12_laysRows 72 = .ok (.iload_n 2, 1) := by decide +kernel
theorem dX12_laysRows_73 : decode cX12_laysRows 73 = .ok (.aload_n 0, 1) := by decide +kernel
theorem dX12_laysRows_74 : decode cX12_laysRows 74 = .ok (.getfield 20, 3) := by decide +kernel
theorem dX12_laysRows_77 : decode cX12_laysRows 77 = .ok (.if_icmp .gt 67, 3) := by decide +kernel
theorem dX12_laysRows_80 : decode cX12_laysRows 80 = .ok (.iload_n 2, 1) := by decide +kernel
theorem dX12_laysRows_81 : decode cX12_laysRows 81 = .ok (.istore_n 3, 1) := by decide +kernel
theorem dX12_laysRows_82 : decode cX12_laysRows 82 = .ok (.iload_n 3, 1) := by decide +kernel
theorem dX12_laysRows_83 : decode cX12_laysRows 83 = .ok (.ifCond .le 46, 3) := by decide +kernel
theorem dX12_laysRows_86 : decode cX12_laysRows 86 = .ok (.aload_n 0, 1) := by decide +kernel
theorem dX12_laysRows_87 : decode cX12_laysRows 87 = .ok (.iload_n 1, 1) := by decide +kernel
theorem dX12_laysRows_88 : decode cX12_laysRows 88 = .ok (.iload_n 2, 1) := by decide +kernel
theorem dX12_laysRows_89 : decode cX12_laysRows 89 = .ok (.aload_n 0, 1) := by decide +kernel
theorem dX12_laysRows_90 : decode cX12_laysRows 90 = .ok (.getfield 31, 3) := by decide +kernel
theorem dX12_laysRows_93 : decode cX12_laysRows 93 = .ok (.iload_n 1, 1) := by decide +kernel
theorem dX12_laysRows_94 : decode cX12_laysRows 94 = .ok (.aaload, 1) := by decide +kernel
theorem dX12_laysRows_95 : decode cX12_laysRows 95 = .ok (.iload_n 3, 1) := by decide +kernel
theorem dX12_laysRows_96 : decode cX12_laysRows 96 = .ok (.iconst 1, 1) := by decide +kernel
theorem dX12_laysRows_97 : decode cX12_laysRows 97 = .ok (.isub, 1) := by decide +kernel
theorem dX12_laysRows_98 : decode cX12_laysRows 98 = .ok (.iaload, 1) := by decide +kernel
theorem dX12_laysRows_99 : decode cX12_laysRows 99 = .ok (.invokevirtual 112, 3) := by decide +kernel
theorem dX12_laysRows_102 : decode cX12_laysRows 102 = .ok (.ifCond .eq 27, 3) := by decide +kernel
theorem dX12_laysRows_105 : decode cX12_laysRows 105 = .ok (.aload_n 0, 1) := by decide +kernel
theorem dX12_laysRows_106 : decode cX12_laysRows 106 = .ok (.getfield 31, 3) := by decide +kernel
theorem dX12_laysRows_109 : decode cX12_laysRows 109 = .ok (.iload_n 1, 1) := by decide +kernel
theorem dX12_laysRows_110 : decode cX12_laysRows 110 = .ok (.aaload, 1) := by decide +kernel
theorem dX12_laysRows_111 : decode cX12_laysRows 111 = .ok (.iload_n 3, 1) := by decide +kernel
theorem dX12_laysRows_112 : decode cX12_laysRows 112 = .ok (.aload_n 0, 1) := by decide +kernel
theorem dX12_laysRows_113 : decode cX12_laysRows 113 = .ok (.getfield 31, 3) := by decide +kernel
theorem dX12_laysRows_116 : decode cX12_laysRows 116 = .ok (.iload_n 1, 1) := by decide +kernel
theorem dX12_laysRows_117 : decode cX12_laysRows 117 = .ok (.aaload, 1) := by decide +kernel
theorem dX12_laysRows_118 : decode cX12_laysRows 118 = .ok (.iload_n 3, 1) := by decide +kernel
theorem dX12_laysRows_119 : decode cX12_laysRows 119 = .ok (.iconst 1, 1) := by decide +kernel
theorem dX12_laysRows_120 : decode cX12_laysRows 120 = .ok (.isub, 1) := by decide +kernel
theorem dX12_laysRows_121 : decode cX12_laysRows 121 = .ok (.iaload, 1) := by decide +kernel
theorem dX12_laysRows_122 : decode cX12_laysRows 122 = .ok (.iastore, 1) := by decide +kernel
theorem dX12_laysRows_123 : decode cX12_laysRows 123 = .ok (.iinc 3 (-1), 3) := by decide +kernel
theorem dX12_laysRows_126 : decode cX12_laysRows 126 = .ok (.goto (-44), 3) := by decide +kernel
theorem dX12_laysRows_129 : decode cX12_laysRows 129 = .ok (.aload_n 0, 1) := by decide +kernel
theorem dX12_laysRows_130 : decode cX12_laysRows 130 = .ok (.getfield 31, 3) := by decide +kernel
theorem dX12_laysRows_133 : decode cX12_laysRows 133 = .ok (.iload_n 1, 1) := by decide +kernel
theorem dX12_laysRows_134 : decode cX12_laysRows 134 = .ok (.aaload, 1) := by decide +kernel
theorem dX12_laysRows_135 : decode cX12_laysRows 135 = .ok (.iload_n 3, 1) := by decide +kernel
theorem dX12_laysRows_136 : decode cX12_laysRows 136 = .ok (.iload_n 2, 1) := by decide +kernel
theorem dX12_laysRows_137 : decode cX12_laysRows 137 = .ok (.iastore, 1) := by decide +kernel
theorem dX12_laysRows_138 : decode cX12_laysRows 138 = .ok (.iinc 2 1, 3) := by decide +kernel
theorem dX12_laysRows_141 : decode cX12_laysRows 141 = .ok (.goto (-69), 3) := by decide +kernel
theorem dX12_laysRows_144 : decode cX12_laysRows 144 = .ok (.iconst 0, 1) := by decide +kernel
theorem dX12_laysRows_145 : decode cX12_laysRows 145 = .ok (.istore_n 2, 1) := by decide +kernel
theorem dX12_laysRows_146 : decode cX12_laysRows 146 = .ok (.iload_n 2, 1) := by decide +kernel
theorem dX12_laysRows_147 : decode cX12_laysRows 147 = .ok (.aload_n 0, 1) := by decide +kernel
theorem dX12_laysRows_148 : decode cX12_laysRows 148 = .ok (.getfield 20, 3) := by decide +kernel
theorem dX12_laysRows_151 : decode cX12_laysRows 151 = .ok (.if_icmp .gt 25, 3) := by decide +kernel
theorem dX12_laysRows_154 : decode cX12_laysRows 154 = .ok (.aload_n 0, 1) := by decide +kernel
theorem dX12_laysRows_155 : decode cX12_laysRows 155 = .ok (.getfield 34, 3) := by decide +kernel
theorem dX12_laysRows_158 : decode cX12_laysRows 158 = .ok (.iload_n 1, 1) := by decide +kernel
theorem dX12_laysRows_159 : decode cX12_laysRows 159 = .ok (.aaload, 1) := by decide +kernel
theorem dX12_laysRows_160 : decode cX12_laysRows 160 = .ok (.aload_n 0, 1) := by decide +kernel
theorem dX12_laysRows_161 : decode cX12_laysRows 161 = .ok (.getfield 31, 3) := by decide +kernel
theorem dX12_laysRows_164 : decode cX12_laysRows 164 = .ok (.iload_n 1, 1) := by decide +kernel
theorem dX12_laysRows_165 : decode cX12_laysRows 165 = .ok (.aaload, 1) := by decide +kernel
theorem dX12_laysRows_166 : decode cX12_laysRows 166 = .ok (.iload_n 2, 1) := by decide +kernel
theorem dX12_laysRows_167 : decode cX12_laysRows 167 = .ok (.iaload, 1) := by decide +kernel
theorem dX12_laysRows_168 : decode cX12_laysRows 168 = .ok (.iload_n 2, 1) := by decide +kernel
theorem dX12_laysRows_169 : decode cX12_laysRows 169 = .ok (.iastore, 1) := by decide +kernel
theorem dX12_laysRows_170 : decode cX12_laysRows 170 = .ok (.iinc 2 1, 3) := by decide +kernel
theorem dX12_laysRows_173 : decode cX12_laysRows 173 = .ok (.goto (-27), 3) := by decide +kernel
theorem dX12_laysRows_176 : decode cX12_laysRows 176 = .ok (.iinc 1 1, 3) := by decide +kernel
theorem dX12_laysRows_179 : decode cX12_laysRows 179 = .ok (.goto (-114), 3) := by decide +kernel
theorem dX12_laysRows_182 : decode cX12_laysRows 182 = .ok (.return_, 1) := by decide +kernel
theorem dX12_feed_0 : decode cX12_feed 0 = .ok (.aload_n 0, 1) := by decide +kernel
theorem dX12_feed_1 : decode cX12_feed 1 = .ok (.iconst 0, 1) := by decide +kernel
theorem dX12_feed_2 : decode cX12_feed 2 = .ok (.putfield 105, 3) := by decide +kernel
theorem dX12_feed_5 : decode cX12_feed 5 = .ok (.aload_n 0, 1) := by decide +kernel
theorem dX12_feed_6 : decode cX12_feed 6 = .ok (.getfield 115, 3) := by decide +kernel
theorem dX12_feed_9 : decode cX12_feed 9 = .ok (.bipush 20, 2) := by decide +kernel
theorem dX12_feed_11 : decode cX12_feed 11 = .ok (.iadd, 1) := by decide +kernel
theorem dX12_feed_12 : decode cX12_feed 12 = .ok (.sipush 240, 3) := by decide +kernel
theorem dX12_feed_15 : decode cX12_feed 15 = .ok (.if_icmp .le 5, 3) := by decide +kernel
theorem dX12_feed_18 : decode cX12_feed 18 = .ok (.iconst (-1), 1) := by decide +kernel
theorem dX12_feed_19 : decode cX12_feed 19 = .ok (.ireturn, 1) := by decide +kernel
theorem dX12_feed_20 : decode cX12_feed 20 = .ok (.iconst 0, 1) := by decide +kernel
theorem dX12_feed_21 : decode cX12_feed 21 = .ok (.istore 6, 2) := by decide +kernel
theorem dX12_feed_23 : decode cX12_feed 23 = .ok (.iload 6, 2) := by decide +kernel
theorem dX12_feed_25 : decode cX12_feed 25 = .ok (.bipush 20, 2) := by decide +kernel
theorem dX12_feed_27 : decode cX12_feed 27 = .ok (.if_icmp .ge 93, 3) := by decide +kernel
theorem dX12_feed_30 : decode cX12_feed 30 = .ok (.iload 6, 2) := by decide +kernel
theorem dX12_feed_32 : decode cX12_feed 32 = .ok (.iconst 4, 1) := by decide +kernel
theorem dX12_feed_33 : decode cX12_feed 33 = .ok (.if_icmp .ge 7, 3) := by decide +kernel
theorem dX12_feed_36 : decode cX12_feed 36 = .ok (.iload_n 1, 1) := by decide +kernel
theorem dX12_feed_37 : decode cX12_feed 37 = .ok (.goto 39, 3) := by decide +kernel
theorem dX12_feed_40 : decode cX12_feed 40 = .ok (.iload 6, 2) := by decide +kernel
theorem dX12_feed_42 : decode cX12_feed 42 = .ok (.bipush 8, 2) := by decide +kernel
theorem dX12_feed_44 : decode cX12_feed 44 = .ok (.if_icmp .ge 7, 3) := by decide +kernel
theorem dX12_feed_47 : decode cX12_feed 47 = .ok (.iload_n 2, 1) := by decide +kernel
theorem dX12_feed_48 : decode cX12_feed 48 = .ok (.goto 28, 3) := by decide +kernel
theorem dX12_feed_51 : decode cX12_feed 51 = .ok (.iload 6, 2) := by decide +kernel
theorem dX12_feed_53 : decode cX12_feed 53 = .ok (.bipush 12, 2) := by decide +kernel
theorem dX12_feed_55 : decode cX12_feed 55 = .ok (.if_icmp .ge 7, 3) := by decide +kernel
theorem dX12_feed_58 : decode cX12_feed 58 = .ok (.iload_n 3, 1) := by decide +kernel
theorem dX12_feed_59 : decode cX12_feed 59 = .ok (.goto 17, 3) := by decide +kernel
theorem dX12_feed_62 : decode cX12_feed 62 = .ok (.iload 6, 2) := by decide +kernel
theorem dX12_feed_64 : decode cX12_feed 64 = .ok (.bipush 16, 2) := by decide +kernel
theorem dX12_feed_66 : decode cX12_feed 66 = .ok (.if_icmp .ge 8, 3) := by decide +kernel
theorem dX12_feed_69 : decode cX12_feed 69 = .ok (.iload 4, 2) := by decide +kernel
theorem dX12_feed_71 : decode cX12_feed 71 = .ok (.goto 5, 3) := by decide +kernel
theorem dX12_feed_74 : decode cX12_feed 74 = .ok (.iload 5, 2) := by decide +kernel
theorem dX12_feed_76 : decode cX12_feed 76 = .ok (.istore 7, 2) := by decide +kernel
theorem dX12_feed_78 : decode cX12_feed 78 = .ok (.aload_n 0, 1) := by decide +kernel
theorem dX12_feed_79 : decode cX12_feed 79 = .ok (.getfield 17, 3) := by decide +kernel
theorem dX12_feed_82 : decode cX12_feed 82 = .ok (.aload_n 0, 1) := by decide +kernel
theorem dX12_feed_83 : decode cX12_feed 83 = .ok (.getfield 115, 3) := by decide +kernel
theorem dX12_feed_86 : decode cX12_feed 86 = .ok (.iload 7, 2) := by decide +kernel
theorem dX12_feed_88 : decode cX12_feed 88 = .ok (.bipush 24, 2) := by decide +kernel
theorem dX12_feed_90 : decode cX12_feed 90 = .ok (.bipush 8, 2) := by decide +kernel
theorem dX12_feed_92 : decode cX12_feed 92 = .ok (.iload 6, 2) := by decide +kernel
theorem dX12_feed_94 : decode cX12_feed 94 = .ok (.iconst 4, 1) := by decide +kernel
theorem dX12_feed_95 : decode cX12_feed 95 = .ok (.irem, 1) := by decide +kernel
theorem dX12_feed_96 : decode cX12_feed 96 = .ok (.imul, 1) := by decide +kernel
theorem dX12_feed_97 : decode cX12_feed 97 = .ok (.isub, 1) := by decide +kernel
theorem dX12_feed_98 : decode cX12_feed 98 = .ok (.ishr, 1) := by decide +kernel
theorem dX12_feed_99 : decode cX12_feed 99 = .ok (.sipush 255, 3) := by decide +kernel
theorem dX12_feed_102 : decode cX12_feed 102 = .ok (.iand, 1) := by decide +kernel
theorem dX12_feed_103 : decode cX12_feed 103 = .ok (.iastore, 1) := by decide +kernel
theorem dX12_feed_104 : decode cX12_feed 104 = .ok (.aload_n 0, 1) := by decide +kernel
theorem dX12_feed_105 : decode cX12_feed 105 = .ok (.dup, 1) := by decide +kernel
theorem dX12_feed_106 : decode cX12_feed 106 = .ok (.getfield 115, 3) := by decide +kernel
theorem dX12_feed_109 : decode cX12_feed 109 = .ok (.iconst 1, 1) := by decide +kernel
theorem dX12_feed_110 : decode cX12_feed 110 = .ok (.iadd, 1) := by decide +kernel
theorem dX12_feed_111 : decode cX12_feed 111 = .ok (.putfield 115, 3) := by decide +kernel
theorem dX12_feed_114 : decode cX12_feed 114 = .ok (.iinc 6 1, 3) := by decide +kernel
theorem dX12_feed_117 : decode cX12_feed 117 = .ok (.goto (-94), 3) := by decide +kernel
theorem dX12_feed_120 : decode cX12_feed 120 = .ok (.aload_n 0, 1) := by decide +kernel
theorem dX12_feed_121 : decode cX12_feed 121 = .ok (.getfield 115, 3) := by decide +kernel
theorem dX12_feed_124 : decode cX12_feed 124 = .ok (.ireturn, 1) := by decide +kernel
theorem dX12_wrongAt_0 : decode cX12_wrongAt 0 = .ok (.iconst 0, 1) := by decide +kernel
theorem dX12_wrongAt_1 : decode cX12_wrongAt 1 = .ok (.istore_n 2, 1) := by decide +kernel
theorem dX12_wrongAt_2 : decode cX12_wrongAt 2 = .ok (.iload_n 2, 1) := by decide +kernel
theorem dX12_wrongAt_3 : decode cX12_wrongAt 3 = .ok (.iload_n 1, 1) := by decide +kernel
theorem dX12_wrongAt_4 : decode cX12_wrongAt 4 = .ok (.if_icmp .ge 61, 3) := by decide +kernel
theorem dX12_wrongAt_7 : decode cX12_wrongAt 7 = .ok (.aload_n 0, 1) := by decide +kernel
theorem dX12_wrongAt_8 : decode cX12_wrongAt 8 = .ok (.getfield 17, 3) := by decide +kernel
theorem dX12_wrongAt_11 : decode cX12_wrongAt 11 = .ok (.iload_n 2, 1) := by decide +kernel
theorem dX12_wrongAt_12 : decode cX12_wrongAt 12 = .ok (.iaload, 1) := by decide +kernel
theorem dX12_wrongAt_13 : decode cX12_wrongAt 13 = .ok (.invokestatic 118, 3) := by decide +kernel
theorem dX12_wrongAt_16 : decode cX12_wrongAt 16 = .ok (.ifCond .eq 6, 3) := by decide +kernel
theorem dX12_wrongAt_19 : decode cX12_wrongAt 19 = .ok (.goto 40, 3) := by decide +kernel
theorem dX12_wrongAt_22 : decode cX12_wrongAt 22 = .ok (.aload_n 0, 1) := by decide +kernel
theorem dX12_wrongAt_23 : decode cX12_wrongAt 23 = .ok (.getfield 17, 3) := by decide +kernel
theorem dX12_wrongAt_26 : decode cX12_wrongAt 26 = .ok (.iload_n 2, 1) := by decide +kernel
theorem dX12_wrongAt_27 : decode cX12_wrongAt 27 = .ok (.iaload, 1) := by decide +kernel
theorem dX12_wrongAt_28 : decode cX12_wrongAt 28 = .ok (.bipush 124, 2) := by decide +kernel
theorem dX12_wrongAt_30 : decode cX12_wrongAt 30 = .ok (.if_icmp .ne 27, 3) := by decide +kernel
theorem dX12_wrongAt_33 : decode cX12_wrongAt 33 = .ok (.iload_n 2, 1) := by decide +kernel
theorem dX12_wrongAt_34 : decode cX12_wrongAt 34 = .ok (.ifCond .eq 23, 3) := by decide +kernel
theorem dX12_wrongAt_37 : decode cX12_wrongAt 37 = .ok (.iload_n 2, 1) := by decide +kernel
theorem dX12_wrongAt_38 : decode cX12_wrongAt 38 = .ok (.iload_n 1, 1) := by decide +kernel
theorem dX12_wrongAt_39 : decode cX12_wrongAt 39 = .ok (.iconst 1, 1) := by decide +kernel
theorem dX12_wrongAt_40 : decode cX12_wrongAt 40 = .ok (.isub, 1) := by decide +kernel
theorem dX12_wrongAt_41 : decode cX12_wrongAt 41 = .ok (.if_icmp .eq 16, 3) := by decide +kernel
theorem dX12_wrongAt_44 : decode cX12_wrongAt 44 = .ok (.aload_n 0, 1) := by decide +kernel
theorem dX12_wrongAt_45 : decode cX12_wrongAt 45 = .ok (.getfield 17, 3) := by decide +kernel
theorem dX12_wrongAt_48 : decode cX12_wrongAt 48 = .ok (.iload_n 2, 1) := by decide +kernel
theorem dX12_wrongAt_49 : decode cX12_wrongAt 49 = .ok (.iconst 1, 1) := by decide +kernel
theorem dX12_wrongAt_50 : decode cX12_wrongAt 50 = .ok (.isub, 1) := by decide +kernel
theorem dX12_wrongAt_51 : decode cX12_wrongAt 51 = .ok (.iaload, 1) := by decide +kernel
theorem dX12_wrongAt_52 : decode cX12_wrongAt 52 = .ok (.bipush 124, 2) := by decide +kernel
theorem dX12_wrongAt_54 : decode cX12_wrongAt 54 = .ok (.if_icmp .ne 5, 3) := by decide +kernel
theorem dX12_wrongAt_57 : decode cX12_wrongAt 57 = .ok (.iload_n 2, 1) := by decide +kernel
theorem dX12_wrongAt_58 : decode cX12_wrongAt 58 = .ok (.ireturn, 1) := by decide +kernel
theorem dX12_wrongAt_59 : decode cX12_wrongAt 59 = .ok (.iinc 2 1, 3) := by decide +kernel
theorem dX12_wrongAt_62 : decode cX12_wrongAt 62 = .ok (.goto (-60), 3) := by decide +kernel
theorem dX12_wrongAt_65 : decode cX12_wrongAt 65 = .ok (.iconst (-1), 1) := by decide +kernel
theorem dX12_wrongAt_66 : decode cX12_wrongAt 66 = .ok (.ireturn, 1) := by decide +kernel
theorem dX12_text_0 : decode cX12_text 0 = .ok (.aload_n 0, 1) := by decide +kernel
theorem dX12_text_1 : decode cX12_text 1 = .ok (.iconst 0, 1) := by decide +kernel
theorem dX12_text_2 : decode cX12_text 2 = .ok (.putfield 105, 3) := by decide +kernel
theorem dX12_text_5 : decode cX12_text 5 = .ok (.aload_n 0, 1) := by decide +kernel
theorem dX12_text_6 : decode cX12_text 6 = .ok (.iload_n 1, 1) := by decide +kernel
theorem dX12_text_7 : decode cX12_text 7 = .ok (.iconst 1, 1) := by decide +kernel
theorem dX12_text_8 : decode cX12_text 8 = .ok (.aload_n 0, 1) := by decide +kernel
theorem dX12_text_9 : decode cX12_text 9 = .ok (.getfield 115, 3) := by decide +kernel
theorem dX12_text_12 : decode cX12_text 12 = .ok (.invokestatic 108, 3) := by decide +kernel
theorem dX12_text_15 : decode cX12_text 15 = .ok (.ifCond .ne 7, 3) := by decide +kernel
theorem dX12_text_18 : decode cX12_text 18 = .ok (.iconst 1, 1) := by decide +kernel
theorem dX12_text_19 : decode cX12_text 19 = .ok (.goto 4, 3) := by decide +kernel
theorem dX12_text_22 : decode cX12_text 22 = .ok (.iconst 0, 1) := by decide +kernel
theorem dX12_text_23 : decode cX12_text 23 = .ok (.iconst 1, 1) := by decide +kernel
theorem dX12_text_24 : decode cX12_text 24 = .ok (.iconst 1, 1) := by decide +kernel
theorem dX12_text_25 : decode cX12_text 25 = .ok (.invokevirtual 122, 3) := by decide +kernel
theorem dX12_text_28 : decode cX12_text 28 = .ok (.ifCond .eq 5, 3) := by decide +kernel
theorem dX12_text_31 : decode cX12_text 31 = .ok (.iconst 0, 1) := by decide +kernel
theorem dX12_text_32 : decode cX12_text 32 = .ok (.ireturn, 1) := by decide +kernel
theorem dX12_text_33 : decode cX12_text 33 = .ok (.aload_n 0, 1) := by decide +kernel
theorem dX12_text_34 : decode cX12_text 34 = .ok (.iconst 0, 1) := by decide +kernel
theorem dX12_text_35 : decode cX12_text 35 = .ok (.putfield 115, 3) := by decide +kernel
theorem dX12_text_38 : decode cX12_text 38 = .ok (.aload_n 0, 1) := by decide +kernel
theorem dX12_text_39 : decode cX12_text 39 = .ok (.iload_n 1, 1) := by decide +kernel
theorem dX12_text_40 : decode cX12_text 40 = .ok (.invokevirtual 126, 3) := by decide +kernel
theorem dX12_text_43 : decode cX12_text 43 = .ok (.istore_n 2, 1) := by decide +kernel
theorem dX12_text_44 : decode cX12_text 44 = .ok (.iload_n 2, 1) := by decide +kernel
theorem dX12_text_45 : decode cX12_text 45 = .ok (.iconst (-1), 1) := by decide +kernel
theorem dX12_text_46 : decode cX12_text 46 = .ok (.if_icmp .eq 7, 3) := by decide +kernel
theorem dX12_text_49 : decode cX12_text 49 = .ok (.iconst (-1), 1) := by decide +kernel
theorem dX12_text_50 : decode cX12_text 50 = .ok (.iload_n 2, 1) := by decide +kernel
theorem dX12_text_51 : decode cX12_text 51 = .ok (.isub, 1) := by decide +kernel
theorem dX12_text_52 : decode cX12_text 52 = .ok (.ireturn, 1) := by decide +kernel
theorem dX12_text_53 : decode cX12_text 53 = .ok (.aload_n 0, 1) := by decide +kernel
theorem dX12_text_54 : decode cX12_text 54 = .ok (.iload_n 1, 1) := by decide +kernel
theorem dX12_text_55 : decode cX12_text 55 = .ok (.putfield 20, 3) := by decide +kernel
theorem dX12_text_58 : decode cX12_text 58 = .ok (.iconst 0, 1) := by decide +kernel
theorem dX12_text_59 : decode cX12_text 59 = .ok (.istore_n 3, 1) := by decide +kernel
theorem dX12_text_60 : decode cX12_text 60 = .ok (.iload_n 3, 1) := by decide +kernel
theorem dX12_text_61 : decode cX12_text 61 = .ok (.aload_n 0, 1) := by decide +kernel
theorem dX12_text_62 : decode cX12_text 62 = .ok (.getfield 20, 3) := by decide +kernel
theorem dX12_text_65 : decode cX12_text 65 = .ok (.if_icmp .ge 43, 3) := by decide +kernel
theorem dX12_text_68 : decode cX12_text 68 = .ok (.aload_n 0, 1) := by decide +kernel
theorem dX12_text_69 : decode cX12_text 69 = .ok (.getfield 28, 3) := by decide +kernel
theorem dX12_text_72 : decode cX12_text 72 = .ok (.iconst 0, 1) := by decide +kernel
theorem dX12_text_73 : decode cX12_text 73 = .ok (.aaload, 1) := by decide +kernel
theorem dX12_text_74 : decode cX12_text 74 = .ok (.iload_n 3, 1) := by decide +kernel
theorem dX12_text_75 : decode cX12_text 75 = .ok (.aload_n 0, 1) := by decide +kernel
theorem dX12_text_76 : decode cX12_text 76 = .ok (.getfield 17, 3) := by decide +kernel
theorem dX12_text_79 : decode cX12_text 79 = .ok (.iload_n 3, 1) := by decide +kernel
theorem dX12_text_80 : decode cX12_text 80 = .ok (.iaload, 1) := by decide +kernel
theorem dX12_text_81 : decode cX12_text 81 = .ok (.bipush 124, 2) := by decide +kernel
theorem dX12_text_83 : decode cX12_text 83 = .ok (.if_icmp .ne 7, 3) := by decide +kernel
theorem dX12_text_86 : decode cX12_text 86 = .ok (.iconst 1, 1) := by decide +kernel
theorem dX12_text_87 : decode cX12_text 87 = .ok (.goto 14, 3) := by decide +kernel
theorem dX12_text_90 : decode cX12_text 90 = .ok (.aload_n 0, 1) := by decide +kernel
theorem dX12_text_91 : decode cX12_text 91 = .ok (.getfield 17, 3) := by decide +kernel
theorem dX12_text_94 : decode cX12_text 94 = .ok (.iload_n 3, 1) := by decide +kernel
theorem dX12_text_95 : decode cX12_text 95 = .ok (.iaload, 1) := by decide +kernel
theorem dX12_text_96 : decode cX12_text 96 = .ok (.bipush 97, 2) := by decide +kernel
theorem dX12_text_98 : decode cX12_text 98 = .ok (.isub, 1) := by decide +kernel
theorem dX12_text_99 : decode cX12_text 99 = .ok (.iconst 2, 1) := by decide +kernel
theorem dX12_text_100 : decode cX12_text 100 = .ok (.iadd, 1) := by decide +kernel
theorem dX12_text_101 : decode cX12_text 101 = .ok (.iastore, 1) := by decide +kernel
theorem dX12_text_102 : decode cX12_text 102 = .ok (.iinc 3 1, 3) := by decide +kernel
theorem dX12_text_105 : decode cX12_text 105 = .ok (.goto (-45), 3) := by decide +kernel
theorem dX12_text_108 : decode cX12_text 108 = .ok (.aload_n 0, 1) := by decide +kernel
theorem dX12_text_109 : decode cX12_text 109 = .ok (.invokevirtual 102, 3) := by decide +kernel
theorem dX12_text_112 : decode cX12_text 112 = .ok (.aload_n 0, 1) := by decide +kernel
theorem dX12_text_113 : decode cX12_text 113 = .ok (.bipush 42, 2) := by decide +kernel
theorem dX12_text_115 : decode cX12_text 115 = .ok (.putfield 37, 3) := by decide +kernel
theorem dX12_text_118 : decode cX12_text 118 = .ok (.aload_n 0, 1) := by decide +kernel
theorem dX12_text_119 : decode cX12_text 119 = .ok (.bipush 42, 2) := by decide +kernel
theorem dX12_text_121 : decode cX12_text 121 = .ok (.putfield 40, 3) := by decide +kernel
theorem dX12_text_124 : decode cX12_text 124 = .ok (.aload_n 0, 1) := by decide +kernel
theorem dX12_text_125 : decode cX12_text 125 = .ok (.iconst 0, 1) := by decide +kernel
theorem dX12_text_126 : decode cX12_text 126 = .ok (.putfield 130, 3) := by decide +kernel
theorem dX12_text_129 : decode cX12_text 129 = .ok (.aload_n 0, 1) := by decide +kernel
theorem dX12_text_130 : decode cX12_text 130 = .ok (.iconst 0, 1) := by decide +kernel
theorem dX12_text_131 : decode cX12_text 131 = .ok (.putfield 134, 3) := by decide +kernel
theorem dX12_text_134 : decode cX12_text 134 = .ok (.iconst 0, 1) := by decide +kernel
theorem dX12_text_135 : decode cX12_text 135 = .ok (.ireturn, 1) := by decide +kernel
theorem dX12_here_0 : decode cX12_here 0 = .ok (.aload_n 0, 1) := by decide +kernel
theorem dX12_here_1 : decode cX12_here 1 = .ok (.getfield 137, 3) := by decide +kernel
theorem dX12_here_4 : decode cX12_here 4 = .ok (.aload_n 0, 1) := by decide +kernel
theorem dX12_here_5 : decode cX12_here 5 = .ok (.getfield 140, 3) := by decide +kernel
theorem dX12_here_8 : decode cX12_here 8 = .ok (.if_icmp .lt 7, 3) := by decide +kernel
theorem dX12_here_11 : decode cX12_here 11 = .ok (.iconst (-1), 1) := by decide +kernel
theorem dX12_here_12 : decode cX12_here 12 = .ok (.goto 12, 3) := by decide +kernel
theorem dX12_here_15 : decode cX12_here 15 = .ok (.aload_n 0, 1) := by decide +kernel
theorem dX12_here_16 : decode cX12_here 16 = .ok (.getfield 17, 3) := by decide +kernel
theorem dX12_here_19 : decode cX12_here 19 = .ok (.aload_n 0, 1) := by decide +kernel
theorem dX12_here_20 : decode cX12_here 20 = .ok (.getfield 137, 3) := by decide +kernel
theorem dX12_here_23 : decode cX12_here 23 = .ok (.iaload, 1) := by decide +kernel
theorem dX12_here_24 : decode cX12_here 24 = .ok (.ireturn, 1) := by decide +kernel
theorem dX12_fine_0 : decode cX12_fine 0 = .ok (.aload_n 0, 1) := by decide +kernel
theorem dX12_fine_1 : decode cX12_fine 1 = .ok (.getfield 143, 3) := by decide +kernel
theorem dX12_fine_4 : decode cX12_fine 4 = .ok (.ifCond .ne 7, 3) := by decide +kernel
theorem dX12_fine_7 : decode cX12_fine 7 = .ok (.iconst 1, 1) := by decide +kernel
theorem dX12_fine_8 : decode cX12_fine 8 = .ok (.goto 4, 3) := by decide +kernel
theorem dX12_fine_11 : decode cX12_fine 11 = .ok (.iconst 0, 1) := by decide +kernel
theorem dX12_fine_12 : decode cX12_fine 12 = .ok (.ireturn, 1) := by decide +kernel
theorem dX12_wrong_0 : decode cX12_wrong 0 = .ok (.aload_n 0, 1) := by decide +kernel
theorem dX12_wrong_1 : decode cX12_wrong 1 = .ok (.getfield 143, 3) := by decide +kernel
theorem dX12_wrong_4 : decode cX12_wrong 4 = .ok (.ifCond .ne 13, 3) := by decide +kernel
theorem dX12_wrong_7 : decode cX12_wrong 7 = .ok (.aload_n 0, 1) := by decide +kernel
theorem dX12_wrong_8 : decode cX12_wrong 8 = .ok (.iload_n 1, 1) := by decide +kernel
theorem dX12_wrong_9 : decode cX12_wrong 9 = .ok (.putfield 143, 3) := by decide +kernel
theorem dX12_wrong_12 : decode cX12_wrong 12 = .ok (.aload_n 0, 1) := by decide +kernel
theorem dX12_wrong_13 : decode cX12_wrong 13 = .ok (.iload_n 2, 1) := by decide +kernel
theorem dX12_wrong_14 : decode cX12_wrong 14 = .ok (.putfield 146, 3) := by decide +kernel
theorem dX12_wrong_17 : decode cX12_wrong 17 = .ok (.return_, 1) := by decide +kernel
theorem dX12_isDigit_0 : decode cX12_isDigit 0 = .ok (.iload_n 0, 1) := by decide +kernel
theorem dX12_isDigit_1 : decode cX12_isDigit 1 = .ok (.bipush 48, 2) := by decide +kernel
theorem dX12_isDigit_3 : decode cX12_isDigit 3 = .ok (.if_icmp .lt 13, 3) := by decide +kernel
theorem dX12_isDigit_6 : decode cX12_isDigit 6 = .ok (.iload_n 0, 1) := by decide +kernel
theorem dX12_isDigit_7 : decode cX12_isDigit 7 = .ok (.bipush 57, 2) := by decide +kernel
theorem dX12_isDigit_9 : decode cX12_isDigit 9 = .ok (.if_icmp .gt 7, 3) := by decide +kernel
theorem dX12_isDigit_12 : decode cX12_isDigit 12 = .ok (.iconst 1, 1) := by decide +kernel
theorem dX12_isDigit_13 : decode cX12_isDigit 13 = .ok (.goto 4, 3) := by decide +kernel
theorem dX12_isDigit_16 : decode cX12_isDigit 16 = .ok (.iconst 0, 1) := by decide +kernel
theorem dX12_isDigit_17 : decode cX12_isDigit 17 = .ok (.ireturn, 1) := by decide +kernel
theorem dX12_isNext_0 : decode cX12_isNext 0 = .ok (.aload_n 0, 1) := by decide +kernel
theorem dX12_isNext_1 : decode cX12_isNext 1 = .ok (.iload_n 1, 1) := by decide +kernel
theorem dX12_isNext_2 : decode cX12_isNext 2 = .ok (.iaload, 1) := by decide +kernel
theorem dX12_isNext_3 : decode cX12_isNext 3 = .ok (.istore_n 3, 1) := by decide +kernel
theorem dX12_isNext_4 : decode cX12_isNext 4 = .ok (.iload_n 3, 1) := by decide +kernel
theorem dX12_isNext_5 : decode cX12_isNext 5 = .ok (.iload_n 2, 1) := by decide +kernel
theorem dX12_isNext_6 : decode cX12_isNext 6 = .ok (.if_icmp .lt 5, 3) := by decide +kernel
theorem dX12_isNext_9 : decode cX12_isNext 9 = .ok (.iconst 0, 1) := by decide +kernel
theorem dX12_isNext_10 : decode cX12_isNext 10 = .ok (.ireturn, 1) := by decide +kernel
theorem dX12_isNext_11 : decode cX12_isNext 11 = .ok (.iload_n 1, 1) := by decide +kernel
theorem dX12_isNext_12 : decode cX12_isNext 12 = .ok (.ifCond .ne 7, 3) := by decide +kernel
theorem dX12_isNext_15 : decode cX12_isNext 15 = .ok (.iconst 1, 1) := by decide +kernel
theorem dX12_isNext_16 : decode cX12_isNext 16 = .ok (.goto 4, 3) := by decide +kernel
theorem dX12_isNext_19 : decode cX12_isNext 19 = .ok (.iconst 0, 1) := by decide +kernel
theorem dX12_isNext_20 : decode cX12_isNext 20 = .ok (.istore 4, 2) := by decide +kernel
theorem dX12_isNext_22 : decode cX12_isNext 22 = .ok (.iconst 0, 1) := by decide +kernel
theorem dX12_isNext_23 : decode cX12_isNext 23 = .ok (.istore 5, 2) := by decide +kernel
theorem dX12_isNext_25 : decode cX12_isNext 25 = .ok (.iload 5, 2) := by decide +kernel
theorem dX12_isNext_27 : decode cX12_isNext 27 = .ok (.iload_n 1, 1) := by decide +kernel
theorem dX12_isNext_28 : decode cX12_isNext 28 = .ok (.if_icmp .ge 49, 3) := by decide +kernel
theorem dX12_isNext_31 : decode cX12_isNext 31 = .ok (.aload_n 0, 1) := by decide +kernel
theorem dX12_isNext_32 : decode cX12_isNext 32 = .ok (.iload 5, 2) := by decide +kernel
theorem dX12_isNext_34 : decode cX12_isNext 34 = .ok (.iaload, 1) := by decide +kernel
theorem dX12_isNext_35 : decode cX12_isNext 35 = .ok (.iload_n 3, 1) := by decide +kernel
theorem dX12_isNext_36 : decode cX12_isNext 36 = .ok (.if_icmp .ne 5, 3) := by decide +kernel
theorem dX12_isNext_39 : decode cX12_isNext 39 = .ok (.iconst 0, 1) := by decide +kernel
theorem dX12_isNext_40 : decode cX12_isNext 40 = .ok (.ireturn, 1) := by decide +kernel
theorem dX12_isNext_41 : decode cX12_isNext 41 = .ok (.iload 4, 2) := by decide +kernel
theorem dX12_isNext_43 : decode cX12_isNext 43 = .ok (.aload_n 0, 1) := by decide +kernel
theorem dX12_isNext_44 : decode cX12_isNext 44 = .ok (.iload 5, 2) := by decide +kernel
theorem dX12_isNext_46 : decode cX12_isNext 46 = .ok (.iaload, 1) := by decide +kernel
theorem dX12_isNext_47 : decode cX12_isNext 47 = .ok (.iload_n 3, 1) := by decide +kernel
theorem dX12_isNext_48 : decode cX12_isNext 48 = .ok (.iconst 1, 1) := by decide +kernel
theorem dX12_isNext_49 : decode cX12_isNext 49 = .ok (.isub, 1) := by decide +kernel
theorem dX12_isNext_50 : decode cX12_isNext 50 = .ok (.if_icmp .eq 13, 3) := by decide +kernel
theorem dX12_isNext_53 : decode cX12_isNext 53 = .ok (.aload_n 0, 1) := by decide +kernel
theorem dX12_isNext_54 : decode cX12_isNext 54 = .ok (.iload 5, 2) := by decide +kernel
theorem dX12_isNext_56 : decode cX12_isNext 56 = .ok (.iaload, 1) := by decide +kernel
theorem dX12_isNext_57 : decode cX12_isNext 57 = .ok (.iload_n 3, 1) := by decide +kernel
theorem dX12_isNext_58 : decode cX12_isNext 58 = .ok (.iconst 1, 1) := by decide +kernel
theorem dX12_isNext_59 : decode cX12_isNext 59 = .ok (.iadd, 1) := by decide +kernel
theorem dX12_isNext_60 : decode cX12_isNext 60 = .ok (.if_icmp .ne 7, 3) := by decide +kernel
theorem dX12_isNext_63 : decode cX12_isNext 63 = .ok (.iconst 1, 1) := by decide +kernel
theorem dX12_isNext_64 : decode cX12_isNext 64 = .ok (.goto 4, 3) := by decide +kernel
theorem dX12_isNext_67 : decode cX12_isNext 67 = .ok (.iconst 0, 1) := by decide +kernel
theorem dX12_isNext_68 : decode cX12_isNext 68 = .ok (.ior, 1) := by decide +kernel
theorem dX12_isNext_69 : decode cX12_isNext 69 = .ok (.istore 4, 2) := by decide +kernel
theorem dX12_isNext_71 : decode cX12_isNext 71 = .ok (.iinc 5 1, 3) := by decide +kernel
theorem dX12_isNext_74 : decode cX12_isNext 74 = .ok (.goto (-49), 3) := by decide +kernel
theorem dX12_isNext_77 : decode cX12_isNext 77 = .ok (.iload 4, 2) := by decide +kernel
theorem dX12_isNext_79 : decode cX12_isNext 79 = .ok (.ireturn, 1) := by decide +kernel
theorem dX12_readsFirstOrder_0 : decode cX12_readsFirstOrder 0 = .ok (.aload_n 0, 1) := by decide +kernel
theorem dX12_readsFirstOrder_1 : decode cX12_readsFirstOrder 1 = .ok (.getfield 137, 3) := by decide +kernel
theorem dX12_readsFirstOrder_4 : decode cX12_readsFirstOrder 4 = .ok (.istore_n 2, 1) := by decide +kernel
theorem dX12_readsFirstOrder_5 : decode cX12_readsFirstOrder 5 = .ok (.iconst 0, 1) := by decide +kernel
theorem dX12_readsFirstOrder_6 : decode cX12_readsFirstOrder 6 = .ok (.istore_n 3, 1) := by decide +kernel
theorem dX12_readsFirstOrder_7 : decode cX12_readsFirstOrder 7 = .ok (.aload_n 0, 1) := by decide +kernel
theorem dX12_readsFirstOrder_8 : decode cX12_readsFirstOrder 8 = .ok (.invokevirtual 149, 3) := by decide +kernel
theorem dX12_readsFirstOrder_11 : decode cX12_readsFirstOrder 11 = .ok (.invokestatic 153, 3) := by decide +kernel
theorem dX12_readsFirstOrder_14 : decode cX12_readsFirstOrder 14 = .ok (.ifCond .eq 34, 3) := by decide +kernel
theorem dX12_readsFirstOrder_17 : decode cX12_readsFirstOrder 17 = .ok (.iload_n 3, 1) := by decide +kernel
theorem dX12_readsFirstOrder_18 : decode cX12_readsFirstOrder 18 = .ok (.iconst 5, 1) := by decide +kernel
theorem dX12_readsFirstOrder_19 : decode cX12_readsFirstOrder 19 = .ok (.if_icmp .ge 29, 3) := by decide +kernel
theorem dX12_readsFirstOrder_22 : decode cX12_readsFirstOrder 22 = .ok (.aload_n 1, 1) := by decide +kernel
theorem dX12_readsFirstOrder_23 : decode cX12_readsFirstOrder 23 = .ok (.iload_n 3, 1) := by decide +kernel
theorem dX12_readsFirstOrder_24 : decode cX12_readsFirstOrder 24 = .ok (.aload_n 0, 1) := by decide +kernel
theorem dX12_readsFirstOrder_25 : decode cX12_readsFirstOrder 25 = .ok (.invokevirtual 149, 3) := by decide +kernel
theorem dX12_readsFirstOrder_28 : decode cX12_readsFirstOrder 28 = .ok (.bipush 48, 2) := by decide +kernel
theorem dX12_readsFirstOrder_30 : decode cX12_readsFirstOrder 30 = .ok (.isub, 1) := by decide +kernel
theorem dX12_readsFirstOrder_31 : decode cX12_readsFirstOrder 31 = .ok (.iastore, 1) := by decide +kernel
theorem dX12_readsFirstOrder_32 : decode cX12_readsFirstOrder 32 = .ok (.iinc 3 1, 3) := by decide +kernel
theorem dX12_readsFirstOrder_35 : decode cX12_readsFirstOrder 35 = .ok (.aload_n 0, 1) := by decide +kernel
theorem dX12_readsFirstOrder_36 : decode cX12_readsFirstOrder 36 = .ok (.dup, 1) := by decide +kernel
theorem dX12_readsFirstOrder_37 : decode cX12_readsFirstOrder 37 = .ok (.getfield 137, 3) := by decide +kernel
theorem dX12_readsFirstOrder_40 : decode cX12_readsFirstOrder 40 = .ok (.iconst 1, 1) := by decide +kernel
theorem dX12_readsFirstOrder_41 : decode cX12_readsFirstOrder 41 = .ok (.iadd, 1) := by decide +kernel
theorem dX12_readsFirstOrder_42 : decode cX12_readsFirstOrder 42 = .ok (.putfield 137, 3) := by decide +kernel
theorem dX12_readsFirstOrder_45 : decode cX12_readsFirstOrder 45 = .ok (.goto (-38), 3) := by decide +kernel
theorem dX12_readsFirstOrder_48 : decode cX12_readsFirstOrder 48 = .ok (.aload_n 0, 1) := by decide +kernel
theorem dX12_readsFirstOrder_49 : decode cX12_readsFirstOrder 49 = .ok (.getfield 52, 3) := by decide +kernel
theorem dX12_readsFirstOrder_52 : decode cX12_readsFirstOrder 52 = .ok (.iconst 1, 1) := by decide +kernel
theorem dX12_readsFirstOrder_53 : decode cX12_readsFirstOrder 53 = .ok (.iload_n 3, 1) := by decide +kernel
theorem dX12_readsFirstOrder_54 : decode cX12_readsFirstOrder 54 = .ok (.iastore, 1) := by decide +kernel
theorem dX12_readsFirstOrder_55 : decode cX12_readsFirstOrder 55 = .ok (.iconst 0, 1) := by decide +kernel
theorem dX12_readsFirstOrder_56 : decode cX12_readsFirstOrder 56 = .ok (.istore 4, 2) := by decide +kernel
theorem dX12_readsFirstOrder_58 : decode cX12_readsFirstOrder 58 = .ok (.iload 4, 2) := by decide +kernel
theorem dX12_readsFirstOrder_60 : decode cX12_readsFirstOrder 60 = .ok (.iload_n 3, 1) := by decide +kernel
theorem dX12_readsFirstOrder_61 : decode cX12_readsFirstOrder 61 = .ok (.if_icmp .ge 28, 3) := by decide +kernel
theorem dX12_readsFirstOrder_64 : decode cX12_readsFirstOrder 64 = .ok (.aload_n 1, 1) := by decide +kernel
theorem dX12_readsFirstOrder_65 : decode cX12_readsFirstOrder 65 = .ok (.iload 4, 2) := by decide +kernel
theorem dX12_readsFirstOrder_67 : decode cX12_readsFirstOrder 67 = .ok (.iload_n 3, 1) := by decide +kernel
theorem dX12_readsFirstOrder_68 : decode cX12_readsFirstOrder 68 = .ok (.invokestatic 156, 3) := by decide +kernel
theorem dX12_readsFirstOrder_71 : decode cX12_readsFirstOrder 71 = .ok (.ifCond .ne 12, 3) := by decide +kernel
theorem dX12_readsFirstOrder_74 : decode cX12_readsFirstOrder 74 = .ok (.aload_n 0, 1) := by decide +kernel
theorem dX12_readsFirstOrder_75 : decode cX12_readsFirstOrder 75 = .ok (.iconst 2, 1) := by decide +kernel
theorem dX12_readsFirstOrder_76 : decode cX12_readsFirstOrder 76 = .ok (.iload_n 2, 1) := by decide +kernel
theorem dX12_readsFirstOrder_77 : decode cX12_readsFirstOrder 77 = .ok (.iload 4, 2) := by decide +kernel
theorem dX12_readsFirstOrder_79 : decode cX12_readsFirstOrder 79 = .ok (.iadd, 1) := by decide +kernel
theorem dX12_readsFirstOrder_80 : decode cX12_readsFirstOrder 80 = .ok (.invokevirtual 160, 3) := by decide +kernel
theorem dX12_readsFirstOrder_83 : decode cX12_readsFirstOrder 83 = .ok (.iinc 4 1, 3) := by decide +kernel
theorem dX12_readsFirstOrder_86 : decode cX12_readsFirstOrder 86 = .ok (.goto (-28), 3) := by decide +kernel
theorem dX12_readsFirstOrder_89 : decode cX12_readsFirstOrder 89 = .ok (.aload_n 0, 1) := by decide +kernel
theorem dX12_readsFirstOrder_90 : decode cX12_readsFirstOrder 90 = .ok (.invokevirtual 149, 3) := by decide +kernel
theorem dX12_readsFirstOrder_93 : decode cX12_readsFirstOrder 93 = .ok (.invokestatic 153, 3) := by decide +kernel
theorem dX12_readsFirstOrder_96 : decode cX12_readsFirstOrder 96 = .ok (.ifCond .eq 12, 3) := by decide +kernel
theorem dX12_readsFirstOrder_99 : decode cX12_readsFirstOrder 99 = .ok (.aload_n 0, 1) := by decide +kernel
theorem dX12_readsFirstOrder_100 : decode cX12_readsFirstOrder 100 = .ok (.iconst 3, 1) := by decide +kernel
theorem dX12_readsFirstOrder_101 : decode cX12_readsFirstOrder 101 = .ok (.aload_n 0, 1) := by decide +kernel
theorem dX12_readsFirstOrder_102 : decode cX12_readsFirstOrder 102 = .ok (.getfield 137, 3) := by decide +kernel
theorem dX12_readsFirstOrder_105 : decode cX12_readsFirstOrder 105 = .ok (.invokevirtual 160, 3) := by decide +kernel
theorem dX12_readsFirstOrder_108 : decode cX12_readsFirstOrder 108 = .ok (.return_, 1) := by decide +kernel
theorem dX12_readsRow_0 : decode cX12_readsRow 0 = .ok (.iconst 0, 1) := by decide +kernel
theorem dX12_readsRow_1 : decode cX12_readsRow 1 = .ok (.istore_n 3, 1) := by decide +kernel
theorem dX12_readsRow_2 : decode cX12_readsRow 2 = .ok (.iload_n 3, 1) := by decide +kernel
theorem dX12_readsRow_3 : decode cX12_readsRow 3 = .ok (.aload_n 0, 1) := by decide +kernel
theorem dX12_readsRow_4 : decode cX12_readsRow 4 = .ok (.getfield 52, 3) := by decide +kernel
theorem dX12_readsRow_7 : decode cX12_readsRow 7 = .ok (.iconst 1, 1) := by decide +kernel
theorem dX12_readsRow_8 : decode cX12_readsRow 8 = .ok (.iaload, 1) := by decide +kernel
theorem dX12_readsRow_9 : decode cX12_readsRow 9 = .ok (.if_icmp .ge 147, 3) := by decide +kernel
theorem dX12_readsRow_12 : decode cX12_readsRow 12 = .ok (.aload_n 0, 1) := by decide +kernel
theorem dX12_readsRow_13 : decode cX12_readsRow 13 = .ok (.invokevirtual 164, 3) := by decide +kernel
theorem dX12_readsRow_16 : decode cX12_readsRow 16 = .ok (.ifCond .eq 140, 3) := by decide +kernel
theorem dX12_readsRow_19 : decode cX12_readsRow 19 = .ok (.aload_n 0, 1) := by decide +kernel
theorem dX12_readsRow_20 : decode cX12_readsRow 20 = .ok (.invokevirtual 149, 3) := by decide +kernel
theorem dX12_readsRow_23 : decode cX12_readsRow 23 = .ok (.invokestatic 153, 3) := by decide +kernel
theorem dX12_readsRow_26 : decode cX12_readsRow 26 = .ok (.ifCond .ne 12, 3) := by decide +kernel
theorem dX12_readsRow_29 : decode cX12_readsRow 29 = .ok (.aload_n 0, 1) := by decide +kernel
theorem dX12_readsRow_30 : decode cX12_readsRow 30 = .ok (.iconst 1, 1) := by decide +kernel
theorem dX12_readsRow_31 : decode cX12_readsRow 31 = .ok (.aload_n 0, 1) := by decide +kernel
theorem dX12_readsRow_32 : decode cX12_readsRow 32 = .ok (.getfield 137, 3) := by decide +kernel
theorem dX12_readsRow_35 : decode cX12_readsRow 35 = .ok (.invokevirtual 160, 3) := by decide +kernel
theorem dX12_readsRow_38 : decode cX12_readsRow 38 = .ok (.aload_n 0, 1) := by decide +kernel
theorem dX12_readsRow_39 : decode cX12_readsRow 39 = .ok (.invokevirtual 164, 3) := by decide +kernel
theorem dX12_readsRow_42 : decode cX12_readsRow 42 = .ok (.ifCond .ne 4, 3) := by decide +kernel
theorem dX12_readsRow_45 : decode cX12_readsRow 45 = .ok (.return_, 1) := by decide +kernel
theorem dX12_readsRow_46 : decode cX12_readsRow 46 = .ok (.aload_n 0, 1) := by decide +kernel
theorem dX12_readsRow_47 : decode cX12_readsRow 47 = .ok (.invokevirtual 149, 3) := by decide +kernel
theorem dX12_readsRow_50 : decode cX12_readsRow 50 = .ok (.bipush 48, 2) := by decide +kernel
theorem dX12_readsRow_52 : decode cX12_readsRow 52 = .ok (.isub, 1) := by decide +kernel
theorem dX12_readsRow_53 : decode cX12_readsRow 53 = .ok (.istore 4, 2) := by decide +kernel
theorem dX12_readsRow_55 : decode cX12_readsRow 55 = .ok (.aload_n 1, 1) := by decide +kernel
theorem dX12_readsRow_56 : decode cX12_readsRow 56 = .ok (.iload_n 2, 1) := by decide +kernel
theorem dX12_readsRow_57 : decode cX12_readsRow 57 = .ok (.aaload, 1) := by decide +kernel
theorem dX12_readsRow_58 : decode cX12_readsRow 58 = .ok (.iload_n 3, 1) := by decide +kernel
theorem dX12_readsRow_59 : decode cX12_readsRow 59 = .ok (.iload 4, 2) := by decide +kernel
theorem dX12_readsRow_61 : decode cX12_readsRow 61 = .ok (.iastore, 1) := by decide +kernel
theorem dX12_readsRow_62 : decode cX12_readsRow 62 = .ok (.iload_n 2, 1) := by decide +kernel
theorem dX12_readsRow_63 : decode cX12_readsRow 63 = .ok (.ifCond .ne 19, 3) := by decide +kernel
theorem dX12_readsRow_66 : decode cX12_readsRow 66 = .ok (.aload_n 1, 1) := by decide +kernel
theorem dX12_readsRow_67 : decode cX12_readsRow 67 = .ok (.iconst 0, 1) := by decide +kernel
theorem dX12_readsRow_68 : decode cX12_readsRow 68 = .ok (.aaload, 1) := by decide +kernel
theorem dX12_readsRow_69 : decode cX12_readsRow 69 = .ok (.iload_n 3, 1) := by decide +kernel
theorem dX12_readsRow_70 : decode cX12_readsRow 70 = .ok (.aload_n 0, 1) := by decide +kernel
theorem dX12_readsRow_71 : decode cX12_readsRow 71 = .ok (.getfield 52, 3) := by decide +kernel
theorem dX12_readsRow_74 : decode cX12_readsRow 74 = .ok (.iconst 1, 1) := by decide +kernel
theorem dX12_readsRow_75 : decode cX12_readsRow 75 = .ok (.iaload, 1) := by decide +kernel
theorem dX12_readsRow_76 : decode cX12_readsRow 76 = .ok (.invokestatic 156, 3) := by decide +kernel
theorem dX12_readsRow_79 : decode cX12_readsRow 79 = .ok (.goto 45, 3) := by decide +kernel
theorem dX12_readsRow_82 : decode cX12_readsRow 82 = .ok (.iload 4, 2) := by decide +kernel
theorem dX12_readsRow_84 : decode cX12_readsRow 84 = .ok (.iconst 4, 1) := by decide +kernel
theorem dX12_readsRow_85 : decode cX12_readsRow 85 = .ok (.if_icmp .gt 38, 3) := by decide +kernel
theorem dX12_readsRow_88 : decode cX12_readsRow 88 = .ok (.iload_n 3, 1) := by decide +kernel
theorem dX12_readsRow_89 : decode cX12_readsRow 89 = .ok (.ifCond .eq 15, 3) := by decide +kernel
theorem dX12_readsRow_92 : decode cX12_readsRow 92 = .ok (.iload 4, 2) := by decide +kernel
theorem dX12_readsRow_94 : decode cX12_readsRow 94 = .ok (.aload_n 1, 1) := by decide +kernel
theorem dX12_readsRow_95 : decode cX12_readsRow 95 = .ok (.iload_n 2, 1) := by decide +kernel
theorem dX12_readsRow_96 : decode cX12_readsRow 96 = .ok (.aaload, 1) := by decide +kernel
theorem dX12_readsRow_97 : decode cX12_readsRow 97 = .ok (.iload_n 3, 1) := by decide +kernel
theorem dX12_readsRow_98 : decode cX12_readsRow 98 = .ok (.iconst 1, 1) := by decide +kernel
theorem dX12_readsRow_99 : decode cX12_readsRow 99 = .ok (.isub, 1) := by decide +kernel
theorem dX12_readsRow_100 : decode cX12_readsRow 100 = .ok (.iaload, 1) := by decide +kernel
theorem dX12_readsRow_101 : decode cX12_readsRow 101 = .ok (.if_icmp .lt 22, 3) := by decide +kernel
theorem dX12_readsRow_104 : decode cX12_readsRow 104 = .ok (.iload_n 2, 1) := by decide +kernel
theorem dX12_readsRow_105 : decode cX12_readsRow 105 = .ok (.iconst 1, 1) := by decide +kernel
theorem dX12_readsRow_106 : decode cX12_readsRow 106 = .ok (.if_icmp .eq 13, 3) := by decide +kernel
theorem dX12_readsRow_109 : decode cX12_readsRow 109 = .ok (.iload 4, 2) := by decide +kernel
theorem dX12_readsRow_111 : decode cX12_readsRow 111 = .ok (.aload_n 1, 1) := by decide +kernel
theorem dX12_readsRow_112 : decode cX12_readsRow 112 = .ok (.iconst 1, 1) := by decide +kernel
theorem dX12_readsRow_113 : decode cX12_readsRow 113 = .ok (.aaload, 1) := by decide +kernel
theorem dX12_readsRow_114 : decode cX12_readsRow 114 = .ok (.iload_n 3, 1) := by decide +kernel
theorem dX12_readsRow_115 : decode cX12_readsRow 115 = .ok (.iaload, 1) := by decide +kernel
theorem dX12_readsRow_116 : decode cX12_readsRow 116 = .ok (.if_icmp .lt 7, 3) := by decide +kernel
theorem dX12_readsRow_119 : decode cX12_readsRow 119 = .ok (.iconst 1, 1) := by decide +kernel
theorem dX12_readsRow_120 : decode cX12_readsRow 120 = .ok (.goto 4, 3) := by decide +kernel
theorem dX12_readsRow_123 : decode cX12_readsRow 123 = .ok (.iconst 0, 1) := by decide +kernel
theorem dX12_readsRow_124 : decode cX12_readsRow 124 = .ok (.istore 5, 2) := by decide +kernel
theorem dX12_readsRow_126 : decode cX12_readsRow 126 = .ok (.iload 5, 2) := by decide +kernel
theorem dX12_readsRow_128 : decode cX12_readsRow 128 = .ok (.ifCond .ne 12, 3) := by decide +kernel
theorem dX12_readsRow_131 : decode cX12_readsRow 131 = .ok (.aload_n 0, 1) := by decide +kernel
theorem dX12_readsRow_132 : decode cX12_readsRow 132 = .ok (.iconst 2, 1) := by decide +kernel
theorem dX12_readsRow_133 : decode cX12_readsRow 133 = .ok (.aload_n 0, 1) := by decide +kernel
theorem dX12_readsRow_134 : decode cX12_readsRow 134 = .ok (.getfield 137, 3) := by decide +kernel
theorem dX12_readsRow_137 : decode cX12_readsRow 137 = .ok (.invokevirtual 160, 3) := by decide +kernel
theorem dX12_readsRow_140 : decode cX12_readsRow 140 = .ok (.aload_n 0, 1) := by decide +kernel
theorem dX12_readsRow_141 : decode cX12_readsRow 141 = .ok (.dup, 1) := by decide +kernel
theorem dX12_readsRow_142 : decode cX12_readsRow 142 = .ok (.getfield 137, 3) := by decide +kernel
theorem dX12_readsRow_145 : decode cX12_readsRow 145 = .ok (.iconst 1, 1) := by decide +kernel
theorem dX12_readsRow_146 : decode cX12_readsRow 146 = .ok (.iadd, 1) := by decide +kernel
theorem dX12_readsRow_147 : decode cX12_readsRow 147 = .ok (.putfield 137, 3) := by decide +kernel
theorem dX12_readsRow_150 : decode cX12_readsRow 150 = .ok (.iinc 3 1, 3) := by decide +kernel
theorem dX12_readsRow_153 : decode cX12_readsRow 153 = .ok (.goto (-151), 3) := by decide +kernel
theorem dX12_readsRow_156 : decode cX12_readsRow 156 = .ok (.aload_n 0, 1) := by decide +kernel
theorem dX12_readsRow_157 : decode cX12_readsRow 157 = .ok (.invokevirtual 149, 3) := by decide +kernel
theorem dX12_readsRow_160 : decode cX12_readsRow 160 = .ok (.invokestatic 153, 3) := by decide +kernel
theorem dX12_readsRow_163 : decode cX12_readsRow 163 = .ok (.ifCond .eq 12, 3) := by decide +kernel
theorem dX12_readsRow_166 : decode cX12_readsRow 166 = .ok (.aload_n 0, 1) := by decide +kernel
theorem dX12_readsRow_167 : decode cX12_readsRow 167 = .ok (.iconst 1, 1) := by decide +kernel
theorem dX12_readsRow_168 : decode cX12_readsRow 168 = .ok (.aload_n 0, 1) := by decide +kernel
theorem dX12_readsRow_169 : decode cX12_readsRow 169 = .ok (.getfield 137, 3) := by decide +kernel
theorem dX12_readsRow_172 : decode cX12_readsRow 172 = .ok (.invokevirtual 160, 3) := by decide +kernel
theorem dX12_readsRow_175 : decode cX12_readsRow 175 = .ok (.return_, 1) := by decide +kernel
theorem dX12_blanks_0 : decode cX12_blanks 0 = .ok (.aload_n 0, 1) := by decide +kernel
theorem dX12_blanks_1 : decode cX12_blanks 1 = .ok (.invokevirtual 149, 3) := by decide +kernel
theorem dX12_blanks_4 : decode cX12_blanks 4 = .ok (.bipush 32, 2) := by decide +kernel
theorem dX12_blanks_6 : decode cX12_blanks 6 = .ok (.if_icmp .ne 16, 3) := by decide +kernel
theorem dX12_blanks_9 : decode cX12_blanks 9 = .ok (.aload_n 0, 1) := by decide +kernel
theorem dX12_blanks_10 : decode cX12_blanks 10 = .ok (.dup, 1) := by decide +kernel
theorem dX12_blanks_11 : decode cX12_blanks 11 = .ok (.getfield 137, 3) := by decide +kernel
theorem dX12_blanks_14 : decode cX12_blanks 14 = .ok (.iconst 1, 1) := by decide +kernel
theorem dX12_blanks_15 : decode cX12_blanks 15 = .ok (.iadd, 1) := by decide +kernel
theorem dX12_blanks_16 : decode cX12_blanks 16 = .ok (.putfield 137, 3) := by decide +kernel
theorem dX12_blanks_19 : decode cX12_blanks 19 = .ok (.goto (-19), 3) := by decide +kernel
theorem dX12_blanks_22 : decode cX12_blanks 22 = .ok (.return_, 1) := by decide +kernel
theorem dX12_readsSearch_0 : decode cX12_readsSearch 0 = .ok (.aload_n 0, 1) := by decide +kernel
theorem dX12_readsSearch_1 : decode cX12_readsSearch 1 = .ok (.getfield 57, 3) := by decide +kernel
theorem dX12_readsSearch_4 : decode cX12_readsSearch 4 = .ok (.iconst 1, 1) := by decide +kernel
theorem dX12_readsSearch_5 : decode cX12_readsSearch 5 = .ok (.aaload, 1) := by decide +kernel
theorem dX12_readsSearch_6 : decode cX12_readsSearch 6 = .ok (.iload_n 1, 1) := by decide +kernel
theorem dX12_readsSearch_7 : decode cX12_readsSearch 7 = .ok (.aaload, 1) := by decide +kernel
theorem dX12_readsSearch_8 : decode cX12_readsSearch 8 = .ok (.astore_n 2, 1) := by decide +kernel
theorem dX12_readsSearch_9 : decode cX12_readsSearch 9 = .ok (.iload_n 1, 1) := by decide +kernel
theorem dX12_readsSearch_10 : decode cX12_readsSearch 10 = .ok (.ifCond .ne 13, 3) := by decide +kernel
theorem dX12_readsSearch_13 : decode cX12_readsSearch 13 = .ok (.aload_n 0, 1) := by decide +kernel
theorem dX12_readsSearch_14 : decode cX12_readsSearch 14 = .ok (.aload_n 2, 1) := by decide +kernel
theorem dX12_readsSearch_15 : decode cX12_readsSearch 15 = .ok (.iconst 0, 1) := by decide +kernel
theorem dX12_readsSearch_16 : decode cX12_readsSearch 16 = .ok (.aaload, 1) := by decide +kernel
theorem dX12_readsSearch_17 : decode cX12_readsSearch 17 = .ok (.invokevirtual 168, 3) := by decide +kernel
theorem dX12_readsSearch_20 : decode cX12_readsSearch 20 = .ok (.goto 9, 3) := by decide +kernel
theorem dX12_readsSearch_23 : decode cX12_readsSearch 23 = .ok (.aload_n 0, 1) := by decide +kernel
theorem dX12_readsSearch_24 : decode cX12_readsSearch 24 = .ok (.aload_n 2, 1) := by decide +kernel
theorem dX12_readsSearch_25 : decode cX12_readsSearch 25 = .ok (.iconst 0, 1) := by decide +kernel
theorem dX12_readsSearch_26 : decode cX12_readsSearch 26 = .ok (.invokevirtual 172, 3) := by decide +kernel
theorem dX12_readsSearch_29 : decode cX12_readsSearch 29 = .ok (.iconst 1, 1) := by decide +kernel
theorem dX12_readsSearch_30 : decode cX12_readsSearch 30 = .ok (.istore_n 3, 1) := by decide +kernel
theorem dX12_readsSearch_31 : decode cX12_readsSearch 31 = .ok (.iload_n 3, 1) := by decide +kernel
theorem dX12_readsSearch_32 : decode cX12_readsSearch 32 = .ok (.iconst 3, 1) := by decide +kernel
theorem dX12_readsSearch_33 : decode cX12_readsSearch 33 = .ok (.if_icmp .ge 44, 3) := by decide +kernel
theorem dX12_readsSearch_36 : decode cX12_readsSearch 36 = .ok (.aload_n 0, 1) := by decide +kernel
theorem dX12_readsSearch_37 : decode cX12_readsSearch 37 = .ok (.invokevirtual 149, 3) := by decide +kernel
theorem dX12_readsSearch_40 : decode cX12_readsSearch 40 = .ok (.bipush 32, 2) := by decide +kernel
theorem dX12_readsSearch_42 : decode cX12_readsSearch 42 = .ok (.if_icmp .eq 12, 3) := by decide +kernel
theorem dX12_readsSearch_45 : decode cX12_readsSearch 45 = .ok (.aload_n 0, 1) := by decide +kernel
theorem dX12_readsSearch_46 : decode cX12_readsSearch 46 = .ok (.iconst 1, 1) := by decide +kernel
theorem dX12_readsSearch_47 : decode cX12_readsSearch 47 = .ok (.aload_n 0, 1) := by decide +kernel
theorem dX12_readsSearch_48 : decode cX12_readsSearch 48 = .ok (.getfield 137, 3) := by decide +kernel
theorem dX12_readsSearch_51 : decode cX12_readsSearch 51 = .ok (.invokevirtual 160, 3) := by decide +kernel
theorem dX12_readsSearch_54 : decode cX12_readsSearch 54 = .ok (.aload_n 0, 1) := by decide +kernel
theorem dX12_readsSearch_55 : decode cX12_readsSearch 55 = .ok (.invokevirtual 176, 3) := by decide +kernel
theorem dX12_readsSearch_58 : decode cX12_readsSearch 58 = .ok (.aload_n 0, 1) := by decide +kernel
theorem dX12_readsSearch_59 : decode cX12_readsSearch 59 = .ok (.invokevirtual 164, 3) := by decide +kernel
theorem dX12_readsSearch_62 : decode cX12_readsSearch 62 = .ok (.ifCond .eq 9, 3) := by decide +kernel
theorem dX12_readsSearch_65 : decode cX12_readsSearch 65 = .ok (.aload_n 0, 1) := by decide +kernel
theorem dX12_readsSearch_66 : decode cX12_readsSearch 66 = .ok (.aload_n 2, 1) := by decide +kernel
theorem dX12_readsSearch_67 : decode cX12_readsSearch 67 = .ok (.iload_n 3, 1) := by decide +kernel
theorem dX12_readsSearch_68 : decode cX12_readsSearch 68 = .ok (.invokevirtual 172, 3) := by decide +kernel
theorem dX12_readsSearch_71 : decode cX12_readsSearch 71 = .ok (.iinc 3 1, 3) := by decide +kernel
theorem dX12_readsSearch_74 : decode cX12_readsSearch 74 = .ok (.goto (-43), 3) := by decide +kernel
theorem dX12_readsSearch_77 : decode cX12_readsSearch 77 = .ok (.aload_n 0, 1) := by decide +kernel
theorem dX12_readsSearch_78 : decode cX12_readsSearch 78 = .ok (.invokevirtual 176, 3) := by decide +kernel
theorem dX12_readsSearch_81 : decode cX12_readsSearch 81 = .ok (.aload_n 0, 1) := by decide +kernel
theorem dX12_readsSearch_82 : decode cX12_readsSearch 82 = .ok (.invokevirtual 149, 3) := by decide +kernel
theorem dX12_readsSearch_85 : decode cX12_readsSearch 85 = .ok (.bipush 59, 2) := by decide +kernel
theorem dX12_readsSearch_87 : decode cX12_readsSearch 87 = .ok (.if_icmp .eq 12, 3) := by decide +kernel
theorem dX12_readsSearch_90 : decode cX12_readsSearch 90 = .ok (.aload_n 0, 1) := by decide +kernel
theorem dX12_readsSearch_91 : decode cX12_readsSearch 91 = .ok (.iconst 1, 1) := by decide +kernel
theorem dX12_readsSearch_92 : decode cX12_readsSearch 92 = .ok (.aload_n 0, 1) := by decide +kernel
theorem dX12_readsSearch_93 : decode cX12_readsSearch 93 = .ok (.getfield 137, 3) := by decide +kernel
theorem dX12_readsSearch_96 : decode cX12_readsSearch 96 = .ok (.invokevirtual 160, 3) := by decide +kernel
theorem dX12_readsSearch_99 : decode cX12_readsSearch 99 = .ok (.aload_n 0, 1) := by decide +kernel
theorem dX12_readsSearch_100 : decode cX12_readsSearch 100 = .ok (.dup, 1) := by decide +kernel
theorem dX12_readsSearch_101 : decode cX12_readsSearch 101 = .ok (.getfield 137, 3) := by decide +kernel
theorem dX12_readsSearch_104 : decode cX12_readsSearch 104 = .ok (.iconst 1, 1) := by decide +kernel
theorem dX12_readsSearch_105 : decode cX12_readsSearch 105 = .ok (.iadd, 1) := by decide +kernel
theorem dX12_readsSearch_106 : decode cX12_readsSearch 106 = .ok (.putfield 137, 3) := by decide +kernel
theorem dX12_readsSearch_109 : decode cX12_readsSearch 109 = .ok (.return_, 1) := by decide +kernel
theorem dX12_scheme_0 : decode cX12_scheme 0 = .ok (.aload_n 0, 1) := by decide +kernel
theorem dX12_scheme_1 : decode cX12_scheme 1 = .ok (.iconst 0, 1) := by decide +kernel
theorem dX12_scheme_2 : decode cX12_scheme 2 = .ok (.putfield 105, 3) := by decide +kernel
theorem dX12_scheme_5 : decode cX12_scheme 5 = .ok (.aload_n 0, 1) := by decide +kernel
theorem dX12_scheme_6 : decode cX12_scheme 6 = .ok (.iload_n 1, 1) := by decide +kernel
theorem dX12_scheme_7 : decode cX12_scheme 7 = .ok (.iconst 1, 1) := by decide +kernel
theorem dX12_scheme_8 : decode cX12_scheme 8 = .ok (.aload_n 0, 1) := by decide +kernel
theorem dX12_scheme_9 : decode cX12_scheme 9 = .ok (.getfield 115, 3) := by decide +kernel
theorem dX12_scheme_12 : decode cX12_scheme 12 = .ok (.invokestatic 108, 3) := by decide +kernel
theorem dX12_scheme_15 : decode cX12_scheme 15 = .ok (.ifCond .ne 7, 3) := by decide +kernel
theorem dX12_scheme_18 : decode cX12_scheme 18 = .ok (.iconst 1, 1) := by decide +kernel
theorem dX12_scheme_19 : decode cX12_scheme 19 = .ok (.goto 4, 3) := by decide +kernel
theorem dX12_scheme_22 : decode cX12_scheme 22 = .ok (.iconst 0, 1) := by decide +kernel
theorem dX12_scheme_23 : decode cX12_scheme 23 = .ok (.iconst 1, 1) := by decide +kernel
theorem dX12_scheme_24 : decode cX12_scheme 24 = .ok (.iconst 1, 1) := by decide +kernel
theorem dX12_scheme_25 : decode cX12_scheme 25 = .ok (.invokevirtual 122, 3) := by decide +kernel
theorem dX12_scheme_28 : decode cX12_scheme 28 = .ok (.ifCond .eq 5, 3) := by decide +kernel
theorem dX12_scheme_31 : decode cX12_scheme 31 = .ok (.iconst 0, 1) := by decide +kernel
theorem dX12_scheme_32 : decode cX12_scheme 32 = .ok (.ireturn, 1) := by decide +kernel
theorem dX12_scheme_33 : decode cX12_scheme 33 = .ok (.aload_n 0, 1) := by decide +kernel
theorem dX12_scheme_34 : decode cX12_scheme 34 = .ok (.iload_n 1, 1) := by decide +kernel
theorem dX12_scheme_35 : decode cX12_scheme 35 = .ok (.putfield 140, 3) := by decide +kernel
theorem dX12_scheme_38 : decode cX12_scheme 38 = .ok (.aload_n 0, 1) := by decide +kernel
theorem dX12_scheme_39 : decode cX12_scheme 39 = .ok (.iconst 0, 1) := by decide +kernel
theorem dX12_scheme_40 : decode cX12_scheme 40 = .ok (.putfield 115, 3) := by decide +kernel
theorem dX12_scheme_43 : decode cX12_scheme 43 = .ok (.aload_n 0, 1) := by decide +kernel
theorem dX12_scheme_44 : decode cX12_scheme 44 = .ok (.iconst 0, 1) := by decide +kernel
theorem dX12_scheme_45 : decode cX12_scheme 45 = .ok (.putfield 137, 3) := by decide +kernel
theorem dX12_scheme_48 : decode cX12_scheme 48 = .ok (.aload_n 0, 1) := by decide +kernel
theorem dX12_scheme_49 : decode cX12_scheme 49 = .ok (.iconst 0, 1) := by decide +kernel
theorem dX12_scheme_50 : decode cX12_scheme 50 = .ok (.putfield 143, 3) := by decide +kernel
theorem dX12_scheme_53 : decode cX12_scheme 53 = .ok (.aload_n 0, 1) := by decide +kernel
theorem dX12_scheme_54 : decode cX12_scheme 54 = .ok (.iconst (-1), 1) := by decide +kernel
theorem dX12_scheme_55 : decode cX12_scheme 55 = .ok (.putfield 146, 3) := by decide +kernel
theorem dX12_scheme_58 : decode cX12_scheme 58 = .ok (.aload_n 0, 1) := by decide +kernel
theorem dX12_scheme_59 : decode cX12_scheme 59 = .ok (.getfield 49, 3) := by decide +kernel
theorem dX12_scheme_62 : decode cX12_scheme 62 = .ok (.iconst 1, 1) := by decide +kernel
theorem dX12_scheme_63 : decode cX12_scheme 63 = .ok (.iconst 0, 1) := by decide +kernel
theorem dX12_scheme_64 : decode cX12_scheme 64 = .ok (.iastore, 1) := by decide +kernel
theorem dX12_scheme_65 : decode cX12_scheme 65 = .ok (.aload_n 0, 1) := by decide +kernel
theorem dX12_scheme_66 : decode cX12_scheme 66 = .ok (.invokevirtual 176, 3) := by decide +kernel
theorem dX12_scheme_69 : decode cX12_scheme 69 = .ok (.aload_n 0, 1) := by decide +kernel
theorem dX12_scheme_70 : decode cX12_scheme 70 = .ok (.invokevirtual 149, 3) := by decide +kernel
theorem dX12_scheme_73 : decode cX12_scheme 73 = .ok (.iconst (-1), 1) := by decide +kernel
theorem dX12_scheme_74 : decode cX12_scheme 74 = .ok (.if_icmp .ne 12, 3) := by decide +kernel
theorem dX12_scheme_77 : decode cX12_scheme 77 = .ok (.aload_n 0, 1) := by decide +kernel
theorem dX12_scheme_78 : decode cX12_scheme 78 = .ok (.iconst 1, 1) := by decide +kernel
theorem dX12_scheme_79 : decode cX12_scheme 79 = .ok (.aload_n 0, 1) := by decide +kernel
theorem dX12_scheme_80 : decode cX12_scheme 80 = .ok (.getfield 137, 3) := by decide +kernel
theorem dX12_scheme_83 : decode cX12_scheme 83 = .ok (.invokevirtual 160, 3) := by decide +kernel
theorem dX12_scheme_86 : decode cX12_scheme 86 = .ok (.aload_n 0, 1) := by decide +kernel
theorem dX12_scheme_87 : decode cX12_scheme 87 = .ok (.invokevirtual 164, 3) := by decide +kernel
theorem dX12_scheme_90 : decode cX12_scheme 90 = .ok (.ifCond .eq 90, 3) := by decide +kernel
theorem dX12_scheme_93 : decode cX12_scheme 93 = .ok (.aload_n 0, 1) := by decide +kernel
theorem dX12_scheme_94 : decode cX12_scheme 94 = .ok (.invokevirtual 149, 3) := by decide +kernel
theorem dX12_scheme_97 : decode cX12_scheme 97 = .ok (.iconst (-1), 1) := by decide +kernel
theorem dX12_scheme_98 : decode cX12_scheme 98 = .ok (.if_icmp .eq 82, 3) := by decide +kernel
theorem dX12_scheme_101 : decode cX12_scheme 101 = .ok (.aload_n 0, 1) := by decide +kernel
theorem dX12_scheme_102 : decode cX12_scheme 102 = .ok (.invokevirtual 149, 3) := by decide +kernel
theorem dX12_scheme_105 : decode cX12_scheme 105 = .ok (.invokestatic 153, 3) := by decide +kernel
theorem dX12_scheme_108 : decode cX12_scheme 108 = .ok (.ifCond .ne 15, 3) := by decide +kernel
theorem dX12_scheme_111 : decode cX12_scheme 111 = .ok (.aload_n 0, 1) := by decide +kernel
theorem dX12_scheme_112 : decode cX12_scheme 112 = .ok (.iconst 1, 1) := by decide +kernel
theorem dX12_scheme_113 : decode cX12_scheme 113 = .ok (.aload_n 0, 1) := by decide +kernel
theorem dX12_scheme_114 : decode cX12_scheme 114 = .ok (.getfield 137, 3) := by decide +kernel
theorem dX12_scheme_117 : decode cX12_scheme 117 = .ok (.invokevirtual 160, 3) := by decide +kernel
theorem dX12_scheme_120 : decode cX12_scheme 120 = .ok (.goto 23, 3) := by decide +kernel
theorem dX12_scheme_123 : decode cX12_scheme 123 = .ok (.aload_n 0, 1) := by decide +kernel
theorem dX12_scheme_124 : decode cX12_scheme 124 = .ok (.getfield 49, 3) := by decide +kernel
theorem dX12_scheme_127 : decode cX12_scheme 127 = .ok (.iconst 1, 1) := by decide +kernel
theorem dX12_scheme_128 : decode cX12_scheme 128 = .ok (.iaload, 1) := by decide +kernel
theorem dX12_scheme_129 : decode cX12_scheme 129 = .ok (.bipush 8, 2) := by decide +kernel
theorem dX12_scheme_131 : decode cX12_scheme 131 = .ok (.if_icmp .ne 12, 3) := by decide +kernel
theorem dX12_scheme_134 : decode cX12_scheme 134 = .ok (.aload_n 0, 1) := by decide +kernel
theorem dX12_scheme_135 : decode cX12_scheme 135 = .ok (.iconst 3, 1) := by decide +kernel
theorem dX12_scheme_136 : decode cX12_scheme 136 = .ok (.aload_n 0, 1) := by decide +kernel
theorem dX12_scheme_137 : decode cX12_scheme 137 = .ok (.getfield 137, 3) := by decide +kernel
theorem dX12_scheme_140 : decode cX12_scheme 140 = .ok (.invokevirtual 160, 3) := by decide +kernel
theorem dX12_scheme_143 : decode cX12_scheme 143 = .ok (.aload_n 0, 1) := by decide +kernel
theorem dX12_scheme_144 : decode cX12_scheme 144 = .ok (.invokevirtual 164, 3) := by decide +kernel
theorem dX12_scheme_147 : decode cX12_scheme 147 = .ok (.ifCond .ne 6, 3) := by decide +kernel
theorem dX12_scheme_150 : decode cX12_scheme 150 = .ok (.goto 30, 3) := by decide +kernel
theorem dX12_scheme_153 : decode cX12_scheme 153 = .ok (.aload_n 0, 1) := by decide +kernel
theorem dX12_scheme_154 : decode cX12_scheme 154 = .ok (.aload_n 0, 1) := by decide +kernel
theorem dX12_scheme_155 : decode cX12_scheme 155 = .ok (.getfield 49, 3) := by decide +kernel
theorem dX12_scheme_158 : decode cX12_scheme 158 = .ok (.iconst 1, 1) := by decide +kernel
theorem dX12_scheme_159 : decode cX12_scheme 159 = .ok (.iaload, 1) := by decide +kernel
theorem dX12_scheme_160 : decode cX12_scheme 160 = .ok (.invokevirtual 179, 3) := by decide +kernel
theorem dX12_scheme_163 : decode cX12_scheme 163 = .ok (.aload_n 0, 1) := by decide +kernel
theorem dX12_scheme_164 : decode cX12_scheme 164 = .ok (.getfield 49, 3) := by decide +kernel
theorem dX12_scheme_167 : decode cX12_scheme 167 = .ok (.iconst 1, 1) := by decide +kernel
theorem dX12_scheme_168 : decode cX12_scheme 168 = .ok (.dup2, 1) := by decide +kernel
theorem dX12_scheme_169 : decode cX12_scheme 169 = .ok (.iaload, 1) := by decide +kernel
theorem dX12_scheme_170 : decode cX12_scheme 170 = .ok (.iconst 1, 1) := by decide +kernel
theorem dX12_scheme_171 : decode cX12_scheme 171 = .ok (.iadd, 1) := by decide +kernel
theorem dX12_scheme_172 : decode cX12_scheme 172 = .ok (.iastore, 1) := by decide +kernel
theorem dX12_scheme_173 : decode cX12_scheme 173 = .ok (.aload_n 0, 1) := by decide +kernel
theorem dX12_scheme_174 : decode cX12_scheme 174 = .ok (.invokevirtual 176, 3) := by decide +kernel
theorem dX12_scheme_177 : decode cX12_scheme 177 = .ok (.goto (-91), 3) := by decide +kernel
theorem dX12_scheme_180 : decode cX12_scheme 180 = .ok (.aload_n 0, 1) := by decide +kernel
theorem dX12_scheme_181 : decode cX12_scheme 181 = .ok (.aload_n 0, 1) := by decide +kernel
theorem dX12_scheme_182 : decode cX12_scheme 182 = .ok (.getfield 146, 3) := by decide +kernel
theorem dX12_scheme_185 : decode cX12_scheme 185 = .ok (.putfield 13, 3) := by decide +kernel
theorem dX12_scheme_188 : decode cX12_scheme 188 = .ok (.aload_n 0, 1) := by decide +kernel
theorem dX12_scheme_189 : decode cX12_scheme 189 = .ok (.invokevirtual 164, 3) := by decide +kernel
theorem dX12_scheme_192 : decode cX12_scheme 192 = .ok (.ifCond .ne 11, 3) := by decide +kernel
theorem dX12_scheme_195 : decode cX12_scheme 195 = .ok (.aload_n 0, 1) := by decide +kernel
theorem dX12_scheme_196 : decode cX12_scheme 196 = .ok (.getfield 143, 3) := by decide +kernel
theorem dX12_scheme_199 : decode cX12_scheme 199 = .ok (.bipush 10, 2) := by decide +kernel
theorem dX12_scheme_201 : decode cX12_scheme 201 = .ok (.isub, 1) := by decide +kernel
theorem dX12_scheme_202 : decode cX12_scheme 202 = .ok (.ireturn, 1) := by decide +kernel
theorem dX12_scheme_203 : decode cX12_scheme 203 = .ok (.aload_n 0, 1) := by decide +kernel
theorem dX12_scheme_204 : decode cX12_scheme 204 = .ok (.getfield 49, 3) := by decide +kernel
theorem dX12_scheme_207 : decode cX12_scheme 207 = .ok (.iconst 0, 1) := by decide +kernel
theorem dX12_scheme_208 : decode cX12_scheme 208 = .ok (.aload_n 0, 1) := by decide +kernel
theorem dX12_scheme_209 : decode cX12_scheme 209 = .ok (.getfield 49, 3) := by decide +kernel
theorem dX12_scheme_212 : decode cX12_scheme 212 = .ok (.iconst 1, 1) := by decide +kernel
theorem dX12_scheme_213 : decode cX12_scheme 213 = .ok (.iaload, 1) := by decide +kernel
theorem dX12_scheme_214 : decode cX12_scheme 214 = .ok (.iastore, 1) := by decide +kernel
theorem dX12_scheme_215 : decode cX12_scheme 215 = .ok (.aload_n 0, 1) := by decide +kernel
theorem dX12_scheme_216 : decode cX12_scheme 216 = .ok (.getfield 52, 3) := by decide +kernel
theorem dX12_scheme_219 : decode cX12_scheme 219 = .ok (.iconst 0, 1) := by decide +kernel
theorem dX12_scheme_220 : decode cX12_scheme 220 = .ok (.aload_n 0, 1) := by decide +kernel
theorem dX12_scheme_221 : decode cX12_scheme 221 = .ok (.getfield 52, 3) := by decide +kernel
theorem dX12_scheme_224 : decode cX12_scheme 224 = .ok (.iconst 1, 1) := by decide +kernel
theorem dX12_scheme_225 : decode cX12_scheme 225 = .ok (.iaload, 1) := by decide +kernel
theorem dX12_scheme_226 : decode cX12_scheme 226 = .ok (.iastore, 1) := by decide +kernel
theorem dX12_scheme_227 : decode cX12_scheme 227 = .ok (.iconst 0, 1) := by decide +kernel
theorem dX12_scheme_228 : decode cX12_scheme 228 = .ok (.istore_n 2, 1) := by decide +kernel
theorem dX12_scheme_229 : decode cX12_scheme 229 = .ok (.iload_n 2, 1) := by decide +kernel
theorem dX12_scheme_230 : decode cX12_scheme 230 = .ok (.aload_n 0, 1) := by decide +kernel
theorem dX12_scheme_231 : decode cX12_scheme 231 = .ok (.getfield 49, 3) := by decide +kernel
theorem dX12_scheme_234 : decode cX12_scheme 234 = .ok (.iconst 0, 1) := by decide +kernel
theorem dX12_scheme_235 : decode cX12_scheme 235 = .ok (.iaload, 1) := by decide +kernel
theorem dX12_scheme_236 : decode cX12_scheme 236 = .ok (.if_icmp .ge 68, 3) := by decide +kernel
theorem dX12_scheme_239 : decode cX12_scheme 239 = .ok (.iconst 0, 1) := by decide +kernel
theorem dX12_scheme_240 : decode cX12_scheme 240 = .ok (.istore_n 3, 1) := by decide +kernel
theorem dX12_scheme_241 : decode cX12_scheme 241 = .ok (.iload_n 3, 1) := by decide +kernel
theorem dX12_scheme_242 : decode cX12_scheme 242 = .ok (.iconst 3, 1) := by decide +kernel
theorem dX12_scheme_243 : decode cX12_scheme 243 = .ok (.if_icmp .ge 55, 3) := by decide +kernel
theorem dX12_scheme_246 : decode cX12_scheme 246 = .ok (.iconst 0, 1) := by decide +kernel
theorem dX12_scheme_247 : decode cX12_scheme 247 = .ok (.istore 4, 2) := by decide +kernel
theorem dX12_scheme_249 : decode cX12_scheme 249 = .ok (.iload 4, 2) := by decide +kernel
theorem dX12_scheme_251 : decode cX12_scheme 251 = .ok (.aload_n 0, 1) := by decide +kernel
theorem dX12_scheme_252 : decode cX12_scheme 252 = .ok (.getfield 52, 3) := by decide +kernel
theorem dX12_scheme_255 : decode cX12_scheme 255 = .ok (.iconst 0, 1) := by decide +kernel
theorem dX12_scheme_256 : decode cX12_scheme 256 = .ok (.iaload, 1) := by decide +kernel
theorem dX12_scheme_257 : decode cX12_scheme 257 = .ok (.if_icmp .ge 35, 3) := by decide +kernel
theorem dX12_scheme_260 : decode cX12_scheme 260 = .ok (.aload_n 0, 1) := by decide +kernel
theorem dX12_scheme_261 : decode cX12_scheme 261 = .ok (.getfield 57, 3) := by decide +kernel
theorem dX12_scheme_264 : decode cX12_scheme 264 = .ok (.iconst 0, 1) := by decide +kernel
theorem dX12_scheme_265 : decode cX12_scheme 265 = .ok (.aaload, 1) := by decide +kernel
theorem dX12_scheme_266 : decode cX12_scheme 266 = .ok (.iload_n 2, 1) := by decide +kernel
theorem dX12_scheme_267 : decode cX12_scheme 267 = .ok (.aaload, 1) := by decide +kernel
theorem dX12_scheme_268 : decode cX12_scheme 268 = .ok (.iload_n 3, 1) := by decide +kernel
theorem dX12_scheme_269 : decode cX12_scheme 269 = .ok (.aaload, 1) := by decide +kernel
theorem dX12_scheme_270 : decode cX12_scheme 270 = .ok (.iload 4, 2) := by decide +kernel
theorem dX12_scheme_272 : decode cX12_scheme 272 = .ok (.aload_n 0, 1) := by decide +kernel
theorem dX12_scheme_273 : decode cX12_scheme 273 = .ok (.getfield 57, 3) := by decide +kernel
theorem dX12_scheme_276 : decode cX12_scheme 276 = .ok (.iconst 1, 1) := by decide +kernel
theorem dX12_scheme_277 : decode cX12_scheme 277 = .ok (.aaload, 1) := by decide +kernel
theorem dX12_scheme_278 : decode cX12_scheme 278 = .ok (.iload_n 2, 1) := by decide +kernel
theorem dX12_scheme_279 : decode cX12_scheme 279 = .ok (.aaload, 1) := by decide +kernel
theorem dX12_scheme_280 : decode cX12_scheme 280 = .ok (.iload_n 3, 1) := by decide +kernel
theorem dX12_scheme_281 : decode cX12_scheme 281 = .ok (.aaload, 1) := by decide +kernel
theorem dX12_scheme_282 : decode cX12_scheme 282 = .ok (.iload 4, 2) := by decide +kernel
theorem dX12_scheme_284 : decode cX12_scheme 284 = .ok (.iaload, 1) := by decide +kernel
theorem dX12_scheme_285 : decode cX12_scheme 285 = .ok (.iastore, 1) := by decide +kernel
theorem dX12_scheme_286 : decode cX12_scheme 286 = .ok (.iinc 4 1, 3) := by decide +kernel
theorem dX12_scheme_289 : decode cX12_scheme 289 = .ok (.goto (-40), 3) := by decide +kernel
theorem dX12_scheme_292 : decode cX12_scheme 292 = .ok (.iinc 3 1, 3) := by decide +kernel
theorem dX12_scheme_295 : decode cX12_scheme 295 = .ok (.goto (-54), 3) := by decide +kernel
theorem dX12_scheme_298 : decode cX12_scheme 298 = .ok (.iinc 2 1, 3) := by decide +kernel
theorem dX12_scheme_301 : decode cX12_scheme 301 = .ok (.goto (-72), 3) := by decide +kernel
theorem dX12_scheme_304 : decode cX12_scheme 304 = .ok (.aload_n 0, 1) := by decide +kernel
theorem dX12_scheme_305 : decode cX12_scheme 305 = .ok (.getfield 49, 3) := by decide +kernel
theorem dX12_scheme_308 : decode cX12_scheme 308 = .ok (.iconst 0, 1) := by decide +kernel
theorem dX12_scheme_309 : decode cX12_scheme 309 = .ok (.iaload, 1) := by decide +kernel
theorem dX12_scheme_310 : decode cX12_scheme 310 = .ok (.ireturn, 1) := by decide +kernel
theorem dX12_fault_0 : decode cX12_fault 0 = .ok (.aload_n 0, 1) := by decide +kernel
theorem dX12_fault_1 : decode cX12_fault 1 = .ok (.iconst 0, 1) := by decide +kernel
theorem dX12_fault_2 : decode cX12_fault 2 = .ok (.putfield 105, 3) := by decide +kernel
theorem dX12_fault_5 : decode cX12_fault 5 = .ok (.aload_n 0, 1) := by decide +kernel
theorem dX12_fault_6 : decode cX12_fault 6 = .ok (.getfield 13, 3) := by decide +kernel
theorem dX12_fault_9 : decode cX12_fault 9 = .ok (.ireturn, 1) := by decide +kernel
theorem dX12_step_0 : decode cX12_step 0 = .ok (.aload_n 0, 1) := by decide +kernel
theorem dX12_step_1 : decode cX12_step 1 = .ok (.iconst 0, 1) := by decide +kernel
theorem dX12_step_2 : decode cX12_step 2 = .ok (.putfield 105, 3) := by decide +kernel
theorem dX12_step_5 : decode cX12_step 5 = .ok (.aload_n 0, 1) := by decide +kernel
theorem dX12_step_6 : decode cX12_step 6 = .ok (.iload_n 1, 1) := by decide +kernel
theorem dX12_step_7 : decode cX12_step 7 = .ok (.iconst 1, 1) := by decide +kernel
theorem dX12_step_8 : decode cX12_step 8 = .ok (.bipush 16, 2) := by decide +kernel
theorem dX12_step_10 : decode cX12_step 10 = .ok (.invokestatic 108, 3) := by decide +kernel
theorem dX12_step_13 : decode cX12_step 13 = .ok (.ifCond .ne 7, 3) := by decide +kernel
theorem dX12_step_16 : decode cX12_step 16 = .ok (.iconst 1, 1) := by decide +kernel
theorem dX12_step_17 : decode cX12_step 17 = .ok (.goto 4, 3) := by decide +kernel
theorem dX12_step_20 : decode cX12_step 20 = .ok (.iconst 0, 1) := by decide +kernel
theorem dX12_step_21 : decode cX12_step 21 = .ok (.iconst 1, 1) := by decide +kernel
theorem dX12_step_22 : decode cX12_step 22 = .ok (.iconst 1, 1) := by decide +kernel
theorem dX12_step_23 : decode cX12_step 23 = .ok (.invokevirtual 122, 3) := by decide +kernel
theorem dX12_step_26 : decode cX12_step 26 = .ok (.ifCond .eq 5, 3) := by decide +kernel
theorem dX12_step_29 : decode cX12_step 29 = .ok (.iconst 0, 1) := by decide +kernel
theorem dX12_step_30 : decode cX12_step 30 = .ok (.ireturn, 1) := by decide +kernel
theorem dX12_step_31 : decode cX12_step 31 = .ok (.aload_n 0, 1) := by decide +kernel
theorem dX12_step_32 : decode cX12_step 32 = .ok (.getfield 23, 3) := by decide +kernel
theorem dX12_step_35 : decode cX12_step 35 = .ok (.istore_n 2, 1) := by decide +kernel
theorem dX12_step_36 : decode cX12_step 36 = .ok (.aload_n 0, 1) := by decide +kernel
theorem dX12_step_37 : decode cX12_step 37 = .ok (.iload_n 1, 1) := by decide +kernel
theorem dX12_step_38 : decode cX12_step 38 = .ok (.putfield 23, 3) := by decide +kernel
theorem dX12_step_41 : decode cX12_step 41 = .ok (.iload_n 2, 1) := by decide +kernel
theorem dX12_step_42 : decode cX12_step 42 = .ok (.ireturn, 1) := by decide +kernel
theorem dX12_letters_0 : decode cX12_letters 0 = .ok (.aload_n 0, 1) := by decide +kernel
theorem dX12_letters_1 : decode cX12_letters 1 = .ok (.getfield 40, 3) := by decide +kernel
theorem dX12_letters_4 : decode cX12_letters 4 = .ok (.aload_n 0, 1) := by decide +kernel
theorem dX12_letters_5 : decode cX12_letters 5 = .ok (.getfield 37, 3) := by decide +kernel
theorem dX12_letters_8 : decode cX12_letters 8 = .ok (.isub, 1) := by decide +kernel
theorem dX12_letters_9 : decode cX12_letters 9 = .ok (.ireturn, 1) := by decide +kernel
theorem dX12_against_0 : decode cX12_against 0 = .ok (.iconst 0, 1) := by decide +kernel
theorem dX12_against_1 : decode cX12_against 1 = .ok (.istore_n 3, 1) := by decide +kernel
theorem dX12_against_2 : decode cX12_against 2 = .ok (.iload_n 3, 1) := by decide +kernel
theorem dX12_against_3 : decode cX12_against 3 = .ok (.aload_n 0, 1) := by decide +kernel
theorem dX12_against_4 : decode cX12_against 4 = .ok (.invokevirtual 183, 3) := by decide +kernel
theorem dX12_against_7 : decode cX12_against 7 = .ok (.if_icmp .ge 102, 3) := by decide +kernel
theorem dX12_against_10 : decode cX12_against 10 = .ok (.aload_n 0, 1) := by decide +kernel
theorem dX12_against_11 : decode cX12_against 11 = .ok (.getfield 31, 3) := by decide +kernel
theorem dX12_against_14 : decode cX12_against 14 = .ok (.iload_n 1, 1) := by decide +kernel
theorem dX12_against_15 : decode cX12_against 15 = .ok (.aaload, 1) := by decide +kernel
theorem dX12_against_16 : decode cX12_against 16 = .ok (.iload_n 2, 1) := by decide +kernel
theorem dX12_against_17 : decode cX12_against 17 = .ok (.iaload, 1) := by decide +kernel
theorem dX12_against_18 : decode cX12_against 18 = .ok (.iload_n 3, 1) := by decide +kernel
theorem dX12_against_19 : decode cX12_against 19 = .ok (.iadd, 1) := by decide +kernel
theorem dX12_against_20 : decode cX12_against 20 = .ok (.aload_n 0, 1) := by decide +kernel
theorem dX12_against_21 : decode cX12_against 21 = .ok (.getfield 20, 3) := by decide +kernel
theorem dX12_against_24 : decode cX12_against 24 = .ok (.if_icmp .ge 23, 3) := by decide +kernel
theorem dX12_against_27 : decode cX12_against 27 = .ok (.aload_n 0, 1) := by decide +kernel
theorem dX12_against_28 : decode cX12_against 28 = .ok (.getfield 28, 3) := by decide +kernel
theorem dX12_against_31 : decode cX12_against 31 = .ok (.iload_n 1, 1) := by decide +kernel
theorem dX12_against_32 : decode cX12_against 32 = .ok (.aaload, 1) := by decide +kernel
theorem dX12_against_33 : decode cX12_against 33 = .ok (.aload_n 0, 1) := by decide +kernel
theorem dX12_against_34 : decode cX12_against 34 = .ok (.getfield 31, 3) := by decide +kernel
theorem dX12_against_37 : decode cX12_against 37 = .ok (.iload_n 1, 1) := by decide +kernel
theorem dX12_against_38 : decode cX12_against 38 = .ok (.aaload, 1) := by decide +kernel
theorem dX12_against_39 : decode cX12_against 39 = .ok (.iload_n 2, 1) := by decide +kernel
theorem dX12_against_40 : decode cX12_against 40 = .ok (.iaload, 1) := by decide +kernel
theorem dX12_against_41 : decode cX12_against 41 = .ok (.iload_n 3, 1) := by decide +kernel
theorem dX12_against_42 : decode cX12_against 42 = .ok (.iadd, 1) := by decide +kernel
theorem dX12_against_43 : decode cX12_against 43 = .ok (.iaload, 1) := by decide +kernel
theorem dX12_against_44 : decode cX12_against 44 = .ok (.goto 4, 3) := by decide +kernel
theorem dX12_against_47 : decode cX12_against 47 = .ok (.iconst 0, 1) := by decide +kernel
theorem dX12_against_48 : decode cX12_against 48 = .ok (.istore 4, 2) := by decide +kernel
theorem dX12_against_50 : decode cX12_against 50 = .ok (.iload_n 1, 1) := by decide +kernel
theorem dX12_against_51 : decode cX12_against 51 = .ok (.ifCond .ne 17, 3) := by decide +kernel
theorem dX12_against_54 : decode cX12_against 54 = .ok (.aload_n 0, 1) := by decide +kernel
theorem dX12_against_55 : decode cX12_against 55 = .ok (.getfield 43, 3) := by decide +kernel
theorem dX12_against_58 : decode cX12_against 58 = .ok (.aload_n 0, 1) := by decide +kernel
theorem dX12_against_59 : decode cX12_against 59 = .ok (.getfield 37, 3) := by decide +kernel
theorem dX12_against_62 : decode cX12_against 62 = .ok (.iload_n 3, 1) := by decide +kernel
theorem dX12_against_63 : decode cX12_against 63 = .ok (.iadd, 1) := by decide +kernel
theorem dX12_against_64 : decode cX12_against 64 = .ok (.iaload, 1) := by decide +kernel
theorem dX12_against_65 : decode cX12_against 65 = .ok (.goto 16, 3) := by decide +kernel
theorem dX12_against_68 : decode cX12_against 68 = .ok (.aload_n 0, 1) := by decide +kernel
theorem dX12_against_69 : decode cX12_against 69 = .ok (.getfield 43, 3) := by decide +kernel
theorem dX12_against_72 : decode cX12_against 72 = .ok (.aload_n 0, 1) := by decide +kernel
theorem dX12_against_73 : decode cX12_against 73 = .ok (.getfield 40, 3) := by decide +kernel
theorem dX12_against_76 : decode cX12_against 76 = .ok (.iconst 1, 1) := by decide +kernel
theorem dX12_against_77 : decode cX12_against 77 = .ok (.isub, 1) := by decide +kernel
theorem dX12_against_78 : decode cX12_against 78 = .ok (.iload_n 3, 1) := by decide +kernel
theorem dX12_against_79 : decode cX12_against 79 = .ok (.isub, 1) := by decide +kernel
theorem dX12_against_80 : decode cX12_against 80 = .ok (.iaload, 1) := by decide +kernel
theorem dX12_against_81 : decode cX12_against 81 = .ok (.istore 5, 2) := by decide +kernel
theorem dX12_against_83 : decode cX12_against 83 = .ok (.iload 4, 2) := by decide +kernel
theorem dX12_against_85 : decode cX12_against 85 = .ok (.iload 5, 2) := by decide +kernel
theorem dX12_against_87 : decode cX12_against 87 = .ok (.if_icmp .eq 16, 3) := by decide +kernel
theorem dX12_against_90 : decode cX12_against 90 = .ok (.iload 4, 2) := by decide +kernel
theorem dX12_against_92 : decode cX12_against 92 = .ok (.iload 5, 2) := by decide +kernel
theorem dX12_against_94 : decode cX12_against 94 = .ok (.if_icmp .ge 7, 3) := by decide +kernel
theorem dX12_against_97 : decode cX12_against 97 = .ok (.iconst (-1), 1) := by decide +kernel
theorem dX12_against_98 : decode cX12_against 98 = .ok (.goto 4, 3) := by decide +kernel
theorem dX12_against_101 : decode cX12_against 101 = .ok (.iconst 1, 1) := by decide +kernel
theorem dX12_against_102 : decode cX12_against 102 = .ok (.ireturn, 1) := by decide +kernel
theorem dX12_against_103 : decode cX12_against 103 = .ok (.iinc 3 1, 3) := by decide +kernel
theorem dX12_against_106 : decode cX12_against 106 = .ok (.goto (-104), 3) := by decide +kernel
theorem dX12_against_109 : decode cX12_against 109 = .ok (.iconst 0, 1) := by decide +kernel
theorem dX12_against_110 : decode cX12_against 110 = .ok (.ireturn, 1) := by decide +kernel
theorem dX12_lowOf_0 : decode cX12_lowOf 0 = .ok (.iconst 0, 1) := by decide +kernel
theorem dX12_lowOf_1 : decode cX12_lowOf 1 = .ok (.istore_n 2, 1) := by decide +kernel
theorem dX12_lowOf_2 : decode cX12_lowOf 2 = .ok (.iload_n 2, 1) := by decide +kernel
theorem dX12_lowOf_3 : decode cX12_lowOf 3 = .ok (.aload_n 0, 1) := by decide +kernel
theorem dX12_lowOf_4 : decode cX12_lowOf 4 = .ok (.getfield 20, 3) := by decide +kernel
theorem dX12_lowOf_7 : decode cX12_lowOf 7 = .ok (.if_icmp .gt 18, 3) := by decide +kernel
theorem dX12_lowOf_10 : decode cX12_lowOf 10 = .ok (.aload_n 0, 1) := by decide +kernel
theorem dX12_lowOf_11 : decode cX12_lowOf 11 = .ok (.iload_n 1, 1) := by decide +kernel
theorem dX12_lowOf_12 : decode cX12_lowOf 12 = .ok (.iload_n 2, 1) := by decide +kernel
theorem dX12_lowOf_13 : decode cX12_lowOf 13 = .ok (.invokevirtual 186, 3) := by decide +kernel
theorem dX12_lowOf_16 : decode cX12_lowOf 16 = .ok (.ifCond .ge 9, 3) := by decide +kernel
theorem dX12_lowOf_19 : decode cX12_lowOf 19 = .ok (.iinc 2 1, 3) := by decide +kernel
theorem dX12_lowOf_22 : decode cX12_lowOf 22 = .ok (.goto (-20), 3) := by decide +kernel
theorem dX12_lowOf_25 : decode cX12_lowOf 25 = .ok (.iload_n 2, 1) := by decide +kernel
theorem dX12_lowOf_26 : decode cX12_lowOf 26 = .ok (.ireturn, 1) := by decide +kernel
theorem dX12_sizeOf_0 : decode cX12_sizeOf 0 = .ok (.iconst 0, 1) := by decide +kernel
theorem dX12_sizeOf_1 : decode cX12_sizeOf 1 = .ok (.istore_n 1, 1) := by decide +kernel
theorem dX12_sizeOf_2 : decode cX12_sizeOf 2 = .ok (.iconst 0, 1) := by decide +kernel
theorem dX12_sizeOf_3 : decode cX12_sizeOf 3 = .ok (.istore_n 2, 1) := by decide +kernel
theorem dX12_sizeOf_4 : decode cX12_sizeOf 4 = .ok (.iload_n 2, 1) := by decide +kernel
theorem dX12_sizeOf_5 : decode cX12_sizeOf 5 = .ok (.aload_n 0, 1) := by decide +kernel
theorem dX12_sizeOf_6 : decode cX12_sizeOf 6 = .ok (.getfield 20, 3) := by decide +kernel
theorem dX12_sizeOf_9 : decode cX12_sizeOf 9 = .ok (.if_icmp .gt 26, 3) := by decide +kernel
theorem dX12_sizeOf_12 : decode cX12_sizeOf 12 = .ok (.iload_n 1, 1) := by decide +kernel
theorem dX12_sizeOf_13 : decode cX12_sizeOf 13 = .ok (.aload_n 0, 1) := by decide +kernel
theorem dX12_sizeOf_14 : decode cX12_sizeOf 14 = .ok (.iconst 0, 1) := by decide +kernel
theorem dX12_sizeOf_15 : decode cX12_sizeOf 15 = .ok (.iload_n 2, 1) := by decide +kernel
theorem dX12_sizeOf_16 : decode cX12_sizeOf 16 = .ok (.invokevirtual 186, 3) := by decide +kernel
theorem dX12_sizeOf_19 : decode cX12_sizeOf 19 = .ok (.ifCond .ne 7, 3) := by decide +kernel
theorem dX12_sizeOf_22 : decode cX12_sizeOf 22 = .ok (.iconst 1, 1) := by decide +kernel
theorem dX12_sizeOf_23 : decode cX12_sizeOf 23 = .ok (.goto 4, 3) := by decide +kernel
theorem dX12_sizeOf_26 : decode cX12_sizeOf 26 = .ok (.iconst 0, 1) := by decide +kernel
theorem dX12_sizeOf_27 : decode cX12_sizeOf 27 = .ok (.iadd, 1) := by decide +kernel
theorem dX12_sizeOf_28 : decode cX12_sizeOf 28 = .ok (.istore_n 1, 1) := by decide +kernel
theorem dX12_sizeOf_29 : decode cX12_sizeOf 29 = .ok (.iinc 2 1, 3) := by decide +kernel
theorem dX12_sizeOf_32 : decode cX12_sizeOf 32 = .ok (.goto (-28), 3) := by decide +kernel
theorem dX12_sizeOf_35 : decode cX12_sizeOf 35 = .ok (.iload_n 1, 1) := by decide +kernel
theorem dX12_sizeOf_36 : decode cX12_sizeOf 36 = .ok (.ireturn, 1) := by decide +kernel
theorem dX12_sizeBy_0 : decode cX12_sizeBy 0 = .ok (.iload_n 2, 1) := by decide +kernel
theorem dX12_sizeBy_1 : decode cX12_sizeBy 1 = .ok (.ifCond .ne 26, 3) := by decide +kernel
theorem dX12_sizeBy_4 : decode cX12_sizeBy 4 = .ok (.aload_n 0, 1) := by decide +kernel
theorem dX12_sizeBy_5 : decode cX12_sizeBy 5 = .ok (.dup, 1) := by decide +kernel
theorem dX12_sizeBy_6 : decode cX12_sizeBy 6 = .ok (.getfield 37, 3) := by decide +kernel
theorem dX12_sizeBy_9 : decode cX12_sizeBy 9 = .ok (.iconst 1, 1) := by decide +kernel
theorem dX12_sizeBy_10 : decode cX12_sizeBy 10 = .ok (.isub, 1) := by decide +kernel
theorem dX12_sizeBy_11 : decode cX12_sizeBy 11 = .ok (.putfield 37, 3) := by decide +kernel
theorem dX12_sizeBy_14 : decode cX12_sizeBy 14 = .ok (.aload_n 0, 1) := by decide +kernel
theorem dX12_sizeBy_15 : decode cX12_sizeBy 15 = .ok (.getfield 43, 3) := by decide +kernel
theorem dX12_sizeBy_18 : decode cX12_sizeBy 18 = .ok (.aload_n 0, 1) := by decide +kernel
theorem dX12_sizeBy_19 : decode cX12_sizeBy 19 = .ok (.getfield 37, 3) := by decide +kernel
theorem dX12_sizeBy_22 : decode cX12_sizeBy 22 = .ok (.iload_n 1, 1) := by decide +kernel
theorem dX12_sizeBy_23 : decode cX12_sizeBy 23 = .ok (.iastore, 1) := by decide +kernel
theorem dX12_sizeBy_24 : decode cX12_sizeBy 24 = .ok (.goto 23, 3) := by decide +kernel
theorem dX12_sizeBy_27 : decode cX12_sizeBy 27 = .ok (.aload_n 0, 1) := by decide +kernel
theorem dX12_sizeBy_28 : decode cX12_sizeBy 28 = .ok (.getfield 43, 3) := by decide +kernel
theorem dX12_sizeBy_31 : decode cX12_sizeBy 31 = .ok (.aload_n 0, 1) := by decide +kernel
theorem dX12_sizeBy_32 : decode cX12_sizeBy 32 = .ok (.getfield 40, 3) := by decide +kernel
theorem dX12_sizeBy_35 : decode cX12_sizeBy 35 = .ok (.iload_n 1, 1) := by decide +kernel
theorem dX12_sizeBy_36 : decode cX12_sizeBy 36 = .ok (.iastore, 1) := by decide +kernel
theorem dX12_sizeBy_37 : decode cX12_sizeBy 37 = .ok (.aload_n 0, 1) := by decide +kernel
theorem dX12_sizeBy_38 : decode cX12_sizeBy 38 = .ok (.dup, 1) := by decide +kernel
theorem dX12_sizeBy_39 : decode cX12_sizeBy 39 = .ok (.getfield 40, 3) := by decide +kernel
theorem dX12_sizeBy_42 : decode cX12_sizeBy 42 = .ok (.iconst 1, 1) := by decide +kernel
theorem dX12_sizeBy_43 : decode cX12_sizeBy 43 = .ok (.iadd, 1) := by decide +kernel
theorem dX12_sizeBy_44 : decode cX12_sizeBy 44 = .ok (.putfield 40, 3) := by decide +kernel
theorem dX12_sizeBy_47 : decode cX12_sizeBy 47 = .ok (.aload_n 0, 1) := by decide +kernel
theorem dX12_sizeBy_48 : decode cX12_sizeBy 48 = .ok (.invokevirtual 190, 3) := by decide +kernel
theorem dX12_sizeBy_51 : decode cX12_sizeBy 51 = .ok (.ireturn, 1) := by decide +kernel
theorem dX12_takesOff_0 : decode cX12_takesOff 0 = .ok (.iload_n 1, 1) := by decide +kernel
theorem dX12_takesOff_1 : decode cX12_takesOff 1 = .ok (.ifCond .ne 16, 3) := by decide +kernel
theorem dX12_takesOff_4 : decode cX12_takesOff 4 = .ok (.aload_n 0, 1) := by decide +kernel
theorem dX12_takesOff_5 : decode cX12_takesOff 5 = .ok (.dup, 1) := by decide +kernel
theorem dX12_takesOff_6 : decode cX12_takesOff 6 = .ok (.getfield 37, 3) := by decide +kernel
theorem dX12_takesOff_9 : decode cX12_takesOff 9 = .ok (.iconst 1, 1) := by decide +kernel
theorem dX12_takesOff_10 : decode cX12_takesOff 10 = .ok (.iadd, 1) := by decide +kernel
theorem dX12_takesOff_11 : decode cX12_takesOff 11 = .ok (.putfield 37, 3) := by decide +kernel
theorem dX12_takesOff_14 : decode cX12_takesOff 14 = .ok (.goto 13, 3) := by decide +kernel
theorem dX12_takesOff_17 : decode cX12_takesOff 17 = .ok (.aload_n 0, 1) := by decide +kernel
theorem dX12_takesOff_18 : decode cX12_takesOff 18 = .ok (.dup, 1) := by decide +kernel
theorem dX12_takesOff_19 : decode cX12_takesOff 19 = .ok (.getfield 40, 3) := by decide +kernel
theorem dX12_takesOff_22 : decode cX12_takesOff 22 = .ok (.iconst 1, 1) := by decide +kernel
theorem dX12_takesOff_23 : decode cX12_takesOff 23 = .ok (.isub, 1) := by decide +kernel
theorem dX12_takesOff_24 : decode cX12_takesOff 24 = .ok (.putfield 40, 3) := by decide +kernel
theorem dX12_takesOff_27 : decode cX12_takesOff 27 = .ok (.return_, 1) := by decide +kernel
theorem dX12_grow_0 : decode cX12_grow 0 = .ok (.aload_n 0, 1) := by decide +kernel
theorem dX12_grow_1 : decode cX12_grow 1 = .ok (.iconst 0, 1) := by decide +kernel
theorem dX12_grow_2 : decode cX12_grow 2 = .ok (.putfield 105, 3) := by decide +kernel
theorem dX12_grow_5 : decode cX12_grow 5 = .ok (.aload_n 0, 1) := by decide +kernel
theorem dX12_grow_6 : decode cX12_grow 6 = .ok (.iload_n 1, 1) := by decide +kernel
theorem dX12_grow_7 : decode cX12_grow 7 = .ok (.invokestatic 118, 3) := by decide +kernel
theorem dX12_grow_10 : decode cX12_grow 10 = .ok (.ifCond .eq 12, 3) := by decide +kernel
theorem dX12_grow_13 : decode cX12_grow 13 = .ok (.iload_n 2, 1) := by decide +kernel
theorem dX12_grow_14 : decode cX12_grow 14 = .ok (.iconst 0, 1) := by decide +kernel
theorem dX12_grow_15 : decode cX12_grow 15 = .ok (.iconst 1, 1) := by decide +kernel
theorem dX12_grow_16 : decode cX12_grow 16 = .ok (.invokestatic 108, 3) := by decide +kernel
theorem dX12_grow_19 : decode cX12_grow 19 = .ok (.ifCond .ne 7, 3) := by decide +kernel
theorem dX12_grow_22 : decode cX12_grow 22 = .ok (.iconst 1, 1) := by decide +kernel
theorem dX12_grow_23 : decode cX12_grow 23 = .ok (.goto 4, 3) := by decide +kernel
theorem dX12_grow_26 : decode cX12_grow 26 = .ok (.iconst 0, 1) := by decide +kernel
theorem dX12_grow_27 : decode cX12_grow 27 = .ok (.iconst 1, 1) := by decide +kernel
theorem dX12_grow_28 : decode cX12_grow 28 = .ok (.iconst 1, 1) := by decide +kernel
theorem dX12_grow_29 : decode cX12_grow 29 = .ok (.invokevirtual 122, 3) := by decide +kernel
theorem dX12_grow_32 : decode cX12_grow 32 = .ok (.ifCond .ne 26, 3) := by decide +kernel
theorem dX12_grow_35 : decode cX12_grow 35 = .ok (.aload_n 0, 1) := by decide +kernel
theorem dX12_grow_36 : decode cX12_grow 36 = .ok (.aload_n 0, 1) := by decide +kernel
theorem dX12_grow_37 : decode cX12_grow 37 = .ok (.invokevirtual 183, 3) := by decide +kernel
theorem dX12_grow_40 : decode cX12_grow 40 = .ok (.bipush 40, 2) := by decide +kernel
theorem dX12_grow_42 : decode cX12_grow 42 = .ok (.if_icmp .ne 7, 3) := by decide +kernel
theorem dX12_grow_45 : decode cX12_grow 45 = .ok (.iconst 1, 1) := by decide +kernel
theorem dX12_grow_46 : decode cX12_grow 46 = .ok (.goto 4, 3) := by decide +kernel
theorem dX12_grow_49 : decode cX12_grow 49 = .ok (.iconst 0, 1) := by decide +kernel
theorem dX12_grow_50 : decode cX12_grow 50 = .ok (.iconst 2, 1) := by decide +kernel
theorem dX12_grow_51 : decode cX12_grow 51 = .ok (.iconst 2, 1) := by decide +kernel
theorem dX12_grow_52 : decode cX12_grow 52 = .ok (.invokevirtual 122, 3) := by decide +kernel
theorem dX12_grow_55 : decode cX12_grow 55 = .ok (.ifCond .eq 5, 3) := by decide +kernel
theorem dX12_grow_58 : decode cX12_grow 58 = .ok (.iconst 0, 1) := by decide +kernel
theorem dX12_grow_59 : decode cX12_grow 59 = .ok (.ireturn, 1) := by decide +kernel
theorem dX12_grow_60 : decode cX12_grow 60 = .ok (.aload_n 0, 1) := by decide +kernel
theorem dX12_grow_61 : decode cX12_grow 61 = .ok (.iload_n 1, 1) := by decide +kernel
theorem dX12_grow_62 : decode cX12_grow 62 = .ok (.bipush 97, 2) := by decide +kernel
theorem dX12_grow_64 : decode cX12_grow 64 = .ok (.isub, 1) := by decide +kernel
theorem dX12_grow_65 : decode cX12_grow 65 = .ok (.iconst 2, 1) := by decide +kernel
theorem dX12_grow_66 : decode cX12_grow 66 = .ok (.iadd, 1) := by decide +kernel
theorem dX12_grow_67 : decode cX12_grow 67 = .ok (.iload_n 2, 1) := by decide +kernel
theorem dX12_grow_68 : decode cX12_grow 68 = .ok (.invokevirtual 193, 3) := by decide +kernel
theorem dX12_grow_71 : decode cX12_grow 71 = .ok (.istore_n 3, 1) := by decide +kernel
theorem dX12_grow_72 : decode cX12_grow 72 = .ok (.iload_n 3, 1) := by decide +kernel
theorem dX12_grow_73 : decode cX12_grow 73 = .ok (.ifCond .ne 11, 3) := by decide +kernel
theorem dX12_grow_76 : decode cX12_grow 76 = .ok (.aload_n 0, 1) := by decide +kernel
theorem dX12_grow_77 : decode cX12_grow 77 = .ok (.iload_n 2, 1) := by decide +kernel
theorem dX12_grow_78 : decode cX12_grow 78 = .ok (.invokevirtual 196, 3) := by decide +kernel
theorem dX12_grow_81 : decode cX12_grow 81 = .ok (.goto 15, 3) := by decide +kernel
theorem dX12_grow_84 : decode cX12_grow 84 = .ok (.aload_n 0, 1) := by decide +kernel
theorem dX12_grow_85 : decode cX12_grow 85 = .ok (.getfield 46, 3) := by decide +kernel
theorem dX12_grow_88 : decode cX12_grow 88 = .ok (.aload_n 0, 1) := by decide +kernel
theorem dX12_grow_89 : decode cX12_grow 89 = .ok (.invokevirtual 183, 3) := by decide +kernel
theorem dX12_grow_92 : decode cX12_grow 92 = .ok (.iconst 1, 1) := by decide +kernel
theorem dX12_grow_93 : decode cX12_grow 93 = .ok (.isub, 1) := by decide +kernel
theorem dX12_grow_94 : decode cX12_grow 94 = .ok (.iload_n 2, 1) := by decide +kernel
theorem dX12_grow_95 : decode cX12_grow 95 = .ok (.iastore, 1) := by decide +kernel
theorem dX12_grow_96 : decode cX12_grow 96 = .ok (.iload_n 3, 1) := by decide +kernel
theorem dX12_grow_97 : decode cX12_grow 97 = .ok (.ireturn, 1) := by decide +kernel
theorem dX12_shrink_0 : decode cX12_shrink 0 = .ok (.aload_n 0, 1) := by decide +kernel
theorem dX12_shrink_1 : decode cX12_shrink 1 = .ok (.iconst 0, 1) := by decide +kernel
theorem dX12_shrink_2 : decode cX12_shrink 2 = .ok (.putfield 105, 3) := by decide +kernel
theorem dX12_shrink_5 : decode cX12_shrink 5 = .ok (.aload_n 0, 1) := by decide +kernel
theorem dX12_shrink_6 : decode cX12_shrink 6 = .ok (.invokevirtual 183, 3) := by decide +kernel
theorem dX12_shrink_9 : decode cX12_shrink 9 = .ok (.ifCond .ne 5, 3) := by decide +kernel
theorem dX12_shrink_12 : decode cX12_shrink 12 = .ok (.iconst (-1), 1) := by decide +kernel
theorem dX12_shrink_13 : decode cX12_shrink 13 = .ok (.ireturn, 1) := by decide +kernel
theorem dX12_shrink_14 : decode cX12_shrink 14 = .ok (.aload_n 0, 1) := by decide +kernel
theorem dX12_shrink_15 : decode cX12_shrink 15 = .ok (.aload_n 0, 1) := by decide +kernel
theorem dX12_shrink_16 : decode cX12_shrink 16 = .ok (.getfield 46, 3) := by decide +kernel
theorem dX12_shrink_19 : decode cX12_shrink 19 = .ok (.aload_n 0, 1) := by decide +kernel
theorem dX12_shrink_20 : decode cX12_shrink 20 = .ok (.invokevirtual 183, 3) := by decide +kernel
theorem dX12_shrink_23 : decode cX12_shrink 23 = .ok (.iconst 1, 1) := by decide +kernel
theorem dX12_shrink_24 : decode cX12_shrink 24 = .ok (.isub, 1) := by decide +kernel
theorem dX12_shrink_25 : decode cX12_shrink 25 = .ok (.iaload, 1) := by decide +kernel
theorem dX12_shrink_26 : decode cX12_shrink 26 = .ok (.invokevirtual 196, 3) := by decide +kernel
theorem dX12_shrink_29 : decode cX12_shrink 29 = .ok (.aload_n 0, 1) := by decide +kernel
theorem dX12_shrink_30 : decode cX12_shrink 30 = .ok (.invokevirtual 183, 3) := by decide +kernel
theorem dX12_shrink_33 : decode cX12_shrink 33 = .ok (.ifCond .ne 15, 3) := by decide +kernel
theorem dX12_shrink_36 : decode cX12_shrink 36 = .ok (.aload_n 0, 1) := by decide +kernel
theorem dX12_shrink_37 : decode cX12_shrink 37 = .ok (.bipush 42, 2) := by decide +kernel
theorem dX12_shrink_39 : decode cX12_shrink 39 = .ok (.putfield 37, 3) := by decide +kernel
theorem dX12_shrink_42 : decode cX12_shrink 42 = .ok (.aload_n 0, 1) := by decide +kernel
theorem dX12_shrink_43 : decode cX12_shrink 43 = .ok (.bipush 42, 2) := by decide +kernel
theorem dX12_shrink_45 : decode cX12_shrink 45 = .ok (.putfield 40, 3) := by decide +kernel
theorem dX12_shrink_48 : decode cX12_shrink 48 = .ok (.aload_n 0, 1) := by decide +kernel
theorem dX12_shrink_49 : decode cX12_shrink 49 = .ok (.invokevirtual 190, 3) := by decide +kernel
theorem dX12_shrink_52 : decode cX12_shrink 52 = .ok (.ireturn, 1) := by decide +kernel
theorem dX12_clear_0 : decode cX12_clear 0 = .ok (.aload_n 0, 1) := by decide +kernel
theorem dX12_clear_1 : decode cX12_clear 1 = .ok (.iconst 0, 1) := by decide +kernel
theorem dX12_clear_2 : decode cX12_clear 2 = .ok (.putfield 105, 3) := by decide +kernel
theorem dX12_clear_5 : decode cX12_clear 5 = .ok (.aload_n 0, 1) := by decide +kernel
theorem dX12_clear_6 : decode cX12_clear 6 = .ok (.invokevirtual 183, 3) := by decide +kernel
theorem dX12_clear_9 : decode cX12_clear 9 = .ok (.istore_n 1, 1) := by decide +kernel
theorem dX12_clear_10 : decode cX12_clear 10 = .ok (.aload_n 0, 1) := by decide +kernel
theorem dX12_clear_11 : decode cX12_clear 11 = .ok (.bipush 42, 2) := by decide +kernel
theorem dX12_clear_13 : decode cX12_clear 13 = .ok (.putfield 37, 3) := by decide +kernel
theorem dX12_clear_16 : decode cX12_clear 16 = .ok (.aload_n 0, 1) := by decide +kernel
theorem dX12_clear_17 : decode cX12_clear 17 = .ok (.bipush 42, 2) := by decide +kernel
theorem dX12_clear_19 : decode cX12_clear 19 = .ok (.putfield 40, 3) := by decide +kernel
theorem dX12_clear_22 : decode cX12_clear 22 = .ok (.iload_n 1, 1) := by decide +kernel
theorem dX12_clear_23 : decode cX12_clear 23 = .ok (.ireturn, 1) := by decide +kernel
theorem dX12_documents_0 : decode cX12_documents 0 = .ok (.iconst 1, 1) := by decide +kernel
theorem dX12_documents_1 : decode cX12_documents 1 = .ok (.istore_n 1, 1) := by decide +kernel
theorem dX12_documents_2 : decode cX12_documents 2 = .ok (.iconst 0, 1) := by decide +kernel
theorem dX12_documents_3 : decode cX12_documents 3 = .ok (.istore_n 2, 1) := by decide +kernel
theorem dX12_documents_4 : decode cX12_documents 4 = .ok (.iload_n 2, 1) := by decide +kernel
theorem dX12_documents_5 : decode cX12_documents 5 = .ok (.aload_n 0, 1) := by decide +kernel
theorem dX12_documents_6 : decode cX12_documents 6 = .ok (.getfield 20, 3) := by decide +kernel
theorem dX12_documents_9 : decode cX12_documents 9 = .ok (.if_icmp .ge 29, 3) := by decide +kernel
theorem dX12_documents_12 : decode cX12_documents 12 = .ok (.iload_n 1, 1) := by decide +kernel
theorem dX12_documents_13 : decode cX12_documents 13 = .ok (.aload_n 0, 1) := by decide +kernel
theorem dX12_documents_14 : decode cX12_documents 14 = .ok (.getfield 28, 3) := by decide +kernel
theorem dX12_documents_17 : decode cX12_documents 17 = .ok (.iconst 0, 1) := by decide +kernel
theorem dX12_documents_18 : decode cX12_documents 18 = .ok (.aaload, 1) := by decide +kernel
theorem dX12_documents_19 : decode cX12_documents 19 = .ok (.iload_n 2, 1) := by decide +kernel
theorem dX12_documents_20 : decode cX12_documents 20 = .ok (.iaload, 1) := by decide +kernel
theorem dX12_documents_21 : decode cX12_documents 21 = .ok (.iconst 1, 1) := by decide +kernel
theorem dX12_documents_22 : decode cX12_documents 22 = .ok (.if_icmp .ne 7, 3) := by decide +kernel
theorem dX12_documents_25 : decode cX12_documents 25 = .ok (.iconst 1, 1) := by decide +kernel
theorem dX12_documents_26 : decode cX12_documents 26 = .ok (.goto 4, 3) := by decide +kernel
theorem dX12_documents_29 : decode cX12_documents 29 = .ok (.iconst 0, 1) := by decide +kernel
theorem dX12_documents_30 : decode cX12_documents 30 = .ok (.iadd, 1) := by decide +kernel
theorem dX12_documents_31 : decode cX12_documents 31 = .ok (.istore_n 1, 1) := by decide +kernel
theorem dX12_documents_32 : decode cX12_documents 32 = .ok (.iinc 2 1, 3) := by decide +kernel
theorem dX12_documents_35 : decode cX12_documents 35 = .ok (.goto (-31), 3) := by decide +kernel
theorem dX12_documents_38 : decode cX12_documents 38 = .ok (.iload_n 1, 1) := by decide +kernel
theorem dX12_documents_39 : decode cX12_documents 39 = .ok (.ireturn, 1) := by decide +kernel
theorem dX12_hasLetter_0 : decode cX12_hasLetter 0 = .ok (.iconst 0, 1) := by decide +kernel
theorem dX12_hasLetter_1 : decode cX12_hasLetter 1 = .ok (.istore_n 2, 1) := by decide +kernel
theorem dX12_hasLetter_2 : decode cX12_hasLetter 2 = .ok (.iload_n 2, 1) := by decide +kernel
theorem dX12_hasLetter_3 : decode cX12_hasLetter 3 = .ok (.aload_n 0, 1) := by decide +kernel
theorem dX12_hasLetter_4 : decode cX12_hasLetter 4 = .ok (.getfield 20, 3) := by decide +kernel
theorem dX12_hasLetter_7 : decode cX12_hasLetter 7 = .ok (.if_icmp .ge 23, 3) := by decide +kernel
theorem dX12_hasLetter_10 : decode cX12_hasLetter 10 = .ok (.aload_n 0, 1) := by decide +kernel
theorem dX12_hasLetter_11 : decode cX12_hasLetter 11 = .ok (.getfield 28, 3) := by decide +kernel
theorem dX12_hasLetter_14 : decode cX12_hasLetter 14 = .ok (.iconst 0, 1) := by decide +kernel
theorem dX12_hasLetter_15 : decode cX12_hasLetter 15 = .ok (.aaload, 1) := by decide +kernel
theorem dX12_hasLetter_16 : decode cX12_hasLetter 16 = .ok (.iload_n 2, 1) := by decide +kernel
theorem dX12_hasLetter_17 : decode cX12_hasLetter 17 = .ok (.iaload, 1) := by decide +kernel
theorem dX12_hasLetter_18 : decode cX12_hasLetter 18 = .ok (.iload_n 1, 1) := by decide +kernel
theorem dX12_hasLetter_19 : decode cX12_hasLetter 19 = .ok (.if_icmp .ne 5, 3) := by decide +kernel
theorem dX12_hasLetter_22 : decode cX12_hasLetter 22 = .ok (.iconst 1, 1) := by decide +kernel
theorem dX12_hasLetter_23 : decode cX12_hasLetter 23 = .ok (.ireturn, 1) := by decide +kernel
theorem dX12_hasLetter_24 : decode cX12_hasLetter 24 = .ok (.iinc 2 1, 3) := by decide +kernel
theorem dX12_hasLetter_27 : decode cX12_hasLetter 27 = .ok (.goto (-25), 3) := by decide +kernel
theorem dX12_hasLetter_30 : decode cX12_hasLetter 30 = .ok (.iconst 0, 1) := by decide +kernel
theorem dX12_hasLetter_31 : decode cX12_hasLetter 31 = .ok (.ireturn, 1) := by decide +kernel
theorem dX12_unlike_0 : decode cX12_unlike 0 = .ok (.iconst 0, 1) := by decide +kernel
theorem dX12_unlike_1 : decode cX12_unlike 1 = .ok (.istore_n 1, 1) := by decide +kernel
theorem dX12_unlike_2 : decode cX12_unlike 2 = .ok (.iconst 2, 1) := by decide +kernel
theorem dX12_unlike_3 : decode cX12_unlike 3 = .ok (.istore_n 2, 1) := by decide +kernel
theorem dX12_unlike_4 : decode cX12_unlike 4 = .ok (.iload_n 2, 1) := by decide +kernel
theorem dX12_unlike_5 : decode cX12_unlike 5 = .ok (.bipush 10, 2) := by decide +kernel
theorem dX12_unlike_7 : decode cX12_unlike 7 = .ok (.if_icmp .ge 25, 3) := by decide +kernel
theorem dX12_unlike_10 : decode cX12_unlike 10 = .ok (.iload_n 1, 1) := by decide +kernel
theorem dX12_unlike_11 : decode cX12_unlike 11 = .ok (.aload_n 0, 1) := by decide +kernel
theorem dX12_unlike_12 : decode cX12_unlike 12 = .ok (.iload_n 2, 1) := by decide +kernel
theorem dX12_unlike_13 : decode cX12_unlike 13 = .ok (.invokevirtual 199, 3) := by decide +kernel
theorem dX12_unlike_16 : decode cX12_unlike 16 = .ok (.ifCond .eq 7, 3) := by decide +kernel
theorem dX12_unlike_19 : decode cX12_unlike 19 = .ok (.iconst 1, 1) := by decide +kernel
theorem dX12_unlike_20 : decode cX12_unlike 20 = .ok (.goto 4, 3) := by decide +kernel
theorem dX12_unlike_23 : decode cX12_unlike 23 = .ok (.iconst 0, 1) := by decide +kernel
theorem dX12_unlike_24 : decode cX12_unlike 24 = .ok (.iadd, 1) := by decide +kernel
theorem dX12_unlike_25 : decode cX12_unlike 25 = .ok (.istore_n 1, 1) := by decide +kernel
theorem dX12_unlike_26 : decode cX12_unlike 26 = .ok (.iinc 2 1, 3) := by decide +kernel
theorem dX12_unlike_29 : decode cX12_unlike 29 = .ok (.goto (-25), 3) := by decide +kernel
theorem dX12_unlike_32 : decode cX12_unlike 32 = .ok (.iload_n 1, 1) := by decide +kernel
theorem dX12_unlike_33 : decode cX12_unlike 33 = .ok (.ireturn, 1) := by decide +kernel
theorem dX12_budget_0 : decode cX12_budget 0 = .ok (.iconst 0, 1) := by decide +kernel
theorem dX12_budget_1 : decode cX12_budget 1 = .ok (.istore_n 1, 1) := by decide +kernel
theorem dX12_budget_2 : decode cX12_budget 2 = .ok (.iconst 0, 1) := by decide +kernel
theorem dX12_budget_3 : decode cX12_budget 3 = .ok (.istore_n 2, 1) := by decide +kernel
theorem dX12_budget_4 : decode cX12_budget 4 = .ok (.iload_n 2, 1) := by decide +kernel
theorem dX12_budget_5 : decode cX12_budget 5 = .ok (.aload_n 0, 1) := by decide +kernel
theorem dX12_budget_6 : decode cX12_budget 6 = .ok (.getfield 49, 3) := by decide +kernel
theorem dX12_budget_9 : decode cX12_budget 9 = .ok (.iconst 0, 1) := by decide +kernel
theorem dX12_budget_10 : decode cX12_budget 10 = .ok (.iaload, 1) := by decide +kernel
theorem dX12_budget_11 : decode cX12_budget 11 = .ok (.if_icmp .ge 33, 3) := by decide +kernel
theorem dX12_budget_14 : decode cX12_budget 14 = .ok (.iload_n 1, 1) := by decide +kernel
theorem dX12_budget_15 : decode cX12_budget 15 = .ok (.aload_n 0, 1) := by decide +kernel
theorem dX12_budget_16 : decode cX12_budget 16 = .ok (.getfield 57, 3) := by decide +kernel
theorem dX12_budget_19 : decode cX12_budget 19 = .ok (.iconst 0, 1) := by decide +kernel
theorem dX12_budget_20 : decode cX12_budget 20 = .ok (.aaload, 1) := by decide +kernel
theorem dX12_budget_21 : decode cX12_budget 21 = .ok (.iload_n 2, 1) := by decide +kernel
theorem dX12_budget_22 : decode cX12_budget 22 = .ok (.aaload, 1) := by decide +kernel
theorem dX12_budget_23 : decode cX12_budget 23 = .ok (.iconst 2, 1) := by decide +kernel
theorem dX12_budget_24 : decode cX12_budget 24 = .ok (.aaload, 1) := by decide +kernel
theorem dX12_budget_25 : decode cX12_budget 25 = .ok (.aload_n 0, 1) := by decide +kernel
theorem dX12_budget_26 : decode cX12_budget 26 = .ok (.getfield 52, 3) := by decide +kernel
theorem dX12_budget_29 : decode cX12_budget 29 = .ok (.iconst 0, 1) := by decide +kernel
theorem dX12_budget_30 : decode cX12_budget 30 = .ok (.iaload, 1) := by decide +kernel
theorem dX12_budget_31 : decode cX12_budget 31 = .ok (.iconst 1, 1) := by decide +kernel
theorem dX12_budget_32 : decode cX12_budget 32 = .ok (.isub, 1) := by decide +kernel
theorem dX12_budget_33 : decode cX12_budget 33 = .ok (.iaload, 1) := by decide +kernel
theorem dX12_budget_34 : decode cX12_budget 34 = .ok (.invokestatic 202, 3) := by decide +kernel
theorem dX12_budget_37 : decode cX12_budget 37 = .ok (.istore_n 1, 1) := by decide +kernel
theorem dX12_budget_38 : decode cX12_budget 38 = .ok (.iinc 2 1, 3) := by decide +kernel
theorem dX12_budget_41 : decode cX12_budget 41 = .ok (.goto (-37), 3) := by decide +kernel
theorem dX12_budget_44 : decode cX12_budget 44 = .ok (.iload_n 1, 1) := by decide +kernel
theorem dX12_budget_45 : decode cX12_budget 45 = .ok (.ireturn, 1) := by decide +kernel
theorem dX12_places_0 : decode cX12_places 0 = .ok (.iconst 0, 1) := by decide +kernel
theorem dX12_places_1 : decode cX12_places 1 = .ok (.istore_n 1, 1) := by decide +kernel
theorem dX12_places_2 : decode cX12_places 2 = .ok (.iconst 0, 1) := by decide +kernel
theorem dX12_places_3 : decode cX12_places 3 = .ok (.istore_n 2, 1) := by decide +kernel
theorem dX12_places_4 : decode cX12_places 4 = .ok (.iload_n 2, 1) := by decide +kernel
theorem dX12_places_5 : decode cX12_places 5 = .ok (.aload_n 0, 1) := by decide +kernel
theorem dX12_places_6 : decode cX12_places 6 = .ok (.getfield 20, 3) := by decide +kernel
theorem dX12_places_9 : decode cX12_places 9 = .ok (.if_icmp .ge 26, 3) := by decide +kernel
theorem dX12_places_12 : decode cX12_places 12 = .ok (.iload_n 1, 1) := by decide +kernel
theorem dX12_places_13 : decode cX12_places 13 = .ok (.aload_n 0, 1) := by decide +kernel
theorem dX12_places_14 : decode cX12_places 14 = .ok (.getfield 60, 3) := by decide +kernel
theorem dX12_places_17 : decode cX12_places 17 = .ok (.iload_n 2, 1) := by decide +kernel
theorem dX12_places_18 : decode cX12_places 18 = .ok (.iaload, 1) := by decide +kernel
theorem dX12_places_19 : decode cX12_places 19 = .ok (.ifCond .le 7, 3) := by decide +kernel
theorem dX12_places_22 : decode cX12_places 22 = .ok (.iconst 1, 1) := by decide +kernel
theorem dX12_places_23 : decode cX12_places 23 = .ok (.goto 4, 3) := by decide +kernel
theorem dX12_places_26 : decode cX12_places 26 = .ok (.iconst 0, 1) := by decide +kernel
theorem dX12_places_27 : decode cX12_places 27 = .ok (.iadd, 1) := by decide +kernel
theorem dX12_places_28 : decode cX12_places 28 = .ok (.istore_n 1, 1) := by decide +kernel
theorem dX12_places_29 : decode cX12_places 29 = .ok (.iinc 2 1, 3) := by decide +kernel
theorem dX12_places_32 : decode cX12_places 32 = .ok (.goto (-28), 3) := by decide +kernel
theorem dX12_places_35 : decode cX12_places 35 = .ok (.iload_n 1, 1) := by decide +kernel
theorem dX12_places_36 : decode cX12_places 36 = .ok (.ireturn, 1) := by decide +kernel
theorem dX12_told_0 : decode cX12_told 0 = .ok (.aload_n 0, 1) := by decide +kernel
theorem dX12_told_1 : decode cX12_told 1 = .ok (.iconst 0, 1) := by decide +kernel
theorem dX12_told_2 : decode cX12_told 2 = .ok (.putfield 105, 3) := by decide +kernel
theorem dX12_told_5 : decode cX12_told 5 = .ok (.aload_n 0, 1) := by decide +kernel
theorem dX12_told_6 : decode cX12_told 6 = .ok (.iload_n 1, 1) := by decide +kernel
theorem dX12_told_7 : decode cX12_told 7 = .ok (.iconst 0, 1) := by decide +kernel
theorem dX12_told_8 : decode cX12_told 8 = .ok (.bipush 13, 2) := by decide +kernel
theorem dX12_told_10 : decode cX12_told 10 = .ok (.invokestatic 108, 3) := by decide +kernel
theorem dX12_told_13 : decode cX12_told 13 = .ok (.ifCond .ne 7, 3) := by decide +kernel
theorem dX12_told_16 : decode cX12_told 16 = .ok (.iconst 1, 1) := by decide +kernel
theorem dX12_told_17 : decode cX12_told 17 = .ok (.goto 4, 3) := by decide +kernel
theorem dX12_told_20 : decode cX12_told 20 = .ok (.iconst 0, 1) := by decide +kernel
theorem dX12_told_21 : decode cX12_told 21 = .ok (.iconst 1, 1) := by decide +kernel
theorem dX12_told_22 : decode cX12_told 22 = .ok (.iconst 1, 1) := by decide +kernel
theorem dX12_told_23 : decode cX12_told 23 = .ok (.invokevirtual 122, 3) := by decide +kernel
theorem dX12_told_26 : decode cX12_told 26 = .ok (.ifCond .eq 5, 3) := by decide +kernel
theorem dX12_told_29 : decode cX12_told 29 = .ok (.iconst 0, 1) := by decide +kernel
theorem dX12_told_30 : decode cX12_told 30 = .ok (.ireturn, 1) := by decide +kernel
theorem dX12_told_31 : decode cX12_told 31 = .ok (.iload_n 1, 1) := by decide +kernel
theorem dX12_told_32 : decode cX12_told 32 = .ok (.tableswitch 142 0 12 #[68, 73, 78, 83, 88, 93, 93, 101, 106, 118, 125, 132, 137], 68) := by decide +kernel
theorem dX12_told_100 : decode cX12_told 100 = .ok (.aload_n 0, 1) := by decide +kernel
theorem dX12_told_101 : decode cX12_told 101 = .ok (.getfield 20, 3) := by decide +kernel
theorem dX12_told_104 : decode cX12_told 104 = .ok (.ireturn, 1) := by decide +kernel
theorem dX12_told_105 : decode cX12_told 105 = .ok (.aload_n 0, 1) := by decide +kernel
theorem dX12_told_106 : decode cX12_told 106 = .ok (.invokevirtual 205, 3) := by decide +kernel
theorem dX12_told_109 : decode cX12_told 109 = .ok (.ireturn, 1) := by decide +kernel
theorem dX12_told_110 : decode cX12_told 110 = .ok (.aload_n 0, 1) := by decide +kernel
theorem dX12_told_111 : decode cX12_told 111 = .ok (.invokevirtual 208, 3) := by decide +kernel
theorem dX12_told_114 : decode cX12_told 114 = .ok (.ireturn, 1) := by decide +kernel
theorem dX12_told_115 : decode cX12_told 115 = .ok (.aload_n 0, 1) := by decide +kernel
theorem dX12_told_116 : decode cX12_told 116 = .ok (.getfield 23, 3) := by decide +kernel
theorem dX12_told_119 : decode cX12_told 119 = .ok (.ireturn, 1) := by decide +kernel
theorem dX12_told_120 : decode cX12_told 120 = .ok (.aload_n 0, 1) := by decide +kernel
theorem dX12_told_121 : decode cX12_told 121 = .ok (.invokevirtual 183, 3) := by decide +kernel
theorem dX12_told_124 : decode cX12_told 124 = .ok (.ireturn, 1) := by decide +kernel
theorem dX12_told_125 : decode cX12_told 125 = .ok (.aload_n 0, 1) := by decide +kernel
theorem dX12_told_126 : decode cX12_told 126 = .ok (.iload_n 1, 1) := by decide +kernel
theorem dX12_told_127 : decode cX12_told 127 = .ok (.iconst 5, 1) := by decide +kernel
theorem dX12_told_128 : decode cX12_told 128 = .ok (.isub, 1) := by decide +kernel
theorem dX12_told_129 : decode cX12_told 129 = .ok (.invokevirtual 211, 3) := by decide +kernel
theorem dX12_told_132 : decode cX12_told 132 = .ok (.ireturn, 1) := by decide +kernel
theorem dX12_told_133 : decode cX12_told 133 = .ok (.aload_n 0, 1) := by decide +kernel
theorem dX12_told_134 : decode cX12_told 134 = .ok (.invokevirtual 190, 3) := by decide +kernel
theorem dX12_told_137 : decode cX12_told 137 = .ok (.ireturn, 1) := by decide +kernel
theorem dX12_told_138 : decode cX12_told 138 = .ok (.aload_n 0, 1) := by decide +kernel
theorem dX12_told_139 : decode cX12_told 139 = .ok (.getfield 20, 3) := by decide +kernel
theorem dX12_told_142 : decode cX12_told 142 = .ok (.aload_n 0, 1) := by decide +kernel
theorem dX12_told_143 : decode cX12_told 143 = .ok (.getfield 23, 3) := by decide +kernel
theorem dX12_told_146 : decode cX12_told 146 = .ok (.idiv, 1) := by decide +kernel
theorem dX12_told_147 : decode cX12_told 147 = .ok (.iconst 1, 1) := by decide +kernel
theorem dX12_told_148 : decode cX12_told 148 = .ok (.iadd, 1) := by decide +kernel
theorem dX12_told_149 : decode cX12_told 149 = .ok (.ireturn, 1) := by decide +kernel
theorem dX12_told_150 : decode cX12_told 150 = .ok (.aload_n 0, 1) := by decide +kernel
theorem dX12_told_151 : decode cX12_told 151 = .ok (.getfield 49, 3) := by decide +kernel
theorem dX12_told_154 : decode cX12_told 154 = .ok (.iconst 0, 1) := by decide +kernel
theorem dX12_told_155 : decode cX12_told 155 = .ok (.iaload, 1) := by decide +kernel
theorem dX12_told_156 : decode cX12_told 156 = .ok (.ireturn, 1) := by decide +kernel
theorem dX12_told_157 : decode cX12_told 157 = .ok (.aload_n 0, 1) := by decide +kernel
theorem dX12_told_158 : decode cX12_told 158 = .ok (.getfield 52, 3) := by decide +kernel
theorem dX12_told_161 : decode cX12_told 161 = .ok (.iconst 0, 1) := by decide +kernel
theorem dX12_told_162 : decode cX12_told 162 = .ok (.iaload, 1) := by decide +kernel
theorem dX12_told_163 : decode cX12_told 163 = .ok (.ireturn, 1) := by decide +kernel
theorem dX12_told_164 : decode cX12_told 164 = .ok (.aload_n 0, 1) := by decide +kernel
theorem dX12_told_165 : decode cX12_told 165 = .ok (.invokevirtual 214, 3) := by decide +kernel
theorem dX12_told_168 : decode cX12_told 168 = .ok (.ireturn, 1) := by decide +kernel
theorem dX12_told_169 : decode cX12_told 169 = .ok (.aload_n 0, 1) := by decide +kernel
theorem dX12_told_170 : decode cX12_told 170 = .ok (.getfield 115, 3) := by decide +kernel
theorem dX12_told_173 : decode cX12_told 173 = .ok (.ireturn, 1) := by decide +kernel
theorem dX12_told_174 : decode cX12_told 174 = .ok (.aload_n 0, 1) := by decide +kernel
theorem dX12_told_175 : decode cX12_told 175 = .ok (.getfield 130, 3) := by decide +kernel
theorem dX12_told_178 : decode cX12_told 178 = .ok (.ifCond .eq 10, 3) := by decide +kernel
theorem dX12_told_181 : decode cX12_told 181 = .ok (.aload_n 0, 1) := by decide +kernel
theorem dX12_told_182 : decode cX12_told 182 = .ok (.invokevirtual 217, 3) := by decide +kernel
theorem dX12_told_185 : decode cX12_told 185 = .ok (.goto 4, 3) := by decide +kernel
theorem dX12_told_188 : decode cX12_told 188 = .ok (.iconst (-1), 1) := by decide +kernel
theorem dX12_told_189 : decode cX12_told 189 = .ok (.ireturn, 1) := by decide +kernel
theorem dX12_isPlace_0 : decode cX12_isPlace 0 = .ok (.iload_n 1, 1) := by decide +kernel
theorem dX12_isPlace_1 : decode cX12_isPlace 1 = .ok (.iconst 0, 1) := by decide +kernel
theorem dX12_isPlace_2 : decode cX12_isPlace 2 = .ok (.aload_n 0, 1) := by decide +kernel
theorem dX12_isPlace_3 : decode cX12_isPlace 3 = .ok (.getfield 20, 3) := by decide +kernel
theorem dX12_isPlace_6 : decode cX12_isPlace 6 = .ok (.invokestatic 108, 3) := by decide +kernel
theorem dX12_isPlace_9 : decode cX12_isPlace 9 = .ok (.ireturn, 1) := by decide +kernel
theorem dX12_isRow_0 : decode cX12_isRow 0 = .ok (.iload_n 1, 1) := by decide +kernel
theorem dX12_isRow_1 : decode cX12_isRow 1 = .ok (.iconst 0, 1) := by decide +kernel
theorem dX12_isRow_2 : decode cX12_isRow 2 = .ok (.iconst 1, 1) := by decide +kernel
theorem dX12_isRow_3 : decode cX12_isRow 3 = .ok (.invokestatic 108, 3) := by decide +kernel
theorem dX12_isRow_6 : decode cX12_isRow 6 = .ok (.ifCond .eq 15, 3) := by decide +kernel
theorem dX12_isRow_9 : decode cX12_isRow 9 = .ok (.aload_n 0, 1) := by decide +kernel
theorem dX12_isRow_10 : decode cX12_isRow 10 = .ok (.iload_n 2, 1) := by decide +kernel
theorem dX12_isRow_11 : decode cX12_isRow 11 = .ok (.invokevirtual 220, 3) := by decide +kernel
theorem dX12_isRow_14 : decode cX12_isRow 14 = .ok (.ifCond .eq 7, 3) := by decide +kernel
theorem dX12_isRow_17 : decode cX12_isRow 17 = .ok (.iconst 1, 1) := by decide +kernel
theorem dX12_isRow_18 : decode cX12_isRow 18 = .ok (.goto 4, 3) := by decide +kernel
theorem dX12_isRow_21 : decode cX12_isRow 21 = .ok (.iconst 0, 1) := by decide +kernel
theorem dX12_isRow_22 : decode cX12_isRow 22 = .ok (.ireturn, 1) := by decide +kernel
theorem dX12_sign_0 : decode cX12_sign 0 = .ok (.aload_n 0, 1) := by decide +kernel
theorem dX12_sign_1 : decode cX12_sign 1 = .ok (.iconst 0, 1) := by decide +kernel
theorem dX12_sign_2 : decode cX12_sign 2 = .ok (.putfield 105, 3) := by decide +kernel
theorem dX12_sign_5 : decode cX12_sign 5 = .ok (.aload_n 0, 1) := by decide +kernel
theorem dX12_sign_6 : decode cX12_sign 6 = .ok (.aload_n 0, 1) := by decide +kernel
theorem dX12_sign_7 : decode cX12_sign 7 = .ok (.iload_n 1, 1) := by decide +kernel
theorem dX12_sign_8 : decode cX12_sign 8 = .ok (.invokevirtual 220, 3) := by decide +kernel
theorem dX12_sign_11 : decode cX12_sign 11 = .ok (.ifCond .ne 7, 3) := by decide +kernel
theorem dX12_sign_14 : decode cX12_sign 14 = .ok (.iconst 1, 1) := by decide +kernel
theorem dX12_sign_15 : decode cX12_sign 15 = .ok (.goto 4, 3) := by decide +kernel
theorem dX12_sign_18 : decode cX12_sign 18 = .ok (.iconst 0, 1) := by decide +kernel
theorem dX12_sign_19 : decode cX12_sign 19 = .ok (.iconst 1, 1) := by decide +kernel
theorem dX12_sign_20 : decode cX12_sign 20 = .ok (.iconst 0, 1) := by decide +kernel
theorem dX12_sign_21 : decode cX12_sign 21 = .ok (.invokevirtual 122, 3) := by decide +kernel
theorem dX12_sign_24 : decode cX12_sign 24 = .ok (.ifCond .eq 5, 3) := by decide +kernel
theorem dX12_sign_27 : decode cX12_sign 27 = .ok (.iconst 0, 1) := by decide +kernel
theorem dX12_sign_28 : decode cX12_sign 28 = .ok (.ireturn, 1) := by decide +kernel
theorem dX12_sign_29 : decode cX12_sign 29 = .ok (.aload_n 0, 1) := by decide +kernel
theorem dX12_sign_30 : decode cX12_sign 30 = .ok (.getfield 28, 3) := by decide +kernel
theorem dX12_sign_33 : decode cX12_sign 33 = .ok (.iconst 0, 1) := by decide +kernel
theorem dX12_sign_34 : decode cX12_sign 34 = .ok (.aaload, 1) := by decide +kernel
theorem dX12_sign_35 : decode cX12_sign 35 = .ok (.iload_n 1, 1) := by decide +kernel
theorem dX12_sign_36 : decode cX12_sign 36 = .ok (.iaload, 1) := by decide +kernel
theorem dX12_sign_37 : decode cX12_sign 37 = .ok (.invokestatic 223, 3) := by decide +kernel
theorem dX12_sign_40 : decode cX12_sign 40 = .ok (.ireturn, 1) := by decide +kernel
theorem dX12_before_0 : decode cX12_before 0 = .ok (.aload_n 0, 1) := by decide +kernel
theorem dX12_before_1 : decode cX12_before 1 = .ok (.getfield 31, 3) := by decide +kernel
theorem dX12_before_4 : decode cX12_before 4 = .ok (.iload_n 1, 1) := by decide +kernel
theorem dX12_before_5 : decode cX12_before 5 = .ok (.aaload, 1) := by decide +kernel
theorem dX12_before_6 : decode cX12_before 6 = .ok (.iload_n 2, 1) := by decide +kernel
theorem dX12_before_7 : decode cX12_before 7 = .ok (.iaload, 1) := by decide +kernel
theorem dX12_before_8 : decode cX12_before 8 = .ok (.ifCond .ne 7, 3) := by decide +kernel
theorem dX12_before_11 : decode cX12_before 11 = .ok (.iconst 0, 1) := by decide +kernel
theorem dX12_before_12 : decode cX12_before 12 = .ok (.goto 20, 3) := by decide +kernel
theorem dX12_before_15 : decode cX12_before 15 = .ok (.aload_n 0, 1) := by decide +kernel
theorem dX12_before_16 : decode cX12_before 16 = .ok (.getfield 28, 3) := by decide +kernel
theorem dX12_before_19 : decode cX12_before 19 = .ok (.iload_n 1, 1) := by decide +kernel
theorem dX12_before_20 : decode cX12_before 20 = .ok (.aaload, 1) := by decide +kernel
theorem dX12_before_21 : decode cX12_before 21 = .ok (.aload_n 0, 1) := by decide +kernel
theorem dX12_before_22 : decode cX12_before 22 = .ok (.getfield 31, 3) := by decide +kernel
theorem dX12_before_25 : decode cX12_before 25 = .ok (.iload_n 1, 1) := by decide +kernel
theorem dX12_before_26 : decode cX12_before 26 = .ok (.aaload, 1) := by decide +kernel
theorem dX12_before_27 : decode cX12_before 27 = .ok (.iload_n 2, 1) := by decide +kernel
theorem dX12_before_28 : decode cX12_before 28 = .ok (.iaload, 1) := by decide +kernel
theorem dX12_before_29 : decode cX12_before 29 = .ok (.iconst 1, 1) := by decide +kernel
theorem dX12_before_30 : decode cX12_before 30 = .ok (.isub, 1) := by decide +kernel
theorem dX12_before_31 : decode cX12_before 31 = .ok (.iaload, 1) := by decide +kernel
theorem dX12_before_32 : decode cX12_before 32 = .ok (.ireturn, 1) := by decide +kernel
theorem dX12_alike_0 : decode cX12_alike 0 = .ok (.iload_n 2, 1) := by decide +kernel
theorem dX12_alike_1 : decode cX12_alike 1 = .ok (.ifCond .ne 5, 3) := by decide +kernel
theorem dX12_alike_4 : decode cX12_alike 4 = .ok (.iconst 0, 1) := by decide +kernel
theorem dX12_alike_5 : decode cX12_alike 5 = .ok (.ireturn, 1) := by decide +kernel
theorem dX12_alike_6 : decode cX12_alike 6 = .ok (.aload_n 0, 1) := by decide +kernel
theorem dX12_alike_7 : decode cX12_alike 7 = .ok (.getfield 31, 3) := by decide +kernel
theorem dX12_alike_10 : decode cX12_alike 10 = .ok (.iload_n 1, 1) := by decide +kernel
theorem dX12_alike_11 : decode cX12_alike 11 = .ok (.aaload, 1) := by decide +kernel
theorem dX12_alike_12 : decode cX12_alike 12 = .ok (.iload_n 2, 1) := by decide +kernel
theorem dX12_alike_13 : decode cX12_alike 13 = .ok (.iaload, 1) := by decide +kernel
theorem dX12_alike_14 : decode cX12_alike 14 = .ok (.istore_n 3, 1) := by decide +kernel
theorem dX12_alike_15 : decode cX12_alike 15 = .ok (.aload_n 0, 1) := by decide +kernel
theorem dX12_alike_16 : decode cX12_alike 16 = .ok (.getfield 31, 3) := by decide +kernel
theorem dX12_alike_19 : decode cX12_alike 19 = .ok (.iload_n 1, 1) := by decide +kernel
theorem dX12_alike_20 : decode cX12_alike 20 = .ok (.aaload, 1) := by decide +kernel
theorem dX12_alike_21 : decode cX12_alike 21 = .ok (.iload_n 2, 1) := by decide +kernel
theorem dX12_alike_22 : decode cX12_alike 22 = .ok (.iconst 1, 1) := by decide +kernel
theorem dX12_alike_23 : decode cX12_alike 23 = .ok (.isub, 1) := by decide +kernel
theorem dX12_alike_24 : decode cX12_alike 24 = .ok (.iaload, 1) := by decide +kernel
theorem dX12_alike_25 : decode cX12_alike 25 = .ok (.istore 4, 2) := by decide +kernel
theorem dX12_alike_27 : decode cX12_alike 27 = .ok (.iconst 0, 1) := by decide +kernel
theorem dX12_alike_28 : decode cX12_alike 28 = .ok (.istore 5, 2) := by decide +kernel
theorem dX12_alike_30 : decode cX12_alike 30 = .ok (.iload_n 3, 1) := by decide +kernel
theorem dX12_alike_31 : decode cX12_alike 31 = .ok (.iload 5, 2) := by decide +kernel
theorem dX12_alike_33 : decode cX12_alike 33 = .ok (.iadd, 1) := by decide +kernel
theorem dX12_alike_34 : decode cX12_alike 34 = .ok (.aload_n 0, 1) := by decide +kernel
theorem dX12_alike_35 : decode cX12_alike 35 = .ok (.getfield 20, 3) := by decide +kernel
theorem dX12_alike_38 : decode cX12_alike 38 = .ok (.if_icmp .ge 47, 3) := by decide +kernel
theorem dX12_alike_41 : decode cX12_alike 41 = .ok (.iload 4, 2) := by decide +kernel
theorem dX12_alike_43 : decode cX12_alike 43 = .ok (.iload 5, 2) := by decide +kernel
theorem dX12_alike_45 : decode cX12_alike 45 = .ok (.iadd, 1) := by decide +kernel
theorem dX12_alike_46 : decode cX12_alike 46 = .ok (.aload_n 0, 1) := by decide +kernel
theorem dX12_alike_47 : decode cX12_alike 47 = .ok (.getfield 20, 3) := by decide +kernel
theorem dX12_alike_50 : decode cX12_alike 50 = .ok (.if_icmp .ge 35, 3) := by decide +kernel
theorem dX12_alike_53 : decode cX12_alike 53 = .ok (.aload_n 0, 1) := by decide +kernel
theorem dX12_alike_54 : decode cX12_alike 54 = .ok (.getfield 28, 3) := by decide +kernel
theorem dX12_alike_57 : decode cX12_alike 57 = .ok (.iload_n 1, 1) := by decide +kernel
theorem dX12_alike_58 : decode cX12_alike 58 = .ok (.aaload, 1) := by decide +kernel
theorem dX12_alike_59 : decode cX12_alike 59 = .ok (.iload_n 3, 1) := by decide +kernel
theorem dX12_alike_60 : decode cX12_alike 60 = .ok (.iload 5, 2) := by decide +kernel
theorem dX12_alike_62 : decode cX12_alike 62 = .ok (.iadd, 1) := by decide +kernel
theorem dX12_alike_63 : decode cX12_alike 63 = .ok (.iaload, 1) := by decide +kernel
theorem dX12_alike_64 : decode cX12_alike 64 = .ok (.aload_n 0, 1) := by decide +kernel
theorem dX12_alike_65 : decode cX12_alike 65 = .ok (.getfield 28, 3) := by decide +kernel
theorem dX12_alike_68 : decode cX12_alike 68 = .ok (.iload_n 1, 1) := by decide +kernel
theorem dX12_alike_69 : decode cX12_alike 69 = .ok (.aaload, 1) := by decide +kernel
theorem dX12_alike_70 : decode cX12_alike 70 = .ok (.iload 4, 2) := by decide +kernel
theorem dX12_alike_72 : decode cX12_alike 72 = .ok (.iload 5, 2) := by decide +kernel
